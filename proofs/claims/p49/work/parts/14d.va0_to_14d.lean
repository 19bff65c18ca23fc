section
/-! 14d.va0.lean.txt -/
set_option maxHeartbeats 4000000 in
set_option maxRecDepth 100000 in
theorem v_load_n (l : Launch) (hst : l.stackTraces = false) (D : va_G) {cI cJ cZ cMic cSrc cSt cAI cAJ cD : ClassId} (h0 : Nat) (ad : Nat → Nat) (T : AT) (o : Nat) (a0 : Int32) (ao : Nat) (f : Nat → Int64) {r1 : Int32} {T1 : AT} (h : g_X11_load T o a0 = some (0, r1, T1)) (hrc : RC T) (h_o : o < T.1) (h_s : T.2.1 o = (11, 0)) : tWi l yL_load (Cond.codeWith yL_load cL_load 4 (some .int) [(0, 9, 12, 13), (0, 9, 15, 15)] :: wsA) 13 237 cI cJ cZ cMic cSrc cSt cAI cAJ cD D h0 ad T (oJ ao cJ f) [.ref (ad o), .int a0, .ref ao] (vck 0 1 2 (0)) T1 (oJ ao cJ (vfJ (0) f r1.toInt64)) := by
  intro sz
  refine va_MetW (cc := cL_load) (maxL := 4) (ret := some .int) (by decide) rfl ?_
  intro p e s m args below meth c s₁ B hml hv
  obtain ⟨rfl, hsz, hP, hK, hD0, hX, hN, hA0, hTS⟩ := hv
  have hx := B.exec
  have hb := B.bytes
  have hr := B.returns
  have hts := atoms_spec (ws := (Cond.codeWith yL_load cL_load 4 (some .int) [(0, 9, 12, 13), (0, 9, 15, 15)] :: wsA)) B.pre
  have hown : s.vm.findClass RL = some m.cls := findClass_of_methodNamed B.named
  have hlocks := B.notSynchronized
  have htb := vx_table (x := yL_load) B (hts _ (.head _))
  subst hsz
  have hD := hD0.self (sz := s.heap.size)
  generalize hAe : va_A (cW ad T.1 (cc cI cJ cZ cMic cSrc cSt cAI cAJ ad T) ++ [oJ ao cJ f]) s.heap.size = A at hD hX hA0 ⊢
  have hA : ∀ q : Nat, s.heap.size ≤ q → A q := fun q h => by rw [← hAe]; exact Or.inr h
  have G : gL cI cJ cZ cMic cSrc cSt cAI cAJ D ad A s.heap s.heap [] T [oJ ao cJ f] := ⟨hP, hD, va_S.rf⟩
  have E : cE p c cL_load s m ([.ref (ad o), .int a0, .ref ao] : List Value).toArray (Cond.codeWith yL_load cL_load 4 (some .int) [(0, 9, 12, 13), (0, 9, 15, 15)] :: wsA) D RL (CT cI cJ cZ cMic cSrc cSt cAI cAJ ++ [(cD, .double)]) := ⟨hx, hb, hts, hown, hK⟩
  have hl := lv_entry ([.ref (ad o), .int a0, .ref ao]) (n := 4) (Nat.le_of_ble_eq_true rfl)
  rw [lg_entry_eq]
  generalize (lg_sl ([.ref (ad o), .int a0, .ref ao]) ++ List.replicate (4 - (lg_sl ([.ref (ad o), .int a0, .ref ao])).length) Slot.unset).toArray = ls at hl ⊢
  have hl : lv_has ls 4 [(0, .ref (ad o)), (1, .int a0), (2, .ref ao)] := hl
  refine lv_aload_n hx hb dL_load_0 rfl (lv_at hl 2 rfl) ?_
  refine lv_iconst (v := 0) hx hb dL_load_1 (by decide) ?_
  refine lv_aload_n hx hb dL_load_2 rfl (lv_at hl 0 rfl) ?_
  refine lv_iload_n hx hb dL_load_3 rfl (lv_at hl 1 rfl) ?_
  refine t_aviS (As := [.int a0]) (rest := [.int 0, .ref ao]) E G hA hX hX.2.2.2.1 hml hA0 hTS (a_X11_load l hst D cI cJ cZ cMic cSrc cSt cAI cAJ ad T h0 o a0 h hrc h_o) (cwV 1 hts (gaV qA_948 qA_949 qA_950 qA_131 qA_692) rfl rfl rfl (by decide +kernel) ⟨Nat.le_of_ble_eq_true rfl, Nat.le_of_ble_eq_true rfl⟩) h_o (cc_o11 h_s) rfl rfl hl.1 rfl (lv_room (Nat.le_of_ble_eq_true rfl)) dL_load_4 ⟨by show 0 + (T1.1 - T.1) ≤ T1.1 - T.1 + 1; omega, by show 0 + (sg T1 - sg T) ≤ sg T1 - sg T + 6; omega⟩ ?_
  intro ad2 H locs had G
  refine lv_i2l (v := r1.toInt64) hx hb dL_load_7 rfl ?_
  refine t_last E G dL_load_8 (fun H locs G => ?_)
  refine lv_goto (tgt := 18) hx hb dL_load_9 (by decide) ?_
  refine lv_iconst (v := 0) hx hb dL_load_18 (by decide) ?_
  refine W.widen (k := T1.1 - T.1 + 1) (n := sg T1 - sg T + 6) (by omega) (by omega) ?_
  exact W.iret (v := 0) hx hb hr (fun t ht hW => ⟨⟨0, ad2, rfl, ⟨rfl, had⟩, ⟨by rw [ht]; exact G.1, va_K.moved hW.alike hK, G.2.1⟩⟩, G.2.2.F ht⟩) G.2.2.2.2 dL_load_19
set_option maxHeartbeats 4000000 in
set_option maxRecDepth 100000 in
theorem v_load_t (l : Launch) (hst : l.stackTraces = false) (D : va_G) {cI cJ cZ cMic cSrc cSt cAI cAJ cD : ClassId} (h0 : Nat) (ad : Nat → Nat) (T : AT) (o : Nat) (a0 : Int32) (ao : Nat) (f : Nat → Int64) {e1 : Nat} {r1 : Int32} {T1 : AT} (h : g_X11_load T o a0 = some (e1 + 1, r1, T1)) (hrc : RC T) (h_o : o < T.1) (h_s : T.2.1 o = (11, 0)) : tWi l yL_load (Cond.codeWith yL_load cL_load 4 (some .int) [(0, 9, 12, 13), (0, 9, 15, 15)] :: wsA) 13 237 cI cJ cZ cMic cSrc cSt cAI cAJ cD D h0 ad T (oJ ao cJ f) [.ref (ad o), .int a0, .ref ao] (vck 0 1 2 (e1 + 1)) T1 (oJ ao cJ (vfJ (e1 + 1) f r1.toInt64)) := by
  intro sz
  refine va_MetW (cc := cL_load) (maxL := 4) (ret := some .int) (by decide) rfl ?_
  intro p e s m args below meth c s₁ B hml hv
  obtain ⟨rfl, hsz, hP, hK, hD0, hX, hN, hA0, hTS⟩ := hv
  have hx := B.exec
  have hb := B.bytes
  have hr := B.returns
  have hts := atoms_spec (ws := (Cond.codeWith yL_load cL_load 4 (some .int) [(0, 9, 12, 13), (0, 9, 15, 15)] :: wsA)) B.pre
  have hown : s.vm.findClass RL = some m.cls := findClass_of_methodNamed B.named
  have hlocks := B.notSynchronized
  have htb := vx_table (x := yL_load) B (hts _ (.head _))
  subst hsz
  have hD := hD0.self (sz := s.heap.size)
  generalize hAe : va_A (cW ad T.1 (cc cI cJ cZ cMic cSrc cSt cAI cAJ ad T) ++ [oJ ao cJ f]) s.heap.size = A at hD hX hA0 ⊢
  have hA : ∀ q : Nat, s.heap.size ≤ q → A q := fun q h => by rw [← hAe]; exact Or.inr h
  have G : gL cI cJ cZ cMic cSrc cSt cAI cAJ D ad A s.heap s.heap [] T [oJ ao cJ f] := ⟨hP, hD, va_S.rf⟩
  have E : cE p c cL_load s m ([.ref (ad o), .int a0, .ref ao] : List Value).toArray (Cond.codeWith yL_load cL_load 4 (some .int) [(0, 9, 12, 13), (0, 9, 15, 15)] :: wsA) D RL (CT cI cJ cZ cMic cSrc cSt cAI cAJ ++ [(cD, .double)]) := ⟨hx, hb, hts, hown, hK⟩
  have hl := lv_entry ([.ref (ad o), .int a0, .ref ao]) (n := 4) (Nat.le_of_ble_eq_true rfl)
  rw [lg_entry_eq]
  generalize (lg_sl ([.ref (ad o), .int a0, .ref ao]) ++ List.replicate (4 - (lg_sl ([.ref (ad o), .int a0, .ref ao])).length) Slot.unset).toArray = ls at hl ⊢
  have hl : lv_has ls 4 [(0, .ref (ad o)), (1, .int a0), (2, .ref ao)] := hl
  refine lv_aload_n hx hb dL_load_0 rfl (lv_at hl 2 rfl) ?_
  refine lv_iconst (v := 0) hx hb dL_load_1 (by decide) ?_
  refine lv_aload_n hx hb dL_load_2 rfl (lv_at hl 0 rfl) ?_
  refine lv_iload_n hx hb dL_load_3 rfl (lv_at hl 1 rfl) ?_
  refine t_bviS (As := [.int a0]) (rest := [.int 0, .ref ao]) E G hA hX hX.2.2.2.1 hml hA0 hTS (b_X11_load l hst D cI cJ cZ cMic cSrc cSt cAI cAJ ad T h0 o a0 h hrc h_o) (cwV 1 hts (gaV qA_948 qA_949 qA_950 qA_131 qA_692) rfl rfl rfl (by decide +kernel) ⟨Nat.le_of_ble_eq_true rfl, Nat.le_of_ble_eq_true rfl⟩) h_o (cc_o11 h_s) rfl rfl hl.1 rfl (lv_room (Nat.le_of_ble_eq_true rfl)) dL_load_4 ⟨by show 0 + (T1.1 - T.1 + 1) ≤ T1.1 - T.1 + 1; omega, by show 0 + (sg T1 - sg T + 6) ≤ sg T1 - sg T + 6; omega⟩ ?_
  intro E9 ce q9 ad2 H locs hE had G hce hcv hcl
  rcases e1 with _ | _ | e1
  · exact absurd (cd_g_X11_load (S := [0, 2, 3]) (fun _ h => h) T o a0 _ _ _ h) (by decide)
  · have hE : E9 = xIOB := hE
    subst hE
    refine vx_catch (name := xIOB) hown [] { startPc := 0, endPc := 9, handlerPc := 12, catchType := 13 } [{ startPc := 0, endPc := 9, handlerPc := 15, catchType := 15 }] htb (fun z hz => absurd hz List.not_mem_nil) (by decide) (by decide) (hts _ (.tail _ qA_946)) (hX.use (.castable xIOB xIOB) (by decide +kernel)) hce hcv hcl ?_
    refine lv_astore_n (lv' := [(3, .ref q9), (0, .ref (ad o)), (1, .int a0), (2, .ref ao)]) hx hb dL_load_12 rfl hl (by decide) rfl (fun ls hl => ?_)
    refine lv_iconst (v := 1) hx hb dL_load_13 (by decide) ?_
    refine W.widen (k := T1.1 - T.1 + 1) (n := sg T1 - sg T + 6) (by omega) (by omega) ?_
    exact W.iret (v := 1) hx hb hr (fun t ht hW => ⟨⟨1, ad2, rfl, ⟨rfl, had⟩, ⟨by rw [ht]; exact G.1, va_K.moved hW.alike hK, G.2.1⟩⟩, G.2.2.F ht⟩) G.2.2.2.2 dL_load_14
  · have hE : E9 = xIAE := hE
    subst hE
    refine vx_catch (name := xIAE) hown [{ startPc := 0, endPc := 9, handlerPc := 12, catchType := 13 }] { startPc := 0, endPc := 9, handlerPc := 15, catchType := 15 } [] htb (List.forall_mem_cons.mpr ⟨Or.inr ⟨by decide, xIOB, hts _ (.tail _ qA_946), hN.1⟩, fun z hz => absurd hz List.not_mem_nil⟩) (by decide) (by decide) (hts _ (.tail _ qA_947)) (hX.use (.castable xIAE xIAE) (by decide +kernel)) hce hcv hcl ?_
    refine lv_astore_n (lv' := [(3, .ref q9), (0, .ref (ad o)), (1, .int a0), (2, .ref ao)]) hx hb dL_load_15 rfl hl (by decide) rfl (fun ls hl => ?_)
    refine lv_iconst (v := 2) hx hb dL_load_16 (by decide) ?_
    refine W.widen (k := T1.1 - T.1 + 1) (n := sg T1 - sg T + 6) (by omega) (by omega) ?_
    exact W.iret (v := 2) hx hb hr (fun t ht hW => ⟨⟨2, ad2, rfl, ⟨rfl, had⟩, ⟨by rw [ht]; exact G.1, va_K.moved hW.alike hK, G.2.1⟩⟩, G.2.2.F ht⟩) G.2.2.2.2 dL_load_17
theorem v_load (l : Launch) (hst : l.stackTraces = false) (D : va_G) {cI cJ cZ cMic cSrc cSt cAI cAJ cD : ClassId} (h0 : Nat) (ad : Nat → Nat) (T : AT) (o : Nat) (a0 : Int32) (ao : Nat) (f : Nat → Int64) {k1 : Nat} {r1 : Int32} {T1 : AT} (h : g_X11_load T o a0 = some (k1, r1, T1)) (hrc : RC T) (h_o : o < T.1) (h_s : T.2.1 o = (11, 0)) : tWi l yL_load (Cond.codeWith yL_load cL_load 4 (some .int) [(0, 9, 12, 13), (0, 9, 15, 15)] :: wsA) 13 237 cI cJ cZ cMic cSrc cSt cAI cAJ cD D h0 ad T (oJ ao cJ f) [.ref (ad o), .int a0, .ref ao] (vck 0 1 2 k1) T1 (oJ ao cJ (vfJ k1 f r1.toInt64)) := by
  cases k1 with
  | zero => exact v_load_n l hst D h0 ad T o a0 ao f h hrc h_o h_s
  | succ e1 => exact v_load_t l hst D h0 ad T o a0 ao f h hrc h_o h_s
set_option maxHeartbeats 4000000 in
set_option maxRecDepth 100000 in
theorem v_micAt_n (l : Launch) (hst : l.stackTraces = false) (D : va_G) {cI cJ cZ cMic cSrc cSt cAI cAJ cD : ClassId} (h0 : Nat) (ad : Nat → Nat) (T : AT) (o : Nat) (a0 a1 : Int32) (ao : Nat) (f : Nat → Int64) {r1 : Int32} {T1 : AT} (h : g_X11_micAt T o a0 a1 = some (0, r1, T1)) (hrc : RC T) (h_o : o < T.1) (h_s : T.2.1 o = (11, 0)) : tWi l yL_micAt (Cond.codeWith yL_micAt cL_micAt 5 (some .int) [(0, 10, 13, 21), (0, 10, 17, 13), (0, 10, 21, 15)] :: wsA) 9 145 cI cJ cZ cMic cSrc cSt cAI cAJ cD D h0 ad T (oJ ao cJ f) [.ref (ad o), .int a0, .int a1, .ref ao] (vck 1 2 3 (0)) T1 (oJ ao cJ (vfJ (0) f r1.toInt64)) := by
  intro sz
  refine va_MetW (cc := cL_micAt) (maxL := 5) (ret := some .int) (by decide) rfl ?_
  intro p e s m args below meth c s₁ B hml hv
  obtain ⟨rfl, hsz, hP, hK, hD0, hX, hN, hA0, hTS⟩ := hv
  have hx := B.exec
  have hb := B.bytes
  have hr := B.returns
  have hts := atoms_spec (ws := (Cond.codeWith yL_micAt cL_micAt 5 (some .int) [(0, 10, 13, 21), (0, 10, 17, 13), (0, 10, 21, 15)] :: wsA)) B.pre
  have hown : s.vm.findClass RL = some m.cls := findClass_of_methodNamed B.named
  have hlocks := B.notSynchronized
  have htb := vx_table (x := yL_micAt) B (hts _ (.head _))
  subst hsz
  have hD := hD0.self (sz := s.heap.size)
  generalize hAe : va_A (cW ad T.1 (cc cI cJ cZ cMic cSrc cSt cAI cAJ ad T) ++ [oJ ao cJ f]) s.heap.size = A at hD hX hA0 ⊢
  have hA : ∀ q : Nat, s.heap.size ≤ q → A q := fun q h => by rw [← hAe]; exact Or.inr h
  have G : gL cI cJ cZ cMic cSrc cSt cAI cAJ D ad A s.heap s.heap [] T [oJ ao cJ f] := ⟨hP, hD, va_S.rf⟩
  have E : cE p c cL_micAt s m ([.ref (ad o), .int a0, .int a1, .ref ao] : List Value).toArray (Cond.codeWith yL_micAt cL_micAt 5 (some .int) [(0, 10, 13, 21), (0, 10, 17, 13), (0, 10, 21, 15)] :: wsA) D RL (CT cI cJ cZ cMic cSrc cSt cAI cAJ ++ [(cD, .double)]) := ⟨hx, hb, hts, hown, hK⟩
  have hl := lv_entry ([.ref (ad o), .int a0, .int a1, .ref ao]) (n := 5) (Nat.le_of_ble_eq_true rfl)
  rw [lg_entry_eq]
  generalize (lg_sl ([.ref (ad o), .int a0, .int a1, .ref ao]) ++ List.replicate (5 - (lg_sl ([.ref (ad o), .int a0, .int a1, .ref ao])).length) Slot.unset).toArray = ls at hl ⊢
  have hl : lv_has ls 5 [(0, .ref (ad o)), (1, .int a0), (2, .int a1), (3, .ref ao)] := hl
  refine lv_aload_n hx hb dL_micAt_0 rfl (lv_at hl 3 rfl) ?_
  refine lv_iconst (v := 0) hx hb dL_micAt_1 (by decide) ?_
  refine lv_aload_n hx hb dL_micAt_2 rfl (lv_at hl 0 rfl) ?_
  refine lv_iload_n hx hb dL_micAt_3 rfl (lv_at hl 1 rfl) ?_
  refine lv_iload_n hx hb dL_micAt_4 rfl (lv_at hl 2 rfl) ?_
  refine t_cvi (As := [.int a0, .int a1]) (rest := [.int 0, .ref ao]) E G hA hX hX.2.2.2.1 hml (u_X11_micAt l hst D cI cJ cZ cMic cSrc cSt cAI cAJ ad T o a0 a1 h) (cwV 2 hts (gaV qA_953 qA_954 qA_955 qA_131 qA_722) rfl rfl rfl (by decide +kernel) ⟨Nat.le_of_ble_eq_true rfl, Nat.le_of_ble_eq_true rfl⟩) h_o (cc_o11 h_s) rfl rfl hl.1 rfl (lv_room (Nat.le_of_ble_eq_true rfl)) dL_micAt_5 ⟨by show 0 + (0) ≤ T1.1 - T.1 + 1; omega, by show 0 + (0) ≤ sg T1 - sg T + 6; omega⟩ ?_
  intro r9 S1 H locs hp G
  obtain ⟨hr9, hS1⟩ := hp
  rw [hS1] at G
  rw [hr9]
  have had : ∀ n, n < T.1 → ad n = ad n := fun _ _ => rfl
  refine lv_i2l (v := r1.toInt64) hx hb dL_micAt_8 rfl ?_
  refine t_last E G dL_micAt_9 (fun H locs G => ?_)
  refine lv_goto (tgt := 25) hx hb dL_micAt_10 (by decide) ?_
  refine lv_iconst (v := 0) hx hb dL_micAt_25 (by decide) ?_
  refine W.widen (k := T1.1 - T.1 + 1) (n := sg T1 - sg T + 6) (by omega) (by omega) ?_
  exact W.iret (v := 0) hx hb hr (fun t ht hW => ⟨⟨0, ad, rfl, ⟨rfl, had⟩, ⟨by rw [ht]; exact G.1, va_K.moved hW.alike hK, G.2.1⟩⟩, G.2.2.F ht⟩) G.2.2.2.2 dL_micAt_26
set_option maxHeartbeats 4000000 in
set_option maxRecDepth 100000 in
theorem v_micAt_t (l : Launch) (hst : l.stackTraces = false) (D : va_G) {cI cJ cZ cMic cSrc cSt cAI cAJ cD : ClassId} (h0 : Nat) (ad : Nat → Nat) (T : AT) (o : Nat) (a0 a1 : Int32) (ao : Nat) (f : Nat → Int64) {e1 : Nat} {r1 : Int32} {T1 : AT} (h : g_X11_micAt T o a0 a1 = some (e1 + 1, r1, T1)) (hrc : RC T) (h_o : o < T.1) (h_s : T.2.1 o = (11, 0)) : tWi l yL_micAt (Cond.codeWith yL_micAt cL_micAt 5 (some .int) [(0, 10, 13, 21), (0, 10, 17, 13), (0, 10, 21, 15)] :: wsA) 9 145 cI cJ cZ cMic cSrc cSt cAI cAJ cD D h0 ad T (oJ ao cJ f) [.ref (ad o), .int a0, .int a1, .ref ao] (vck 1 2 3 (e1 + 1)) T1 (oJ ao cJ (vfJ (e1 + 1) f r1.toInt64)) := by
  intro sz
  refine va_MetW (cc := cL_micAt) (maxL := 5) (ret := some .int) (by decide) rfl ?_
  intro p e s m args below meth c s₁ B hml hv
  obtain ⟨rfl, hsz, hP, hK, hD0, hX, hN, hA0, hTS⟩ := hv
  have hx := B.exec
  have hb := B.bytes
  have hr := B.returns
  have hts := atoms_spec (ws := (Cond.codeWith yL_micAt cL_micAt 5 (some .int) [(0, 10, 13, 21), (0, 10, 17, 13), (0, 10, 21, 15)] :: wsA)) B.pre
  have hown : s.vm.findClass RL = some m.cls := findClass_of_methodNamed B.named
  have hlocks := B.notSynchronized
  have htb := vx_table (x := yL_micAt) B (hts _ (.head _))
  subst hsz
  have hD := hD0.self (sz := s.heap.size)
  generalize hAe : va_A (cW ad T.1 (cc cI cJ cZ cMic cSrc cSt cAI cAJ ad T) ++ [oJ ao cJ f]) s.heap.size = A at hD hX hA0 ⊢
  have hA : ∀ q : Nat, s.heap.size ≤ q → A q := fun q h => by rw [← hAe]; exact Or.inr h
  have G : gL cI cJ cZ cMic cSrc cSt cAI cAJ D ad A s.heap s.heap [] T [oJ ao cJ f] := ⟨hP, hD, va_S.rf⟩
  have E : cE p c cL_micAt s m ([.ref (ad o), .int a0, .int a1, .ref ao] : List Value).toArray (Cond.codeWith yL_micAt cL_micAt 5 (some .int) [(0, 10, 13, 21), (0, 10, 17, 13), (0, 10, 21, 15)] :: wsA) D RL (CT cI cJ cZ cMic cSrc cSt cAI cAJ ++ [(cD, .double)]) := ⟨hx, hb, hts, hown, hK⟩
  have hl := lv_entry ([.ref (ad o), .int a0, .int a1, .ref ao]) (n := 5) (Nat.le_of_ble_eq_true rfl)
  rw [lg_entry_eq]
  generalize (lg_sl ([.ref (ad o), .int a0, .int a1, .ref ao]) ++ List.replicate (5 - (lg_sl ([.ref (ad o), .int a0, .int a1, .ref ao])).length) Slot.unset).toArray = ls at hl ⊢
  have hl : lv_has ls 5 [(0, .ref (ad o)), (1, .int a0), (2, .int a1), (3, .ref ao)] := hl
  refine lv_aload_n hx hb dL_micAt_0 rfl (lv_at hl 3 rfl) ?_
  refine lv_iconst (v := 0) hx hb dL_micAt_1 (by decide) ?_
  refine lv_aload_n hx hb dL_micAt_2 rfl (lv_at hl 0 rfl) ?_
  refine lv_iload_n hx hb dL_micAt_3 rfl (lv_at hl 1 rfl) ?_
  refine lv_iload_n hx hb dL_micAt_4 rfl (lv_at hl 2 rfl) ?_
  refine t_xvi (As := [.int a0, .int a1]) (rest := [.int 0, .ref ao]) E G hA hX hX.2.2.2.1 hml (x_X11_micAt l hst D cI cJ cZ cMic cSrc cSt cAI cAJ ad T o a0 a1 h) (cwV 2 hts (gaV qA_953 qA_954 qA_955 qA_131 qA_722) rfl rfl rfl (by decide +kernel) ⟨Nat.le_of_ble_eq_true rfl, Nat.le_of_ble_eq_true rfl⟩) h_o (cc_o11 h_s) rfl rfl hl.1 rfl (lv_room (Nat.le_of_ble_eq_true rfl)) dL_micAt_5 ⟨by show 0 + (1) ≤ T1.1 - T.1 + 1; omega, by show 0 + (6) ≤ sg T1 - sg T + 6; omega⟩ ?_
  intro E9 ce q9 S1 H locs hp G hce hcv hcl
  obtain ⟨hE, hS1⟩ := hp
  rw [hS1] at G
  have had : ∀ n, n < T.1 → ad n = ad n := fun _ _ => rfl
  rcases e1 with _ | _ | e1
  · have hE : E9 = xISE := hE
    subst hE
    refine vx_catch (name := xISE) hown [] { startPc := 0, endPc := 10, handlerPc := 13, catchType := 21 } [{ startPc := 0, endPc := 10, handlerPc := 17, catchType := 13 }, { startPc := 0, endPc := 10, handlerPc := 21, catchType := 15 }] htb (fun z hz => absurd hz List.not_mem_nil) (by decide) (by decide) (hts _ (.tail _ qA_952)) (hX.use (.castable xISE xISE) (by decide +kernel)) hce hcv hcl ?_
    refine lv_astore (lv' := [(4, .ref q9), (0, .ref (ad o)), (1, .int a0), (2, .int a1), (3, .ref ao)]) hx hb dL_micAt_13 hl (by decide) rfl (fun ls hl => ?_)
    refine lv_iconst (v := 1) hx hb dL_micAt_15 (by decide) ?_
    refine W.widen (k := T1.1 - T.1 + 1) (n := sg T1 - sg T + 6) (by omega) (by omega) ?_
    exact W.iret (v := 1) hx hb hr (fun t ht hW => ⟨⟨1, ad, rfl, ⟨rfl, had⟩, ⟨by rw [ht]; exact G.1, va_K.moved hW.alike hK, G.2.1⟩⟩, G.2.2.F ht⟩) G.2.2.2.2 dL_micAt_16
  · have hE : E9 = xIOB := hE
    subst hE
    refine vx_catch (name := xIOB) hown [{ startPc := 0, endPc := 10, handlerPc := 13, catchType := 21 }] { startPc := 0, endPc := 10, handlerPc := 17, catchType := 13 } [{ startPc := 0, endPc := 10, handlerPc := 21, catchType := 15 }] htb (List.forall_mem_cons.mpr ⟨Or.inr ⟨by decide, xISE, hts _ (.tail _ qA_952), hN.2.2.1⟩, fun z hz => absurd hz List.not_mem_nil⟩) (by decide) (by decide) (hts _ (.tail _ qA_946)) (hX.use (.castable xIOB xIOB) (by decide +kernel)) hce hcv hcl ?_
    refine lv_astore (lv' := [(4, .ref q9), (0, .ref (ad o)), (1, .int a0), (2, .int a1), (3, .ref ao)]) hx hb dL_micAt_17 hl (by decide) rfl (fun ls hl => ?_)
    refine lv_iconst (v := 2) hx hb dL_micAt_19 (by decide) ?_
    refine W.widen (k := T1.1 - T.1 + 1) (n := sg T1 - sg T + 6) (by omega) (by omega) ?_
    exact W.iret (v := 2) hx hb hr (fun t ht hW => ⟨⟨2, ad, rfl, ⟨rfl, had⟩, ⟨by rw [ht]; exact G.1, va_K.moved hW.alike hK, G.2.1⟩⟩, G.2.2.F ht⟩) G.2.2.2.2 dL_micAt_20
  · have hE : E9 = xIAE := hE
    subst hE
    refine vx_catch (name := xIAE) hown [{ startPc := 0, endPc := 10, handlerPc := 13, catchType := 21 }, { startPc := 0, endPc := 10, handlerPc := 17, catchType := 13 }] { startPc := 0, endPc := 10, handlerPc := 21, catchType := 15 } [] htb (List.forall_mem_cons.mpr ⟨Or.inr ⟨by decide, xISE, hts _ (.tail _ qA_952), hN.2.2.2⟩, List.forall_mem_cons.mpr ⟨Or.inr ⟨by decide, xIOB, hts _ (.tail _ qA_946), hN.1⟩, fun z hz => absurd hz List.not_mem_nil⟩⟩) (by decide) (by decide) (hts _ (.tail _ qA_947)) (hX.use (.castable xIAE xIAE) (by decide +kernel)) hce hcv hcl ?_
    refine lv_astore (lv' := [(4, .ref q9), (0, .ref (ad o)), (1, .int a0), (2, .int a1), (3, .ref ao)]) hx hb dL_micAt_21 hl (by decide) rfl (fun ls hl => ?_)
    refine lv_iconst (v := 3) hx hb dL_micAt_23 (by decide) ?_
    refine W.widen (k := T1.1 - T.1 + 1) (n := sg T1 - sg T + 6) (by omega) (by omega) ?_
    exact W.iret (v := 3) hx hb hr (fun t ht hW => ⟨⟨3, ad, rfl, ⟨rfl, had⟩, ⟨by rw [ht]; exact G.1, va_K.moved hW.alike hK, G.2.1⟩⟩, G.2.2.F ht⟩) G.2.2.2.2 dL_micAt_24
theorem v_micAt (l : Launch) (hst : l.stackTraces = false) (D : va_G) {cI cJ cZ cMic cSrc cSt cAI cAJ cD : ClassId} (h0 : Nat) (ad : Nat → Nat) (T : AT) (o : Nat) (a0 a1 : Int32) (ao : Nat) (f : Nat → Int64) {k1 : Nat} {r1 : Int32} {T1 : AT} (h : g_X11_micAt T o a0 a1 = some (k1, r1, T1)) (hrc : RC T) (h_o : o < T.1) (h_s : T.2.1 o = (11, 0)) : tWi l yL_micAt (Cond.codeWith yL_micAt cL_micAt 5 (some .int) [(0, 10, 13, 21), (0, 10, 17, 13), (0, 10, 21, 15)] :: wsA) 9 145 cI cJ cZ cMic cSrc cSt cAI cAJ cD D h0 ad T (oJ ao cJ f) [.ref (ad o), .int a0, .int a1, .ref ao] (vck 1 2 3 k1) T1 (oJ ao cJ (vfJ k1 f r1.toInt64)) := by
  cases k1 with
  | zero => exact v_micAt_n l hst D h0 ad T o a0 a1 ao f h hrc h_o h_s
  | succ e1 => exact v_micAt_t l hst D h0 ad T o a0 a1 ao f h hrc h_o h_s
set_option maxHeartbeats 4000000 in
set_option maxRecDepth 100000 in
theorem v_isMuted_n (l : Launch) (hst : l.stackTraces = false) (D : va_G) {cI cJ cZ cMic cSrc cSt cAI cAJ cD : ClassId} (h0 : Nat) (ad : Nat → Nat) (T : AT) (o : Nat) (a0 : Int32) (ao : Nat) (f : Nat → Int64) {r1 : Int32} {T1 : AT} (h : g_X11_isMuted T o a0 = some (0, r1, T1)) (hrc : RC T) (h_o : o < T.1) (h_s : T.2.1 o = (11, 0)) : tWi l yL_isMuted (Cond.codeWith yL_isMuted cL_isMuted 4 (some .int) [(0, 16, 19, 21), (0, 16, 22, 13)] :: wsA) 9 144 cI cJ cZ cMic cSrc cSt cAI cAJ cD D h0 ad T (oJ ao cJ f) [.ref (ad o), .int a0, .ref ao] (vck 1 2 0 (0)) T1 (oJ ao cJ (vfJ (0) f (vzb r1))) := by
  intro sz
  refine va_MetW (cc := cL_isMuted) (maxL := 4) (ret := some .int) (by decide) rfl ?_
  intro p e s m args below meth c s₁ B hml hv
  obtain ⟨rfl, hsz, hP, hK, hD0, hX, hN, hA0, hTS⟩ := hv
  have hx := B.exec
  have hb := B.bytes
  have hr := B.returns
  have hts := atoms_spec (ws := (Cond.codeWith yL_isMuted cL_isMuted 4 (some .int) [(0, 16, 19, 21), (0, 16, 22, 13)] :: wsA)) B.pre
  have hown : s.vm.findClass RL = some m.cls := findClass_of_methodNamed B.named
  have hlocks := B.notSynchronized
  have htb := vx_table (x := yL_isMuted) B (hts _ (.head _))
  subst hsz
  have hD := hD0.self (sz := s.heap.size)
  generalize hAe : va_A (cW ad T.1 (cc cI cJ cZ cMic cSrc cSt cAI cAJ ad T) ++ [oJ ao cJ f]) s.heap.size = A at hD hX hA0 ⊢
  have hA : ∀ q : Nat, s.heap.size ≤ q → A q := fun q h => by rw [← hAe]; exact Or.inr h
  have G : gL cI cJ cZ cMic cSrc cSt cAI cAJ D ad A s.heap s.heap [] T [oJ ao cJ f] := ⟨hP, hD, va_S.rf⟩
  have E : cE p c cL_isMuted s m ([.ref (ad o), .int a0, .ref ao] : List Value).toArray (Cond.codeWith yL_isMuted cL_isMuted 4 (some .int) [(0, 16, 19, 21), (0, 16, 22, 13)] :: wsA) D RL (CT cI cJ cZ cMic cSrc cSt cAI cAJ ++ [(cD, .double)]) := ⟨hx, hb, hts, hown, hK⟩
  have hl := lv_entry ([.ref (ad o), .int a0, .ref ao]) (n := 4) (Nat.le_of_ble_eq_true rfl)
  rw [lg_entry_eq]
  generalize (lg_sl ([.ref (ad o), .int a0, .ref ao]) ++ List.replicate (4 - (lg_sl ([.ref (ad o), .int a0, .ref ao])).length) Slot.unset).toArray = ls at hl ⊢
  have hl : lv_has ls 4 [(0, .ref (ad o)), (1, .int a0), (2, .ref ao)] := hl
  refine lv_aload_n hx hb dL_isMuted_0 rfl (lv_at hl 2 rfl) ?_
  refine lv_iconst (v := 0) hx hb dL_isMuted_1 (by decide) ?_
  refine lv_aload_n hx hb dL_isMuted_2 rfl (lv_at hl 0 rfl) ?_
  refine lv_iload_n hx hb dL_isMuted_3 rfl (lv_at hl 1 rfl) ?_
  refine t_cvi (As := [.int a0]) (rest := [.int 0, .ref ao]) E G hA hX hX.2.2.2.1 hml (u_X11_isMuted l hst D cI cJ cZ cMic cSrc cSt cAI cAJ ad T o a0 h) (cwV 1 hts (gaV qA_957 qA_958 qA_959 qA_131 qA_745) rfl rfl rfl (by decide +kernel) ⟨Nat.le_of_ble_eq_true rfl, Nat.le_of_ble_eq_true rfl⟩) h_o (cc_o11 h_s) rfl rfl hl.1 rfl (lv_room (Nat.le_of_ble_eq_true rfl)) dL_isMuted_4 ⟨by show 0 + (0) ≤ T1.1 - T.1 + 1; omega, by show 0 + (0) ≤ sg T1 - sg T + 6; omega⟩ ?_
  intro r9 S1 H locs hp G
  obtain ⟨hr9, hS1⟩ := hp
  rw [hS1] at G
  rw [hr9]
  have had : ∀ n, n < T.1 → ad n = ad n := fun _ _ => rfl
  refine lv_if_eq (tgt := 14) hx hb dL_isMuted_7 (by decide) (fun c1 => ?_) (fun c1 => ?_)
  · refine lv_lconst (v := vzb r1) hx hb dL_isMuted_14 (by rw [vzb, if_pos c1]; rfl) ?_
    refine t_last E G dL_isMuted_15 (fun H locs G => ?_)
    refine lv_goto (tgt := 25) hx hb dL_isMuted_16 (by decide) ?_
    refine lv_iconst (v := 0) hx hb dL_isMuted_25 (by decide) ?_
    refine W.widen (k := T1.1 - T.1 + 1) (n := sg T1 - sg T + 6) (by omega) (by omega) ?_
    exact W.iret (v := 0) hx hb hr (fun t ht hW => ⟨⟨0, ad, rfl, ⟨rfl, had⟩, ⟨by rw [ht]; exact G.1, va_K.moved hW.alike hK, G.2.1⟩⟩, G.2.2.F ht⟩) G.2.2.2.2 dL_isMuted_26
  · refine lv_lconst (v := vzb r1) hx hb dL_isMuted_10 (by rw [vzb, if_neg c1]; rfl) ?_
    refine lv_goto (tgt := 15) hx hb dL_isMuted_11 (by decide) ?_
    refine t_last E G dL_isMuted_15 (fun H locs G => ?_)
    refine lv_goto (tgt := 25) hx hb dL_isMuted_16 (by decide) ?_
    refine lv_iconst (v := 0) hx hb dL_isMuted_25 (by decide) ?_
    refine W.widen (k := T1.1 - T.1 + 1) (n := sg T1 - sg T + 6) (by omega) (by omega) ?_
    exact W.iret (v := 0) hx hb hr (fun t ht hW => ⟨⟨0, ad, rfl, ⟨rfl, had⟩, ⟨by rw [ht]; exact G.1, va_K.moved hW.alike hK, G.2.1⟩⟩, G.2.2.F ht⟩) G.2.2.2.2 dL_isMuted_26
set_option maxHeartbeats 4000000 in
set_option maxRecDepth 100000 in
theorem v_isMuted_t (l : Launch) (hst : l.stackTraces = false) (D : va_G) {cI cJ cZ cMic cSrc cSt cAI cAJ cD : ClassId} (h0 : Nat) (ad : Nat → Nat) (T : AT) (o : Nat) (a0 : Int32) (ao : Nat) (f : Nat → Int64) {e1 : Nat} {r1 : Int32} {T1 : AT} (h : g_X11_isMuted T o a0 = some (e1 + 1, r1, T1)) (hrc : RC T) (h_o : o < T.1) (h_s : T.2.1 o = (11, 0)) : tWi l yL_isMuted (Cond.codeWith yL_isMuted cL_isMuted 4 (some .int) [(0, 16, 19, 21), (0, 16, 22, 13)] :: wsA) 9 144 cI cJ cZ cMic cSrc cSt cAI cAJ cD D h0 ad T (oJ ao cJ f) [.ref (ad o), .int a0, .ref ao] (vck 1 2 0 (e1 + 1)) T1 (oJ ao cJ (vfJ (e1 + 1) f (vzb r1))) := by
  intro sz
  refine va_MetW (cc := cL_isMuted) (maxL := 4) (ret := some .int) (by decide) rfl ?_
  intro p e s m args below meth c s₁ B hml hv
  obtain ⟨rfl, hsz, hP, hK, hD0, hX, hN, hA0, hTS⟩ := hv
  have hx := B.exec
  have hb := B.bytes
  have hr := B.returns
  have hts := atoms_spec (ws := (Cond.codeWith yL_isMuted cL_isMuted 4 (some .int) [(0, 16, 19, 21), (0, 16, 22, 13)] :: wsA)) B.pre
  have hown : s.vm.findClass RL = some m.cls := findClass_of_methodNamed B.named
  have hlocks := B.notSynchronized
  have htb := vx_table (x := yL_isMuted) B (hts _ (.head _))
  subst hsz
  have hD := hD0.self (sz := s.heap.size)
  generalize hAe : va_A (cW ad T.1 (cc cI cJ cZ cMic cSrc cSt cAI cAJ ad T) ++ [oJ ao cJ f]) s.heap.size = A at hD hX hA0 ⊢
  have hA : ∀ q : Nat, s.heap.size ≤ q → A q := fun q h => by rw [← hAe]; exact Or.inr h
  have G : gL cI cJ cZ cMic cSrc cSt cAI cAJ D ad A s.heap s.heap [] T [oJ ao cJ f] := ⟨hP, hD, va_S.rf⟩
  have E : cE p c cL_isMuted s m ([.ref (ad o), .int a0, .ref ao] : List Value).toArray (Cond.codeWith yL_isMuted cL_isMuted 4 (some .int) [(0, 16, 19, 21), (0, 16, 22, 13)] :: wsA) D RL (CT cI cJ cZ cMic cSrc cSt cAI cAJ ++ [(cD, .double)]) := ⟨hx, hb, hts, hown, hK⟩
  have hl := lv_entry ([.ref (ad o), .int a0, .ref ao]) (n := 4) (Nat.le_of_ble_eq_true rfl)
  rw [lg_entry_eq]
  generalize (lg_sl ([.ref (ad o), .int a0, .ref ao]) ++ List.replicate (4 - (lg_sl ([.ref (ad o), .int a0, .ref ao])).length) Slot.unset).toArray = ls at hl ⊢
  have hl : lv_has ls 4 [(0, .ref (ad o)), (1, .int a0), (2, .ref ao)] := hl
  refine lv_aload_n hx hb dL_isMuted_0 rfl (lv_at hl 2 rfl) ?_
  refine lv_iconst (v := 0) hx hb dL_isMuted_1 (by decide) ?_
  refine lv_aload_n hx hb dL_isMuted_2 rfl (lv_at hl 0 rfl) ?_
  refine lv_iload_n hx hb dL_isMuted_3 rfl (lv_at hl 1 rfl) ?_
  refine t_xvi (As := [.int a0]) (rest := [.int 0, .ref ao]) E G hA hX hX.2.2.2.1 hml (x_X11_isMuted l hst D cI cJ cZ cMic cSrc cSt cAI cAJ ad T o a0 h) (cwV 1 hts (gaV qA_957 qA_958 qA_959 qA_131 qA_745) rfl rfl rfl (by decide +kernel) ⟨Nat.le_of_ble_eq_true rfl, Nat.le_of_ble_eq_true rfl⟩) h_o (cc_o11 h_s) rfl rfl hl.1 rfl (lv_room (Nat.le_of_ble_eq_true rfl)) dL_isMuted_4 ⟨by show 0 + (1) ≤ T1.1 - T.1 + 1; omega, by show 0 + (6) ≤ sg T1 - sg T + 6; omega⟩ ?_
  intro E9 ce q9 S1 H locs hp G hce hcv hcl
  obtain ⟨hE, hS1⟩ := hp
  rw [hS1] at G
  have had : ∀ n, n < T.1 → ad n = ad n := fun _ _ => rfl
  rcases e1 with _ | _ | e1
  · have hE : E9 = xISE := hE
    subst hE
    refine vx_catch (name := xISE) hown [] { startPc := 0, endPc := 16, handlerPc := 19, catchType := 21 } [{ startPc := 0, endPc := 16, handlerPc := 22, catchType := 13 }] htb (fun z hz => absurd hz List.not_mem_nil) (by decide) (by decide) (hts _ (.tail _ qA_952)) (hX.use (.castable xISE xISE) (by decide +kernel)) hce hcv hcl ?_
    refine lv_astore_n (lv' := [(3, .ref q9), (0, .ref (ad o)), (1, .int a0), (2, .ref ao)]) hx hb dL_isMuted_19 rfl hl (by decide) rfl (fun ls hl => ?_)
    refine lv_iconst (v := 1) hx hb dL_isMuted_20 (by decide) ?_
    refine W.widen (k := T1.1 - T.1 + 1) (n := sg T1 - sg T + 6) (by omega) (by omega) ?_
    exact W.iret (v := 1) hx hb hr (fun t ht hW => ⟨⟨1, ad, rfl, ⟨rfl, had⟩, ⟨by rw [ht]; exact G.1, va_K.moved hW.alike hK, G.2.1⟩⟩, G.2.2.F ht⟩) G.2.2.2.2 dL_isMuted_21
  · have hE : E9 = xIOB := hE
    subst hE
    refine vx_catch (name := xIOB) hown [{ startPc := 0, endPc := 16, handlerPc := 19, catchType := 21 }] { startPc := 0, endPc := 16, handlerPc := 22, catchType := 13 } [] htb (List.forall_mem_cons.mpr ⟨Or.inr ⟨by decide, xISE, hts _ (.tail _ qA_952), hN.2.2.1⟩, fun z hz => absurd hz List.not_mem_nil⟩) (by decide) (by decide) (hts _ (.tail _ qA_946)) (hX.use (.castable xIOB xIOB) (by decide +kernel)) hce hcv hcl ?_
    refine lv_astore_n (lv' := [(3, .ref q9), (0, .ref (ad o)), (1, .int a0), (2, .ref ao)]) hx hb dL_isMuted_22 rfl hl (by decide) rfl (fun ls hl => ?_)
    refine lv_iconst (v := 2) hx hb dL_isMuted_23 (by decide) ?_
    refine W.widen (k := T1.1 - T.1 + 1) (n := sg T1 - sg T + 6) (by omega) (by omega) ?_
    exact W.iret (v := 2) hx hb hr (fun t ht hW => ⟨⟨2, ad, rfl, ⟨rfl, had⟩, ⟨by rw [ht]; exact G.1, va_K.moved hW.alike hK, G.2.1⟩⟩, G.2.2.F ht⟩) G.2.2.2.2 dL_isMuted_24
  · have q := (cd_g_X11_isMuted (S := [0, 1, 2]) (fun _ h => h) T o a0 _ _ _ h)
    simp only [List.mem_cons, List.not_mem_nil, or_false] at q
    omega
theorem v_isMuted (l : Launch) (hst : l.stackTraces = false) (D : va_G) {cI cJ cZ cMic cSrc cSt cAI cAJ cD : ClassId} (h0 : Nat) (ad : Nat → Nat) (T : AT) (o : Nat) (a0 : Int32) (ao : Nat) (f : Nat → Int64) {k1 : Nat} {r1 : Int32} {T1 : AT} (h : g_X11_isMuted T o a0 = some (k1, r1, T1)) (hrc : RC T) (h_o : o < T.1) (h_s : T.2.1 o = (11, 0)) : tWi l yL_isMuted (Cond.codeWith yL_isMuted cL_isMuted 4 (some .int) [(0, 16, 19, 21), (0, 16, 22, 13)] :: wsA) 9 144 cI cJ cZ cMic cSrc cSt cAI cAJ cD D h0 ad T (oJ ao cJ f) [.ref (ad o), .int a0, .ref ao] (vck 1 2 0 k1) T1 (oJ ao cJ (vfJ k1 f (vzb r1))) := by
  cases k1 with
  | zero => exact v_isMuted_n l hst D h0 ad T o a0 ao f h hrc h_o h_s
  | succ e1 => exact v_isMuted_t l hst D h0 ad T o a0 ao f h hrc h_o h_s
set_option maxHeartbeats 4000000 in
set_option maxRecDepth 100000 in
theorem v_cellAt_n (l : Launch) (hst : l.stackTraces = false) (D : va_G) {cI cJ cZ cMic cSrc cSt cAI cAJ cD : ClassId} (h0 : Nat) (ad : Nat → Nat) (T : AT) (o : Nat) (a0 a1 : Int32) (ao : Nat) (f : Nat → Int64) {r1 : Int32} {T1 : AT} (h : g_X11_cellAt T o a0 a1 = some (0, r1, T1)) (hrc : RC T) (h_o : o < T.1) (h_s : T.2.1 o = (11, 0)) : tWi l yL_cellAt (Cond.codeWith yL_cellAt cL_cellAt 5 (some .int) [(0, 10, 13, 21), (0, 10, 17, 13), (0, 10, 21, 15)] :: wsA) 9 145 cI cJ cZ cMic cSrc cSt cAI cAJ cD D h0 ad T (oJ ao cJ f) [.ref (ad o), .int a0, .int a1, .ref ao] (vck 1 2 3 (0)) T1 (oJ ao cJ (vfJ (0) f r1.toInt64)) := by
  intro sz
  refine va_MetW (cc := cL_cellAt) (maxL := 5) (ret := some .int) (by decide) rfl ?_
  intro p e s m args below meth c s₁ B hml hv
  obtain ⟨rfl, hsz, hP, hK, hD0, hX, hN, hA0, hTS⟩ := hv
  have hx := B.exec
  have hb := B.bytes
  have hr := B.returns
  have hts := atoms_spec (ws := (Cond.codeWith yL_cellAt cL_cellAt 5 (some .int) [(0, 10, 13, 21), (0, 10, 17, 13), (0, 10, 21, 15)] :: wsA)) B.pre
  have hown : s.vm.findClass RL = some m.cls := findClass_of_methodNamed B.named
  have hlocks := B.notSynchronized
  have htb := vx_table (x := yL_cellAt) B (hts _ (.head _))
  subst hsz
  have hD := hD0.self (sz := s.heap.size)
  generalize hAe : va_A (cW ad T.1 (cc cI cJ cZ cMic cSrc cSt cAI cAJ ad T) ++ [oJ ao cJ f]) s.heap.size = A at hD hX hA0 ⊢
  have hA : ∀ q : Nat, s.heap.size ≤ q → A q := fun q h => by rw [← hAe]; exact Or.inr h
  have G : gL cI cJ cZ cMic cSrc cSt cAI cAJ D ad A s.heap s.heap [] T [oJ ao cJ f] := ⟨hP, hD, va_S.rf⟩
  have E : cE p c cL_cellAt s m ([.ref (ad o), .int a0, .int a1, .ref ao] : List Value).toArray (Cond.codeWith yL_cellAt cL_cellAt 5 (some .int) [(0, 10, 13, 21), (0, 10, 17, 13), (0, 10, 21, 15)] :: wsA) D RL (CT cI cJ cZ cMic cSrc cSt cAI cAJ ++ [(cD, .double)]) := ⟨hx, hb, hts, hown, hK⟩
  have hl := lv_entry ([.ref (ad o), .int a0, .int a1, .ref ao]) (n := 5) (Nat.le_of_ble_eq_true rfl)
  rw [lg_entry_eq]
  generalize (lg_sl ([.ref (ad o), .int a0, .int a1, .ref ao]) ++ List.replicate (5 - (lg_sl ([.ref (ad o), .int a0, .int a1, .ref ao])).length) Slot.unset).toArray = ls at hl ⊢
  have hl : lv_has ls 5 [(0, .ref (ad o)), (1, .int a0), (2, .int a1), (3, .ref ao)] := hl
  refine lv_aload_n hx hb dL_cellAt_0 rfl (lv_at hl 3 rfl) ?_
  refine lv_iconst (v := 0) hx hb dL_cellAt_1 (by decide) ?_
  refine lv_aload_n hx hb dL_cellAt_2 rfl (lv_at hl 0 rfl) ?_
  refine lv_iload_n hx hb dL_cellAt_3 rfl (lv_at hl 1 rfl) ?_
  refine lv_iload_n hx hb dL_cellAt_4 rfl (lv_at hl 2 rfl) ?_
  refine t_cvi (As := [.int a0, .int a1]) (rest := [.int 0, .ref ao]) E G hA hX hX.2.2.2.1 hml (u_X11_cellAt l hst D cI cJ cZ cMic cSrc cSt cAI cAJ ad T o a0 a1 h) (cwV 2 hts (gaV qA_961 qA_962 qA_963 qA_131 qA_751) rfl rfl rfl (by decide +kernel) ⟨Nat.le_of_ble_eq_true rfl, Nat.le_of_ble_eq_true rfl⟩) h_o (cc_o11 h_s) rfl rfl hl.1 rfl (lv_room (Nat.le_of_ble_eq_true rfl)) dL_cellAt_5 ⟨by show 0 + (0) ≤ T1.1 - T.1 + 1; omega, by show 0 + (0) ≤ sg T1 - sg T + 6; omega⟩ ?_
  intro r9 S1 H locs hp G
  obtain ⟨hr9, hS1⟩ := hp
  rw [hS1] at G
  rw [hr9]
  have had : ∀ n, n < T.1 → ad n = ad n := fun _ _ => rfl
  refine lv_i2l (v := r1.toInt64) hx hb dL_cellAt_8 rfl ?_
  refine t_last E G dL_cellAt_9 (fun H locs G => ?_)
  refine lv_goto (tgt := 25) hx hb dL_cellAt_10 (by decide) ?_
  refine lv_iconst (v := 0) hx hb dL_cellAt_25 (by decide) ?_
  refine W.widen (k := T1.1 - T.1 + 1) (n := sg T1 - sg T + 6) (by omega) (by omega) ?_
  exact W.iret (v := 0) hx hb hr (fun t ht hW => ⟨⟨0, ad, rfl, ⟨rfl, had⟩, ⟨by rw [ht]; exact G.1, va_K.moved hW.alike hK, G.2.1⟩⟩, G.2.2.F ht⟩) G.2.2.2.2 dL_cellAt_26
set_option maxHeartbeats 4000000 in
set_option maxRecDepth 100000 in
theorem v_cellAt_t (l : Launch) (hst : l.stackTraces = false) (D : va_G) {cI cJ cZ cMic cSrc cSt cAI cAJ cD : ClassId} (h0 : Nat) (ad : Nat → Nat) (T : AT) (o : Nat) (a0 a1 : Int32) (ao : Nat) (f : Nat → Int64) {e1 : Nat} {r1 : Int32} {T1 : AT} (h : g_X11_cellAt T o a0 a1 = some (e1 + 1, r1, T1)) (hrc : RC T) (h_o : o < T.1) (h_s : T.2.1 o = (11, 0)) : tWi l yL_cellAt (Cond.codeWith yL_cellAt cL_cellAt 5 (some .int) [(0, 10, 13, 21), (0, 10, 17, 13), (0, 10, 21, 15)] :: wsA) 9 145 cI cJ cZ cMic cSrc cSt cAI cAJ cD D h0 ad T (oJ ao cJ f) [.ref (ad o), .int a0, .int a1, .ref ao] (vck 1 2 3 (e1 + 1)) T1 (oJ ao cJ (vfJ (e1 + 1) f r1.toInt64)) := by
  intro sz
  refine va_MetW (cc := cL_cellAt) (maxL := 5) (ret := some .int) (by decide) rfl ?_
  intro p e s m args below meth c s₁ B hml hv
  obtain ⟨rfl, hsz, hP, hK, hD0, hX, hN, hA0, hTS⟩ := hv
  have hx := B.exec
  have hb := B.bytes
  have hr := B.returns
  have hts := atoms_spec (ws := (Cond.codeWith yL_cellAt cL_cellAt 5 (some .int) [(0, 10, 13, 21), (0, 10, 17, 13), (0, 10, 21, 15)] :: wsA)) B.pre
  have hown : s.vm.findClass RL = some m.cls := findClass_of_methodNamed B.named
  have hlocks := B.notSynchronized
  have htb := vx_table (x := yL_cellAt) B (hts _ (.head _))
  subst hsz
  have hD := hD0.self (sz := s.heap.size)
  generalize hAe : va_A (cW ad T.1 (cc cI cJ cZ cMic cSrc cSt cAI cAJ ad T) ++ [oJ ao cJ f]) s.heap.size = A at hD hX hA0 ⊢
  have hA : ∀ q : Nat, s.heap.size ≤ q → A q := fun q h => by rw [← hAe]; exact Or.inr h
  have G : gL cI cJ cZ cMic cSrc cSt cAI cAJ D ad A s.heap s.heap [] T [oJ ao cJ f] := ⟨hP, hD, va_S.rf⟩
  have E : cE p c cL_cellAt s m ([.ref (ad o), .int a0, .int a1, .ref ao] : List Value).toArray (Cond.codeWith yL_cellAt cL_cellAt 5 (some .int) [(0, 10, 13, 21), (0, 10, 17, 13), (0, 10, 21, 15)] :: wsA) D RL (CT cI cJ cZ cMic cSrc cSt cAI cAJ ++ [(cD, .double)]) := ⟨hx, hb, hts, hown, hK⟩
  have hl := lv_entry ([.ref (ad o), .int a0, .int a1, .ref ao]) (n := 5) (Nat.le_of_ble_eq_true rfl)
  rw [lg_entry_eq]
  generalize (lg_sl ([.ref (ad o), .int a0, .int a1, .ref ao]) ++ List.replicate (5 - (lg_sl ([.ref (ad o), .int a0, .int a1, .ref ao])).length) Slot.unset).toArray = ls at hl ⊢
  have hl : lv_has ls 5 [(0, .ref (ad o)), (1, .int a0), (2, .int a1), (3, .ref ao)] := hl
  refine lv_aload_n hx hb dL_cellAt_0 rfl (lv_at hl 3 rfl) ?_
  refine lv_iconst (v := 0) hx hb dL_cellAt_1 (by decide) ?_
  refine lv_aload_n hx hb dL_cellAt_2 rfl (lv_at hl 0 rfl) ?_
  refine lv_iload_n hx hb dL_cellAt_3 rfl (lv_at hl 1 rfl) ?_
  refine lv_iload_n hx hb dL_cellAt_4 rfl (lv_at hl 2 rfl) ?_
  refine t_xvi (As := [.int a0, .int a1]) (rest := [.int 0, .ref ao]) E G hA hX hX.2.2.2.1 hml (x_X11_cellAt l hst D cI cJ cZ cMic cSrc cSt cAI cAJ ad T o a0 a1 h) (cwV 2 hts (gaV qA_961 qA_962 qA_963 qA_131 qA_751) rfl rfl rfl (by decide +kernel) ⟨Nat.le_of_ble_eq_true rfl, Nat.le_of_ble_eq_true rfl⟩) h_o (cc_o11 h_s) rfl rfl hl.1 rfl (lv_room (Nat.le_of_ble_eq_true rfl)) dL_cellAt_5 ⟨by show 0 + (1) ≤ T1.1 - T.1 + 1; omega, by show 0 + (6) ≤ sg T1 - sg T + 6; omega⟩ ?_
  intro E9 ce q9 S1 H locs hp G hce hcv hcl
  obtain ⟨hE, hS1⟩ := hp
  rw [hS1] at G
  have had : ∀ n, n < T.1 → ad n = ad n := fun _ _ => rfl
  rcases e1 with _ | _ | e1
  · have hE : E9 = xISE := hE
    subst hE
    refine vx_catch (name := xISE) hown [] { startPc := 0, endPc := 10, handlerPc := 13, catchType := 21 } [{ startPc := 0, endPc := 10, handlerPc := 17, catchType := 13 }, { startPc := 0, endPc := 10, handlerPc := 21, catchType := 15 }] htb (fun z hz => absurd hz List.not_mem_nil) (by decide) (by decide) (hts _ (.tail _ qA_952)) (hX.use (.castable xISE xISE) (by decide +kernel)) hce hcv hcl ?_
    refine lv_astore (lv' := [(4, .ref q9), (0, .ref (ad o)), (1, .int a0), (2, .int a1), (3, .ref ao)]) hx hb dL_cellAt_13 hl (by decide) rfl (fun ls hl => ?_)
    refine lv_iconst (v := 1) hx hb dL_cellAt_15 (by decide) ?_
    refine W.widen (k := T1.1 - T.1 + 1) (n := sg T1 - sg T + 6) (by omega) (by omega) ?_
    exact W.iret (v := 1) hx hb hr (fun t ht hW => ⟨⟨1, ad, rfl, ⟨rfl, had⟩, ⟨by rw [ht]; exact G.1, va_K.moved hW.alike hK, G.2.1⟩⟩, G.2.2.F ht⟩) G.2.2.2.2 dL_cellAt_16
  · have hE : E9 = xIOB := hE
    subst hE
    refine vx_catch (name := xIOB) hown [{ startPc := 0, endPc := 10, handlerPc := 13, catchType := 21 }] { startPc := 0, endPc := 10, handlerPc := 17, catchType := 13 } [{ startPc := 0, endPc := 10, handlerPc := 21, catchType := 15 }] htb (List.forall_mem_cons.mpr ⟨Or.inr ⟨by decide, xISE, hts _ (.tail _ qA_952), hN.2.2.1⟩, fun z hz => absurd hz List.not_mem_nil⟩) (by decide) (by decide) (hts _ (.tail _ qA_946)) (hX.use (.castable xIOB xIOB) (by decide +kernel)) hce hcv hcl ?_
    refine lv_astore (lv' := [(4, .ref q9), (0, .ref (ad o)), (1, .int a0), (2, .int a1), (3, .ref ao)]) hx hb dL_cellAt_17 hl (by decide) rfl (fun ls hl => ?_)
    refine lv_iconst (v := 2) hx hb dL_cellAt_19 (by decide) ?_
    refine W.widen (k := T1.1 - T.1 + 1) (n := sg T1 - sg T + 6) (by omega) (by omega) ?_
    exact W.iret (v := 2) hx hb hr (fun t ht hW => ⟨⟨2, ad, rfl, ⟨rfl, had⟩, ⟨by rw [ht]; exact G.1, va_K.moved hW.alike hK, G.2.1⟩⟩, G.2.2.F ht⟩) G.2.2.2.2 dL_cellAt_20
  · have hE : E9 = xIAE := hE
    subst hE
    refine vx_catch (name := xIAE) hown [{ startPc := 0, endPc := 10, handlerPc := 13, catchType := 21 }, { startPc := 0, endPc := 10, handlerPc := 17, catchType := 13 }] { startPc := 0, endPc := 10, handlerPc := 21, catchType := 15 } [] htb (List.forall_mem_cons.mpr ⟨Or.inr ⟨by decide, xISE, hts _ (.tail _ qA_952), hN.2.2.2⟩, List.forall_mem_cons.mpr ⟨Or.inr ⟨by decide, xIOB, hts _ (.tail _ qA_946), hN.1⟩, fun z hz => absurd hz List.not_mem_nil⟩⟩) (by decide) (by decide) (hts _ (.tail _ qA_947)) (hX.use (.castable xIAE xIAE) (by decide +kernel)) hce hcv hcl ?_
    refine lv_astore (lv' := [(4, .ref q9), (0, .ref (ad o)), (1, .int a0), (2, .int a1), (3, .ref ao)]) hx hb dL_cellAt_21 hl (by decide) rfl (fun ls hl => ?_)
    refine lv_iconst (v := 3) hx hb dL_cellAt_23 (by decide) ?_
    refine W.widen (k := T1.1 - T.1 + 1) (n := sg T1 - sg T + 6) (by omega) (by omega) ?_
    exact W.iret (v := 3) hx hb hr (fun t ht hW => ⟨⟨3, ad, rfl, ⟨rfl, had⟩, ⟨by rw [ht]; exact G.1, va_K.moved hW.alike hK, G.2.1⟩⟩, G.2.2.F ht⟩) G.2.2.2.2 dL_cellAt_24
theorem v_cellAt (l : Launch) (hst : l.stackTraces = false) (D : va_G) {cI cJ cZ cMic cSrc cSt cAI cAJ cD : ClassId} (h0 : Nat) (ad : Nat → Nat) (T : AT) (o : Nat) (a0 a1 : Int32) (ao : Nat) (f : Nat → Int64) {k1 : Nat} {r1 : Int32} {T1 : AT} (h : g_X11_cellAt T o a0 a1 = some (k1, r1, T1)) (hrc : RC T) (h_o : o < T.1) (h_s : T.2.1 o = (11, 0)) : tWi l yL_cellAt (Cond.codeWith yL_cellAt cL_cellAt 5 (some .int) [(0, 10, 13, 21), (0, 10, 17, 13), (0, 10, 21, 15)] :: wsA) 9 145 cI cJ cZ cMic cSrc cSt cAI cAJ cD D h0 ad T (oJ ao cJ f) [.ref (ad o), .int a0, .int a1, .ref ao] (vck 1 2 3 k1) T1 (oJ ao cJ (vfJ k1 f r1.toInt64)) := by
  cases k1 with
  | zero => exact v_cellAt_n l hst D h0 ad T o a0 a1 ao f h hrc h_o h_s
  | succ e1 => exact v_cellAt_t l hst D h0 ad T o a0 a1 ao f h hrc h_o h_s
set_option maxHeartbeats 4000000 in
set_option maxRecDepth 100000 in
theorem v_sourceAt_n (l : Launch) (hst : l.stackTraces = false) (D : va_G) {cI cJ cZ cMic cSrc cSt cAI cAJ cD : ClassId} (h0 : Nat) (ad : Nat → Nat) (T : AT) (o : Nat) (a0 a1 a2 : Int32) (ao : Nat) (f : Nat → Int64) {r1 : Int32} {T1 : AT} (h : g_X11_sourceAt T o a0 a1 a2 = some (0, r1, T1)) (hrc : RC T) (h_o : o < T.1) (h_s : T.2.1 o = (11, 0)) : tWi l yL_sourceAt (Cond.codeWith yL_sourceAt cL_sourceAt 6 (some .int) [(0, 12, 15, 21), (0, 12, 19, 13), (0, 12, 23, 15)] :: wsA) 9 146 cI cJ cZ cMic cSrc cSt cAI cAJ cD D h0 ad T (oJ ao cJ f) [.ref (ad o), .int a0, .int a1, .int a2, .ref ao] (vck 1 2 3 (0)) T1 (oJ ao cJ (vfJ (0) f r1.toInt64)) := by
  intro sz
  refine va_MetW (cc := cL_sourceAt) (maxL := 6) (ret := some .int) (by decide) rfl ?_
  intro p e s m args below meth c s₁ B hml hv
  obtain ⟨rfl, hsz, hP, hK, hD0, hX, hN, hA0, hTS⟩ := hv
  have hx := B.exec
  have hb := B.bytes
  have hr := B.returns
  have hts := atoms_spec (ws := (Cond.codeWith yL_sourceAt cL_sourceAt 6 (some .int) [(0, 12, 15, 21), (0, 12, 19, 13), (0, 12, 23, 15)] :: wsA)) B.pre
  have hown : s.vm.findClass RL = some m.cls := findClass_of_methodNamed B.named
  have hlocks := B.notSynchronized
  have htb := vx_table (x := yL_sourceAt) B (hts _ (.head _))
  subst hsz
  have hD := hD0.self (sz := s.heap.size)
  generalize hAe : va_A (cW ad T.1 (cc cI cJ cZ cMic cSrc cSt cAI cAJ ad T) ++ [oJ ao cJ f]) s.heap.size = A at hD hX hA0 ⊢
  have hA : ∀ q : Nat, s.heap.size ≤ q → A q := fun q h => by rw [← hAe]; exact Or.inr h
  have G : gL cI cJ cZ cMic cSrc cSt cAI cAJ D ad A s.heap s.heap [] T [oJ ao cJ f] := ⟨hP, hD, va_S.rf⟩
  have E : cE p c cL_sourceAt s m ([.ref (ad o), .int a0, .int a1, .int a2, .ref ao] : List Value).toArray (Cond.codeWith yL_sourceAt cL_sourceAt 6 (some .int) [(0, 12, 15, 21), (0, 12, 19, 13), (0, 12, 23, 15)] :: wsA) D RL (CT cI cJ cZ cMic cSrc cSt cAI cAJ ++ [(cD, .double)]) := ⟨hx, hb, hts, hown, hK⟩
  have hl := lv_entry ([.ref (ad o), .int a0, .int a1, .int a2, .ref ao]) (n := 6) (Nat.le_of_ble_eq_true rfl)
  rw [lg_entry_eq]
  generalize (lg_sl ([.ref (ad o), .int a0, .int a1, .int a2, .ref ao]) ++ List.replicate (6 - (lg_sl ([.ref (ad o), .int a0, .int a1, .int a2, .ref ao])).length) Slot.unset).toArray = ls at hl ⊢
  have hl : lv_has ls 6 [(0, .ref (ad o)), (1, .int a0), (2, .int a1), (3, .int a2), (4, .ref ao)] := hl
  refine lv_aload hx hb dL_sourceAt_0 (lv_at hl 4 rfl) ?_
  refine lv_iconst (v := 0) hx hb dL_sourceAt_2 (by decide) ?_
  refine lv_aload_n hx hb dL_sourceAt_3 rfl (lv_at hl 0 rfl) ?_
  refine lv_iload_n hx hb dL_sourceAt_4 rfl (lv_at hl 1 rfl) ?_
  refine lv_iload_n hx hb dL_sourceAt_5 rfl (lv_at hl 2 rfl) ?_
  refine lv_iload_n hx hb dL_sourceAt_6 rfl (lv_at hl 3 rfl) ?_
  refine t_cvi (As := [.int a0, .int a1, .int a2]) (rest := [.int 0, .ref ao]) E G hA hX hX.2.2.2.1 hml (u_X11_sourceAt l hst D cI cJ cZ cMic cSrc cSt cAI cAJ ad T o a0 a1 a2 h) (cwV 3 hts (gaV qA_965 qA_966 qA_967 qA_131 qA_760) rfl rfl rfl (by decide +kernel) ⟨Nat.le_of_ble_eq_true rfl, Nat.le_of_ble_eq_true rfl⟩) h_o (cc_o11 h_s) rfl rfl hl.1 rfl (lv_room (Nat.le_of_ble_eq_true rfl)) dL_sourceAt_7 ⟨by show 0 + (0) ≤ T1.1 - T.1 + 1; omega, by show 0 + (0) ≤ sg T1 - sg T + 6; omega⟩ ?_
  intro r9 S1 H locs hp G
  obtain ⟨hr9, hS1⟩ := hp
  rw [hS1] at G
  rw [hr9]
  have had : ∀ n, n < T.1 → ad n = ad n := fun _ _ => rfl
  refine lv_i2l (v := r1.toInt64) hx hb dL_sourceAt_10 rfl ?_
  refine t_last E G dL_sourceAt_11 (fun H locs G => ?_)
  refine lv_goto (tgt := 27) hx hb dL_sourceAt_12 (by decide) ?_
  refine lv_iconst (v := 0) hx hb dL_sourceAt_27 (by decide) ?_
  refine W.widen (k := T1.1 - T.1 + 1) (n := sg T1 - sg T + 6) (by omega) (by omega) ?_
  exact W.iret (v := 0) hx hb hr (fun t ht hW => ⟨⟨0, ad, rfl, ⟨rfl, had⟩, ⟨by rw [ht]; exact G.1, va_K.moved hW.alike hK, G.2.1⟩⟩, G.2.2.F ht⟩) G.2.2.2.2 dL_sourceAt_28
set_option maxHeartbeats 4000000 in
set_option maxRecDepth 100000 in
theorem v_sourceAt_t (l : Launch) (hst : l.stackTraces = false) (D : va_G) {cI cJ cZ cMic cSrc cSt cAI cAJ cD : ClassId} (h0 : Nat) (ad : Nat → Nat) (T : AT) (o : Nat) (a0 a1 a2 : Int32) (ao : Nat) (f : Nat → Int64) {e1 : Nat} {r1 : Int32} {T1 : AT} (h : g_X11_sourceAt T o a0 a1 a2 = some (e1 + 1, r1, T1)) (hrc : RC T) (h_o : o < T.1) (h_s : T.2.1 o = (11, 0)) : tWi l yL_sourceAt (Cond.codeWith yL_sourceAt cL_sourceAt 6 (some .int) [(0, 12, 15, 21), (0, 12, 19, 13), (0, 12, 23, 15)] :: wsA) 9 146 cI cJ cZ cMic cSrc cSt cAI cAJ cD D h0 ad T (oJ ao cJ f) [.ref (ad o), .int a0, .int a1, .int a2, .ref ao] (vck 1 2 3 (e1 + 1)) T1 (oJ ao cJ (vfJ (e1 + 1) f r1.toInt64)) := by
  intro sz
  refine va_MetW (cc := cL_sourceAt) (maxL := 6) (ret := some .int) (by decide) rfl ?_
  intro p e s m args below meth c s₁ B hml hv
  obtain ⟨rfl, hsz, hP, hK, hD0, hX, hN, hA0, hTS⟩ := hv
  have hx := B.exec
  have hb := B.bytes
  have hr := B.returns
  have hts := atoms_spec (ws := (Cond.codeWith yL_sourceAt cL_sourceAt 6 (some .int) [(0, 12, 15, 21), (0, 12, 19, 13), (0, 12, 23, 15)] :: wsA)) B.pre
  have hown : s.vm.findClass RL = some m.cls := findClass_of_methodNamed B.named
  have hlocks := B.notSynchronized
  have htb := vx_table (x := yL_sourceAt) B (hts _ (.head _))
  subst hsz
  have hD := hD0.self (sz := s.heap.size)
  generalize hAe : va_A (cW ad T.1 (cc cI cJ cZ cMic cSrc cSt cAI cAJ ad T) ++ [oJ ao cJ f]) s.heap.size = A at hD hX hA0 ⊢
  have hA : ∀ q : Nat, s.heap.size ≤ q → A q := fun q h => by rw [← hAe]; exact Or.inr h
  have G : gL cI cJ cZ cMic cSrc cSt cAI cAJ D ad A s.heap s.heap [] T [oJ ao cJ f] := ⟨hP, hD, va_S.rf⟩
  have E : cE p c cL_sourceAt s m ([.ref (ad o), .int a0, .int a1, .int a2, .ref ao] : List Value).toArray (Cond.codeWith yL_sourceAt cL_sourceAt 6 (some .int) [(0, 12, 15, 21), (0, 12, 19, 13), (0, 12, 23, 15)] :: wsA) D RL (CT cI cJ cZ cMic cSrc cSt cAI cAJ ++ [(cD, .double)]) := ⟨hx, hb, hts, hown, hK⟩
  have hl := lv_entry ([.ref (ad o), .int a0, .int a1, .int a2, .ref ao]) (n := 6) (Nat.le_of_ble_eq_true rfl)
  rw [lg_entry_eq]
  generalize (lg_sl ([.ref (ad o), .int a0, .int a1, .int a2, .ref ao]) ++ List.replicate (6 - (lg_sl ([.ref (ad o), .int a0, .int a1, .int a2, .ref ao])).length) Slot.unset).toArray = ls at hl ⊢
  have hl : lv_has ls 6 [(0, .ref (ad o)), (1, .int a0), (2, .int a1), (3, .int a2), (4, .ref ao)] := hl
  refine lv_aload hx hb dL_sourceAt_0 (lv_at hl 4 rfl) ?_
  refine lv_iconst (v := 0) hx hb dL_sourceAt_2 (by decide) ?_
  refine lv_aload_n hx hb dL_sourceAt_3 rfl (lv_at hl 0 rfl) ?_
  refine lv_iload_n hx hb dL_sourceAt_4 rfl (lv_at hl 1 rfl) ?_
  refine lv_iload_n hx hb dL_sourceAt_5 rfl (lv_at hl 2 rfl) ?_
  refine lv_iload_n hx hb dL_sourceAt_6 rfl (lv_at hl 3 rfl) ?_
  refine t_xvi (As := [.int a0, .int a1, .int a2]) (rest := [.int 0, .ref ao]) E G hA hX hX.2.2.2.1 hml (x_X11_sourceAt l hst D cI cJ cZ cMic cSrc cSt cAI cAJ ad T o a0 a1 a2 h) (cwV 3 hts (gaV qA_965 qA_966 qA_967 qA_131 qA_760) rfl rfl rfl (by decide +kernel) ⟨Nat.le_of_ble_eq_true rfl, Nat.le_of_ble_eq_true rfl⟩) h_o (cc_o11 h_s) rfl rfl hl.1 rfl (lv_room (Nat.le_of_ble_eq_true rfl)) dL_sourceAt_7 ⟨by show 0 + (1) ≤ T1.1 - T.1 + 1; omega, by show 0 + (6) ≤ sg T1 - sg T + 6; omega⟩ ?_
  intro E9 ce q9 S1 H locs hp G hce hcv hcl
  obtain ⟨hE, hS1⟩ := hp
  rw [hS1] at G
  have had : ∀ n, n < T.1 → ad n = ad n := fun _ _ => rfl
  rcases e1 with _ | _ | e1
  · have hE : E9 = xISE := hE
    subst hE
    refine vx_catch (name := xISE) hown [] { startPc := 0, endPc := 12, handlerPc := 15, catchType := 21 } [{ startPc := 0, endPc := 12, handlerPc := 19, catchType := 13 }, { startPc := 0, endPc := 12, handlerPc := 23, catchType := 15 }] htb (fun z hz => absurd hz List.not_mem_nil) (by decide) (by decide) (hts _ (.tail _ qA_952)) (hX.use (.castable xISE xISE) (by decide +kernel)) hce hcv hcl ?_
    refine lv_astore (lv' := [(5, .ref q9), (0, .ref (ad o)), (1, .int a0), (2, .int a1), (3, .int a2), (4, .ref ao)]) hx hb dL_sourceAt_15 hl (by decide) rfl (fun ls hl => ?_)
    refine lv_iconst (v := 1) hx hb dL_sourceAt_17 (by decide) ?_
    refine W.widen (k := T1.1 - T.1 + 1) (n := sg T1 - sg T + 6) (by omega) (by omega) ?_
    exact W.iret (v := 1) hx hb hr (fun t ht hW => ⟨⟨1, ad, rfl, ⟨rfl, had⟩, ⟨by rw [ht]; exact G.1, va_K.moved hW.alike hK, G.2.1⟩⟩, G.2.2.F ht⟩) G.2.2.2.2 dL_sourceAt_18
  · have hE : E9 = xIOB := hE
    subst hE
    refine vx_catch (name := xIOB) hown [{ startPc := 0, endPc := 12, handlerPc := 15, catchType := 21 }] { startPc := 0, endPc := 12, handlerPc := 19, catchType := 13 } [{ startPc := 0, endPc := 12, handlerPc := 23, catchType := 15 }] htb (List.forall_mem_cons.mpr ⟨Or.inr ⟨by decide, xISE, hts _ (.tail _ qA_952), hN.2.2.1⟩, fun z hz => absurd hz List.not_mem_nil⟩) (by decide) (by decide) (hts _ (.tail _ qA_946)) (hX.use (.castable xIOB xIOB) (by decide +kernel)) hce hcv hcl ?_
    refine lv_astore (lv' := [(5, .ref q9), (0, .ref (ad o)), (1, .int a0), (2, .int a1), (3, .int a2), (4, .ref ao)]) hx hb dL_sourceAt_19 hl (by decide) rfl (fun ls hl => ?_)
    refine lv_iconst (v := 2) hx hb dL_sourceAt_21 (by decide) ?_
    refine W.widen (k := T1.1 - T.1 + 1) (n := sg T1 - sg T + 6) (by omega) (by omega) ?_
    exact W.iret (v := 2) hx hb hr (fun t ht hW => ⟨⟨2, ad, rfl, ⟨rfl, had⟩, ⟨by rw [ht]; exact G.1, va_K.moved hW.alike hK, G.2.1⟩⟩, G.2.2.F ht⟩) G.2.2.2.2 dL_sourceAt_22
  · have hE : E9 = xIAE := hE
    subst hE
    refine vx_catch (name := xIAE) hown [{ startPc := 0, endPc := 12, handlerPc := 15, catchType := 21 }, { startPc := 0, endPc := 12, handlerPc := 19, catchType := 13 }] { startPc := 0, endPc := 12, handlerPc := 23, catchType := 15 } [] htb (List.forall_mem_cons.mpr ⟨Or.inr ⟨by decide, xISE, hts _ (.tail _ qA_952), hN.2.2.2⟩, List.forall_mem_cons.mpr ⟨Or.inr ⟨by decide, xIOB, hts _ (.tail _ qA_946), hN.1⟩, fun z hz => absurd hz List.not_mem_nil⟩⟩) (by decide) (by decide) (hts _ (.tail _ qA_947)) (hX.use (.castable xIAE xIAE) (by decide +kernel)) hce hcv hcl ?_
    refine lv_astore (lv' := [(5, .ref q9), (0, .ref (ad o)), (1, .int a0), (2, .int a1), (3, .int a2), (4, .ref ao)]) hx hb dL_sourceAt_23 hl (by decide) rfl (fun ls hl => ?_)
    refine lv_iconst (v := 3) hx hb dL_sourceAt_25 (by decide) ?_
    refine W.widen (k := T1.1 - T.1 + 1) (n := sg T1 - sg T + 6) (by omega) (by omega) ?_
    exact W.iret (v := 3) hx hb hr (fun t ht hW => ⟨⟨3, ad, rfl, ⟨rfl, had⟩, ⟨by rw [ht]; exact G.1, va_K.moved hW.alike hK, G.2.1⟩⟩, G.2.2.F ht⟩) G.2.2.2.2 dL_sourceAt_26
theorem v_sourceAt (l : Launch) (hst : l.stackTraces = false) (D : va_G) {cI cJ cZ cMic cSrc cSt cAI cAJ cD : ClassId} (h0 : Nat) (ad : Nat → Nat) (T : AT) (o : Nat) (a0 a1 a2 : Int32) (ao : Nat) (f : Nat → Int64) {k1 : Nat} {r1 : Int32} {T1 : AT} (h : g_X11_sourceAt T o a0 a1 a2 = some (k1, r1, T1)) (hrc : RC T) (h_o : o < T.1) (h_s : T.2.1 o = (11, 0)) : tWi l yL_sourceAt (Cond.codeWith yL_sourceAt cL_sourceAt 6 (some .int) [(0, 12, 15, 21), (0, 12, 19, 13), (0, 12, 23, 15)] :: wsA) 9 146 cI cJ cZ cMic cSrc cSt cAI cAJ cD D h0 ad T (oJ ao cJ f) [.ref (ad o), .int a0, .int a1, .int a2, .ref ao] (vck 1 2 3 k1) T1 (oJ ao cJ (vfJ k1 f r1.toInt64)) := by
  cases k1 with
  | zero => exact v_sourceAt_n l hst D h0 ad T o a0 a1 a2 ao f h hrc h_o h_s
  | succ e1 => exact v_sourceAt_t l hst D h0 ad T o a0 a1 a2 ao f h hrc h_o h_s
set_option maxHeartbeats 4000000 in
set_option maxRecDepth 100000 in
theorem v_isOn_n (l : Launch) (hst : l.stackTraces = false) (D : va_G) {cI cJ cZ cMic cSrc cSt cAI cAJ cD : ClassId} (h0 : Nat) (ad : Nat → Nat) (T : AT) (o : Nat) (a0 : Int32) (ao : Nat) (f : Nat → Int64) {r1 : Int32} {T1 : AT} (h : g_X11_isOn T o a0 = some (0, r1, T1)) (hrc : RC T) (h_o : o < T.1) (h_s : T.2.1 o = (11, 0)) : tWi l yL_isOn (Cond.codeWith yL_isOn cL_isOn 4 (some .int) [(0, 16, 19, 21), (0, 16, 22, 13)] :: wsA) 9 144 cI cJ cZ cMic cSrc cSt cAI cAJ cD D h0 ad T (oJ ao cJ f) [.ref (ad o), .int a0, .ref ao] (vck 1 2 0 (0)) T1 (oJ ao cJ (vfJ (0) f (vzb r1))) := by
  intro sz
  refine va_MetW (cc := cL_isOn) (maxL := 4) (ret := some .int) (by decide) rfl ?_
  intro p e s m args below meth c s₁ B hml hv
  obtain ⟨rfl, hsz, hP, hK, hD0, hX, hN, hA0, hTS⟩ := hv
  have hx := B.exec
  have hb := B.bytes
  have hr := B.returns
  have hts := atoms_spec (ws := (Cond.codeWith yL_isOn cL_isOn 4 (some .int) [(0, 16, 19, 21), (0, 16, 22, 13)] :: wsA)) B.pre
  have hown : s.vm.findClass RL = some m.cls := findClass_of_methodNamed B.named
  have hlocks := B.notSynchronized
  have htb := vx_table (x := yL_isOn) B (hts _ (.head _))
  subst hsz
  have hD := hD0.self (sz := s.heap.size)
  generalize hAe : va_A (cW ad T.1 (cc cI cJ cZ cMic cSrc cSt cAI cAJ ad T) ++ [oJ ao cJ f]) s.heap.size = A at hD hX hA0 ⊢
  have hA : ∀ q : Nat, s.heap.size ≤ q → A q := fun q h => by rw [← hAe]; exact Or.inr h
  have G : gL cI cJ cZ cMic cSrc cSt cAI cAJ D ad A s.heap s.heap [] T [oJ ao cJ f] := ⟨hP, hD, va_S.rf⟩
  have E : cE p c cL_isOn s m ([.ref (ad o), .int a0, .ref ao] : List Value).toArray (Cond.codeWith yL_isOn cL_isOn 4 (some .int) [(0, 16, 19, 21), (0, 16, 22, 13)] :: wsA) D RL (CT cI cJ cZ cMic cSrc cSt cAI cAJ ++ [(cD, .double)]) := ⟨hx, hb, hts, hown, hK⟩
  have hl := lv_entry ([.ref (ad o), .int a0, .ref ao]) (n := 4) (Nat.le_of_ble_eq_true rfl)
  rw [lg_entry_eq]
  generalize (lg_sl ([.ref (ad o), .int a0, .ref ao]) ++ List.replicate (4 - (lg_sl ([.ref (ad o), .int a0, .ref ao])).length) Slot.unset).toArray = ls at hl ⊢
  have hl : lv_has ls 4 [(0, .ref (ad o)), (1, .int a0), (2, .ref ao)] := hl
  refine lv_aload_n hx hb dL_isOn_0 rfl (lv_at hl 2 rfl) ?_
  refine lv_iconst (v := 0) hx hb dL_isOn_1 (by decide) ?_
  refine lv_aload_n hx hb dL_isOn_2 rfl (lv_at hl 0 rfl) ?_
  refine lv_iload_n hx hb dL_isOn_3 rfl (lv_at hl 1 rfl) ?_
  refine t_cvi (As := [.int a0]) (rest := [.int 0, .ref ao]) E G hA hX hX.2.2.2.1 hml (u_X11_isOn l hst D cI cJ cZ cMic cSrc cSt cAI cAJ ad T o a0 h) (cwV 1 hts (gaV qA_969 qA_970 qA_971 qA_131 qA_771) rfl rfl rfl (by decide +kernel) ⟨Nat.le_of_ble_eq_true rfl, Nat.le_of_ble_eq_true rfl⟩) h_o (cc_o11 h_s) rfl rfl hl.1 rfl (lv_room (Nat.le_of_ble_eq_true rfl)) dL_isOn_4 ⟨by show 0 + (0) ≤ T1.1 - T.1 + 1; omega, by show 0 + (0) ≤ sg T1 - sg T + 6; omega⟩ ?_
  intro r9 S1 H locs hp G
  obtain ⟨hr9, hS1⟩ := hp
  rw [hS1] at G
  rw [hr9]
  have had : ∀ n, n < T.1 → ad n = ad n := fun _ _ => rfl
  refine lv_if_eq (tgt := 14) hx hb dL_isOn_7 (by decide) (fun c1 => ?_) (fun c1 => ?_)
  · refine lv_lconst (v := vzb r1) hx hb dL_isOn_14 (by rw [vzb, if_pos c1]; rfl) ?_
    refine t_last E G dL_isOn_15 (fun H locs G => ?_)
    refine lv_goto (tgt := 25) hx hb dL_isOn_16 (by decide) ?_
    refine lv_iconst (v := 0) hx hb dL_isOn_25 (by decide) ?_
    refine W.widen (k := T1.1 - T.1 + 1) (n := sg T1 - sg T + 6) (by omega) (by omega) ?_
    exact W.iret (v := 0) hx hb hr (fun t ht hW => ⟨⟨0, ad, rfl, ⟨rfl, had⟩, ⟨by rw [ht]; exact G.1, va_K.moved hW.alike hK, G.2.1⟩⟩, G.2.2.F ht⟩) G.2.2.2.2 dL_isOn_26
  · refine lv_lconst (v := vzb r1) hx hb dL_isOn_10 (by rw [vzb, if_neg c1]; rfl) ?_
    refine lv_goto (tgt := 15) hx hb dL_isOn_11 (by decide) ?_
    refine t_last E G dL_isOn_15 (fun H locs G => ?_)
    refine lv_goto (tgt := 25) hx hb dL_isOn_16 (by decide) ?_
    refine lv_iconst (v := 0) hx hb dL_isOn_25 (by decide) ?_
    refine W.widen (k := T1.1 - T.1 + 1) (n := sg T1 - sg T + 6) (by omega) (by omega) ?_
    exact W.iret (v := 0) hx hb hr (fun t ht hW => ⟨⟨0, ad, rfl, ⟨rfl, had⟩, ⟨by rw [ht]; exact G.1, va_K.moved hW.alike hK, G.2.1⟩⟩, G.2.2.F ht⟩) G.2.2.2.2 dL_isOn_26
set_option maxHeartbeats 4000000 in
set_option maxRecDepth 100000 in
theorem v_isOn_t (l : Launch) (hst : l.stackTraces = false) (D : va_G) {cI cJ cZ cMic cSrc cSt cAI cAJ cD : ClassId} (h0 : Nat) (ad : Nat → Nat) (T : AT) (o : Nat) (a0 : Int32) (ao : Nat) (f : Nat → Int64) {e1 : Nat} {r1 : Int32} {T1 : AT} (h : g_X11_isOn T o a0 = some (e1 + 1, r1, T1)) (hrc : RC T) (h_o : o < T.1) (h_s : T.2.1 o = (11, 0)) : tWi l yL_isOn (Cond.codeWith yL_isOn cL_isOn 4 (some .int) [(0, 16, 19, 21), (0, 16, 22, 13)] :: wsA) 9 144 cI cJ cZ cMic cSrc cSt cAI cAJ cD D h0 ad T (oJ ao cJ f) [.ref (ad o), .int a0, .ref ao] (vck 1 2 0 (e1 + 1)) T1 (oJ ao cJ (vfJ (e1 + 1) f (vzb r1))) := by
  intro sz
  refine va_MetW (cc := cL_isOn) (maxL := 4) (ret := some .int) (by decide) rfl ?_
  intro p e s m args below meth c s₁ B hml hv
  obtain ⟨rfl, hsz, hP, hK, hD0, hX, hN, hA0, hTS⟩ := hv
  have hx := B.exec
  have hb := B.bytes
  have hr := B.returns
  have hts := atoms_spec (ws := (Cond.codeWith yL_isOn cL_isOn 4 (some .int) [(0, 16, 19, 21), (0, 16, 22, 13)] :: wsA)) B.pre
  have hown : s.vm.findClass RL = some m.cls := findClass_of_methodNamed B.named
  have hlocks := B.notSynchronized
  have htb := vx_table (x := yL_isOn) B (hts _ (.head _))
  subst hsz
  have hD := hD0.self (sz := s.heap.size)
  generalize hAe : va_A (cW ad T.1 (cc cI cJ cZ cMic cSrc cSt cAI cAJ ad T) ++ [oJ ao cJ f]) s.heap.size = A at hD hX hA0 ⊢
  have hA : ∀ q : Nat, s.heap.size ≤ q → A q := fun q h => by rw [← hAe]; exact Or.inr h
  have G : gL cI cJ cZ cMic cSrc cSt cAI cAJ D ad A s.heap s.heap [] T [oJ ao cJ f] := ⟨hP, hD, va_S.rf⟩
  have E : cE p c cL_isOn s m ([.ref (ad o), .int a0, .ref ao] : List Value).toArray (Cond.codeWith yL_isOn cL_isOn 4 (some .int) [(0, 16, 19, 21), (0, 16, 22, 13)] :: wsA) D RL (CT cI cJ cZ cMic cSrc cSt cAI cAJ ++ [(cD, .double)]) := ⟨hx, hb, hts, hown, hK⟩
  have hl := lv_entry ([.ref (ad o), .int a0, .ref ao]) (n := 4) (Nat.le_of_ble_eq_true rfl)
  rw [lg_entry_eq]
  generalize (lg_sl ([.ref (ad o), .int a0, .ref ao]) ++ List.replicate (4 - (lg_sl ([.ref (ad o), .int a0, .ref ao])).length) Slot.unset).toArray = ls at hl ⊢
  have hl : lv_has ls 4 [(0, .ref (ad o)), (1, .int a0), (2, .ref ao)] := hl
  refine lv_aload_n hx hb dL_isOn_0 rfl (lv_at hl 2 rfl) ?_
  refine lv_iconst (v := 0) hx hb dL_isOn_1 (by decide) ?_
  refine lv_aload_n hx hb dL_isOn_2 rfl (lv_at hl 0 rfl) ?_
  refine lv_iload_n hx hb dL_isOn_3 rfl (lv_at hl 1 rfl) ?_
  refine t_xvi (As := [.int a0]) (rest := [.int 0, .ref ao]) E G hA hX hX.2.2.2.1 hml (x_X11_isOn l hst D cI cJ cZ cMic cSrc cSt cAI cAJ ad T o a0 h) (cwV 1 hts (gaV qA_969 qA_970 qA_971 qA_131 qA_771) rfl rfl rfl (by decide +kernel) ⟨Nat.le_of_ble_eq_true rfl, Nat.le_of_ble_eq_true rfl⟩) h_o (cc_o11 h_s) rfl rfl hl.1 rfl (lv_room (Nat.le_of_ble_eq_true rfl)) dL_isOn_4 ⟨by show 0 + (1) ≤ T1.1 - T.1 + 1; omega, by show 0 + (6) ≤ sg T1 - sg T + 6; omega⟩ ?_
  intro E9 ce q9 S1 H locs hp G hce hcv hcl
  obtain ⟨hE, hS1⟩ := hp
  rw [hS1] at G
  have had : ∀ n, n < T.1 → ad n = ad n := fun _ _ => rfl
  rcases e1 with _ | _ | e1
  · have hE : E9 = xISE := hE
    subst hE
    refine vx_catch (name := xISE) hown [] { startPc := 0, endPc := 16, handlerPc := 19, catchType := 21 } [{ startPc := 0, endPc := 16, handlerPc := 22, catchType := 13 }] htb (fun z hz => absurd hz List.not_mem_nil) (by decide) (by decide) (hts _ (.tail _ qA_952)) (hX.use (.castable xISE xISE) (by decide +kernel)) hce hcv hcl ?_
    refine lv_astore_n (lv' := [(3, .ref q9), (0, .ref (ad o)), (1, .int a0), (2, .ref ao)]) hx hb dL_isOn_19 rfl hl (by decide) rfl (fun ls hl => ?_)
    refine lv_iconst (v := 1) hx hb dL_isOn_20 (by decide) ?_
    refine W.widen (k := T1.1 - T.1 + 1) (n := sg T1 - sg T + 6) (by omega) (by omega) ?_
    exact W.iret (v := 1) hx hb hr (fun t ht hW => ⟨⟨1, ad, rfl, ⟨rfl, had⟩, ⟨by rw [ht]; exact G.1, va_K.moved hW.alike hK, G.2.1⟩⟩, G.2.2.F ht⟩) G.2.2.2.2 dL_isOn_21
  · have hE : E9 = xIOB := hE
    subst hE
    refine vx_catch (name := xIOB) hown [{ startPc := 0, endPc := 16, handlerPc := 19, catchType := 21 }] { startPc := 0, endPc := 16, handlerPc := 22, catchType := 13 } [] htb (List.forall_mem_cons.mpr ⟨Or.inr ⟨by decide, xISE, hts _ (.tail _ qA_952), hN.2.2.1⟩, fun z hz => absurd hz List.not_mem_nil⟩) (by decide) (by decide) (hts _ (.tail _ qA_946)) (hX.use (.castable xIOB xIOB) (by decide +kernel)) hce hcv hcl ?_
    refine lv_astore_n (lv' := [(3, .ref q9), (0, .ref (ad o)), (1, .int a0), (2, .ref ao)]) hx hb dL_isOn_22 rfl hl (by decide) rfl (fun ls hl => ?_)
    refine lv_iconst (v := 2) hx hb dL_isOn_23 (by decide) ?_
    refine W.widen (k := T1.1 - T.1 + 1) (n := sg T1 - sg T + 6) (by omega) (by omega) ?_
    exact W.iret (v := 2) hx hb hr (fun t ht hW => ⟨⟨2, ad, rfl, ⟨rfl, had⟩, ⟨by rw [ht]; exact G.1, va_K.moved hW.alike hK, G.2.1⟩⟩, G.2.2.F ht⟩) G.2.2.2.2 dL_isOn_24
  · have q := (cd_g_X11_isOn (S := [0, 1, 2]) (fun _ h => h) T o a0 _ _ _ h)
    simp only [List.mem_cons, List.not_mem_nil, or_false] at q
    omega
theorem v_isOn (l : Launch) (hst : l.stackTraces = false) (D : va_G) {cI cJ cZ cMic cSrc cSt cAI cAJ cD : ClassId} (h0 : Nat) (ad : Nat → Nat) (T : AT) (o : Nat) (a0 : Int32) (ao : Nat) (f : Nat → Int64) {k1 : Nat} {r1 : Int32} {T1 : AT} (h : g_X11_isOn T o a0 = some (k1, r1, T1)) (hrc : RC T) (h_o : o < T.1) (h_s : T.2.1 o = (11, 0)) : tWi l yL_isOn (Cond.codeWith yL_isOn cL_isOn 4 (some .int) [(0, 16, 19, 21), (0, 16, 22, 13)] :: wsA) 9 144 cI cJ cZ cMic cSrc cSt cAI cAJ cD D h0 ad T (oJ ao cJ f) [.ref (ad o), .int a0, .ref ao] (vck 1 2 0 k1) T1 (oJ ao cJ (vfJ k1 f (vzb r1))) := by
  cases k1 with
  | zero => exact v_isOn_n l hst D h0 ad T o a0 ao f h hrc h_o h_s
  | succ e1 => exact v_isOn_t l hst D h0 ad T o a0 ao f h hrc h_o h_s
set_option maxHeartbeats 4000000 in
set_option maxRecDepth 100000 in
theorem v_waveAt_n (l : Launch) (hst : l.stackTraces = false) (D : va_G) {cI cJ cZ cMic cSrc cSt cAI cAJ cD : ClassId} (h0 : Nat) (ad : Nat → Nat) (T : AT) (o : Nat) (a0 a1 : Int32) (ao : Nat) (f : Nat → Int64) {r1 : Int32} {T1 : AT} (h : g_X11_waveAt T o a0 a1 = some (0, r1, T1)) (hrc : RC T) (h_o : o < T.1) (h_s : T.2.1 o = (11, 0)) : tWi l yL_waveAt (Cond.codeWith yL_waveAt cL_waveAt 5 (some .int) [(0, 10, 13, 21), (0, 10, 17, 13), (0, 10, 21, 15)] :: wsA) 9 145 cI cJ cZ cMic cSrc cSt cAI cAJ cD D h0 ad T (oJ ao cJ f) [.ref (ad o), .int a0, .int a1, .ref ao] (vck 1 2 3 (0)) T1 (oJ ao cJ (vfJ (0) f r1.toInt64)) := by
  intro sz
  refine va_MetW (cc := cL_waveAt) (maxL := 5) (ret := some .int) (by decide) rfl ?_
  intro p e s m args below meth c s₁ B hml hv
  obtain ⟨rfl, hsz, hP, hK, hD0, hX, hN, hA0, hTS⟩ := hv
  have hx := B.exec
  have hb := B.bytes
  have hr := B.returns
  have hts := atoms_spec (ws := (Cond.codeWith yL_waveAt cL_waveAt 5 (some .int) [(0, 10, 13, 21), (0, 10, 17, 13), (0, 10, 21, 15)] :: wsA)) B.pre
  have hown : s.vm.findClass RL = some m.cls := findClass_of_methodNamed B.named
  have hlocks := B.notSynchronized
  have htb := vx_table (x := yL_waveAt) B (hts _ (.head _))
  subst hsz
  have hD := hD0.self (sz := s.heap.size)
  generalize hAe : va_A (cW ad T.1 (cc cI cJ cZ cMic cSrc cSt cAI cAJ ad T) ++ [oJ ao cJ f]) s.heap.size = A at hD hX hA0 ⊢
  have hA : ∀ q : Nat, s.heap.size ≤ q → A q := fun q h => by rw [← hAe]; exact Or.inr h
  have G : gL cI cJ cZ cMic cSrc cSt cAI cAJ D ad A s.heap s.heap [] T [oJ ao cJ f] := ⟨hP, hD, va_S.rf⟩
  have E : cE p c cL_waveAt s m ([.ref (ad o), .int a0, .int a1, .ref ao] : List Value).toArray (Cond.codeWith yL_waveAt cL_waveAt 5 (some .int) [(0, 10, 13, 21), (0, 10, 17, 13), (0, 10, 21, 15)] :: wsA) D RL (CT cI cJ cZ cMic cSrc cSt cAI cAJ ++ [(cD, .double)]) := ⟨hx, hb, hts, hown, hK⟩
  have hl := lv_entry ([.ref (ad o), .int a0, .int a1, .ref ao]) (n := 5) (Nat.le_of_ble_eq_true rfl)
  rw [lg_entry_eq]
  generalize (lg_sl ([.ref (ad o), .int a0, .int a1, .ref ao]) ++ List.replicate (5 - (lg_sl ([.ref (ad o), .int a0, .int a1, .ref ao])).length) Slot.unset).toArray = ls at hl ⊢
  have hl : lv_has ls 5 [(0, .ref (ad o)), (1, .int a0), (2, .int a1), (3, .ref ao)] := hl
  refine lv_aload_n hx hb dL_waveAt_0 rfl (lv_at hl 3 rfl) ?_
  refine lv_iconst (v := 0) hx hb dL_waveAt_1 (by decide) ?_
  refine lv_aload_n hx hb dL_waveAt_2 rfl (lv_at hl 0 rfl) ?_
  refine lv_iload_n hx hb dL_waveAt_3 rfl (lv_at hl 1 rfl) ?_
  refine lv_iload_n hx hb dL_waveAt_4 rfl (lv_at hl 2 rfl) ?_
  refine t_cvi (As := [.int a0, .int a1]) (rest := [.int 0, .ref ao]) E G hA hX hX.2.2.2.1 hml (u_X11_waveAt l hst D cI cJ cZ cMic cSrc cSt cAI cAJ ad T o a0 a1 h) (cwV 2 hts (gaV qA_973 qA_974 qA_975 qA_131 qA_773) rfl rfl rfl (by decide +kernel) ⟨Nat.le_of_ble_eq_true rfl, Nat.le_of_ble_eq_true rfl⟩) h_o (cc_o11 h_s) rfl rfl hl.1 rfl (lv_room (Nat.le_of_ble_eq_true rfl)) dL_waveAt_5 ⟨by show 0 + (0) ≤ T1.1 - T.1 + 1; omega, by show 0 + (0) ≤ sg T1 - sg T + 6; omega⟩ ?_
  intro r9 S1 H locs hp G
  obtain ⟨hr9, hS1⟩ := hp
  rw [hS1] at G
  rw [hr9]
  have had : ∀ n, n < T.1 → ad n = ad n := fun _ _ => rfl
  refine lv_i2l (v := r1.toInt64) hx hb dL_waveAt_8 rfl ?_
  refine t_last E G dL_waveAt_9 (fun H locs G => ?_)
  refine lv_goto (tgt := 25) hx hb dL_waveAt_10 (by decide) ?_
  refine lv_iconst (v := 0) hx hb dL_waveAt_25 (by decide) ?_
  refine W.widen (k := T1.1 - T.1 + 1) (n := sg T1 - sg T + 6) (by omega) (by omega) ?_
  exact W.iret (v := 0) hx hb hr (fun t ht hW => ⟨⟨0, ad, rfl, ⟨rfl, had⟩, ⟨by rw [ht]; exact G.1, va_K.moved hW.alike hK, G.2.1⟩⟩, G.2.2.F ht⟩) G.2.2.2.2 dL_waveAt_26
set_option maxHeartbeats 4000000 in
set_option maxRecDepth 100000 in
theorem v_waveAt_t (l : Launch) (hst : l.stackTraces = false) (D : va_G) {cI cJ cZ cMic cSrc cSt cAI cAJ cD : ClassId} (h0 : Nat) (ad : Nat → Nat) (T : AT) (o : Nat) (a0 a1 : Int32) (ao : Nat) (f : Nat → Int64) {e1 : Nat} {r1 : Int32} {T1 : AT} (h : g_X11_waveAt T o a0 a1 = some (e1 + 1, r1, T1)) (hrc : RC T) (h_o : o < T.1) (h_s : T.2.1 o = (11, 0)) : tWi l yL_waveAt (Cond.codeWith yL_waveAt cL_waveAt 5 (some .int) [(0, 10, 13, 21), (0, 10, 17, 13), (0, 10, 21, 15)] :: wsA) 9 145 cI cJ cZ cMic cSrc cSt cAI cAJ cD D h0 ad T (oJ ao cJ f) [.ref (ad o), .int a0, .int a1, .ref ao] (vck 1 2 3 (e1 + 1)) T1 (oJ ao cJ (vfJ (e1 + 1) f r1.toInt64)) := by
  intro sz
  refine va_MetW (cc := cL_waveAt) (maxL := 5) (ret := some .int) (by decide) rfl ?_
  intro p e s m args below meth c s₁ B hml hv
  obtain ⟨rfl, hsz, hP, hK, hD0, hX, hN, hA0, hTS⟩ := hv
  have hx := B.exec
  have hb := B.bytes
  have hr := B.returns
  have hts := atoms_spec (ws := (Cond.codeWith yL_waveAt cL_waveAt 5 (some .int) [(0, 10, 13, 21), (0, 10, 17, 13), (0, 10, 21, 15)] :: wsA)) B.pre
  have hown : s.vm.findClass RL = some m.cls := findClass_of_methodNamed B.named
  have hlocks := B.notSynchronized
  have htb := vx_table (x := yL_waveAt) B (hts _ (.head _))
  subst hsz
  have hD := hD0.self (sz := s.heap.size)
  generalize hAe : va_A (cW ad T.1 (cc cI cJ cZ cMic cSrc cSt cAI cAJ ad T) ++ [oJ ao cJ f]) s.heap.size = A at hD hX hA0 ⊢
  have hA : ∀ q : Nat, s.heap.size ≤ q → A q := fun q h => by rw [← hAe]; exact Or.inr h
  have G : gL cI cJ cZ cMic cSrc cSt cAI cAJ D ad A s.heap s.heap [] T [oJ ao cJ f] := ⟨hP, hD, va_S.rf⟩
  have E : cE p c cL_waveAt s m ([.ref (ad o), .int a0, .int a1, .ref ao] : List Value).toArray (Cond.codeWith yL_waveAt cL_waveAt 5 (some .int) [(0, 10, 13, 21), (0, 10, 17, 13), (0, 10, 21, 15)] :: wsA) D RL (CT cI cJ cZ cMic cSrc cSt cAI cAJ ++ [(cD, .double)]) := ⟨hx, hb, hts, hown, hK⟩
  have hl := lv_entry ([.ref (ad o), .int a0, .int a1, .ref ao]) (n := 5) (Nat.le_of_ble_eq_true rfl)
  rw [lg_entry_eq]
  generalize (lg_sl ([.ref (ad o), .int a0, .int a1, .ref ao]) ++ List.replicate (5 - (lg_sl ([.ref (ad o), .int a0, .int a1, .ref ao])).length) Slot.unset).toArray = ls at hl ⊢
  have hl : lv_has ls 5 [(0, .ref (ad o)), (1, .int a0), (2, .int a1), (3, .ref ao)] := hl
  refine lv_aload_n hx hb dL_waveAt_0 rfl (lv_at hl 3 rfl) ?_
  refine lv_iconst (v := 0) hx hb dL_waveAt_1 (by decide) ?_
  refine lv_aload_n hx hb dL_waveAt_2 rfl (lv_at hl 0 rfl) ?_
  refine lv_iload_n hx hb dL_waveAt_3 rfl (lv_at hl 1 rfl) ?_
  refine lv_iload_n hx hb dL_waveAt_4 rfl (lv_at hl 2 rfl) ?_
  refine t_xvi (As := [.int a0, .int a1]) (rest := [.int 0, .ref ao]) E G hA hX hX.2.2.2.1 hml (x_X11_waveAt l hst D cI cJ cZ cMic cSrc cSt cAI cAJ ad T o a0 a1 h) (cwV 2 hts (gaV qA_973 qA_974 qA_975 qA_131 qA_773) rfl rfl rfl (by decide +kernel) ⟨Nat.le_of_ble_eq_true rfl, Nat.le_of_ble_eq_true rfl⟩) h_o (cc_o11 h_s) rfl rfl hl.1 rfl (lv_room (Nat.le_of_ble_eq_true rfl)) dL_waveAt_5 ⟨by show 0 + (1) ≤ T1.1 - T.1 + 1; omega, by show 0 + (6) ≤ sg T1 - sg T + 6; omega⟩ ?_
  intro E9 ce q9 S1 H locs hp G hce hcv hcl
  obtain ⟨hE, hS1⟩ := hp
  rw [hS1] at G
  have had : ∀ n, n < T.1 → ad n = ad n := fun _ _ => rfl
  rcases e1 with _ | _ | e1
  · have hE : E9 = xISE := hE
    subst hE
    refine vx_catch (name := xISE) hown [] { startPc := 0, endPc := 10, handlerPc := 13, catchType := 21 } [{ startPc := 0, endPc := 10, handlerPc := 17, catchType := 13 }, { startPc := 0, endPc := 10, handlerPc := 21, catchType := 15 }] htb (fun z hz => absurd hz List.not_mem_nil) (by decide) (by decide) (hts _ (.tail _ qA_952)) (hX.use (.castable xISE xISE) (by decide +kernel)) hce hcv hcl ?_
    refine lv_astore (lv' := [(4, .ref q9), (0, .ref (ad o)), (1, .int a0), (2, .int a1), (3, .ref ao)]) hx hb dL_waveAt_13 hl (by decide) rfl (fun ls hl => ?_)
    refine lv_iconst (v := 1) hx hb dL_waveAt_15 (by decide) ?_
    refine W.widen (k := T1.1 - T.1 + 1) (n := sg T1 - sg T + 6) (by omega) (by omega) ?_
    exact W.iret (v := 1) hx hb hr (fun t ht hW => ⟨⟨1, ad, rfl, ⟨rfl, had⟩, ⟨by rw [ht]; exact G.1, va_K.moved hW.alike hK, G.2.1⟩⟩, G.2.2.F ht⟩) G.2.2.2.2 dL_waveAt_16
  · have hE : E9 = xIOB := hE
    subst hE
    refine vx_catch (name := xIOB) hown [{ startPc := 0, endPc := 10, handlerPc := 13, catchType := 21 }] { startPc := 0, endPc := 10, handlerPc := 17, catchType := 13 } [{ startPc := 0, endPc := 10, handlerPc := 21, catchType := 15 }] htb (List.forall_mem_cons.mpr ⟨Or.inr ⟨by decide, xISE, hts _ (.tail _ qA_952), hN.2.2.1⟩, fun z hz => absurd hz List.not_mem_nil⟩) (by decide) (by decide) (hts _ (.tail _ qA_946)) (hX.use (.castable xIOB xIOB) (by decide +kernel)) hce hcv hcl ?_
    refine lv_astore (lv' := [(4, .ref q9), (0, .ref (ad o)), (1, .int a0), (2, .int a1), (3, .ref ao)]) hx hb dL_waveAt_17 hl (by decide) rfl (fun ls hl => ?_)
    refine lv_iconst (v := 2) hx hb dL_waveAt_19 (by decide) ?_
    refine W.widen (k := T1.1 - T.1 + 1) (n := sg T1 - sg T + 6) (by omega) (by omega) ?_
    exact W.iret (v := 2) hx hb hr (fun t ht hW => ⟨⟨2, ad, rfl, ⟨rfl, had⟩, ⟨by rw [ht]; exact G.1, va_K.moved hW.alike hK, G.2.1⟩⟩, G.2.2.F ht⟩) G.2.2.2.2 dL_waveAt_20
  · have hE : E9 = xIAE := hE
    subst hE
    refine vx_catch (name := xIAE) hown [{ startPc := 0, endPc := 10, handlerPc := 13, catchType := 21 }, { startPc := 0, endPc := 10, handlerPc := 17, catchType := 13 }] { startPc := 0, endPc := 10, handlerPc := 21, catchType := 15 } [] htb (List.forall_mem_cons.mpr ⟨Or.inr ⟨by decide, xISE, hts _ (.tail _ qA_952), hN.2.2.2⟩, List.forall_mem_cons.mpr ⟨Or.inr ⟨by decide, xIOB, hts _ (.tail _ qA_946), hN.1⟩, fun z hz => absurd hz List.not_mem_nil⟩⟩) (by decide) (by decide) (hts _ (.tail _ qA_947)) (hX.use (.castable xIAE xIAE) (by decide +kernel)) hce hcv hcl ?_
    refine lv_astore (lv' := [(4, .ref q9), (0, .ref (ad o)), (1, .int a0), (2, .int a1), (3, .ref ao)]) hx hb dL_waveAt_21 hl (by decide) rfl (fun ls hl => ?_)
    refine lv_iconst (v := 3) hx hb dL_waveAt_23 (by decide) ?_
    refine W.widen (k := T1.1 - T.1 + 1) (n := sg T1 - sg T + 6) (by omega) (by omega) ?_
    exact W.iret (v := 3) hx hb hr (fun t ht hW => ⟨⟨3, ad, rfl, ⟨rfl, had⟩, ⟨by rw [ht]; exact G.1, va_K.moved hW.alike hK, G.2.1⟩⟩, G.2.2.F ht⟩) G.2.2.2.2 dL_waveAt_24
theorem v_waveAt (l : Launch) (hst : l.stackTraces = false) (D : va_G) {cI cJ cZ cMic cSrc cSt cAI cAJ cD : ClassId} (h0 : Nat) (ad : Nat → Nat) (T : AT) (o : Nat) (a0 a1 : Int32) (ao : Nat) (f : Nat → Int64) {k1 : Nat} {r1 : Int32} {T1 : AT} (h : g_X11_waveAt T o a0 a1 = some (k1, r1, T1)) (hrc : RC T) (h_o : o < T.1) (h_s : T.2.1 o = (11, 0)) : tWi l yL_waveAt (Cond.codeWith yL_waveAt cL_waveAt 5 (some .int) [(0, 10, 13, 21), (0, 10, 17, 13), (0, 10, 21, 15)] :: wsA) 9 145 cI cJ cZ cMic cSrc cSt cAI cAJ cD D h0 ad T (oJ ao cJ f) [.ref (ad o), .int a0, .int a1, .ref ao] (vck 1 2 3 k1) T1 (oJ ao cJ (vfJ k1 f r1.toInt64)) := by
  cases k1 with
  | zero => exact v_waveAt_n l hst D h0 ad T o a0 a1 ao f h hrc h_o h_s
  | succ e1 => exact v_waveAt_t l hst D h0 ad T o a0 a1 ao f h hrc h_o h_s
set_option maxHeartbeats 4000000 in
set_option maxRecDepth 100000 in
theorem v_delay_n (l : Launch) (hst : l.stackTraces = false) (D : va_G) {cI cJ cZ cMic cSrc cSt cAI cAJ cD : ClassId} (h0 : Nat) (ad : Nat → Nat) (T : AT) (o : Nat) (a0 a1 : Int32) (ao : Nat) (f : Nat → Int64) {r1 : Int32} {T1 : AT} (h : g_X11_delay T o a0 a1 = some (0, r1, T1)) (hrc : RC T) (h_o : o < T.1) (h_s : T.2.1 o = (11, 0)) : tWi l yL_delay (Cond.codeWith yL_delay cL_delay 5 (some .int) [(0, 10, 13, 21), (0, 10, 17, 13)] :: wsA) 9 145 cI cJ cZ cMic cSrc cSt cAI cAJ cD D h0 ad T (oJ ao cJ f) [.ref (ad o), .int a0, .int a1, .ref ao] (vck 1 2 0 (0)) T1 (oJ ao cJ (vfJ (0) f r1.toInt64)) := by
  intro sz
  refine va_MetW (cc := cL_delay) (maxL := 5) (ret := some .int) (by decide) rfl ?_
  intro p e s m args below meth c s₁ B hml hv
  obtain ⟨rfl, hsz, hP, hK, hD0, hX, hN, hA0, hTS⟩ := hv
  have hx := B.exec
  have hb := B.bytes
  have hr := B.returns
  have hts := atoms_spec (ws := (Cond.codeWith yL_delay cL_delay 5 (some .int) [(0, 10, 13, 21), (0, 10, 17, 13)] :: wsA)) B.pre
  have hown : s.vm.findClass RL = some m.cls := findClass_of_methodNamed B.named
  have hlocks := B.notSynchronized
  have htb := vx_table (x := yL_delay) B (hts _ (.head _))
  subst hsz
  have hD := hD0.self (sz := s.heap.size)
  generalize hAe : va_A (cW ad T.1 (cc cI cJ cZ cMic cSrc cSt cAI cAJ ad T) ++ [oJ ao cJ f]) s.heap.size = A at hD hX hA0 ⊢
  have hA : ∀ q : Nat, s.heap.size ≤ q → A q := fun q h => by rw [← hAe]; exact Or.inr h
  have G : gL cI cJ cZ cMic cSrc cSt cAI cAJ D ad A s.heap s.heap [] T [oJ ao cJ f] := ⟨hP, hD, va_S.rf⟩
  have E : cE p c cL_delay s m ([.ref (ad o), .int a0, .int a1, .ref ao] : List Value).toArray (Cond.codeWith yL_delay cL_delay 5 (some .int) [(0, 10, 13, 21), (0, 10, 17, 13)] :: wsA) D RL (CT cI cJ cZ cMic cSrc cSt cAI cAJ ++ [(cD, .double)]) := ⟨hx, hb, hts, hown, hK⟩
  have hl := lv_entry ([.ref (ad o), .int a0, .int a1, .ref ao]) (n := 5) (Nat.le_of_ble_eq_true rfl)
  rw [lg_entry_eq]
  generalize (lg_sl ([.ref (ad o), .int a0, .int a1, .ref ao]) ++ List.replicate (5 - (lg_sl ([.ref (ad o), .int a0, .int a1, .ref ao])).length) Slot.unset).toArray = ls at hl ⊢
  have hl : lv_has ls 5 [(0, .ref (ad o)), (1, .int a0), (2, .int a1), (3, .ref ao)] := hl
  refine lv_aload_n hx hb dL_delay_0 rfl (lv_at hl 3 rfl) ?_
  refine lv_iconst (v := 0) hx hb dL_delay_1 (by decide) ?_
  refine lv_aload_n hx hb dL_delay_2 rfl (lv_at hl 0 rfl) ?_
  refine lv_iload_n hx hb dL_delay_3 rfl (lv_at hl 1 rfl) ?_
  refine lv_iload_n hx hb dL_delay_4 rfl (lv_at hl 2 rfl) ?_
  refine t_cvi (As := [.int a0, .int a1]) (rest := [.int 0, .ref ao]) E G hA hX hX.2.2.2.1 hml (u_X11_delay l hst D cI cJ cZ cMic cSrc cSt cAI cAJ ad T o a0 a1 h) (cwV 2 hts (gaV qA_977 qA_978 qA_979 qA_131 qA_777) rfl rfl rfl (by decide +kernel) ⟨Nat.le_of_ble_eq_true rfl, Nat.le_of_ble_eq_true rfl⟩) h_o (cc_o11 h_s) rfl rfl hl.1 rfl (lv_room (Nat.le_of_ble_eq_true rfl)) dL_delay_5 ⟨by show 0 + (0) ≤ T1.1 - T.1 + 1; omega, by show 0 + (0) ≤ sg T1 - sg T + 6; omega⟩ ?_
  intro r9 S1 H locs hp G
  obtain ⟨hr9, hS1⟩ := hp
  rw [hS1] at G
  rw [hr9]
  have had : ∀ n, n < T.1 → ad n = ad n := fun _ _ => rfl
  refine lv_i2l (v := r1.toInt64) hx hb dL_delay_8 rfl ?_
  refine t_last E G dL_delay_9 (fun H locs G => ?_)
  refine lv_goto (tgt := 21) hx hb dL_delay_10 (by decide) ?_
  refine lv_iconst (v := 0) hx hb dL_delay_21 (by decide) ?_
  refine W.widen (k := T1.1 - T.1 + 1) (n := sg T1 - sg T + 6) (by omega) (by omega) ?_
  exact W.iret (v := 0) hx hb hr (fun t ht hW => ⟨⟨0, ad, rfl, ⟨rfl, had⟩, ⟨by rw [ht]; exact G.1, va_K.moved hW.alike hK, G.2.1⟩⟩, G.2.2.F ht⟩) G.2.2.2.2 dL_delay_22
set_option maxHeartbeats 4000000 in
set_option maxRecDepth 100000 in
theorem v_delay_t (l : Launch) (hst : l.stackTraces = false) (D : va_G) {cI cJ cZ cMic cSrc cSt cAI cAJ cD : ClassId} (h0 : Nat) (ad : Nat → Nat) (T : AT) (o : Nat) (a0 a1 : Int32) (ao : Nat) (f : Nat → Int64) {e1 : Nat} {r1 : Int32} {T1 : AT} (h : g_X11_delay T o a0 a1 = some (e1 + 1, r1, T1)) (hrc : RC T) (h_o : o < T.1) (h_s : T.2.1 o = (11, 0)) : tWi l yL_delay (Cond.codeWith yL_delay cL_delay 5 (some .int) [(0, 10, 13, 21), (0, 10, 17, 13)] :: wsA) 9 145 cI cJ cZ cMic cSrc cSt cAI cAJ cD D h0 ad T (oJ ao cJ f) [.ref (ad o), .int a0, .int a1, .ref ao] (vck 1 2 0 (e1 + 1)) T1 (oJ ao cJ (vfJ (e1 + 1) f r1.toInt64)) := by
  intro sz
  refine va_MetW (cc := cL_delay) (maxL := 5) (ret := some .int) (by decide) rfl ?_
  intro p e s m args below meth c s₁ B hml hv
  obtain ⟨rfl, hsz, hP, hK, hD0, hX, hN, hA0, hTS⟩ := hv
  have hx := B.exec
  have hb := B.bytes
  have hr := B.returns
  have hts := atoms_spec (ws := (Cond.codeWith yL_delay cL_delay 5 (some .int) [(0, 10, 13, 21), (0, 10, 17, 13)] :: wsA)) B.pre
  have hown : s.vm.findClass RL = some m.cls := findClass_of_methodNamed B.named
  have hlocks := B.notSynchronized
  have htb := vx_table (x := yL_delay) B (hts _ (.head _))
  subst hsz
  have hD := hD0.self (sz := s.heap.size)
  generalize hAe : va_A (cW ad T.1 (cc cI cJ cZ cMic cSrc cSt cAI cAJ ad T) ++ [oJ ao cJ f]) s.heap.size = A at hD hX hA0 ⊢
  have hA : ∀ q : Nat, s.heap.size ≤ q → A q := fun q h => by rw [← hAe]; exact Or.inr h
  have G : gL cI cJ cZ cMic cSrc cSt cAI cAJ D ad A s.heap s.heap [] T [oJ ao cJ f] := ⟨hP, hD, va_S.rf⟩
  have E : cE p c cL_delay s m ([.ref (ad o), .int a0, .int a1, .ref ao] : List Value).toArray (Cond.codeWith yL_delay cL_delay 5 (some .int) [(0, 10, 13, 21), (0, 10, 17, 13)] :: wsA) D RL (CT cI cJ cZ cMic cSrc cSt cAI cAJ ++ [(cD, .double)]) := ⟨hx, hb, hts, hown, hK⟩
  have hl := lv_entry ([.ref (ad o), .int a0, .int a1, .ref ao]) (n := 5) (Nat.le_of_ble_eq_true rfl)
  rw [lg_entry_eq]
  generalize (lg_sl ([.ref (ad o), .int a0, .int a1, .ref ao]) ++ List.replicate (5 - (lg_sl ([.ref (ad o), .int a0, .int a1, .ref ao])).length) Slot.unset).toArray = ls at hl ⊢
  have hl : lv_has ls 5 [(0, .ref (ad o)), (1, .int a0), (2, .int a1), (3, .ref ao)] := hl
  refine lv_aload_n hx hb dL_delay_0 rfl (lv_at hl 3 rfl) ?_
  refine lv_iconst (v := 0) hx hb dL_delay_1 (by decide) ?_
  refine lv_aload_n hx hb dL_delay_2 rfl (lv_at hl 0 rfl) ?_
  refine lv_iload_n hx hb dL_delay_3 rfl (lv_at hl 1 rfl) ?_
  refine lv_iload_n hx hb dL_delay_4 rfl (lv_at hl 2 rfl) ?_
  refine t_xvi (As := [.int a0, .int a1]) (rest := [.int 0, .ref ao]) E G hA hX hX.2.2.2.1 hml (x_X11_delay l hst D cI cJ cZ cMic cSrc cSt cAI cAJ ad T o a0 a1 h) (cwV 2 hts (gaV qA_977 qA_978 qA_979 qA_131 qA_777) rfl rfl rfl (by decide +kernel) ⟨Nat.le_of_ble_eq_true rfl, Nat.le_of_ble_eq_true rfl⟩) h_o (cc_o11 h_s) rfl rfl hl.1 rfl (lv_room (Nat.le_of_ble_eq_true rfl)) dL_delay_5 ⟨by show 0 + (1) ≤ T1.1 - T.1 + 1; omega, by show 0 + (6) ≤ sg T1 - sg T + 6; omega⟩ ?_
  intro E9 ce q9 S1 H locs hp G hce hcv hcl
  obtain ⟨hE, hS1⟩ := hp
  rw [hS1] at G
  have had : ∀ n, n < T.1 → ad n = ad n := fun _ _ => rfl
  rcases e1 with _ | _ | e1
  · have hE : E9 = xISE := hE
    subst hE
    refine vx_catch (name := xISE) hown [] { startPc := 0, endPc := 10, handlerPc := 13, catchType := 21 } [{ startPc := 0, endPc := 10, handlerPc := 17, catchType := 13 }] htb (fun z hz => absurd hz List.not_mem_nil) (by decide) (by decide) (hts _ (.tail _ qA_952)) (hX.use (.castable xISE xISE) (by decide +kernel)) hce hcv hcl ?_
    refine lv_astore (lv' := [(4, .ref q9), (0, .ref (ad o)), (1, .int a0), (2, .int a1), (3, .ref ao)]) hx hb dL_delay_13 hl (by decide) rfl (fun ls hl => ?_)
    refine lv_iconst (v := 1) hx hb dL_delay_15 (by decide) ?_
    refine W.widen (k := T1.1 - T.1 + 1) (n := sg T1 - sg T + 6) (by omega) (by omega) ?_
    exact W.iret (v := 1) hx hb hr (fun t ht hW => ⟨⟨1, ad, rfl, ⟨rfl, had⟩, ⟨by rw [ht]; exact G.1, va_K.moved hW.alike hK, G.2.1⟩⟩, G.2.2.F ht⟩) G.2.2.2.2 dL_delay_16
  · have hE : E9 = xIOB := hE
    subst hE
    refine vx_catch (name := xIOB) hown [{ startPc := 0, endPc := 10, handlerPc := 13, catchType := 21 }] { startPc := 0, endPc := 10, handlerPc := 17, catchType := 13 } [] htb (List.forall_mem_cons.mpr ⟨Or.inr ⟨by decide, xISE, hts _ (.tail _ qA_952), hN.2.2.1⟩, fun z hz => absurd hz List.not_mem_nil⟩) (by decide) (by decide) (hts _ (.tail _ qA_946)) (hX.use (.castable xIOB xIOB) (by decide +kernel)) hce hcv hcl ?_
    refine lv_astore (lv' := [(4, .ref q9), (0, .ref (ad o)), (1, .int a0), (2, .int a1), (3, .ref ao)]) hx hb dL_delay_17 hl (by decide) rfl (fun ls hl => ?_)
    refine lv_iconst (v := 2) hx hb dL_delay_19 (by decide) ?_
    refine W.widen (k := T1.1 - T.1 + 1) (n := sg T1 - sg T + 6) (by omega) (by omega) ?_
    exact W.iret (v := 2) hx hb hr (fun t ht hW => ⟨⟨2, ad, rfl, ⟨rfl, had⟩, ⟨by rw [ht]; exact G.1, va_K.moved hW.alike hK, G.2.1⟩⟩, G.2.2.F ht⟩) G.2.2.2.2 dL_delay_20
  · have q := (cd_g_X11_delay (S := [0, 1, 2]) (fun _ h => h) T o a0 a1 _ _ _ h)
    simp only [List.mem_cons, List.not_mem_nil, or_false] at q
    omega
theorem v_delay (l : Launch) (hst : l.stackTraces = false) (D : va_G) {cI cJ cZ cMic cSrc cSt cAI cAJ cD : ClassId} (h0 : Nat) (ad : Nat → Nat) (T : AT) (o : Nat) (a0 a1 : Int32) (ao : Nat) (f : Nat → Int64) {k1 : Nat} {r1 : Int32} {T1 : AT} (h : g_X11_delay T o a0 a1 = some (k1, r1, T1)) (hrc : RC T) (h_o : o < T.1) (h_s : T.2.1 o = (11, 0)) : tWi l yL_delay (Cond.codeWith yL_delay cL_delay 5 (some .int) [(0, 10, 13, 21), (0, 10, 17, 13)] :: wsA) 9 145 cI cJ cZ cMic cSrc cSt cAI cAJ cD D h0 ad T (oJ ao cJ f) [.ref (ad o), .int a0, .int a1, .ref ao] (vck 1 2 0 k1) T1 (oJ ao cJ (vfJ k1 f r1.toInt64)) := by
  cases k1 with
  | zero => exact v_delay_n l hst D h0 ad T o a0 a1 ao f h hrc h_o h_s
  | succ e1 => exact v_delay_t l hst D h0 ad T o a0 a1 ao f h hrc h_o h_s
set_option maxHeartbeats 4000000 in
set_option maxRecDepth 100000 in
theorem v_delayTo_n (l : Launch) (hst : l.stackTraces = false) (D : va_G) {cI cJ cZ cMic cSrc cSt cAI cAJ cD : ClassId} (h0 : Nat) (ad : Nat → Nat) (T : AT) (o : Nat) (a0 a1 a2 : Int32) (ao : Nat) (f : Nat → Int64) {r1 : Int32} {T1 : AT} (h : g_X11_delayTo T o a0 a1 a2 = some (0, r1, T1)) (hrc : RC T) (h_o : o < T.1) (h_s : T.2.1 o = (11, 0)) : tWi l yL_delayTo (Cond.codeWith yL_delayTo cL_delayTo 6 (some .int) [(0, 12, 15, 21), (0, 12, 19, 13), (0, 12, 23, 15)] :: wsA) 9 146 cI cJ cZ cMic cSrc cSt cAI cAJ cD D h0 ad T (oJ ao cJ f) [.ref (ad o), .int a0, .int a1, .int a2, .ref ao] (vck 1 2 3 (0)) T1 (oJ ao cJ (vfJ (0) f r1.toInt64)) := by
  intro sz
  refine va_MetW (cc := cL_delayTo) (maxL := 6) (ret := some .int) (by decide) rfl ?_
  intro p e s m args below meth c s₁ B hml hv
  obtain ⟨rfl, hsz, hP, hK, hD0, hX, hN, hA0, hTS⟩ := hv
  have hx := B.exec
  have hb := B.bytes
  have hr := B.returns
  have hts := atoms_spec (ws := (Cond.codeWith yL_delayTo cL_delayTo 6 (some .int) [(0, 12, 15, 21), (0, 12, 19, 13), (0, 12, 23, 15)] :: wsA)) B.pre
  have hown : s.vm.findClass RL = some m.cls := findClass_of_methodNamed B.named
  have hlocks := B.notSynchronized
  have htb := vx_table (x := yL_delayTo) B (hts _ (.head _))
  subst hsz
  have hD := hD0.self (sz := s.heap.size)
  generalize hAe : va_A (cW ad T.1 (cc cI cJ cZ cMic cSrc cSt cAI cAJ ad T) ++ [oJ ao cJ f]) s.heap.size = A at hD hX hA0 ⊢
  have hA : ∀ q : Nat, s.heap.size ≤ q → A q := fun q h => by rw [← hAe]; exact Or.inr h
  have G : gL cI cJ cZ cMic cSrc cSt cAI cAJ D ad A s.heap s.heap [] T [oJ ao cJ f] := ⟨hP, hD, va_S.rf⟩
  have E : cE p c cL_delayTo s m ([.ref (ad o), .int a0, .int a1, .int a2, .ref ao] : List Value).toArray (Cond.codeWith yL_delayTo cL_delayTo 6 (some .int) [(0, 12, 15, 21), (0, 12, 19, 13), (0, 12, 23, 15)] :: wsA) D RL (CT cI cJ cZ cMic cSrc cSt cAI cAJ ++ [(cD, .double)]) := ⟨hx, hb, hts, hown, hK⟩
  have hl := lv_entry ([.ref (ad o), .int a0, .int a1, .int a2, .ref ao]) (n := 6) (Nat.le_of_ble_eq_true rfl)
  rw [lg_entry_eq]
  generalize (lg_sl ([.ref (ad o), .int a0, .int a1, .int a2, .ref ao]) ++ List.replicate (6 - (lg_sl ([.ref (ad o), .int a0, .int a1, .int a2, .ref ao])).length) Slot.unset).toArray = ls at hl ⊢
  have hl : lv_has ls 6 [(0, .ref (ad o)), (1, .int a0), (2, .int a1), (3, .int a2), (4, .ref ao)] := hl
  refine lv_aload hx hb dL_delayTo_0 (lv_at hl 4 rfl) ?_
  refine lv_iconst (v := 0) hx hb dL_delayTo_2 (by decide) ?_
  refine lv_aload_n hx hb dL_delayTo_3 rfl (lv_at hl 0 rfl) ?_
  refine lv_iload_n hx hb dL_delayTo_4 rfl (lv_at hl 1 rfl) ?_
  refine lv_iload_n hx hb dL_delayTo_5 rfl (lv_at hl 2 rfl) ?_
  refine lv_iload_n hx hb dL_delayTo_6 rfl (lv_at hl 3 rfl) ?_
  refine t_cvi (As := [.int a0, .int a1, .int a2]) (rest := [.int 0, .ref ao]) E G hA hX hX.2.2.2.1 hml (u_X11_delayTo l hst D cI cJ cZ cMic cSrc cSt cAI cAJ ad T o a0 a1 a2 h) (cwV 3 hts (gaV qA_981 qA_982 qA_983 qA_131 qA_779) rfl rfl rfl (by decide +kernel) ⟨Nat.le_of_ble_eq_true rfl, Nat.le_of_ble_eq_true rfl⟩) h_o (cc_o11 h_s) rfl rfl hl.1 rfl (lv_room (Nat.le_of_ble_eq_true rfl)) dL_delayTo_7 ⟨by show 0 + (0) ≤ T1.1 - T.1 + 1; omega, by show 0 + (0) ≤ sg T1 - sg T + 6; omega⟩ ?_
  intro r9 S1 H locs hp G
  obtain ⟨hr9, hS1⟩ := hp
  rw [hS1] at G
  rw [hr9]
  have had : ∀ n, n < T.1 → ad n = ad n := fun _ _ => rfl
  refine lv_i2l (v := r1.toInt64) hx hb dL_delayTo_10 rfl ?_
  refine t_last E G dL_delayTo_11 (fun H locs G => ?_)
  refine lv_goto (tgt := 27) hx hb dL_delayTo_12 (by decide) ?_
  refine lv_iconst (v := 0) hx hb dL_delayTo_27 (by decide) ?_
  refine W.widen (k := T1.1 - T.1 + 1) (n := sg T1 - sg T + 6) (by omega) (by omega) ?_
  exact W.iret (v := 0) hx hb hr (fun t ht hW => ⟨⟨0, ad, rfl, ⟨rfl, had⟩, ⟨by rw [ht]; exact G.1, va_K.moved hW.alike hK, G.2.1⟩⟩, G.2.2.F ht⟩) G.2.2.2.2 dL_delayTo_28
set_option maxHeartbeats 4000000 in
set_option maxRecDepth 100000 in
theorem v_delayTo_t (l : Launch) (hst : l.stackTraces = false) (D : va_G) {cI cJ cZ cMic cSrc cSt cAI cAJ cD : ClassId} (h0 : Nat) (ad : Nat → Nat) (T : AT) (o : Nat) (a0 a1 a2 : Int32) (ao : Nat) (f : Nat → Int64) {e1 : Nat} {r1 : Int32} {T1 : AT} (h : g_X11_delayTo T o a0 a1 a2 = some (e1 + 1, r1, T1)) (hrc : RC T) (h_o : o < T.1) (h_s : T.2.1 o = (11, 0)) : tWi l yL_delayTo (Cond.codeWith yL_delayTo cL_delayTo 6 (some .int) [(0, 12, 15, 21), (0, 12, 19, 13), (0, 12, 23, 15)] :: wsA) 9 146 cI cJ cZ cMic cSrc cSt cAI cAJ cD D h0 ad T (oJ ao cJ f) [.ref (ad o), .int a0, .int a1, .int a2, .ref ao] (vck 1 2 3 (e1 + 1)) T1 (oJ ao cJ (vfJ (e1 + 1) f r1.toInt64)) := by
  intro sz
  refine va_MetW (cc := cL_delayTo) (maxL := 6) (ret := some .int) (by decide) rfl ?_
  intro p e s m args below meth c s₁ B hml hv
  obtain ⟨rfl, hsz, hP, hK, hD0, hX, hN, hA0, hTS⟩ := hv
  have hx := B.exec
  have hb := B.bytes
  have hr := B.returns
  have hts := atoms_spec (ws := (Cond.codeWith yL_delayTo cL_delayTo 6 (some .int) [(0, 12, 15, 21), (0, 12, 19, 13), (0, 12, 23, 15)] :: wsA)) B.pre
  have hown : s.vm.findClass RL = some m.cls := findClass_of_methodNamed B.named
  have hlocks := B.notSynchronized
  have htb := vx_table (x := yL_delayTo) B (hts _ (.head _))
  subst hsz
  have hD := hD0.self (sz := s.heap.size)
  generalize hAe : va_A (cW ad T.1 (cc cI cJ cZ cMic cSrc cSt cAI cAJ ad T) ++ [oJ ao cJ f]) s.heap.size = A at hD hX hA0 ⊢
  have hA : ∀ q : Nat, s.heap.size ≤ q → A q := fun q h => by rw [← hAe]; exact Or.inr h
  have G : gL cI cJ cZ cMic cSrc cSt cAI cAJ D ad A s.heap s.heap [] T [oJ ao cJ f] := ⟨hP, hD, va_S.rf⟩
  have E : cE p c cL_delayTo s m ([.ref (ad o), .int a0, .int a1, .int a2, .ref ao] : List Value).toArray (Cond.codeWith yL_delayTo cL_delayTo 6 (some .int) [(0, 12, 15, 21), (0, 12, 19, 13), (0, 12, 23, 15)] :: wsA) D RL (CT cI cJ cZ cMic cSrc cSt cAI cAJ ++ [(cD, .double)]) := ⟨hx, hb, hts, hown, hK⟩
  have hl := lv_entry ([.ref (ad o), .int a0, .int a1, .int a2, .ref ao]) (n := 6) (Nat.le_of_ble_eq_true rfl)
  rw [lg_entry_eq]
  generalize (lg_sl ([.ref (ad o), .int a0, .int a1, .int a2, .ref ao]) ++ List.replicate (6 - (lg_sl ([.ref (ad o), .int a0, .int a1, .int a2, .ref ao])).length) Slot.unset).toArray = ls at hl ⊢
  have hl : lv_has ls 6 [(0, .ref (ad o)), (1, .int a0), (2, .int a1), (3, .int a2), (4, .ref ao)] := hl
  refine lv_aload hx hb dL_delayTo_0 (lv_at hl 4 rfl) ?_
  refine lv_iconst (v := 0) hx hb dL_delayTo_2 (by decide) ?_
  refine lv_aload_n hx hb dL_delayTo_3 rfl (lv_at hl 0 rfl) ?_
  refine lv_iload_n hx hb dL_delayTo_4 rfl (lv_at hl 1 rfl) ?_
  refine lv_iload_n hx hb dL_delayTo_5 rfl (lv_at hl 2 rfl) ?_
  refine lv_iload_n hx hb dL_delayTo_6 rfl (lv_at hl 3 rfl) ?_
  refine t_xvi (As := [.int a0, .int a1, .int a2]) (rest := [.int 0, .ref ao]) E G hA hX hX.2.2.2.1 hml (x_X11_delayTo l hst D cI cJ cZ cMic cSrc cSt cAI cAJ ad T o a0 a1 a2 h) (cwV 3 hts (gaV qA_981 qA_982 qA_983 qA_131 qA_779) rfl rfl rfl (by decide +kernel) ⟨Nat.le_of_ble_eq_true rfl, Nat.le_of_ble_eq_true rfl⟩) h_o (cc_o11 h_s) rfl rfl hl.1 rfl (lv_room (Nat.le_of_ble_eq_true rfl)) dL_delayTo_7 ⟨by show 0 + (1) ≤ T1.1 - T.1 + 1; omega, by show 0 + (6) ≤ sg T1 - sg T + 6; omega⟩ ?_
  intro E9 ce q9 S1 H locs hp G hce hcv hcl
  obtain ⟨hE, hS1⟩ := hp
  rw [hS1] at G
  have had : ∀ n, n < T.1 → ad n = ad n := fun _ _ => rfl
  rcases e1 with _ | _ | e1
  · have hE : E9 = xISE := hE
    subst hE
    refine vx_catch (name := xISE) hown [] { startPc := 0, endPc := 12, handlerPc := 15, catchType := 21 } [{ startPc := 0, endPc := 12, handlerPc := 19, catchType := 13 }, { startPc := 0, endPc := 12, handlerPc := 23, catchType := 15 }] htb (fun z hz => absurd hz List.not_mem_nil) (by decide) (by decide) (hts _ (.tail _ qA_952)) (hX.use (.castable xISE xISE) (by decide +kernel)) hce hcv hcl ?_
    refine lv_astore (lv' := [(5, .ref q9), (0, .ref (ad o)), (1, .int a0), (2, .int a1), (3, .int a2), (4, .ref ao)]) hx hb dL_delayTo_15 hl (by decide) rfl (fun ls hl => ?_)
    refine lv_iconst (v := 1) hx hb dL_delayTo_17 (by decide) ?_
    refine W.widen (k := T1.1 - T.1 + 1) (n := sg T1 - sg T + 6) (by omega) (by omega) ?_
    exact W.iret (v := 1) hx hb hr (fun t ht hW => ⟨⟨1, ad, rfl, ⟨rfl, had⟩, ⟨by rw [ht]; exact G.1, va_K.moved hW.alike hK, G.2.1⟩⟩, G.2.2.F ht⟩) G.2.2.2.2 dL_delayTo_18
  · have hE : E9 = xIOB := hE
    subst hE
    refine vx_catch (name := xIOB) hown [{ startPc := 0, endPc := 12, handlerPc := 15, catchType := 21 }] { startPc := 0, endPc := 12, handlerPc := 19, catchType := 13 } [{ startPc := 0, endPc := 12, handlerPc := 23, catchType := 15 }] htb (List.forall_mem_cons.mpr ⟨Or.inr ⟨by decide, xISE, hts _ (.tail _ qA_952), hN.2.2.1⟩, fun z hz => absurd hz List.not_mem_nil⟩) (by decide) (by decide) (hts _ (.tail _ qA_946)) (hX.use (.castable xIOB xIOB) (by decide +kernel)) hce hcv hcl ?_
    refine lv_astore (lv' := [(5, .ref q9), (0, .ref (ad o)), (1, .int a0), (2, .int a1), (3, .int a2), (4, .ref ao)]) hx hb dL_delayTo_19 hl (by decide) rfl (fun ls hl => ?_)
    refine lv_iconst (v := 2) hx hb dL_delayTo_21 (by decide) ?_
    refine W.widen (k := T1.1 - T.1 + 1) (n := sg T1 - sg T + 6) (by omega) (by omega) ?_
    exact W.iret (v := 2) hx hb hr (fun t ht hW => ⟨⟨2, ad, rfl, ⟨rfl, had⟩, ⟨by rw [ht]; exact G.1, va_K.moved hW.alike hK, G.2.1⟩⟩, G.2.2.F ht⟩) G.2.2.2.2 dL_delayTo_22
  · have hE : E9 = xIAE := hE
    subst hE
    refine vx_catch (name := xIAE) hown [{ startPc := 0, endPc := 12, handlerPc := 15, catchType := 21 }, { startPc := 0, endPc := 12, handlerPc := 19, catchType := 13 }] { startPc := 0, endPc := 12, handlerPc := 23, catchType := 15 } [] htb (List.forall_mem_cons.mpr ⟨Or.inr ⟨by decide, xISE, hts _ (.tail _ qA_952), hN.2.2.2⟩, List.forall_mem_cons.mpr ⟨Or.inr ⟨by decide, xIOB, hts _ (.tail _ qA_946), hN.1⟩, fun z hz => absurd hz List.not_mem_nil⟩⟩) (by decide) (by decide) (hts _ (.tail _ qA_947)) (hX.use (.castable xIAE xIAE) (by decide +kernel)) hce hcv hcl ?_
    refine lv_astore (lv' := [(5, .ref q9), (0, .ref (ad o)), (1, .int a0), (2, .int a1), (3, .int a2), (4, .ref ao)]) hx hb dL_delayTo_23 hl (by decide) rfl (fun ls hl => ?_)
    refine lv_iconst (v := 3) hx hb dL_delayTo_25 (by decide) ?_
    refine W.widen (k := T1.1 - T.1 + 1) (n := sg T1 - sg T + 6) (by omega) (by omega) ?_
    exact W.iret (v := 3) hx hb hr (fun t ht hW => ⟨⟨3, ad, rfl, ⟨rfl, had⟩, ⟨by rw [ht]; exact G.1, va_K.moved hW.alike hK, G.2.1⟩⟩, G.2.2.F ht⟩) G.2.2.2.2 dL_delayTo_26
theorem v_delayTo (l : Launch) (hst : l.stackTraces = false) (D : va_G) {cI cJ cZ cMic cSrc cSt cAI cAJ cD : ClassId} (h0 : Nat) (ad : Nat → Nat) (T : AT) (o : Nat) (a0 a1 a2 : Int32) (ao : Nat) (f : Nat → Int64) {k1 : Nat} {r1 : Int32} {T1 : AT} (h : g_X11_delayTo T o a0 a1 a2 = some (k1, r1, T1)) (hrc : RC T) (h_o : o < T.1) (h_s : T.2.1 o = (11, 0)) : tWi l yL_delayTo (Cond.codeWith yL_delayTo cL_delayTo 6 (some .int) [(0, 12, 15, 21), (0, 12, 19, 13), (0, 12, 23, 15)] :: wsA) 9 146 cI cJ cZ cMic cSrc cSt cAI cAJ cD D h0 ad T (oJ ao cJ f) [.ref (ad o), .int a0, .int a1, .int a2, .ref ao] (vck 1 2 3 k1) T1 (oJ ao cJ (vfJ k1 f r1.toInt64)) := by
  cases k1 with
  | zero => exact v_delayTo_n l hst D h0 ad T o a0 a1 a2 ao f h hrc h_o h_s
  | succ e1 => exact v_delayTo_t l hst D h0 ad T o a0 a1 a2 ao f h hrc h_o h_s
set_option maxHeartbeats 4000000 in
set_option maxRecDepth 100000 in
theorem v_spread_n (l : Launch) (hst : l.stackTraces = false) (D : va_G) {cI cJ cZ cMic cSrc cSt cAI cAJ cD : ClassId} (h0 : Nat) (ad : Nat → Nat) (T : AT) (o : Nat) (a0 : Int32) (ao : Nat) (f : Nat → Int64) {r1 : Int32} {T1 : AT} (h : g_X11_spread T o a0 = some (0, r1, T1)) (hrc : RC T) (h_o : o < T.1) (h_s : T.2.1 o = (11, 0)) : tWi l yL_spread (Cond.codeWith yL_spread cL_spread 4 (some .int) [(0, 9, 12, 21), (0, 9, 15, 13)] :: wsA) 9 145 cI cJ cZ cMic cSrc cSt cAI cAJ cD D h0 ad T (oJ ao cJ f) [.ref (ad o), .int a0, .ref ao] (vck 1 2 0 (0)) T1 (oJ ao cJ (vfJ (0) f r1.toInt64)) := by
  intro sz
  refine va_MetW (cc := cL_spread) (maxL := 4) (ret := some .int) (by decide) rfl ?_
  intro p e s m args below meth c s₁ B hml hv
  obtain ⟨rfl, hsz, hP, hK, hD0, hX, hN, hA0, hTS⟩ := hv
  have hx := B.exec
  have hb := B.bytes
  have hr := B.returns
  have hts := atoms_spec (ws := (Cond.codeWith yL_spread cL_spread 4 (some .int) [(0, 9, 12, 21), (0, 9, 15, 13)] :: wsA)) B.pre
  have hown : s.vm.findClass RL = some m.cls := findClass_of_methodNamed B.named
  have hlocks := B.notSynchronized
  have htb := vx_table (x := yL_spread) B (hts _ (.head _))
  subst hsz
  have hD := hD0.self (sz := s.heap.size)
  generalize hAe : va_A (cW ad T.1 (cc cI cJ cZ cMic cSrc cSt cAI cAJ ad T) ++ [oJ ao cJ f]) s.heap.size = A at hD hX hA0 ⊢
  have hA : ∀ q : Nat, s.heap.size ≤ q → A q := fun q h => by rw [← hAe]; exact Or.inr h
  have G : gL cI cJ cZ cMic cSrc cSt cAI cAJ D ad A s.heap s.heap [] T [oJ ao cJ f] := ⟨hP, hD, va_S.rf⟩
  have E : cE p c cL_spread s m ([.ref (ad o), .int a0, .ref ao] : List Value).toArray (Cond.codeWith yL_spread cL_spread 4 (some .int) [(0, 9, 12, 21), (0, 9, 15, 13)] :: wsA) D RL (CT cI cJ cZ cMic cSrc cSt cAI cAJ ++ [(cD, .double)]) := ⟨hx, hb, hts, hown, hK⟩
  have hl := lv_entry ([.ref (ad o), .int a0, .ref ao]) (n := 4) (Nat.le_of_ble_eq_true rfl)
  rw [lg_entry_eq]
  generalize (lg_sl ([.ref (ad o), .int a0, .ref ao]) ++ List.replicate (4 - (lg_sl ([.ref (ad o), .int a0, .ref ao])).length) Slot.unset).toArray = ls at hl ⊢
  have hl : lv_has ls 4 [(0, .ref (ad o)), (1, .int a0), (2, .ref ao)] := hl
  refine lv_aload_n hx hb dL_spread_0 rfl (lv_at hl 2 rfl) ?_
  refine lv_iconst (v := 0) hx hb dL_spread_1 (by decide) ?_
  refine lv_aload_n hx hb dL_spread_2 rfl (lv_at hl 0 rfl) ?_
  refine lv_iload_n hx hb dL_spread_3 rfl (lv_at hl 1 rfl) ?_
  refine t_cvi (As := [.int a0]) (rest := [.int 0, .ref ao]) E G hA hX hX.2.2.2.1 hml (u_X11_spread l hst D cI cJ cZ cMic cSrc cSt cAI cAJ ad T o a0 h) (cwV 1 hts (gaV qA_985 qA_986 qA_987 qA_131 qA_781) rfl rfl rfl (by decide +kernel) ⟨Nat.le_of_ble_eq_true rfl, Nat.le_of_ble_eq_true rfl⟩) h_o (cc_o11 h_s) rfl rfl hl.1 rfl (lv_room (Nat.le_of_ble_eq_true rfl)) dL_spread_4 ⟨by show 0 + (0) ≤ T1.1 - T.1 + 1; omega, by show 0 + (0) ≤ sg T1 - sg T + 6; omega⟩ ?_
  intro r9 S1 H locs hp G
  obtain ⟨hr9, hS1⟩ := hp
  rw [hS1] at G
  rw [hr9]
  have had : ∀ n, n < T.1 → ad n = ad n := fun _ _ => rfl
  refine lv_i2l (v := r1.toInt64) hx hb dL_spread_7 rfl ?_
  refine t_last E G dL_spread_8 (fun H locs G => ?_)
  refine lv_goto (tgt := 18) hx hb dL_spread_9 (by decide) ?_
  refine lv_iconst (v := 0) hx hb dL_spread_18 (by decide) ?_
  refine W.widen (k := T1.1 - T.1 + 1) (n := sg T1 - sg T + 6) (by omega) (by omega) ?_
  exact W.iret (v := 0) hx hb hr (fun t ht hW => ⟨⟨0, ad, rfl, ⟨rfl, had⟩, ⟨by rw [ht]; exact G.1, va_K.moved hW.alike hK, G.2.1⟩⟩, G.2.2.F ht⟩) G.2.2.2.2 dL_spread_19
set_option maxHeartbeats 4000000 in
set_option maxRecDepth 100000 in
theorem v_spread_t (l : Launch) (hst : l.stackTraces = false) (D : va_G) {cI cJ cZ cMic cSrc cSt cAI cAJ cD : ClassId} (h0 : Nat) (ad : Nat → Nat) (T : AT) (o : Nat) (a0 : Int32) (ao : Nat) (f : Nat → Int64) {e1 : Nat} {r1 : Int32} {T1 : AT} (h : g_X11_spread T o a0 = some (e1 + 1, r1, T1)) (hrc : RC T) (h_o : o < T.1) (h_s : T.2.1 o = (11, 0)) : tWi l yL_spread (Cond.codeWith yL_spread cL_spread 4 (some .int) [(0, 9, 12, 21), (0, 9, 15, 13)] :: wsA) 9 145 cI cJ cZ cMic cSrc cSt cAI cAJ cD D h0 ad T (oJ ao cJ f) [.ref (ad o), .int a0, .ref ao] (vck 1 2 0 (e1 + 1)) T1 (oJ ao cJ (vfJ (e1 + 1) f r1.toInt64)) := by
  intro sz
  refine va_MetW (cc := cL_spread) (maxL := 4) (ret := some .int) (by decide) rfl ?_
  intro p e s m args below meth c s₁ B hml hv
  obtain ⟨rfl, hsz, hP, hK, hD0, hX, hN, hA0, hTS⟩ := hv
  have hx := B.exec
  have hb := B.bytes
  have hr := B.returns
  have hts := atoms_spec (ws := (Cond.codeWith yL_spread cL_spread 4 (some .int) [(0, 9, 12, 21), (0, 9, 15, 13)] :: wsA)) B.pre
  have hown : s.vm.findClass RL = some m.cls := findClass_of_methodNamed B.named
  have hlocks := B.notSynchronized
  have htb := vx_table (x := yL_spread) B (hts _ (.head _))
  subst hsz
  have hD := hD0.self (sz := s.heap.size)
  generalize hAe : va_A (cW ad T.1 (cc cI cJ cZ cMic cSrc cSt cAI cAJ ad T) ++ [oJ ao cJ f]) s.heap.size = A at hD hX hA0 ⊢
  have hA : ∀ q : Nat, s.heap.size ≤ q → A q := fun q h => by rw [← hAe]; exact Or.inr h
  have G : gL cI cJ cZ cMic cSrc cSt cAI cAJ D ad A s.heap s.heap [] T [oJ ao cJ f] := ⟨hP, hD, va_S.rf⟩
  have E : cE p c cL_spread s m ([.ref (ad o), .int a0, .ref ao] : List Value).toArray (Cond.codeWith yL_spread cL_spread 4 (some .int) [(0, 9, 12, 21), (0, 9, 15, 13)] :: wsA) D RL (CT cI cJ cZ cMic cSrc cSt cAI cAJ ++ [(cD, .double)]) := ⟨hx, hb, hts, hown, hK⟩
  have hl := lv_entry ([.ref (ad o), .int a0, .ref ao]) (n := 4) (Nat.le_of_ble_eq_true rfl)
  rw [lg_entry_eq]
  generalize (lg_sl ([.ref (ad o), .int a0, .ref ao]) ++ List.replicate (4 - (lg_sl ([.ref (ad o), .int a0, .ref ao])).length) Slot.unset).toArray = ls at hl ⊢
  have hl : lv_has ls 4 [(0, .ref (ad o)), (1, .int a0), (2, .ref ao)] := hl
  refine lv_aload_n hx hb dL_spread_0 rfl (lv_at hl 2 rfl) ?_
  refine lv_iconst (v := 0) hx hb dL_spread_1 (by decide) ?_
  refine lv_aload_n hx hb dL_spread_2 rfl (lv_at hl 0 rfl) ?_
  refine lv_iload_n hx hb dL_spread_3 rfl (lv_at hl 1 rfl) ?_
  refine t_xvi (As := [.int a0]) (rest := [.int 0, .ref ao]) E G hA hX hX.2.2.2.1 hml (x_X11_spread l hst D cI cJ cZ cMic cSrc cSt cAI cAJ ad T o a0 h) (cwV 1 hts (gaV qA_985 qA_986 qA_987 qA_131 qA_781) rfl rfl rfl (by decide +kernel) ⟨Nat.le_of_ble_eq_true rfl, Nat.le_of_ble_eq_true rfl⟩) h_o (cc_o11 h_s) rfl rfl hl.1 rfl (lv_room (Nat.le_of_ble_eq_true rfl)) dL_spread_4 ⟨by show 0 + (1) ≤ T1.1 - T.1 + 1; omega, by show 0 + (6) ≤ sg T1 - sg T + 6; omega⟩ ?_
  intro E9 ce q9 S1 H locs hp G hce hcv hcl
  obtain ⟨hE, hS1⟩ := hp
  rw [hS1] at G
  have had : ∀ n, n < T.1 → ad n = ad n := fun _ _ => rfl
  rcases e1 with _ | _ | e1
  · have hE : E9 = xISE := hE
    subst hE
    refine vx_catch (name := xISE) hown [] { startPc := 0, endPc := 9, handlerPc := 12, catchType := 21 } [{ startPc := 0, endPc := 9, handlerPc := 15, catchType := 13 }] htb (fun z hz => absurd hz List.not_mem_nil) (by decide) (by decide) (hts _ (.tail _ qA_952)) (hX.use (.castable xISE xISE) (by decide +kernel)) hce hcv hcl ?_
    refine lv_astore_n (lv' := [(3, .ref q9), (0, .ref (ad o)), (1, .int a0), (2, .ref ao)]) hx hb dL_spread_12 rfl hl (by decide) rfl (fun ls hl => ?_)
    refine lv_iconst (v := 1) hx hb dL_spread_13 (by decide) ?_
    refine W.widen (k := T1.1 - T.1 + 1) (n := sg T1 - sg T + 6) (by omega) (by omega) ?_
    exact W.iret (v := 1) hx hb hr (fun t ht hW => ⟨⟨1, ad, rfl, ⟨rfl, had⟩, ⟨by rw [ht]; exact G.1, va_K.moved hW.alike hK, G.2.1⟩⟩, G.2.2.F ht⟩) G.2.2.2.2 dL_spread_14
  · have hE : E9 = xIOB := hE
    subst hE
    refine vx_catch (name := xIOB) hown [{ startPc := 0, endPc := 9, handlerPc := 12, catchType := 21 }] { startPc := 0, endPc := 9, handlerPc := 15, catchType := 13 } [] htb (List.forall_mem_cons.mpr ⟨Or.inr ⟨by decide, xISE, hts _ (.tail _ qA_952), hN.2.2.1⟩, fun z hz => absurd hz List.not_mem_nil⟩) (by decide) (by decide) (hts _ (.tail _ qA_946)) (hX.use (.castable xIOB xIOB) (by decide +kernel)) hce hcv hcl ?_
    refine lv_astore_n (lv' := [(3, .ref q9), (0, .ref (ad o)), (1, .int a0), (2, .ref ao)]) hx hb dL_spread_15 rfl hl (by decide) rfl (fun ls hl => ?_)
    refine lv_iconst (v := 2) hx hb dL_spread_16 (by decide) ?_
    refine W.widen (k := T1.1 - T.1 + 1) (n := sg T1 - sg T + 6) (by omega) (by omega) ?_
    exact W.iret (v := 2) hx hb hr (fun t ht hW => ⟨⟨2, ad, rfl, ⟨rfl, had⟩, ⟨by rw [ht]; exact G.1, va_K.moved hW.alike hK, G.2.1⟩⟩, G.2.2.F ht⟩) G.2.2.2.2 dL_spread_17
  · have q := (cd_g_X11_spread (S := [0, 1, 2]) (fun _ h => h) T o a0 _ _ _ h)
    simp only [List.mem_cons, List.not_mem_nil, or_false] at q
    omega
theorem v_spread (l : Launch) (hst : l.stackTraces = false) (D : va_G) {cI cJ cZ cMic cSrc cSt cAI cAJ cD : ClassId} (h0 : Nat) (ad : Nat → Nat) (T : AT) (o : Nat) (a0 : Int32) (ao : Nat) (f : Nat → Int64) {k1 : Nat} {r1 : Int32} {T1 : AT} (h : g_X11_spread T o a0 = some (k1, r1, T1)) (hrc : RC T) (h_o : o < T.1) (h_s : T.2.1 o = (11, 0)) : tWi l yL_spread (Cond.codeWith yL_spread cL_spread 4 (some .int) [(0, 9, 12, 21), (0, 9, 15, 13)] :: wsA) 9 145 cI cJ cZ cMic cSrc cSt cAI cAJ cD D h0 ad T (oJ ao cJ f) [.ref (ad o), .int a0, .ref ao] (vck 1 2 0 k1) T1 (oJ ao cJ (vfJ k1 f r1.toInt64)) := by
  cases k1 with
  | zero => exact v_spread_n l hst D h0 ad T o a0 ao f h hrc h_o h_s
  | succ e1 => exact v_spread_t l hst D h0 ad T o a0 ao f h hrc h_o h_s
set_option maxHeartbeats 4000000 in
set_option maxRecDepth 100000 in
theorem v_window_n (l : Launch) (hst : l.stackTraces = false) (D : va_G) {cI cJ cZ cMic cSrc cSt cAI cAJ cD : ClassId} (h0 : Nat) (ad : Nat → Nat) (T : AT) (o : Nat) (a0 : Int32) (ao : Nat) (f : Nat → Int64) {r1 : Int32} {T1 : AT} (h : g_X11_window T o a0 = some (0, r1, T1)) (hrc : RC T) (h_o : o < T.1) (h_s : T.2.1 o = (11, 0)) : tWi l yL_window (Cond.codeWith yL_window cL_window 4 (some .int) [(0, 9, 12, 21), (0, 9, 15, 13)] :: wsA) 9 144 cI cJ cZ cMic cSrc cSt cAI cAJ cD D h0 ad T (oJ ao cJ f) [.ref (ad o), .int a0, .ref ao] (vck 1 2 0 (0)) T1 (oJ ao cJ (vfJ (0) f r1.toInt64)) := by
  intro sz
  refine va_MetW (cc := cL_window) (maxL := 4) (ret := some .int) (by decide) rfl ?_
  intro p e s m args below meth c s₁ B hml hv
  obtain ⟨rfl, hsz, hP, hK, hD0, hX, hN, hA0, hTS⟩ := hv
  have hx := B.exec
  have hb := B.bytes
  have hr := B.returns
  have hts := atoms_spec (ws := (Cond.codeWith yL_window cL_window 4 (some .int) [(0, 9, 12, 21), (0, 9, 15, 13)] :: wsA)) B.pre
  have hown : s.vm.findClass RL = some m.cls := findClass_of_methodNamed B.named
  have hlocks := B.notSynchronized
  have htb := vx_table (x := yL_window) B (hts _ (.head _))
  subst hsz
  have hD := hD0.self (sz := s.heap.size)
  generalize hAe : va_A (cW ad T.1 (cc cI cJ cZ cMic cSrc cSt cAI cAJ ad T) ++ [oJ ao cJ f]) s.heap.size = A at hD hX hA0 ⊢
  have hA : ∀ q : Nat, s.heap.size ≤ q → A q := fun q h => by rw [← hAe]; exact Or.inr h
  have G : gL cI cJ cZ cMic cSrc cSt cAI cAJ D ad A s.heap s.heap [] T [oJ ao cJ f] := ⟨hP, hD, va_S.rf⟩
  have E : cE p c cL_window s m ([.ref (ad o), .int a0, .ref ao] : List Value).toArray (Cond.codeWith yL_window cL_window 4 (some .int) [(0, 9, 12, 21), (0, 9, 15, 13)] :: wsA) D RL (CT cI cJ cZ cMic cSrc cSt cAI cAJ ++ [(cD, .double)]) := ⟨hx, hb, hts, hown, hK⟩
  have hl := lv_entry ([.ref (ad o), .int a0, .ref ao]) (n := 4) (Nat.le_of_ble_eq_true rfl)
  rw [lg_entry_eq]
  generalize (lg_sl ([.ref (ad o), .int a0, .ref ao]) ++ List.replicate (4 - (lg_sl ([.ref (ad o), .int a0, .ref ao])).length) Slot.unset).toArray = ls at hl ⊢
  have hl : lv_has ls 4 [(0, .ref (ad o)), (1, .int a0), (2, .ref ao)] := hl
  refine lv_aload_n hx hb dL_window_0 rfl (lv_at hl 2 rfl) ?_
  refine lv_iconst (v := 0) hx hb dL_window_1 (by decide) ?_
  refine lv_aload_n hx hb dL_window_2 rfl (lv_at hl 0 rfl) ?_
  refine lv_iload_n hx hb dL_window_3 rfl (lv_at hl 1 rfl) ?_
  refine t_cvi (As := [.int a0]) (rest := [.int 0, .ref ao]) E G hA hX hX.2.2.2.1 hml (u_X11_window l hst D cI cJ cZ cMic cSrc cSt cAI cAJ ad T o a0 h) (cwV 1 hts (gaV qA_989 qA_990 qA_991 qA_131 qA_786) rfl rfl rfl (by decide +kernel) ⟨Nat.le_of_ble_eq_true rfl, Nat.le_of_ble_eq_true rfl⟩) h_o (cc_o11 h_s) rfl rfl hl.1 rfl (lv_room (Nat.le_of_ble_eq_true rfl)) dL_window_4 ⟨by show 0 + (0) ≤ T1.1 - T.1 + 1; omega, by show 0 + (0) ≤ sg T1 - sg T + 6; omega⟩ ?_
  intro r9 S1 H locs hp G
  obtain ⟨hr9, hS1⟩ := hp
  rw [hS1] at G
  rw [hr9]
  have had : ∀ n, n < T.1 → ad n = ad n := fun _ _ => rfl
  refine lv_i2l (v := r1.toInt64) hx hb dL_window_7 rfl ?_
  refine t_last E G dL_window_8 (fun H locs G => ?_)
  refine lv_goto (tgt := 18) hx hb dL_window_9 (by decide) ?_
  refine lv_iconst (v := 0) hx hb dL_window_18 (by decide) ?_
  refine W.widen (k := T1.1 - T.1 + 1) (n := sg T1 - sg T + 6) (by omega) (by omega) ?_
  exact W.iret (v := 0) hx hb hr (fun t ht hW => ⟨⟨0, ad, rfl, ⟨rfl, had⟩, ⟨by rw [ht]; exact G.1, va_K.moved hW.alike hK, G.2.1⟩⟩, G.2.2.F ht⟩) G.2.2.2.2 dL_window_19
set_option maxHeartbeats 4000000 in
set_option maxRecDepth 100000 in
theorem v_window_t (l : Launch) (hst : l.stackTraces = false) (D : va_G) {cI cJ cZ cMic cSrc cSt cAI cAJ cD : ClassId} (h0 : Nat) (ad : Nat → Nat) (T : AT) (o : Nat) (a0 : Int32) (ao : Nat) (f : Nat → Int64) {e1 : Nat} {r1 : Int32} {T1 : AT} (h : g_X11_window T o a0 = some (e1 + 1, r1, T1)) (hrc : RC T) (h_o : o < T.1) (h_s : T.2.1 o = (11, 0)) : tWi l yL_window (Cond.codeWith yL_window cL_window 4 (some .int) [(0, 9, 12, 21), (0, 9, 15, 13)] :: wsA) 9 144 cI cJ cZ cMic cSrc cSt cAI cAJ cD D h0 ad T (oJ ao cJ f) [.ref (ad o), .int a0, .ref ao] (vck 1 2 0 (e1 + 1)) T1 (oJ ao cJ (vfJ (e1 + 1) f r1.toInt64)) := by
  intro sz
  refine va_MetW (cc := cL_window) (maxL := 4) (ret := some .int) (by decide) rfl ?_
  intro p e s m args below meth c s₁ B hml hv
  obtain ⟨rfl, hsz, hP, hK, hD0, hX, hN, hA0, hTS⟩ := hv
  have hx := B.exec
  have hb := B.bytes
  have hr := B.returns
  have hts := atoms_spec (ws := (Cond.codeWith yL_window cL_window 4 (some .int) [(0, 9, 12, 21), (0, 9, 15, 13)] :: wsA)) B.pre
  have hown : s.vm.findClass RL = some m.cls := findClass_of_methodNamed B.named
  have hlocks := B.notSynchronized
  have htb := vx_table (x := yL_window) B (hts _ (.head _))
  subst hsz
  have hD := hD0.self (sz := s.heap.size)
  generalize hAe : va_A (cW ad T.1 (cc cI cJ cZ cMic cSrc cSt cAI cAJ ad T) ++ [oJ ao cJ f]) s.heap.size = A at hD hX hA0 ⊢
  have hA : ∀ q : Nat, s.heap.size ≤ q → A q := fun q h => by rw [← hAe]; exact Or.inr h
  have G : gL cI cJ cZ cMic cSrc cSt cAI cAJ D ad A s.heap s.heap [] T [oJ ao cJ f] := ⟨hP, hD, va_S.rf⟩
  have E : cE p c cL_window s m ([.ref (ad o), .int a0, .ref ao] : List Value).toArray (Cond.codeWith yL_window cL_window 4 (some .int) [(0, 9, 12, 21), (0, 9, 15, 13)] :: wsA) D RL (CT cI cJ cZ cMic cSrc cSt cAI cAJ ++ [(cD, .double)]) := ⟨hx, hb, hts, hown, hK⟩
  have hl := lv_entry ([.ref (ad o), .int a0, .ref ao]) (n := 4) (Nat.le_of_ble_eq_true rfl)
  rw [lg_entry_eq]
  generalize (lg_sl ([.ref (ad o), .int a0, .ref ao]) ++ List.replicate (4 - (lg_sl ([.ref (ad o), .int a0, .ref ao])).length) Slot.unset).toArray = ls at hl ⊢
  have hl : lv_has ls 4 [(0, .ref (ad o)), (1, .int a0), (2, .ref ao)] := hl
  refine lv_aload_n hx hb dL_window_0 rfl (lv_at hl 2 rfl) ?_
  refine lv_iconst (v := 0) hx hb dL_window_1 (by decide) ?_
  refine lv_aload_n hx hb dL_window_2 rfl (lv_at hl 0 rfl) ?_
  refine lv_iload_n hx hb dL_window_3 rfl (lv_at hl 1 rfl) ?_
  refine t_xvi (As := [.int a0]) (rest := [.int 0, .ref ao]) E G hA hX hX.2.2.2.1 hml (x_X11_window l hst D cI cJ cZ cMic cSrc cSt cAI cAJ ad T o a0 h) (cwV 1 hts (gaV qA_989 qA_990 qA_991 qA_131 qA_786) rfl rfl rfl (by decide +kernel) ⟨Nat.le_of_ble_eq_true rfl, Nat.le_of_ble_eq_true rfl⟩) h_o (cc_o11 h_s) rfl rfl hl.1 rfl (lv_room (Nat.le_of_ble_eq_true rfl)) dL_window_4 ⟨by show 0 + (1) ≤ T1.1 - T.1 + 1; omega, by show 0 + (6) ≤ sg T1 - sg T + 6; omega⟩ ?_
  intro E9 ce q9 S1 H locs hp G hce hcv hcl
  obtain ⟨hE, hS1⟩ := hp
  rw [hS1] at G
  have had : ∀ n, n < T.1 → ad n = ad n := fun _ _ => rfl
  rcases e1 with _ | _ | e1
  · have hE : E9 = xISE := hE
    subst hE
    refine vx_catch (name := xISE) hown [] { startPc := 0, endPc := 9, handlerPc := 12, catchType := 21 } [{ startPc := 0, endPc := 9, handlerPc := 15, catchType := 13 }] htb (fun z hz => absurd hz List.not_mem_nil) (by decide) (by decide) (hts _ (.tail _ qA_952)) (hX.use (.castable xISE xISE) (by decide +kernel)) hce hcv hcl ?_
    refine lv_astore_n (lv' := [(3, .ref q9), (0, .ref (ad o)), (1, .int a0), (2, .ref ao)]) hx hb dL_window_12 rfl hl (by decide) rfl (fun ls hl => ?_)
    refine lv_iconst (v := 1) hx hb dL_window_13 (by decide) ?_
    refine W.widen (k := T1.1 - T.1 + 1) (n := sg T1 - sg T + 6) (by omega) (by omega) ?_
    exact W.iret (v := 1) hx hb hr (fun t ht hW => ⟨⟨1, ad, rfl, ⟨rfl, had⟩, ⟨by rw [ht]; exact G.1, va_K.moved hW.alike hK, G.2.1⟩⟩, G.2.2.F ht⟩) G.2.2.2.2 dL_window_14
  · have hE : E9 = xIOB := hE
    subst hE
    refine vx_catch (name := xIOB) hown [{ startPc := 0, endPc := 9, handlerPc := 12, catchType := 21 }] { startPc := 0, endPc := 9, handlerPc := 15, catchType := 13 } [] htb (List.forall_mem_cons.mpr ⟨Or.inr ⟨by decide, xISE, hts _ (.tail _ qA_952), hN.2.2.1⟩, fun z hz => absurd hz List.not_mem_nil⟩) (by decide) (by decide) (hts _ (.tail _ qA_946)) (hX.use (.castable xIOB xIOB) (by decide +kernel)) hce hcv hcl ?_
    refine lv_astore_n (lv' := [(3, .ref q9), (0, .ref (ad o)), (1, .int a0), (2, .ref ao)]) hx hb dL_window_15 rfl hl (by decide) rfl (fun ls hl => ?_)
    refine lv_iconst (v := 2) hx hb dL_window_16 (by decide) ?_
    refine W.widen (k := T1.1 - T.1 + 1) (n := sg T1 - sg T + 6) (by omega) (by omega) ?_
    exact W.iret (v := 2) hx hb hr (fun t ht hW => ⟨⟨2, ad, rfl, ⟨rfl, had⟩, ⟨by rw [ht]; exact G.1, va_K.moved hW.alike hK, G.2.1⟩⟩, G.2.2.F ht⟩) G.2.2.2.2 dL_window_17
  · have q := (cd_g_X11_window (S := [0, 1, 2]) (fun _ h => h) T o a0 _ _ _ h)
    simp only [List.mem_cons, List.not_mem_nil, or_false] at q
    omega
theorem v_window (l : Launch) (hst : l.stackTraces = false) (D : va_G) {cI cJ cZ cMic cSrc cSt cAI cAJ cD : ClassId} (h0 : Nat) (ad : Nat → Nat) (T : AT) (o : Nat) (a0 : Int32) (ao : Nat) (f : Nat → Int64) {k1 : Nat} {r1 : Int32} {T1 : AT} (h : g_X11_window T o a0 = some (k1, r1, T1)) (hrc : RC T) (h_o : o < T.1) (h_s : T.2.1 o = (11, 0)) : tWi l yL_window (Cond.codeWith yL_window cL_window 4 (some .int) [(0, 9, 12, 21), (0, 9, 15, 13)] :: wsA) 9 144 cI cJ cZ cMic cSrc cSt cAI cAJ cD D h0 ad T (oJ ao cJ f) [.ref (ad o), .int a0, .ref ao] (vck 1 2 0 k1) T1 (oJ ao cJ (vfJ k1 f r1.toInt64)) := by
  cases k1 with
  | zero => exact v_window_n l hst D h0 ad T o a0 ao f h hrc h_o h_s
  | succ e1 => exact v_window_t l hst D h0 ad T o a0 ao f h hrc h_o h_s
set_option maxHeartbeats 4000000 in
set_option maxRecDepth 100000 in
theorem v_sample_n (l : Launch) (hst : l.stackTraces = false) (D : va_G) {cI cJ cZ cMic cSrc cSt cAI cAJ cD : ClassId} (h0 : Nat) (ad : Nat → Nat) (T : AT) (o : Nat) (a0 a1 : Int32) (ao : Nat) (f : Nat → Int64) {r1 : Int32} {T1 : AT} (h : g_X11_sample T o a0 a1 = some (0, r1, T1)) (hrc : RC T) (h_o : o < T.1) (h_s : T.2.1 o = (11, 0)) : tWi l yL_sample (Cond.codeWith yL_sample cL_sample 5 (some .int) [(0, 10, 13, 21), (0, 10, 17, 13), (0, 10, 21, 15)] :: wsA) 9 145 cI cJ cZ cMic cSrc cSt cAI cAJ cD D h0 ad T (oJ ao cJ f) [.ref (ad o), .int a0, .int a1, .ref ao] (vck 1 2 3 (0)) T1 (oJ ao cJ (vfJ (0) f r1.toInt64)) := by
  intro sz
  refine va_MetW (cc := cL_sample) (maxL := 5) (ret := some .int) (by decide) rfl ?_
  intro p e s m args below meth c s₁ B hml hv
  obtain ⟨rfl, hsz, hP, hK, hD0, hX, hN, hA0, hTS⟩ := hv
  have hx := B.exec
  have hb := B.bytes
  have hr := B.returns
  have hts := atoms_spec (ws := (Cond.codeWith yL_sample cL_sample 5 (some .int) [(0, 10, 13, 21), (0, 10, 17, 13), (0, 10, 21, 15)] :: wsA)) B.pre
  have hown : s.vm.findClass RL = some m.cls := findClass_of_methodNamed B.named
  have hlocks := B.notSynchronized
  have htb := vx_table (x := yL_sample) B (hts _ (.head _))
  subst hsz
  have hD := hD0.self (sz := s.heap.size)
  generalize hAe : va_A (cW ad T.1 (cc cI cJ cZ cMic cSrc cSt cAI cAJ ad T) ++ [oJ ao cJ f]) s.heap.size = A at hD hX hA0 ⊢
  have hA : ∀ q : Nat, s.heap.size ≤ q → A q := fun q h => by rw [← hAe]; exact Or.inr h
  have G : gL cI cJ cZ cMic cSrc cSt cAI cAJ D ad A s.heap s.heap [] T [oJ ao cJ f] := ⟨hP, hD, va_S.rf⟩
  have E : cE p c cL_sample s m ([.ref (ad o), .int a0, .int a1, .ref ao] : List Value).toArray (Cond.codeWith yL_sample cL_sample 5 (some .int) [(0, 10, 13, 21), (0, 10, 17, 13), (0, 10, 21, 15)] :: wsA) D RL (CT cI cJ cZ cMic cSrc cSt cAI cAJ ++ [(cD, .double)]) := ⟨hx, hb, hts, hown, hK⟩
  have hl := lv_entry ([.ref (ad o), .int a0, .int a1, .ref ao]) (n := 5) (Nat.le_of_ble_eq_true rfl)
  rw [lg_entry_eq]
  generalize (lg_sl ([.ref (ad o), .int a0, .int a1, .ref ao]) ++ List.replicate (5 - (lg_sl ([.ref (ad o), .int a0, .int a1, .ref ao])).length) Slot.unset).toArray = ls at hl ⊢
  have hl : lv_has ls 5 [(0, .ref (ad o)), (1, .int a0), (2, .int a1), (3, .ref ao)] := hl
  refine lv_aload_n hx hb dL_sample_0 rfl (lv_at hl 3 rfl) ?_
  refine lv_iconst (v := 0) hx hb dL_sample_1 (by decide) ?_
  refine lv_aload_n hx hb dL_sample_2 rfl (lv_at hl 0 rfl) ?_
  refine lv_iload_n hx hb dL_sample_3 rfl (lv_at hl 1 rfl) ?_
  refine lv_iload_n hx hb dL_sample_4 rfl (lv_at hl 2 rfl) ?_
  refine t_cvi (As := [.int a0, .int a1]) (rest := [.int 0, .ref ao]) E G hA hX hX.2.2.2.1 hml (u_X11_sample l hst D cI cJ cZ cMic cSrc cSt cAI cAJ ad T o a0 a1 h) (cwV 2 hts (gaV qA_993 qA_994 qA_995 qA_131 qA_788) rfl rfl rfl (by decide +kernel) ⟨Nat.le_of_ble_eq_true rfl, Nat.le_of_ble_eq_true rfl⟩) h_o (cc_o11 h_s) rfl rfl hl.1 rfl (lv_room (Nat.le_of_ble_eq_true rfl)) dL_sample_5 ⟨by show 0 + (0) ≤ T1.1 - T.1 + 1; omega, by show 0 + (0) ≤ sg T1 - sg T + 6; omega⟩ ?_
  intro r9 S1 H locs hp G
  obtain ⟨hr9, hS1⟩ := hp
  rw [hS1] at G
  rw [hr9]
  have had : ∀ n, n < T.1 → ad n = ad n := fun _ _ => rfl
  refine lv_i2l (v := r1.toInt64) hx hb dL_sample_8 rfl ?_
  refine t_last E G dL_sample_9 (fun H locs G => ?_)
  refine lv_goto (tgt := 25) hx hb dL_sample_10 (by decide) ?_
  refine lv_iconst (v := 0) hx hb dL_sample_25 (by decide) ?_
  refine W.widen (k := T1.1 - T.1 + 1) (n := sg T1 - sg T + 6) (by omega) (by omega) ?_
  exact W.iret (v := 0) hx hb hr (fun t ht hW => ⟨⟨0, ad, rfl, ⟨rfl, had⟩, ⟨by rw [ht]; exact G.1, va_K.moved hW.alike hK, G.2.1⟩⟩, G.2.2.F ht⟩) G.2.2.2.2 dL_sample_26
set_option maxHeartbeats 4000000 in
set_option maxRecDepth 100000 in
theorem v_sample_t (l : Launch) (hst : l.stackTraces = false) (D : va_G) {cI cJ cZ cMic cSrc cSt cAI cAJ cD : ClassId} (h0 : Nat) (ad : Nat → Nat) (T : AT) (o : Nat) (a0 a1 : Int32) (ao : Nat) (f : Nat → Int64) {e1 : Nat} {r1 : Int32} {T1 : AT} (h : g_X11_sample T o a0 a1 = some (e1 + 1, r1, T1)) (hrc : RC T) (h_o : o < T.1) (h_s : T.2.1 o = (11, 0)) : tWi l yL_sample (Cond.codeWith yL_sample cL_sample 5 (some .int) [(0, 10, 13, 21), (0, 10, 17, 13), (0, 10, 21, 15)] :: wsA) 9 145 cI cJ cZ cMic cSrc cSt cAI cAJ cD D h0 ad T (oJ ao cJ f) [.ref (ad o), .int a0, .int a1, .ref ao] (vck 1 2 3 (e1 + 1)) T1 (oJ ao cJ (vfJ (e1 + 1) f r1.toInt64)) := by
  intro sz
  refine va_MetW (cc := cL_sample) (maxL := 5) (ret := some .int) (by decide) rfl ?_
  intro p e s m args below meth c s₁ B hml hv
  obtain ⟨rfl, hsz, hP, hK, hD0, hX, hN, hA0, hTS⟩ := hv
  have hx := B.exec
  have hb := B.bytes
  have hr := B.returns
  have hts := atoms_spec (ws := (Cond.codeWith yL_sample cL_sample 5 (some .int) [(0, 10, 13, 21), (0, 10, 17, 13), (0, 10, 21, 15)] :: wsA)) B.pre
  have hown : s.vm.findClass RL = some m.cls := findClass_of_methodNamed B.named
  have hlocks := B.notSynchronized
  have htb := vx_table (x := yL_sample) B (hts _ (.head _))
  subst hsz
  have hD := hD0.self (sz := s.heap.size)
  generalize hAe : va_A (cW ad T.1 (cc cI cJ cZ cMic cSrc cSt cAI cAJ ad T) ++ [oJ ao cJ f]) s.heap.size = A at hD hX hA0 ⊢
  have hA : ∀ q : Nat, s.heap.size ≤ q → A q := fun q h => by rw [← hAe]; exact Or.inr h
  have G : gL cI cJ cZ cMic cSrc cSt cAI cAJ D ad A s.heap s.heap [] T [oJ ao cJ f] := ⟨hP, hD, va_S.rf⟩
  have E : cE p c cL_sample s m ([.ref (ad o), .int a0, .int a1, .ref ao] : List Value).toArray (Cond.codeWith yL_sample cL_sample 5 (some .int) [(0, 10, 13, 21), (0, 10, 17, 13), (0, 10, 21, 15)] :: wsA) D RL (CT cI cJ cZ cMic cSrc cSt cAI cAJ ++ [(cD, .double)]) := ⟨hx, hb, hts, hown, hK⟩
  have hl := lv_entry ([.ref (ad o), .int a0, .int a1, .ref ao]) (n := 5) (Nat.le_of_ble_eq_true rfl)
  rw [lg_entry_eq]
  generalize (lg_sl ([.ref (ad o), .int a0, .int a1, .ref ao]) ++ List.replicate (5 - (lg_sl ([.ref (ad o), .int a0, .int a1, .ref ao])).length) Slot.unset).toArray = ls at hl ⊢
  have hl : lv_has ls 5 [(0, .ref (ad o)), (1, .int a0), (2, .int a1), (3, .ref ao)] := hl
  refine lv_aload_n hx hb dL_sample_0 rfl (lv_at hl 3 rfl) ?_
  refine lv_iconst (v := 0) hx hb dL_sample_1 (by decide) ?_
  refine lv_aload_n hx hb dL_sample_2 rfl (lv_at hl 0 rfl) ?_
  refine lv_iload_n hx hb dL_sample_3 rfl (lv_at hl 1 rfl) ?_
  refine lv_iload_n hx hb dL_sample_4 rfl (lv_at hl 2 rfl) ?_
  refine t_xvi (As := [.int a0, .int a1]) (rest := [.int 0, .ref ao]) E G hA hX hX.2.2.2.1 hml (x_X11_sample l hst D cI cJ cZ cMic cSrc cSt cAI cAJ ad T o a0 a1 h) (cwV 2 hts (gaV qA_993 qA_994 qA_995 qA_131 qA_788) rfl rfl rfl (by decide +kernel) ⟨Nat.le_of_ble_eq_true rfl, Nat.le_of_ble_eq_true rfl⟩) h_o (cc_o11 h_s) rfl rfl hl.1 rfl (lv_room (Nat.le_of_ble_eq_true rfl)) dL_sample_5 ⟨by show 0 + (1) ≤ T1.1 - T.1 + 1; omega, by show 0 + (6) ≤ sg T1 - sg T + 6; omega⟩ ?_
  intro E9 ce q9 S1 H locs hp G hce hcv hcl
  obtain ⟨hE, hS1⟩ := hp
  rw [hS1] at G
  have had : ∀ n, n < T.1 → ad n = ad n := fun _ _ => rfl
  rcases e1 with _ | _ | e1
  · have hE : E9 = xISE := hE
    subst hE
    refine vx_catch (name := xISE) hown [] { startPc := 0, endPc := 10, handlerPc := 13, catchType := 21 } [{ startPc := 0, endPc := 10, handlerPc := 17, catchType := 13 }, { startPc := 0, endPc := 10, handlerPc := 21, catchType := 15 }] htb (fun z hz => absurd hz List.not_mem_nil) (by decide) (by decide) (hts _ (.tail _ qA_952)) (hX.use (.castable xISE xISE) (by decide +kernel)) hce hcv hcl ?_
    refine lv_astore (lv' := [(4, .ref q9), (0, .ref (ad o)), (1, .int a0), (2, .int a1), (3, .ref ao)]) hx hb dL_sample_13 hl (by decide) rfl (fun ls hl => ?_)
    refine lv_iconst (v := 1) hx hb dL_sample_15 (by decide) ?_
    refine W.widen (k := T1.1 - T.1 + 1) (n := sg T1 - sg T + 6) (by omega) (by omega) ?_
    exact W.iret (v := 1) hx hb hr (fun t ht hW => ⟨⟨1, ad, rfl, ⟨rfl, had⟩, ⟨by rw [ht]; exact G.1, va_K.moved hW.alike hK, G.2.1⟩⟩, G.2.2.F ht⟩) G.2.2.2.2 dL_sample_16
  · have hE : E9 = xIOB := hE
    subst hE
    refine vx_catch (name := xIOB) hown [{ startPc := 0, endPc := 10, handlerPc := 13, catchType := 21 }] { startPc := 0, endPc := 10, handlerPc := 17, catchType := 13 } [{ startPc := 0, endPc := 10, handlerPc := 21, catchType := 15 }] htb (List.forall_mem_cons.mpr ⟨Or.inr ⟨by decide, xISE, hts _ (.tail _ qA_952), hN.2.2.1⟩, fun z hz => absurd hz List.not_mem_nil⟩) (by decide) (by decide) (hts _ (.tail _ qA_946)) (hX.use (.castable xIOB xIOB) (by decide +kernel)) hce hcv hcl ?_
    refine lv_astore (lv' := [(4, .ref q9), (0, .ref (ad o)), (1, .int a0), (2, .int a1), (3, .ref ao)]) hx hb dL_sample_17 hl (by decide) rfl (fun ls hl => ?_)
    refine lv_iconst (v := 2) hx hb dL_sample_19 (by decide) ?_
    refine W.widen (k := T1.1 - T.1 + 1) (n := sg T1 - sg T + 6) (by omega) (by omega) ?_
    exact W.iret (v := 2) hx hb hr (fun t ht hW => ⟨⟨2, ad, rfl, ⟨rfl, had⟩, ⟨by rw [ht]; exact G.1, va_K.moved hW.alike hK, G.2.1⟩⟩, G.2.2.F ht⟩) G.2.2.2.2 dL_sample_20
  · have hE : E9 = xIAE := hE
    subst hE
    refine vx_catch (name := xIAE) hown [{ startPc := 0, endPc := 10, handlerPc := 13, catchType := 21 }, { startPc := 0, endPc := 10, handlerPc := 17, catchType := 13 }] { startPc := 0, endPc := 10, handlerPc := 21, catchType := 15 } [] htb (List.forall_mem_cons.mpr ⟨Or.inr ⟨by decide, xISE, hts _ (.tail _ qA_952), hN.2.2.2⟩, List.forall_mem_cons.mpr ⟨Or.inr ⟨by decide, xIOB, hts _ (.tail _ qA_946), hN.1⟩, fun z hz => absurd hz List.not_mem_nil⟩⟩) (by decide) (by decide) (hts _ (.tail _ qA_947)) (hX.use (.castable xIAE xIAE) (by decide +kernel)) hce hcv hcl ?_
    refine lv_astore (lv' := [(4, .ref q9), (0, .ref (ad o)), (1, .int a0), (2, .int a1), (3, .ref ao)]) hx hb dL_sample_21 hl (by decide) rfl (fun ls hl => ?_)
    refine lv_iconst (v := 3) hx hb dL_sample_23 (by decide) ?_
    refine W.widen (k := T1.1 - T.1 + 1) (n := sg T1 - sg T + 6) (by omega) (by omega) ?_
    exact W.iret (v := 3) hx hb hr (fun t ht hW => ⟨⟨3, ad, rfl, ⟨rfl, had⟩, ⟨by rw [ht]; exact G.1, va_K.moved hW.alike hK, G.2.1⟩⟩, G.2.2.F ht⟩) G.2.2.2.2 dL_sample_24
theorem v_sample (l : Launch) (hst : l.stackTraces = false) (D : va_G) {cI cJ cZ cMic cSrc cSt cAI cAJ cD : ClassId} (h0 : Nat) (ad : Nat → Nat) (T : AT) (o : Nat) (a0 a1 : Int32) (ao : Nat) (f : Nat → Int64) {k1 : Nat} {r1 : Int32} {T1 : AT} (h : g_X11_sample T o a0 a1 = some (k1, r1, T1)) (hrc : RC T) (h_o : o < T.1) (h_s : T.2.1 o = (11, 0)) : tWi l yL_sample (Cond.codeWith yL_sample cL_sample 5 (some .int) [(0, 10, 13, 21), (0, 10, 17, 13), (0, 10, 21, 15)] :: wsA) 9 145 cI cJ cZ cMic cSrc cSt cAI cAJ cD D h0 ad T (oJ ao cJ f) [.ref (ad o), .int a0, .int a1, .ref ao] (vck 1 2 3 k1) T1 (oJ ao cJ (vfJ k1 f r1.toInt64)) := by
  cases k1 with
  | zero => exact v_sample_n l hst D h0 ad T o a0 a1 ao f h hrc h_o h_s
  | succ e1 => exact v_sample_t l hst D h0 ad T o a0 a1 ao f h hrc h_o h_s
set_option maxHeartbeats 4000000 in
set_option maxRecDepth 100000 in
theorem v_beam_n (l : Launch) (hst : l.stackTraces = false) (D : va_G) {cI cJ cZ cMic cSrc cSt cAI cAJ cD : ClassId} (h0 : Nat) (ad : Nat → Nat) (T : AT) (o : Nat) (a0 a1 : Int32) (ao : Nat) (f : Nat → Int64) {r1 : Int32} {T1 : AT} (h : g_X11_beam T o a0 a1 = some (0, r1, T1)) (hrc : RC T) (h_o : o < T.1) (h_s : T.2.1 o = (11, 0)) : tWi l yL_beam (Cond.codeWith yL_beam cL_beam 5 (some .int) [(0, 10, 13, 21), (0, 10, 17, 13), (0, 10, 21, 15)] :: wsA) 9 145 cI cJ cZ cMic cSrc cSt cAI cAJ cD D h0 ad T (oJ ao cJ f) [.ref (ad o), .int a0, .int a1, .ref ao] (vck 1 2 3 (0)) T1 (oJ ao cJ (vfJ (0) f r1.toInt64)) := by
  intro sz
  refine va_MetW (cc := cL_beam) (maxL := 5) (ret := some .int) (by decide) rfl ?_
  intro p e s m args below meth c s₁ B hml hv
  obtain ⟨rfl, hsz, hP, hK, hD0, hX, hN, hA0, hTS⟩ := hv
  have hx := B.exec
  have hb := B.bytes
  have hr := B.returns
  have hts := atoms_spec (ws := (Cond.codeWith yL_beam cL_beam 5 (some .int) [(0, 10, 13, 21), (0, 10, 17, 13), (0, 10, 21, 15)] :: wsA)) B.pre
  have hown : s.vm.findClass RL = some m.cls := findClass_of_methodNamed B.named
  have hlocks := B.notSynchronized
  have htb := vx_table (x := yL_beam) B (hts _ (.head _))
  subst hsz
  have hD := hD0.self (sz := s.heap.size)
  generalize hAe : va_A (cW ad T.1 (cc cI cJ cZ cMic cSrc cSt cAI cAJ ad T) ++ [oJ ao cJ f]) s.heap.size = A at hD hX hA0 ⊢
  have hA : ∀ q : Nat, s.heap.size ≤ q → A q := fun q h => by rw [← hAe]; exact Or.inr h
  have G : gL cI cJ cZ cMic cSrc cSt cAI cAJ D ad A s.heap s.heap [] T [oJ ao cJ f] := ⟨hP, hD, va_S.rf⟩
  have E : cE p c cL_beam s m ([.ref (ad o), .int a0, .int a1, .ref ao] : List Value).toArray (Cond.codeWith yL_beam cL_beam 5 (some .int) [(0, 10, 13, 21), (0, 10, 17, 13), (0, 10, 21, 15)] :: wsA) D RL (CT cI cJ cZ cMic cSrc cSt cAI cAJ ++ [(cD, .double)]) := ⟨hx, hb, hts, hown, hK⟩
  have hl := lv_entry ([.ref (ad o), .int a0, .int a1, .ref ao]) (n := 5) (Nat.le_of_ble_eq_true rfl)
  rw [lg_entry_eq]
  generalize (lg_sl ([.ref (ad o), .int a0, .int a1, .ref ao]) ++ List.replicate (5 - (lg_sl ([.ref (ad o), .int a0, .int a1, .ref ao])).length) Slot.unset).toArray = ls at hl ⊢
  have hl : lv_has ls 5 [(0, .ref (ad o)), (1, .int a0), (2, .int a1), (3, .ref ao)] := hl
  refine lv_aload_n hx hb dL_beam_0 rfl (lv_at hl 3 rfl) ?_
  refine lv_iconst (v := 0) hx hb dL_beam_1 (by decide) ?_
  refine lv_aload_n hx hb dL_beam_2 rfl (lv_at hl 0 rfl) ?_
  refine lv_iload_n hx hb dL_beam_3 rfl (lv_at hl 1 rfl) ?_
  refine lv_iload_n hx hb dL_beam_4 rfl (lv_at hl 2 rfl) ?_
  refine t_avi (As := [.int a0, .int a1]) (rest := [.int 0, .ref ao]) E G hA hX hX.2.2.2.1 hml (a_X11_beam l hst D cI cJ cZ cMic cSrc cSt cAI cAJ ad T o a0 a1 h hrc h_o) (cwV 2 hts (gaV qA_997 qA_998 qA_999 qA_131 qA_794) rfl rfl rfl (by decide +kernel) ⟨Nat.le_of_ble_eq_true rfl, Nat.le_of_ble_eq_true rfl⟩) h_o (cc_o11 h_s) rfl rfl hl.1 rfl (lv_room (Nat.le_of_ble_eq_true rfl)) dL_beam_5 ⟨by show 0 + (T1.1 - T.1) ≤ T1.1 - T.1 + 1; omega, by show 0 + (sg T1 - sg T) ≤ sg T1 - sg T + 6; omega⟩ ?_
  intro ad2 H locs had G
  refine lv_i2l (v := r1.toInt64) hx hb dL_beam_8 rfl ?_
  refine t_last E G dL_beam_9 (fun H locs G => ?_)
  refine lv_goto (tgt := 25) hx hb dL_beam_10 (by decide) ?_
  refine lv_iconst (v := 0) hx hb dL_beam_25 (by decide) ?_
  refine W.widen (k := T1.1 - T.1 + 1) (n := sg T1 - sg T + 6) (by omega) (by omega) ?_
  exact W.iret (v := 0) hx hb hr (fun t ht hW => ⟨⟨0, ad2, rfl, ⟨rfl, had⟩, ⟨by rw [ht]; exact G.1, va_K.moved hW.alike hK, G.2.1⟩⟩, G.2.2.F ht⟩) G.2.2.2.2 dL_beam_26
set_option maxHeartbeats 4000000 in
set_option maxRecDepth 100000 in
theorem v_beam_t (l : Launch) (hst : l.stackTraces = false) (D : va_G) {cI cJ cZ cMic cSrc cSt cAI cAJ cD : ClassId} (h0 : Nat) (ad : Nat → Nat) (T : AT) (o : Nat) (a0 a1 : Int32) (ao : Nat) (f : Nat → Int64) {e1 : Nat} {r1 : Int32} {T1 : AT} (h : g_X11_beam T o a0 a1 = some (e1 + 1, r1, T1)) (hrc : RC T) (h_o : o < T.1) (h_s : T.2.1 o = (11, 0)) : tWi l yL_beam (Cond.codeWith yL_beam cL_beam 5 (some .int) [(0, 10, 13, 21), (0, 10, 17, 13), (0, 10, 21, 15)] :: wsA) 9 145 cI cJ cZ cMic cSrc cSt cAI cAJ cD D h0 ad T (oJ ao cJ f) [.ref (ad o), .int a0, .int a1, .ref ao] (vck 1 2 3 (e1 + 1)) T1 (oJ ao cJ (vfJ (e1 + 1) f r1.toInt64)) := by
  intro sz
  refine va_MetW (cc := cL_beam) (maxL := 5) (ret := some .int) (by decide) rfl ?_
  intro p e s m args below meth c s₁ B hml hv
  obtain ⟨rfl, hsz, hP, hK, hD0, hX, hN, hA0, hTS⟩ := hv
  have hx := B.exec
  have hb := B.bytes
  have hr := B.returns
  have hts := atoms_spec (ws := (Cond.codeWith yL_beam cL_beam 5 (some .int) [(0, 10, 13, 21), (0, 10, 17, 13), (0, 10, 21, 15)] :: wsA)) B.pre
  have hown : s.vm.findClass RL = some m.cls := findClass_of_methodNamed B.named
  have hlocks := B.notSynchronized
  have htb := vx_table (x := yL_beam) B (hts _ (.head _))
  subst hsz
  have hD := hD0.self (sz := s.heap.size)
  generalize hAe : va_A (cW ad T.1 (cc cI cJ cZ cMic cSrc cSt cAI cAJ ad T) ++ [oJ ao cJ f]) s.heap.size = A at hD hX hA0 ⊢
  have hA : ∀ q : Nat, s.heap.size ≤ q → A q := fun q h => by rw [← hAe]; exact Or.inr h
  have G : gL cI cJ cZ cMic cSrc cSt cAI cAJ D ad A s.heap s.heap [] T [oJ ao cJ f] := ⟨hP, hD, va_S.rf⟩
  have E : cE p c cL_beam s m ([.ref (ad o), .int a0, .int a1, .ref ao] : List Value).toArray (Cond.codeWith yL_beam cL_beam 5 (some .int) [(0, 10, 13, 21), (0, 10, 17, 13), (0, 10, 21, 15)] :: wsA) D RL (CT cI cJ cZ cMic cSrc cSt cAI cAJ ++ [(cD, .double)]) := ⟨hx, hb, hts, hown, hK⟩
  have hl := lv_entry ([.ref (ad o), .int a0, .int a1, .ref ao]) (n := 5) (Nat.le_of_ble_eq_true rfl)
  rw [lg_entry_eq]
  generalize (lg_sl ([.ref (ad o), .int a0, .int a1, .ref ao]) ++ List.replicate (5 - (lg_sl ([.ref (ad o), .int a0, .int a1, .ref ao])).length) Slot.unset).toArray = ls at hl ⊢
  have hl : lv_has ls 5 [(0, .ref (ad o)), (1, .int a0), (2, .int a1), (3, .ref ao)] := hl
  refine lv_aload_n hx hb dL_beam_0 rfl (lv_at hl 3 rfl) ?_
  refine lv_iconst (v := 0) hx hb dL_beam_1 (by decide) ?_
  refine lv_aload_n hx hb dL_beam_2 rfl (lv_at hl 0 rfl) ?_
  refine lv_iload_n hx hb dL_beam_3 rfl (lv_at hl 1 rfl) ?_
  refine lv_iload_n hx hb dL_beam_4 rfl (lv_at hl 2 rfl) ?_
  refine t_bvi (As := [.int a0, .int a1]) (rest := [.int 0, .ref ao]) E G hA hX hX.2.2.2.1 hml (b_X11_beam l hst D cI cJ cZ cMic cSrc cSt cAI cAJ ad T o a0 a1 h hrc h_o) (cwV 2 hts (gaV qA_997 qA_998 qA_999 qA_131 qA_794) rfl rfl rfl (by decide +kernel) ⟨Nat.le_of_ble_eq_true rfl, Nat.le_of_ble_eq_true rfl⟩) h_o (cc_o11 h_s) rfl rfl hl.1 rfl (lv_room (Nat.le_of_ble_eq_true rfl)) dL_beam_5 ⟨by show 0 + (T1.1 - T.1 + 1) ≤ T1.1 - T.1 + 1; omega, by show 0 + (sg T1 - sg T + 6) ≤ sg T1 - sg T + 6; omega⟩ ?_
  intro E9 ce q9 ad2 H locs hE had G hce hcv hcl
  rcases e1 with _ | _ | e1
  · have hE : E9 = xISE := hE
    subst hE
    refine vx_catch (name := xISE) hown [] { startPc := 0, endPc := 10, handlerPc := 13, catchType := 21 } [{ startPc := 0, endPc := 10, handlerPc := 17, catchType := 13 }, { startPc := 0, endPc := 10, handlerPc := 21, catchType := 15 }] htb (fun z hz => absurd hz List.not_mem_nil) (by decide) (by decide) (hts _ (.tail _ qA_952)) (hX.use (.castable xISE xISE) (by decide +kernel)) hce hcv hcl ?_
    refine lv_astore (lv' := [(4, .ref q9), (0, .ref (ad o)), (1, .int a0), (2, .int a1), (3, .ref ao)]) hx hb dL_beam_13 hl (by decide) rfl (fun ls hl => ?_)
    refine lv_iconst (v := 1) hx hb dL_beam_15 (by decide) ?_
    refine W.widen (k := T1.1 - T.1 + 1) (n := sg T1 - sg T + 6) (by omega) (by omega) ?_
    exact W.iret (v := 1) hx hb hr (fun t ht hW => ⟨⟨1, ad2, rfl, ⟨rfl, had⟩, ⟨by rw [ht]; exact G.1, va_K.moved hW.alike hK, G.2.1⟩⟩, G.2.2.F ht⟩) G.2.2.2.2 dL_beam_16
  · have hE : E9 = xIOB := hE
    subst hE
    refine vx_catch (name := xIOB) hown [{ startPc := 0, endPc := 10, handlerPc := 13, catchType := 21 }] { startPc := 0, endPc := 10, handlerPc := 17, catchType := 13 } [{ startPc := 0, endPc := 10, handlerPc := 21, catchType := 15 }] htb (List.forall_mem_cons.mpr ⟨Or.inr ⟨by decide, xISE, hts _ (.tail _ qA_952), hN.2.2.1⟩, fun z hz => absurd hz List.not_mem_nil⟩) (by decide) (by decide) (hts _ (.tail _ qA_946)) (hX.use (.castable xIOB xIOB) (by decide +kernel)) hce hcv hcl ?_
    refine lv_astore (lv' := [(4, .ref q9), (0, .ref (ad o)), (1, .int a0), (2, .int a1), (3, .ref ao)]) hx hb dL_beam_17 hl (by decide) rfl (fun ls hl => ?_)
    refine lv_iconst (v := 2) hx hb dL_beam_19 (by decide) ?_
    refine W.widen (k := T1.1 - T.1 + 1) (n := sg T1 - sg T + 6) (by omega) (by omega) ?_
    exact W.iret (v := 2) hx hb hr (fun t ht hW => ⟨⟨2, ad2, rfl, ⟨rfl, had⟩, ⟨by rw [ht]; exact G.1, va_K.moved hW.alike hK, G.2.1⟩⟩, G.2.2.F ht⟩) G.2.2.2.2 dL_beam_20
  · have hE : E9 = xIAE := hE
    subst hE
    refine vx_catch (name := xIAE) hown [{ startPc := 0, endPc := 10, handlerPc := 13, catchType := 21 }, { startPc := 0, endPc := 10, handlerPc := 17, catchType := 13 }] { startPc := 0, endPc := 10, handlerPc := 21, catchType := 15 } [] htb (List.forall_mem_cons.mpr ⟨Or.inr ⟨by decide, xISE, hts _ (.tail _ qA_952), hN.2.2.2⟩, List.forall_mem_cons.mpr ⟨Or.inr ⟨by decide, xIOB, hts _ (.tail _ qA_946), hN.1⟩, fun z hz => absurd hz List.not_mem_nil⟩⟩) (by decide) (by decide) (hts _ (.tail _ qA_947)) (hX.use (.castable xIAE xIAE) (by decide +kernel)) hce hcv hcl ?_
    refine lv_astore (lv' := [(4, .ref q9), (0, .ref (ad o)), (1, .int a0), (2, .int a1), (3, .ref ao)]) hx hb dL_beam_21 hl (by decide) rfl (fun ls hl => ?_)
    refine lv_iconst (v := 3) hx hb dL_beam_23 (by decide) ?_
    refine W.widen (k := T1.1 - T.1 + 1) (n := sg T1 - sg T + 6) (by omega) (by omega) ?_
    exact W.iret (v := 3) hx hb hr (fun t ht hW => ⟨⟨3, ad2, rfl, ⟨rfl, had⟩, ⟨by rw [ht]; exact G.1, va_K.moved hW.alike hK, G.2.1⟩⟩, G.2.2.F ht⟩) G.2.2.2.2 dL_beam_24
theorem v_beam (l : Launch) (hst : l.stackTraces = false) (D : va_G) {cI cJ cZ cMic cSrc cSt cAI cAJ cD : ClassId} (h0 : Nat) (ad : Nat → Nat) (T : AT) (o : Nat) (a0 a1 : Int32) (ao : Nat) (f : Nat → Int64) {k1 : Nat} {r1 : Int32} {T1 : AT} (h : g_X11_beam T o a0 a1 = some (k1, r1, T1)) (hrc : RC T) (h_o : o < T.1) (h_s : T.2.1 o = (11, 0)) : tWi l yL_beam (Cond.codeWith yL_beam cL_beam 5 (some .int) [(0, 10, 13, 21), (0, 10, 17, 13), (0, 10, 21, 15)] :: wsA) 9 145 cI cJ cZ cMic cSrc cSt cAI cAJ cD D h0 ad T (oJ ao cJ f) [.ref (ad o), .int a0, .int a1, .ref ao] (vck 1 2 3 k1) T1 (oJ ao cJ (vfJ k1 f r1.toInt64)) := by
  cases k1 with
  | zero => exact v_beam_n l hst D h0 ad T o a0 a1 ao f h hrc h_o h_s
  | succ e1 => exact v_beam_t l hst D h0 ad T o a0 a1 ao f h hrc h_o h_s
set_option maxHeartbeats 4000000 in
set_option maxRecDepth 100000 in
theorem v_power_n (l : Launch) (hst : l.stackTraces = false) (D : va_G) {cI cJ cZ cMic cSrc cSt cAI cAJ cD : ClassId} (h0 : Nat) (ad : Nat → Nat) (T : AT) (o : Nat) (a0 : Int32) (ao : Nat) (f : Nat → Int64) {r1 : Int64} {T1 : AT} (h : g_X11_power T o a0 = some (0, r1, T1)) (hrc : RC T) (h_o : o < T.1) (h_s : T.2.1 o = (11, 0)) : tWi l yL_power (Cond.codeWith yL_power cL_power 4 (some .int) [(0, 8, 11, 21), (0, 8, 14, 13)] :: wsA) 9 170 cI cJ cZ cMic cSrc cSt cAI cAJ cD D h0 ad T (oJ ao cJ f) [.ref (ad o), .int a0, .ref ao] (vck 1 2 0 (0)) T1 (oJ ao cJ (vfJ (0) f r1)) := by
  intro sz
  refine va_MetW (cc := cL_power) (maxL := 4) (ret := some .int) (by decide) rfl ?_
  intro p e s m args below meth c s₁ B hml hv
  obtain ⟨rfl, hsz, hP, hK, hD0, hX, hN, hA0, hTS⟩ := hv
  have hx := B.exec
  have hb := B.bytes
  have hr := B.returns
  have hts := atoms_spec (ws := (Cond.codeWith yL_power cL_power 4 (some .int) [(0, 8, 11, 21), (0, 8, 14, 13)] :: wsA)) B.pre
  have hown : s.vm.findClass RL = some m.cls := findClass_of_methodNamed B.named
  have hlocks := B.notSynchronized
  have htb := vx_table (x := yL_power) B (hts _ (.head _))
  subst hsz
  have hD := hD0.self (sz := s.heap.size)
  generalize hAe : va_A (cW ad T.1 (cc cI cJ cZ cMic cSrc cSt cAI cAJ ad T) ++ [oJ ao cJ f]) s.heap.size = A at hD hX hA0 ⊢
  have hA : ∀ q : Nat, s.heap.size ≤ q → A q := fun q h => by rw [← hAe]; exact Or.inr h
  have G : gL cI cJ cZ cMic cSrc cSt cAI cAJ D ad A s.heap s.heap [] T [oJ ao cJ f] := ⟨hP, hD, va_S.rf⟩
  have E : cE p c cL_power s m ([.ref (ad o), .int a0, .ref ao] : List Value).toArray (Cond.codeWith yL_power cL_power 4 (some .int) [(0, 8, 11, 21), (0, 8, 14, 13)] :: wsA) D RL (CT cI cJ cZ cMic cSrc cSt cAI cAJ ++ [(cD, .double)]) := ⟨hx, hb, hts, hown, hK⟩
  have hl := lv_entry ([.ref (ad o), .int a0, .ref ao]) (n := 4) (Nat.le_of_ble_eq_true rfl)
  rw [lg_entry_eq]
  generalize (lg_sl ([.ref (ad o), .int a0, .ref ao]) ++ List.replicate (4 - (lg_sl ([.ref (ad o), .int a0, .ref ao])).length) Slot.unset).toArray = ls at hl ⊢
  have hl : lv_has ls 4 [(0, .ref (ad o)), (1, .int a0), (2, .ref ao)] := hl
  refine lv_aload_n hx hb dL_power_0 rfl (lv_at hl 2 rfl) ?_
  refine lv_iconst (v := 0) hx hb dL_power_1 (by decide) ?_
  refine lv_aload_n hx hb dL_power_2 rfl (lv_at hl 0 rfl) ?_
  refine lv_iload_n hx hb dL_power_3 rfl (lv_at hl 1 rfl) ?_
  refine t_avl (As := [.int a0]) (rest := [.int 0, .ref ao]) E G hA hX hX.2.2.2.1 hml (a_X11_power l hst D cI cJ cZ cMic cSrc cSt cAI cAJ ad T o a0 h hrc h_o) (cwV 1 hts (gaV qA_1001 qA_1002 qA_1003 qA_131 qA_797) rfl rfl rfl (by decide +kernel) ⟨Nat.le_of_ble_eq_true rfl, Nat.le_of_ble_eq_true rfl⟩) h_o (cc_o11 h_s) rfl rfl hl.1 rfl (lv_room (Nat.le_of_ble_eq_true rfl)) dL_power_4 ⟨by show 0 + (T1.1 - T.1) ≤ T1.1 - T.1 + 1; omega, by show 0 + (sg T1 - sg T) ≤ sg T1 - sg T + 6; omega⟩ ?_
  intro ad2 H locs had G
  refine t_last E G dL_power_7 (fun H locs G => ?_)
  refine lv_goto (tgt := 17) hx hb dL_power_8 (by decide) ?_
  refine lv_iconst (v := 0) hx hb dL_power_17 (by decide) ?_
  refine W.widen (k := T1.1 - T.1 + 1) (n := sg T1 - sg T + 6) (by omega) (by omega) ?_
  exact W.iret (v := 0) hx hb hr (fun t ht hW => ⟨⟨0, ad2, rfl, ⟨rfl, had⟩, ⟨by rw [ht]; exact G.1, va_K.moved hW.alike hK, G.2.1⟩⟩, G.2.2.F ht⟩) G.2.2.2.2 dL_power_18
set_option maxHeartbeats 4000000 in
set_option maxRecDepth 100000 in
theorem v_power_t (l : Launch) (hst : l.stackTraces = false) (D : va_G) {cI cJ cZ cMic cSrc cSt cAI cAJ cD : ClassId} (h0 : Nat) (ad : Nat → Nat) (T : AT) (o : Nat) (a0 : Int32) (ao : Nat) (f : Nat → Int64) {e1 : Nat} {r1 : Int64} {T1 : AT} (h : g_X11_power T o a0 = some (e1 + 1, r1, T1)) (hrc : RC T) (h_o : o < T.1) (h_s : T.2.1 o = (11, 0)) : tWi l yL_power (Cond.codeWith yL_power cL_power 4 (some .int) [(0, 8, 11, 21), (0, 8, 14, 13)] :: wsA) 9 170 cI cJ cZ cMic cSrc cSt cAI cAJ cD D h0 ad T (oJ ao cJ f) [.ref (ad o), .int a0, .ref ao] (vck 1 2 0 (e1 + 1)) T1 (oJ ao cJ (vfJ (e1 + 1) f r1)) := by
  intro sz
  refine va_MetW (cc := cL_power) (maxL := 4) (ret := some .int) (by decide) rfl ?_
  intro p e s m args below meth c s₁ B hml hv
  obtain ⟨rfl, hsz, hP, hK, hD0, hX, hN, hA0, hTS⟩ := hv
  have hx := B.exec
  have hb := B.bytes
  have hr := B.returns
  have hts := atoms_spec (ws := (Cond.codeWith yL_power cL_power 4 (some .int) [(0, 8, 11, 21), (0, 8, 14, 13)] :: wsA)) B.pre
  have hown : s.vm.findClass RL = some m.cls := findClass_of_methodNamed B.named
  have hlocks := B.notSynchronized
  have htb := vx_table (x := yL_power) B (hts _ (.head _))
  subst hsz
  have hD := hD0.self (sz := s.heap.size)
  generalize hAe : va_A (cW ad T.1 (cc cI cJ cZ cMic cSrc cSt cAI cAJ ad T) ++ [oJ ao cJ f]) s.heap.size = A at hD hX hA0 ⊢
  have hA : ∀ q : Nat, s.heap.size ≤ q → A q := fun q h => by rw [← hAe]; exact Or.inr h
  have G : gL cI cJ cZ cMic cSrc cSt cAI cAJ D ad A s.heap s.heap [] T [oJ ao cJ f] := ⟨hP, hD, va_S.rf⟩
  have E : cE p c cL_power s m ([.ref (ad o), .int a0, .ref ao] : List Value).toArray (Cond.codeWith yL_power cL_power 4 (some .int) [(0, 8, 11, 21), (0, 8, 14, 13)] :: wsA) D RL (CT cI cJ cZ cMic cSrc cSt cAI cAJ ++ [(cD, .double)]) := ⟨hx, hb, hts, hown, hK⟩
  have hl := lv_entry ([.ref (ad o), .int a0, .ref ao]) (n := 4) (Nat.le_of_ble_eq_true rfl)
  rw [lg_entry_eq]
  generalize (lg_sl ([.ref (ad o), .int a0, .ref ao]) ++ List.replicate (4 - (lg_sl ([.ref (ad o), .int a0, .ref ao])).length) Slot.unset).toArray = ls at hl ⊢
  have hl : lv_has ls 4 [(0, .ref (ad o)), (1, .int a0), (2, .ref ao)] := hl
  refine lv_aload_n hx hb dL_power_0 rfl (lv_at hl 2 rfl) ?_
  refine lv_iconst (v := 0) hx hb dL_power_1 (by decide) ?_
  refine lv_aload_n hx hb dL_power_2 rfl (lv_at hl 0 rfl) ?_
  refine lv_iload_n hx hb dL_power_3 rfl (lv_at hl 1 rfl) ?_
  refine t_bvl (As := [.int a0]) (rest := [.int 0, .ref ao]) E G hA hX hX.2.2.2.1 hml (b_X11_power l hst D cI cJ cZ cMic cSrc cSt cAI cAJ ad T o a0 h hrc h_o) (cwV 1 hts (gaV qA_1001 qA_1002 qA_1003 qA_131 qA_797) rfl rfl rfl (by decide +kernel) ⟨Nat.le_of_ble_eq_true rfl, Nat.le_of_ble_eq_true rfl⟩) h_o (cc_o11 h_s) rfl rfl hl.1 rfl (lv_room (Nat.le_of_ble_eq_true rfl)) dL_power_4 ⟨by show 0 + (T1.1 - T.1 + 1) ≤ T1.1 - T.1 + 1; omega, by show 0 + (sg T1 - sg T + 6) ≤ sg T1 - sg T + 6; omega⟩ ?_
  intro E9 ce q9 ad2 H locs hE had G hce hcv hcl
  rcases e1 with _ | _ | e1
  · have hE : E9 = xISE := hE
    subst hE
    refine vx_catch (name := xISE) hown [] { startPc := 0, endPc := 8, handlerPc := 11, catchType := 21 } [{ startPc := 0, endPc := 8, handlerPc := 14, catchType := 13 }] htb (fun z hz => absurd hz List.not_mem_nil) (by decide) (by decide) (hts _ (.tail _ qA_952)) (hX.use (.castable xISE xISE) (by decide +kernel)) hce hcv hcl ?_
    refine lv_astore_n (lv' := [(3, .ref q9), (0, .ref (ad o)), (1, .int a0), (2, .ref ao)]) hx hb dL_power_11 rfl hl (by decide) rfl (fun ls hl => ?_)
    refine lv_iconst (v := 1) hx hb dL_power_12 (by decide) ?_
    refine W.widen (k := T1.1 - T.1 + 1) (n := sg T1 - sg T + 6) (by omega) (by omega) ?_
    exact W.iret (v := 1) hx hb hr (fun t ht hW => ⟨⟨1, ad2, rfl, ⟨rfl, had⟩, ⟨by rw [ht]; exact G.1, va_K.moved hW.alike hK, G.2.1⟩⟩, G.2.2.F ht⟩) G.2.2.2.2 dL_power_13
  · have hE : E9 = xIOB := hE
    subst hE
    refine vx_catch (name := xIOB) hown [{ startPc := 0, endPc := 8, handlerPc := 11, catchType := 21 }] { startPc := 0, endPc := 8, handlerPc := 14, catchType := 13 } [] htb (List.forall_mem_cons.mpr ⟨Or.inr ⟨by decide, xISE, hts _ (.tail _ qA_952), hN.2.2.1⟩, fun z hz => absurd hz List.not_mem_nil⟩) (by decide) (by decide) (hts _ (.tail _ qA_946)) (hX.use (.castable xIOB xIOB) (by decide +kernel)) hce hcv hcl ?_
    refine lv_astore_n (lv' := [(3, .ref q9), (0, .ref (ad o)), (1, .int a0), (2, .ref ao)]) hx hb dL_power_14 rfl hl (by decide) rfl (fun ls hl => ?_)
    refine lv_iconst (v := 2) hx hb dL_power_15 (by decide) ?_
    refine W.widen (k := T1.1 - T.1 + 1) (n := sg T1 - sg T + 6) (by omega) (by omega) ?_
    exact W.iret (v := 2) hx hb hr (fun t ht hW => ⟨⟨2, ad2, rfl, ⟨rfl, had⟩, ⟨by rw [ht]; exact G.1, va_K.moved hW.alike hK, G.2.1⟩⟩, G.2.2.F ht⟩) G.2.2.2.2 dL_power_16
  · have q := (cd_g_X11_power (S := [0, 1, 2]) (fun _ h => h) T o a0 _ _ _ h)
    simp only [List.mem_cons, List.not_mem_nil, or_false] at q
    omega
theorem v_power (l : Launch) (hst : l.stackTraces = false) (D : va_G) {cI cJ cZ cMic cSrc cSt cAI cAJ cD : ClassId} (h0 : Nat) (ad : Nat → Nat) (T : AT) (o : Nat) (a0 : Int32) (ao : Nat) (f : Nat → Int64) {k1 : Nat} {r1 : Int64} {T1 : AT} (h : g_X11_power T o a0 = some (k1, r1, T1)) (hrc : RC T) (h_o : o < T.1) (h_s : T.2.1 o = (11, 0)) : tWi l yL_power (Cond.codeWith yL_power cL_power 4 (some .int) [(0, 8, 11, 21), (0, 8, 14, 13)] :: wsA) 9 170 cI cJ cZ cMic cSrc cSt cAI cAJ cD D h0 ad T (oJ ao cJ f) [.ref (ad o), .int a0, .ref ao] (vck 1 2 0 k1) T1 (oJ ao cJ (vfJ k1 f r1)) := by
  cases k1 with
  | zero => exact v_power_n l hst D h0 ad T o a0 ao f h hrc h_o h_s
  | succ e1 => exact v_power_t l hst D h0 ad T o a0 ao f h hrc h_o h_s
end
section
/-! 14d.vb1.lean.txt -/
set_option maxHeartbeats 4000000 in
set_option maxRecDepth 100000 in
theorem v_powerAt_n (l : Launch) (hst : l.stackTraces = false) (D : va_G) {cI cJ cZ cMic cSrc cSt cAI cAJ cD : ClassId} (h0 : Nat) (ad : Nat → Nat) (T : AT) (o : Nat) (a0 a1 : Int32) (ao : Nat) (f : Nat → Int64) {r1 : Int64} {T1 : AT} (h : g_X11_powerAt T o a0 a1 = some (0, r1, T1)) (hrc : RC T) (h_o : o < T.1) (h_s : T.2.1 o = (11, 0)) : tWi l yL_powerAt (Cond.codeWith yL_powerAt cL_powerAt 5 (some .int) [(0, 9, 12, 21), (0, 9, 16, 15)] :: wsA) 8 150 cI cJ cZ cMic cSrc cSt cAI cAJ cD D h0 ad T (oJ ao cJ f) [.ref (ad o), .int a0, .int a1, .ref ao] (vck 1 0 2 (0)) T1 (oJ ao cJ (vfJ (0) f r1)) := by
  intro sz
  refine va_MetW (cc := cL_powerAt) (maxL := 5) (ret := some .int) (by decide) rfl ?_
  intro p e s m args below meth c s₁ B hml hv
  obtain ⟨rfl, hsz, hP, hK, hD0, hX, hN, hA0, hTS⟩ := hv
  have hx := B.exec
  have hb := B.bytes
  have hr := B.returns
  have hts := atoms_spec (ws := (Cond.codeWith yL_powerAt cL_powerAt 5 (some .int) [(0, 9, 12, 21), (0, 9, 16, 15)] :: wsA)) B.pre
  have hown : s.vm.findClass RL = some m.cls := findClass_of_methodNamed B.named
  have hlocks := B.notSynchronized
  have htb := vx_table (x := yL_powerAt) B (hts _ (.head _))
  subst hsz
  have hD := hD0.self (sz := s.heap.size)
  generalize hAe : va_A (cW ad T.1 (cc cI cJ cZ cMic cSrc cSt cAI cAJ ad T) ++ [oJ ao cJ f]) s.heap.size = A at hD hX hA0 ⊢
  have hA : ∀ q : Nat, s.heap.size ≤ q → A q := fun q h => by rw [← hAe]; exact Or.inr h
  have G : gL cI cJ cZ cMic cSrc cSt cAI cAJ D ad A s.heap s.heap [] T [oJ ao cJ f] := ⟨hP, hD, va_S.rf⟩
  have E : cE p c cL_powerAt s m ([.ref (ad o), .int a0, .int a1, .ref ao] : List Value).toArray (Cond.codeWith yL_powerAt cL_powerAt 5 (some .int) [(0, 9, 12, 21), (0, 9, 16, 15)] :: wsA) D RL (CT cI cJ cZ cMic cSrc cSt cAI cAJ ++ [(cD, .double)]) := ⟨hx, hb, hts, hown, hK⟩
  have hl := lv_entry ([.ref (ad o), .int a0, .int a1, .ref ao]) (n := 5) (Nat.le_of_ble_eq_true rfl)
  rw [lg_entry_eq]
  generalize (lg_sl ([.ref (ad o), .int a0, .int a1, .ref ao]) ++ List.replicate (5 - (lg_sl ([.ref (ad o), .int a0, .int a1, .ref ao])).length) Slot.unset).toArray = ls at hl ⊢
  have hl : lv_has ls 5 [(0, .ref (ad o)), (1, .int a0), (2, .int a1), (3, .ref ao)] := hl
  refine lv_aload_n hx hb dL_powerAt_0 rfl (lv_at hl 3 rfl) ?_
  refine lv_iconst (v := 0) hx hb dL_powerAt_1 (by decide) ?_
  refine lv_aload_n hx hb dL_powerAt_2 rfl (lv_at hl 0 rfl) ?_
  refine lv_iload_n hx hb dL_powerAt_3 rfl (lv_at hl 1 rfl) ?_
  refine lv_iload_n hx hb dL_powerAt_4 rfl (lv_at hl 2 rfl) ?_
  refine t_avl (As := [.int a0, .int a1]) (rest := [.int 0, .ref ao]) E G hA hX hX.2.2.2.1 hml (a_X11_powerAt l hst D cI cJ cZ cMic cSrc cSt cAI cAJ ad T o a0 a1 h hrc h_o) (cwV 2 hts (gaV qA_1005 qA_1006 qA_1007 qA_131 qA_806) rfl rfl rfl (by decide +kernel) ⟨Nat.le_of_ble_eq_true rfl, Nat.le_of_ble_eq_true rfl⟩) h_o (cc_o11 h_s) rfl rfl hl.1 rfl (lv_room (Nat.le_of_ble_eq_true rfl)) dL_powerAt_5 ⟨by show 0 + (T1.1 - T.1) ≤ T1.1 - T.1 + 1; omega, by show 0 + (sg T1 - sg T) ≤ sg T1 - sg T + 6; omega⟩ ?_
  intro ad2 H locs had G
  refine t_last E G dL_powerAt_8 (fun H locs G => ?_)
  refine lv_goto (tgt := 20) hx hb dL_powerAt_9 (by decide) ?_
  refine lv_iconst (v := 0) hx hb dL_powerAt_20 (by decide) ?_
  refine W.widen (k := T1.1 - T.1 + 1) (n := sg T1 - sg T + 6) (by omega) (by omega) ?_
  exact W.iret (v := 0) hx hb hr (fun t ht hW => ⟨⟨0, ad2, rfl, ⟨rfl, had⟩, ⟨by rw [ht]; exact G.1, va_K.moved hW.alike hK, G.2.1⟩⟩, G.2.2.F ht⟩) G.2.2.2.2 dL_powerAt_21
set_option maxHeartbeats 4000000 in
set_option maxRecDepth 100000 in
theorem v_powerAt_t (l : Launch) (hst : l.stackTraces = false) (D : va_G) {cI cJ cZ cMic cSrc cSt cAI cAJ cD : ClassId} (h0 : Nat) (ad : Nat → Nat) (T : AT) (o : Nat) (a0 a1 : Int32) (ao : Nat) (f : Nat → Int64) {e1 : Nat} {r1 : Int64} {T1 : AT} (h : g_X11_powerAt T o a0 a1 = some (e1 + 1, r1, T1)) (hrc : RC T) (h_o : o < T.1) (h_s : T.2.1 o = (11, 0)) : tWi l yL_powerAt (Cond.codeWith yL_powerAt cL_powerAt 5 (some .int) [(0, 9, 12, 21), (0, 9, 16, 15)] :: wsA) 8 150 cI cJ cZ cMic cSrc cSt cAI cAJ cD D h0 ad T (oJ ao cJ f) [.ref (ad o), .int a0, .int a1, .ref ao] (vck 1 0 2 (e1 + 1)) T1 (oJ ao cJ (vfJ (e1 + 1) f r1)) := by
  intro sz
  refine va_MetW (cc := cL_powerAt) (maxL := 5) (ret := some .int) (by decide) rfl ?_
  intro p e s m args below meth c s₁ B hml hv
  obtain ⟨rfl, hsz, hP, hK, hD0, hX, hN, hA0, hTS⟩ := hv
  have hx := B.exec
  have hb := B.bytes
  have hr := B.returns
  have hts := atoms_spec (ws := (Cond.codeWith yL_powerAt cL_powerAt 5 (some .int) [(0, 9, 12, 21), (0, 9, 16, 15)] :: wsA)) B.pre
  have hown : s.vm.findClass RL = some m.cls := findClass_of_methodNamed B.named
  have hlocks := B.notSynchronized
  have htb := vx_table (x := yL_powerAt) B (hts _ (.head _))
  subst hsz
  have hD := hD0.self (sz := s.heap.size)
  generalize hAe : va_A (cW ad T.1 (cc cI cJ cZ cMic cSrc cSt cAI cAJ ad T) ++ [oJ ao cJ f]) s.heap.size = A at hD hX hA0 ⊢
  have hA : ∀ q : Nat, s.heap.size ≤ q → A q := fun q h => by rw [← hAe]; exact Or.inr h
  have G : gL cI cJ cZ cMic cSrc cSt cAI cAJ D ad A s.heap s.heap [] T [oJ ao cJ f] := ⟨hP, hD, va_S.rf⟩
  have E : cE p c cL_powerAt s m ([.ref (ad o), .int a0, .int a1, .ref ao] : List Value).toArray (Cond.codeWith yL_powerAt cL_powerAt 5 (some .int) [(0, 9, 12, 21), (0, 9, 16, 15)] :: wsA) D RL (CT cI cJ cZ cMic cSrc cSt cAI cAJ ++ [(cD, .double)]) := ⟨hx, hb, hts, hown, hK⟩
  have hl := lv_entry ([.ref (ad o), .int a0, .int a1, .ref ao]) (n := 5) (Nat.le_of_ble_eq_true rfl)
  rw [lg_entry_eq]
  generalize (lg_sl ([.ref (ad o), .int a0, .int a1, .ref ao]) ++ List.replicate (5 - (lg_sl ([.ref (ad o), .int a0, .int a1, .ref ao])).length) Slot.unset).toArray = ls at hl ⊢
  have hl : lv_has ls 5 [(0, .ref (ad o)), (1, .int a0), (2, .int a1), (3, .ref ao)] := hl
  refine lv_aload_n hx hb dL_powerAt_0 rfl (lv_at hl 3 rfl) ?_
  refine lv_iconst (v := 0) hx hb dL_powerAt_1 (by decide) ?_
  refine lv_aload_n hx hb dL_powerAt_2 rfl (lv_at hl 0 rfl) ?_
  refine lv_iload_n hx hb dL_powerAt_3 rfl (lv_at hl 1 rfl) ?_
  refine lv_iload_n hx hb dL_powerAt_4 rfl (lv_at hl 2 rfl) ?_
  refine t_bvl (As := [.int a0, .int a1]) (rest := [.int 0, .ref ao]) E G hA hX hX.2.2.2.1 hml (b_X11_powerAt l hst D cI cJ cZ cMic cSrc cSt cAI cAJ ad T o a0 a1 h hrc h_o) (cwV 2 hts (gaV qA_1005 qA_1006 qA_1007 qA_131 qA_806) rfl rfl rfl (by decide +kernel) ⟨Nat.le_of_ble_eq_true rfl, Nat.le_of_ble_eq_true rfl⟩) h_o (cc_o11 h_s) rfl rfl hl.1 rfl (lv_room (Nat.le_of_ble_eq_true rfl)) dL_powerAt_5 ⟨by show 0 + (T1.1 - T.1 + 1) ≤ T1.1 - T.1 + 1; omega, by show 0 + (sg T1 - sg T + 6) ≤ sg T1 - sg T + 6; omega⟩ ?_
  intro E9 ce q9 ad2 H locs hE had G hce hcv hcl
  rcases e1 with _ | _ | e1
  · have hE : E9 = xISE := hE
    subst hE
    refine vx_catch (name := xISE) hown [] { startPc := 0, endPc := 9, handlerPc := 12, catchType := 21 } [{ startPc := 0, endPc := 9, handlerPc := 16, catchType := 15 }] htb (fun z hz => absurd hz List.not_mem_nil) (by decide) (by decide) (hts _ (.tail _ qA_952)) (hX.use (.castable xISE xISE) (by decide +kernel)) hce hcv hcl ?_
    refine lv_astore (lv' := [(4, .ref q9), (0, .ref (ad o)), (1, .int a0), (2, .int a1), (3, .ref ao)]) hx hb dL_powerAt_12 hl (by decide) rfl (fun ls hl => ?_)
    refine lv_iconst (v := 1) hx hb dL_powerAt_14 (by decide) ?_
    refine W.widen (k := T1.1 - T.1 + 1) (n := sg T1 - sg T + 6) (by omega) (by omega) ?_
    exact W.iret (v := 1) hx hb hr (fun t ht hW => ⟨⟨1, ad2, rfl, ⟨rfl, had⟩, ⟨by rw [ht]; exact G.1, va_K.moved hW.alike hK, G.2.1⟩⟩, G.2.2.F ht⟩) G.2.2.2.2 dL_powerAt_15
  · exact absurd (cd_g_X11_powerAt (S := [0, 1, 3]) (fun _ h => h) T o a0 a1 _ _ _ h) (by decide)
  · have hE : E9 = xIAE := hE
    subst hE
    refine vx_catch (name := xIAE) hown [{ startPc := 0, endPc := 9, handlerPc := 12, catchType := 21 }] { startPc := 0, endPc := 9, handlerPc := 16, catchType := 15 } [] htb (List.forall_mem_cons.mpr ⟨Or.inr ⟨by decide, xISE, hts _ (.tail _ qA_952), hN.2.2.2⟩, fun z hz => absurd hz List.not_mem_nil⟩) (by decide) (by decide) (hts _ (.tail _ qA_947)) (hX.use (.castable xIAE xIAE) (by decide +kernel)) hce hcv hcl ?_
    refine lv_astore (lv' := [(4, .ref q9), (0, .ref (ad o)), (1, .int a0), (2, .int a1), (3, .ref ao)]) hx hb dL_powerAt_16 hl (by decide) rfl (fun ls hl => ?_)
    refine lv_iconst (v := 2) hx hb dL_powerAt_18 (by decide) ?_
    refine W.widen (k := T1.1 - T.1 + 1) (n := sg T1 - sg T + 6) (by omega) (by omega) ?_
    exact W.iret (v := 2) hx hb hr (fun t ht hW => ⟨⟨2, ad2, rfl, ⟨rfl, had⟩, ⟨by rw [ht]; exact G.1, va_K.moved hW.alike hK, G.2.1⟩⟩, G.2.2.F ht⟩) G.2.2.2.2 dL_powerAt_19
theorem v_powerAt (l : Launch) (hst : l.stackTraces = false) (D : va_G) {cI cJ cZ cMic cSrc cSt cAI cAJ cD : ClassId} (h0 : Nat) (ad : Nat → Nat) (T : AT) (o : Nat) (a0 a1 : Int32) (ao : Nat) (f : Nat → Int64) {k1 : Nat} {r1 : Int64} {T1 : AT} (h : g_X11_powerAt T o a0 a1 = some (k1, r1, T1)) (hrc : RC T) (h_o : o < T.1) (h_s : T.2.1 o = (11, 0)) : tWi l yL_powerAt (Cond.codeWith yL_powerAt cL_powerAt 5 (some .int) [(0, 9, 12, 21), (0, 9, 16, 15)] :: wsA) 8 150 cI cJ cZ cMic cSrc cSt cAI cAJ cD D h0 ad T (oJ ao cJ f) [.ref (ad o), .int a0, .int a1, .ref ao] (vck 1 0 2 k1) T1 (oJ ao cJ (vfJ k1 f r1)) := by
  cases k1 with
  | zero => exact v_powerAt_n l hst D h0 ad T o a0 a1 ao f h hrc h_o h_s
  | succ e1 => exact v_powerAt_t l hst D h0 ad T o a0 a1 ao f h hrc h_o h_s
set_option maxHeartbeats 4000000 in
set_option maxRecDepth 100000 in
theorem v_best_n (l : Launch) (hst : l.stackTraces = false) (D : va_G) {cI cJ cZ cMic cSrc cSt cAI cAJ cD : ClassId} (h0 : Nat) (ad : Nat → Nat) (T : AT) (o : Nat) (ao : Nat) (f : Nat → Int64) {r1 : Int32} {T1 : AT} (h : g_X11_best T o = some (0, r1, T1)) (hrc : RC T) (h_o : o < T.1) (h_s : T.2.1 o = (11, 0)) : tWi l yL_best (Cond.codeWith yL_best cL_best 3 (some .int) [(0, 8, 11, 21)] :: wsA) 8 169 cI cJ cZ cMic cSrc cSt cAI cAJ cD D h0 ad T (oJ ao cJ f) [.ref (ad o), .ref ao] (vck 1 0 0 (0)) T1 (oJ ao cJ (vfJ (0) f r1.toInt64)) := by
  intro sz
  refine va_MetW (cc := cL_best) (maxL := 3) (ret := some .int) (by decide) rfl ?_
  intro p e s m args below meth c s₁ B hml hv
  obtain ⟨rfl, hsz, hP, hK, hD0, hX, hN, hA0, hTS⟩ := hv
  have hx := B.exec
  have hb := B.bytes
  have hr := B.returns
  have hts := atoms_spec (ws := (Cond.codeWith yL_best cL_best 3 (some .int) [(0, 8, 11, 21)] :: wsA)) B.pre
  have hown : s.vm.findClass RL = some m.cls := findClass_of_methodNamed B.named
  have hlocks := B.notSynchronized
  have htb := vx_table (x := yL_best) B (hts _ (.head _))
  subst hsz
  have hD := hD0.self (sz := s.heap.size)
  generalize hAe : va_A (cW ad T.1 (cc cI cJ cZ cMic cSrc cSt cAI cAJ ad T) ++ [oJ ao cJ f]) s.heap.size = A at hD hX hA0 ⊢
  have hA : ∀ q : Nat, s.heap.size ≤ q → A q := fun q h => by rw [← hAe]; exact Or.inr h
  have G : gL cI cJ cZ cMic cSrc cSt cAI cAJ D ad A s.heap s.heap [] T [oJ ao cJ f] := ⟨hP, hD, va_S.rf⟩
  have E : cE p c cL_best s m ([.ref (ad o), .ref ao] : List Value).toArray (Cond.codeWith yL_best cL_best 3 (some .int) [(0, 8, 11, 21)] :: wsA) D RL (CT cI cJ cZ cMic cSrc cSt cAI cAJ ++ [(cD, .double)]) := ⟨hx, hb, hts, hown, hK⟩
  have hl := lv_entry ([.ref (ad o), .ref ao]) (n := 3) (Nat.le_of_ble_eq_true rfl)
  rw [lg_entry_eq]
  generalize (lg_sl ([.ref (ad o), .ref ao]) ++ List.replicate (3 - (lg_sl ([.ref (ad o), .ref ao])).length) Slot.unset).toArray = ls at hl ⊢
  have hl : lv_has ls 3 [(0, .ref (ad o)), (1, .ref ao)] := hl
  refine lv_aload_n hx hb dL_best_0 rfl (lv_at hl 1 rfl) ?_
  refine lv_iconst (v := 0) hx hb dL_best_1 (by decide) ?_
  refine lv_aload_n hx hb dL_best_2 rfl (lv_at hl 0 rfl) ?_
  refine t_avi (As := []) (rest := [.int 0, .ref ao]) E G hA hX hX.2.2.2.1 hml (a_X11_best l hst D cI cJ cZ cMic cSrc cSt cAI cAJ ad T o  h hrc h_o) (cwV 0 hts (gaV qA_1009 qA_1010 qA_1011 qA_131 qA_811) rfl rfl rfl (by decide +kernel) ⟨Nat.le_of_ble_eq_true rfl, Nat.le_of_ble_eq_true rfl⟩) h_o (cc_o11 h_s) rfl rfl hl.1 rfl (lv_room (Nat.le_of_ble_eq_true rfl)) dL_best_3 ⟨by show 0 + (T1.1 - T.1) ≤ T1.1 - T.1 + 1; omega, by show 0 + (sg T1 - sg T) ≤ sg T1 - sg T + 6; omega⟩ ?_
  intro ad2 H locs had G
  refine lv_i2l (v := r1.toInt64) hx hb dL_best_6 rfl ?_
  refine t_last E G dL_best_7 (fun H locs G => ?_)
  refine lv_goto (tgt := 14) hx hb dL_best_8 (by decide) ?_
  refine lv_iconst (v := 0) hx hb dL_best_14 (by decide) ?_
  refine W.widen (k := T1.1 - T.1 + 1) (n := sg T1 - sg T + 6) (by omega) (by omega) ?_
  exact W.iret (v := 0) hx hb hr (fun t ht hW => ⟨⟨0, ad2, rfl, ⟨rfl, had⟩, ⟨by rw [ht]; exact G.1, va_K.moved hW.alike hK, G.2.1⟩⟩, G.2.2.F ht⟩) G.2.2.2.2 dL_best_15
set_option maxHeartbeats 4000000 in
set_option maxRecDepth 100000 in
theorem v_best_t (l : Launch) (hst : l.stackTraces = false) (D : va_G) {cI cJ cZ cMic cSrc cSt cAI cAJ cD : ClassId} (h0 : Nat) (ad : Nat → Nat) (T : AT) (o : Nat) (ao : Nat) (f : Nat → Int64) {e1 : Nat} {r1 : Int32} {T1 : AT} (h : g_X11_best T o = some (e1 + 1, r1, T1)) (hrc : RC T) (h_o : o < T.1) (h_s : T.2.1 o = (11, 0)) : tWi l yL_best (Cond.codeWith yL_best cL_best 3 (some .int) [(0, 8, 11, 21)] :: wsA) 8 169 cI cJ cZ cMic cSrc cSt cAI cAJ cD D h0 ad T (oJ ao cJ f) [.ref (ad o), .ref ao] (vck 1 0 0 (e1 + 1)) T1 (oJ ao cJ (vfJ (e1 + 1) f r1.toInt64)) := by
  intro sz
  refine va_MetW (cc := cL_best) (maxL := 3) (ret := some .int) (by decide) rfl ?_
  intro p e s m args below meth c s₁ B hml hv
  obtain ⟨rfl, hsz, hP, hK, hD0, hX, hN, hA0, hTS⟩ := hv
  have hx := B.exec
  have hb := B.bytes
  have hr := B.returns
  have hts := atoms_spec (ws := (Cond.codeWith yL_best cL_best 3 (some .int) [(0, 8, 11, 21)] :: wsA)) B.pre
  have hown : s.vm.findClass RL = some m.cls := findClass_of_methodNamed B.named
  have hlocks := B.notSynchronized
  have htb := vx_table (x := yL_best) B (hts _ (.head _))
  subst hsz
  have hD := hD0.self (sz := s.heap.size)
  generalize hAe : va_A (cW ad T.1 (cc cI cJ cZ cMic cSrc cSt cAI cAJ ad T) ++ [oJ ao cJ f]) s.heap.size = A at hD hX hA0 ⊢
  have hA : ∀ q : Nat, s.heap.size ≤ q → A q := fun q h => by rw [← hAe]; exact Or.inr h
  have G : gL cI cJ cZ cMic cSrc cSt cAI cAJ D ad A s.heap s.heap [] T [oJ ao cJ f] := ⟨hP, hD, va_S.rf⟩
  have E : cE p c cL_best s m ([.ref (ad o), .ref ao] : List Value).toArray (Cond.codeWith yL_best cL_best 3 (some .int) [(0, 8, 11, 21)] :: wsA) D RL (CT cI cJ cZ cMic cSrc cSt cAI cAJ ++ [(cD, .double)]) := ⟨hx, hb, hts, hown, hK⟩
  have hl := lv_entry ([.ref (ad o), .ref ao]) (n := 3) (Nat.le_of_ble_eq_true rfl)
  rw [lg_entry_eq]
  generalize (lg_sl ([.ref (ad o), .ref ao]) ++ List.replicate (3 - (lg_sl ([.ref (ad o), .ref ao])).length) Slot.unset).toArray = ls at hl ⊢
  have hl : lv_has ls 3 [(0, .ref (ad o)), (1, .ref ao)] := hl
  refine lv_aload_n hx hb dL_best_0 rfl (lv_at hl 1 rfl) ?_
  refine lv_iconst (v := 0) hx hb dL_best_1 (by decide) ?_
  refine lv_aload_n hx hb dL_best_2 rfl (lv_at hl 0 rfl) ?_
  refine t_bvi (As := []) (rest := [.int 0, .ref ao]) E G hA hX hX.2.2.2.1 hml (b_X11_best l hst D cI cJ cZ cMic cSrc cSt cAI cAJ ad T o  h hrc h_o) (cwV 0 hts (gaV qA_1009 qA_1010 qA_1011 qA_131 qA_811) rfl rfl rfl (by decide +kernel) ⟨Nat.le_of_ble_eq_true rfl, Nat.le_of_ble_eq_true rfl⟩) h_o (cc_o11 h_s) rfl rfl hl.1 rfl (lv_room (Nat.le_of_ble_eq_true rfl)) dL_best_3 ⟨by show 0 + (T1.1 - T.1 + 1) ≤ T1.1 - T.1 + 1; omega, by show 0 + (sg T1 - sg T + 6) ≤ sg T1 - sg T + 6; omega⟩ ?_
  intro E9 ce q9 ad2 H locs hE had G hce hcv hcl
  rcases e1 with _ | _ | e1
  · have hE : E9 = xISE := hE
    subst hE
    refine vx_catch (name := xISE) hown [] { startPc := 0, endPc := 8, handlerPc := 11, catchType := 21 } [] htb (fun z hz => absurd hz List.not_mem_nil) (by decide) (by decide) (hts _ (.tail _ qA_952)) (hX.use (.castable xISE xISE) (by decide +kernel)) hce hcv hcl ?_
    refine lv_astore_n (lv' := [(2, .ref q9), (0, .ref (ad o)), (1, .ref ao)]) hx hb dL_best_11 rfl hl (by decide) rfl (fun ls hl => ?_)
    refine lv_iconst (v := 1) hx hb dL_best_12 (by decide) ?_
    refine W.widen (k := T1.1 - T.1 + 1) (n := sg T1 - sg T + 6) (by omega) (by omega) ?_
    exact W.iret (v := 1) hx hb hr (fun t ht hW => ⟨⟨1, ad2, rfl, ⟨rfl, had⟩, ⟨by rw [ht]; exact G.1, va_K.moved hW.alike hK, G.2.1⟩⟩, G.2.2.F ht⟩) G.2.2.2.2 dL_best_13
  · exact absurd (cd_g_X11_best (S := [0, 1]) (fun _ h => h) T o _ _ _ h) (by decide)
  · have q := (cd_g_X11_best (S := [0, 1]) (fun _ h => h) T o _ _ _ h)
    simp only [List.mem_cons, List.not_mem_nil, or_false] at q
    omega
theorem v_best (l : Launch) (hst : l.stackTraces = false) (D : va_G) {cI cJ cZ cMic cSrc cSt cAI cAJ cD : ClassId} (h0 : Nat) (ad : Nat → Nat) (T : AT) (o : Nat) (ao : Nat) (f : Nat → Int64) {k1 : Nat} {r1 : Int32} {T1 : AT} (h : g_X11_best T o = some (k1, r1, T1)) (hrc : RC T) (h_o : o < T.1) (h_s : T.2.1 o = (11, 0)) : tWi l yL_best (Cond.codeWith yL_best cL_best 3 (some .int) [(0, 8, 11, 21)] :: wsA) 8 169 cI cJ cZ cMic cSrc cSt cAI cAJ cD D h0 ad T (oJ ao cJ f) [.ref (ad o), .ref ao] (vck 1 0 0 k1) T1 (oJ ao cJ (vfJ k1 f r1.toInt64)) := by
  cases k1 with
  | zero => exact v_best_n l hst D h0 ad T o  ao f h hrc h_o h_s
  | succ e1 => exact v_best_t l hst D h0 ad T o  ao f h hrc h_o h_s
set_option maxHeartbeats 4000000 in
set_option maxRecDepth 100000 in
theorem v_bestPower_n (l : Launch) (hst : l.stackTraces = false) (D : va_G) {cI cJ cZ cMic cSrc cSt cAI cAJ cD : ClassId} (h0 : Nat) (ad : Nat → Nat) (T : AT) (o : Nat) (ao : Nat) (f : Nat → Int64) {r1 : Int64} {T1 : AT} (h : g_X11_bestPower T o = some (0, r1, T1)) (hrc : RC T) (h_o : o < T.1) (h_s : T.2.1 o = (11, 0)) : tWi l yL_bestPower (Cond.codeWith yL_bestPower cL_bestPower 3 (some .int) [(0, 7, 10, 21)] :: wsA) 8 170 cI cJ cZ cMic cSrc cSt cAI cAJ cD D h0 ad T (oJ ao cJ f) [.ref (ad o), .ref ao] (vck 1 0 0 (0)) T1 (oJ ao cJ (vfJ (0) f r1)) := by
  intro sz
  refine va_MetW (cc := cL_bestPower) (maxL := 3) (ret := some .int) (by decide) rfl ?_
  intro p e s m args below meth c s₁ B hml hv
  obtain ⟨rfl, hsz, hP, hK, hD0, hX, hN, hA0, hTS⟩ := hv
  have hx := B.exec
  have hb := B.bytes
  have hr := B.returns
  have hts := atoms_spec (ws := (Cond.codeWith yL_bestPower cL_bestPower 3 (some .int) [(0, 7, 10, 21)] :: wsA)) B.pre
  have hown : s.vm.findClass RL = some m.cls := findClass_of_methodNamed B.named
  have hlocks := B.notSynchronized
  have htb := vx_table (x := yL_bestPower) B (hts _ (.head _))
  subst hsz
  have hD := hD0.self (sz := s.heap.size)
  generalize hAe : va_A (cW ad T.1 (cc cI cJ cZ cMic cSrc cSt cAI cAJ ad T) ++ [oJ ao cJ f]) s.heap.size = A at hD hX hA0 ⊢
  have hA : ∀ q : Nat, s.heap.size ≤ q → A q := fun q h => by rw [← hAe]; exact Or.inr h
  have G : gL cI cJ cZ cMic cSrc cSt cAI cAJ D ad A s.heap s.heap [] T [oJ ao cJ f] := ⟨hP, hD, va_S.rf⟩
  have E : cE p c cL_bestPower s m ([.ref (ad o), .ref ao] : List Value).toArray (Cond.codeWith yL_bestPower cL_bestPower 3 (some .int) [(0, 7, 10, 21)] :: wsA) D RL (CT cI cJ cZ cMic cSrc cSt cAI cAJ ++ [(cD, .double)]) := ⟨hx, hb, hts, hown, hK⟩
  have hl := lv_entry ([.ref (ad o), .ref ao]) (n := 3) (Nat.le_of_ble_eq_true rfl)
  rw [lg_entry_eq]
  generalize (lg_sl ([.ref (ad o), .ref ao]) ++ List.replicate (3 - (lg_sl ([.ref (ad o), .ref ao])).length) Slot.unset).toArray = ls at hl ⊢
  have hl : lv_has ls 3 [(0, .ref (ad o)), (1, .ref ao)] := hl
  refine lv_aload_n hx hb dL_bestPower_0 rfl (lv_at hl 1 rfl) ?_
  refine lv_iconst (v := 0) hx hb dL_bestPower_1 (by decide) ?_
  refine lv_aload_n hx hb dL_bestPower_2 rfl (lv_at hl 0 rfl) ?_
  refine t_avl (As := []) (rest := [.int 0, .ref ao]) E G hA hX hX.2.2.2.1 hml (a_X11_bestPower l hst D cI cJ cZ cMic cSrc cSt cAI cAJ ad T o  h hrc h_o) (cwV 0 hts (gaV qA_1013 qA_1014 qA_1015 qA_131 qA_813) rfl rfl rfl (by decide +kernel) ⟨Nat.le_of_ble_eq_true rfl, Nat.le_of_ble_eq_true rfl⟩) h_o (cc_o11 h_s) rfl rfl hl.1 rfl (lv_room (Nat.le_of_ble_eq_true rfl)) dL_bestPower_3 ⟨by show 0 + (T1.1 - T.1) ≤ T1.1 - T.1 + 1; omega, by show 0 + (sg T1 - sg T) ≤ sg T1 - sg T + 6; omega⟩ ?_
  intro ad2 H locs had G
  refine t_last E G dL_bestPower_6 (fun H locs G => ?_)
  refine lv_goto (tgt := 13) hx hb dL_bestPower_7 (by decide) ?_
  refine lv_iconst (v := 0) hx hb dL_bestPower_13 (by decide) ?_
  refine W.widen (k := T1.1 - T.1 + 1) (n := sg T1 - sg T + 6) (by omega) (by omega) ?_
  exact W.iret (v := 0) hx hb hr (fun t ht hW => ⟨⟨0, ad2, rfl, ⟨rfl, had⟩, ⟨by rw [ht]; exact G.1, va_K.moved hW.alike hK, G.2.1⟩⟩, G.2.2.F ht⟩) G.2.2.2.2 dL_bestPower_14
set_option maxHeartbeats 4000000 in
set_option maxRecDepth 100000 in
theorem v_bestPower_t (l : Launch) (hst : l.stackTraces = false) (D : va_G) {cI cJ cZ cMic cSrc cSt cAI cAJ cD : ClassId} (h0 : Nat) (ad : Nat → Nat) (T : AT) (o : Nat) (ao : Nat) (f : Nat → Int64) {e1 : Nat} {r1 : Int64} {T1 : AT} (h : g_X11_bestPower T o = some (e1 + 1, r1, T1)) (hrc : RC T) (h_o : o < T.1) (h_s : T.2.1 o = (11, 0)) : tWi l yL_bestPower (Cond.codeWith yL_bestPower cL_bestPower 3 (some .int) [(0, 7, 10, 21)] :: wsA) 8 170 cI cJ cZ cMic cSrc cSt cAI cAJ cD D h0 ad T (oJ ao cJ f) [.ref (ad o), .ref ao] (vck 1 0 0 (e1 + 1)) T1 (oJ ao cJ (vfJ (e1 + 1) f r1)) := by
  intro sz
  refine va_MetW (cc := cL_bestPower) (maxL := 3) (ret := some .int) (by decide) rfl ?_
  intro p e s m args below meth c s₁ B hml hv
  obtain ⟨rfl, hsz, hP, hK, hD0, hX, hN, hA0, hTS⟩ := hv
  have hx := B.exec
  have hb := B.bytes
  have hr := B.returns
  have hts := atoms_spec (ws := (Cond.codeWith yL_bestPower cL_bestPower 3 (some .int) [(0, 7, 10, 21)] :: wsA)) B.pre
  have hown : s.vm.findClass RL = some m.cls := findClass_of_methodNamed B.named
  have hlocks := B.notSynchronized
  have htb := vx_table (x := yL_bestPower) B (hts _ (.head _))
  subst hsz
  have hD := hD0.self (sz := s.heap.size)
  generalize hAe : va_A (cW ad T.1 (cc cI cJ cZ cMic cSrc cSt cAI cAJ ad T) ++ [oJ ao cJ f]) s.heap.size = A at hD hX hA0 ⊢
  have hA : ∀ q : Nat, s.heap.size ≤ q → A q := fun q h => by rw [← hAe]; exact Or.inr h
  have G : gL cI cJ cZ cMic cSrc cSt cAI cAJ D ad A s.heap s.heap [] T [oJ ao cJ f] := ⟨hP, hD, va_S.rf⟩
  have E : cE p c cL_bestPower s m ([.ref (ad o), .ref ao] : List Value).toArray (Cond.codeWith yL_bestPower cL_bestPower 3 (some .int) [(0, 7, 10, 21)] :: wsA) D RL (CT cI cJ cZ cMic cSrc cSt cAI cAJ ++ [(cD, .double)]) := ⟨hx, hb, hts, hown, hK⟩
  have hl := lv_entry ([.ref (ad o), .ref ao]) (n := 3) (Nat.le_of_ble_eq_true rfl)
  rw [lg_entry_eq]
  generalize (lg_sl ([.ref (ad o), .ref ao]) ++ List.replicate (3 - (lg_sl ([.ref (ad o), .ref ao])).length) Slot.unset).toArray = ls at hl ⊢
  have hl : lv_has ls 3 [(0, .ref (ad o)), (1, .ref ao)] := hl
  refine lv_aload_n hx hb dL_bestPower_0 rfl (lv_at hl 1 rfl) ?_
  refine lv_iconst (v := 0) hx hb dL_bestPower_1 (by decide) ?_
  refine lv_aload_n hx hb dL_bestPower_2 rfl (lv_at hl 0 rfl) ?_
  refine t_bvl (As := []) (rest := [.int 0, .ref ao]) E G hA hX hX.2.2.2.1 hml (b_X11_bestPower l hst D cI cJ cZ cMic cSrc cSt cAI cAJ ad T o  h hrc h_o) (cwV 0 hts (gaV qA_1013 qA_1014 qA_1015 qA_131 qA_813) rfl rfl rfl (by decide +kernel) ⟨Nat.le_of_ble_eq_true rfl, Nat.le_of_ble_eq_true rfl⟩) h_o (cc_o11 h_s) rfl rfl hl.1 rfl (lv_room (Nat.le_of_ble_eq_true rfl)) dL_bestPower_3 ⟨by show 0 + (T1.1 - T.1 + 1) ≤ T1.1 - T.1 + 1; omega, by show 0 + (sg T1 - sg T + 6) ≤ sg T1 - sg T + 6; omega⟩ ?_
  intro E9 ce q9 ad2 H locs hE had G hce hcv hcl
  rcases e1 with _ | _ | e1
  · have hE : E9 = xISE := hE
    subst hE
    refine vx_catch (name := xISE) hown [] { startPc := 0, endPc := 7, handlerPc := 10, catchType := 21 } [] htb (fun z hz => absurd hz List.not_mem_nil) (by decide) (by decide) (hts _ (.tail _ qA_952)) (hX.use (.castable xISE xISE) (by decide +kernel)) hce hcv hcl ?_
    refine lv_astore_n (lv' := [(2, .ref q9), (0, .ref (ad o)), (1, .ref ao)]) hx hb dL_bestPower_10 rfl hl (by decide) rfl (fun ls hl => ?_)
    refine lv_iconst (v := 1) hx hb dL_bestPower_11 (by decide) ?_
    refine W.widen (k := T1.1 - T.1 + 1) (n := sg T1 - sg T + 6) (by omega) (by omega) ?_
    exact W.iret (v := 1) hx hb hr (fun t ht hW => ⟨⟨1, ad2, rfl, ⟨rfl, had⟩, ⟨by rw [ht]; exact G.1, va_K.moved hW.alike hK, G.2.1⟩⟩, G.2.2.F ht⟩) G.2.2.2.2 dL_bestPower_12
  · exact absurd (cd_g_X11_bestPower (S := [0, 1]) (fun _ h => h) T o _ _ _ h) (by decide)
  · have q := (cd_g_X11_bestPower (S := [0, 1]) (fun _ h => h) T o _ _ _ h)
    simp only [List.mem_cons, List.not_mem_nil, or_false] at q
    omega
theorem v_bestPower (l : Launch) (hst : l.stackTraces = false) (D : va_G) {cI cJ cZ cMic cSrc cSt cAI cAJ cD : ClassId} (h0 : Nat) (ad : Nat → Nat) (T : AT) (o : Nat) (ao : Nat) (f : Nat → Int64) {k1 : Nat} {r1 : Int64} {T1 : AT} (h : g_X11_bestPower T o = some (k1, r1, T1)) (hrc : RC T) (h_o : o < T.1) (h_s : T.2.1 o = (11, 0)) : tWi l yL_bestPower (Cond.codeWith yL_bestPower cL_bestPower 3 (some .int) [(0, 7, 10, 21)] :: wsA) 8 170 cI cJ cZ cMic cSrc cSt cAI cAJ cD D h0 ad T (oJ ao cJ f) [.ref (ad o), .ref ao] (vck 1 0 0 k1) T1 (oJ ao cJ (vfJ k1 f r1)) := by
  cases k1 with
  | zero => exact v_bestPower_n l hst D h0 ad T o  ao f h hrc h_o h_s
  | succ e1 => exact v_bestPower_t l hst D h0 ad T o  ao f h hrc h_o h_s
set_option maxHeartbeats 4000000 in
set_option maxRecDepth 100000 in
theorem v_meanPower_n (l : Launch) (hst : l.stackTraces = false) (D : va_G) {cI cJ cZ cMic cSrc cSt cAI cAJ cD : ClassId} (h0 : Nat) (ad : Nat → Nat) (T : AT) (o : Nat) (ao : Nat) (f : Nat → Int64) {r1 : Int64} {T1 : AT} (h : g_X11_meanPower T o = some (0, r1, T1)) (hrc : RC T) (h_o : o < T.1) (h_s : T.2.1 o = (11, 0)) : tWi l yL_meanPower (Cond.codeWith yL_meanPower cL_meanPower 3 (some .int) [(0, 7, 10, 21)] :: wsA) 8 169 cI cJ cZ cMic cSrc cSt cAI cAJ cD D h0 ad T (oJ ao cJ f) [.ref (ad o), .ref ao] (vck 1 0 0 (0)) T1 (oJ ao cJ (vfJ (0) f r1)) := by
  intro sz
  refine va_MetW (cc := cL_meanPower) (maxL := 3) (ret := some .int) (by decide) rfl ?_
  intro p e s m args below meth c s₁ B hml hv
  obtain ⟨rfl, hsz, hP, hK, hD0, hX, hN, hA0, hTS⟩ := hv
  have hx := B.exec
  have hb := B.bytes
  have hr := B.returns
  have hts := atoms_spec (ws := (Cond.codeWith yL_meanPower cL_meanPower 3 (some .int) [(0, 7, 10, 21)] :: wsA)) B.pre
  have hown : s.vm.findClass RL = some m.cls := findClass_of_methodNamed B.named
  have hlocks := B.notSynchronized
  have htb := vx_table (x := yL_meanPower) B (hts _ (.head _))
  subst hsz
  have hD := hD0.self (sz := s.heap.size)
  generalize hAe : va_A (cW ad T.1 (cc cI cJ cZ cMic cSrc cSt cAI cAJ ad T) ++ [oJ ao cJ f]) s.heap.size = A at hD hX hA0 ⊢
  have hA : ∀ q : Nat, s.heap.size ≤ q → A q := fun q h => by rw [← hAe]; exact Or.inr h
  have G : gL cI cJ cZ cMic cSrc cSt cAI cAJ D ad A s.heap s.heap [] T [oJ ao cJ f] := ⟨hP, hD, va_S.rf⟩
  have E : cE p c cL_meanPower s m ([.ref (ad o), .ref ao] : List Value).toArray (Cond.codeWith yL_meanPower cL_meanPower 3 (some .int) [(0, 7, 10, 21)] :: wsA) D RL (CT cI cJ cZ cMic cSrc cSt cAI cAJ ++ [(cD, .double)]) := ⟨hx, hb, hts, hown, hK⟩
  have hl := lv_entry ([.ref (ad o), .ref ao]) (n := 3) (Nat.le_of_ble_eq_true rfl)
  rw [lg_entry_eq]
  generalize (lg_sl ([.ref (ad o), .ref ao]) ++ List.replicate (3 - (lg_sl ([.ref (ad o), .ref ao])).length) Slot.unset).toArray = ls at hl ⊢
  have hl : lv_has ls 3 [(0, .ref (ad o)), (1, .ref ao)] := hl
  refine lv_aload_n hx hb dL_meanPower_0 rfl (lv_at hl 1 rfl) ?_
  refine lv_iconst (v := 0) hx hb dL_meanPower_1 (by decide) ?_
  refine lv_aload_n hx hb dL_meanPower_2 rfl (lv_at hl 0 rfl) ?_
  refine t_avl (As := []) (rest := [.int 0, .ref ao]) E G hA hX hX.2.2.2.1 hml (a_X11_meanPower l hst D cI cJ cZ cMic cSrc cSt cAI cAJ ad T o  h hrc h_o) (cwV 0 hts (gaV qA_1017 qA_1018 qA_1019 qA_131 qA_814) rfl rfl rfl (by decide +kernel) ⟨Nat.le_of_ble_eq_true rfl, Nat.le_of_ble_eq_true rfl⟩) h_o (cc_o11 h_s) rfl rfl hl.1 rfl (lv_room (Nat.le_of_ble_eq_true rfl)) dL_meanPower_3 ⟨by show 0 + (T1.1 - T.1) ≤ T1.1 - T.1 + 1; omega, by show 0 + (sg T1 - sg T) ≤ sg T1 - sg T + 6; omega⟩ ?_
  intro ad2 H locs had G
  refine t_last E G dL_meanPower_6 (fun H locs G => ?_)
  refine lv_goto (tgt := 13) hx hb dL_meanPower_7 (by decide) ?_
  refine lv_iconst (v := 0) hx hb dL_meanPower_13 (by decide) ?_
  refine W.widen (k := T1.1 - T.1 + 1) (n := sg T1 - sg T + 6) (by omega) (by omega) ?_
  exact W.iret (v := 0) hx hb hr (fun t ht hW => ⟨⟨0, ad2, rfl, ⟨rfl, had⟩, ⟨by rw [ht]; exact G.1, va_K.moved hW.alike hK, G.2.1⟩⟩, G.2.2.F ht⟩) G.2.2.2.2 dL_meanPower_14
set_option maxHeartbeats 4000000 in
set_option maxRecDepth 100000 in
theorem v_meanPower_t (l : Launch) (hst : l.stackTraces = false) (D : va_G) {cI cJ cZ cMic cSrc cSt cAI cAJ cD : ClassId} (h0 : Nat) (ad : Nat → Nat) (T : AT) (o : Nat) (ao : Nat) (f : Nat → Int64) {e1 : Nat} {r1 : Int64} {T1 : AT} (h : g_X11_meanPower T o = some (e1 + 1, r1, T1)) (hrc : RC T) (h_o : o < T.1) (h_s : T.2.1 o = (11, 0)) : tWi l yL_meanPower (Cond.codeWith yL_meanPower cL_meanPower 3 (some .int) [(0, 7, 10, 21)] :: wsA) 8 169 cI cJ cZ cMic cSrc cSt cAI cAJ cD D h0 ad T (oJ ao cJ f) [.ref (ad o), .ref ao] (vck 1 0 0 (e1 + 1)) T1 (oJ ao cJ (vfJ (e1 + 1) f r1)) := by
  intro sz
  refine va_MetW (cc := cL_meanPower) (maxL := 3) (ret := some .int) (by decide) rfl ?_
  intro p e s m args below meth c s₁ B hml hv
  obtain ⟨rfl, hsz, hP, hK, hD0, hX, hN, hA0, hTS⟩ := hv
  have hx := B.exec
  have hb := B.bytes
  have hr := B.returns
  have hts := atoms_spec (ws := (Cond.codeWith yL_meanPower cL_meanPower 3 (some .int) [(0, 7, 10, 21)] :: wsA)) B.pre
  have hown : s.vm.findClass RL = some m.cls := findClass_of_methodNamed B.named
  have hlocks := B.notSynchronized
  have htb := vx_table (x := yL_meanPower) B (hts _ (.head _))
  subst hsz
  have hD := hD0.self (sz := s.heap.size)
  generalize hAe : va_A (cW ad T.1 (cc cI cJ cZ cMic cSrc cSt cAI cAJ ad T) ++ [oJ ao cJ f]) s.heap.size = A at hD hX hA0 ⊢
  have hA : ∀ q : Nat, s.heap.size ≤ q → A q := fun q h => by rw [← hAe]; exact Or.inr h
  have G : gL cI cJ cZ cMic cSrc cSt cAI cAJ D ad A s.heap s.heap [] T [oJ ao cJ f] := ⟨hP, hD, va_S.rf⟩
  have E : cE p c cL_meanPower s m ([.ref (ad o), .ref ao] : List Value).toArray (Cond.codeWith yL_meanPower cL_meanPower 3 (some .int) [(0, 7, 10, 21)] :: wsA) D RL (CT cI cJ cZ cMic cSrc cSt cAI cAJ ++ [(cD, .double)]) := ⟨hx, hb, hts, hown, hK⟩
  have hl := lv_entry ([.ref (ad o), .ref ao]) (n := 3) (Nat.le_of_ble_eq_true rfl)
  rw [lg_entry_eq]
  generalize (lg_sl ([.ref (ad o), .ref ao]) ++ List.replicate (3 - (lg_sl ([.ref (ad o), .ref ao])).length) Slot.unset).toArray = ls at hl ⊢
  have hl : lv_has ls 3 [(0, .ref (ad o)), (1, .ref ao)] := hl
  refine lv_aload_n hx hb dL_meanPower_0 rfl (lv_at hl 1 rfl) ?_
  refine lv_iconst (v := 0) hx hb dL_meanPower_1 (by decide) ?_
  refine lv_aload_n hx hb dL_meanPower_2 rfl (lv_at hl 0 rfl) ?_
  refine t_bvl (As := []) (rest := [.int 0, .ref ao]) E G hA hX hX.2.2.2.1 hml (b_X11_meanPower l hst D cI cJ cZ cMic cSrc cSt cAI cAJ ad T o  h hrc h_o) (cwV 0 hts (gaV qA_1017 qA_1018 qA_1019 qA_131 qA_814) rfl rfl rfl (by decide +kernel) ⟨Nat.le_of_ble_eq_true rfl, Nat.le_of_ble_eq_true rfl⟩) h_o (cc_o11 h_s) rfl rfl hl.1 rfl (lv_room (Nat.le_of_ble_eq_true rfl)) dL_meanPower_3 ⟨by show 0 + (T1.1 - T.1 + 1) ≤ T1.1 - T.1 + 1; omega, by show 0 + (sg T1 - sg T + 6) ≤ sg T1 - sg T + 6; omega⟩ ?_
  intro E9 ce q9 ad2 H locs hE had G hce hcv hcl
  rcases e1 with _ | _ | e1
  · have hE : E9 = xISE := hE
    subst hE
    refine vx_catch (name := xISE) hown [] { startPc := 0, endPc := 7, handlerPc := 10, catchType := 21 } [] htb (fun z hz => absurd hz List.not_mem_nil) (by decide) (by decide) (hts _ (.tail _ qA_952)) (hX.use (.castable xISE xISE) (by decide +kernel)) hce hcv hcl ?_
    refine lv_astore_n (lv' := [(2, .ref q9), (0, .ref (ad o)), (1, .ref ao)]) hx hb dL_meanPower_10 rfl hl (by decide) rfl (fun ls hl => ?_)
    refine lv_iconst (v := 1) hx hb dL_meanPower_11 (by decide) ?_
    refine W.widen (k := T1.1 - T.1 + 1) (n := sg T1 - sg T + 6) (by omega) (by omega) ?_
    exact W.iret (v := 1) hx hb hr (fun t ht hW => ⟨⟨1, ad2, rfl, ⟨rfl, had⟩, ⟨by rw [ht]; exact G.1, va_K.moved hW.alike hK, G.2.1⟩⟩, G.2.2.F ht⟩) G.2.2.2.2 dL_meanPower_12
  · exact absurd (cd_g_X11_meanPower (S := [0, 1]) (fun _ h => h) T o _ _ _ h) (by decide)
  · have q := (cd_g_X11_meanPower (S := [0, 1]) (fun _ h => h) T o _ _ _ h)
    simp only [List.mem_cons, List.not_mem_nil, or_false] at q
    omega
theorem v_meanPower (l : Launch) (hst : l.stackTraces = false) (D : va_G) {cI cJ cZ cMic cSrc cSt cAI cAJ cD : ClassId} (h0 : Nat) (ad : Nat → Nat) (T : AT) (o : Nat) (ao : Nat) (f : Nat → Int64) {k1 : Nat} {r1 : Int64} {T1 : AT} (h : g_X11_meanPower T o = some (k1, r1, T1)) (hrc : RC T) (h_o : o < T.1) (h_s : T.2.1 o = (11, 0)) : tWi l yL_meanPower (Cond.codeWith yL_meanPower cL_meanPower 3 (some .int) [(0, 7, 10, 21)] :: wsA) 8 169 cI cJ cZ cMic cSrc cSt cAI cAJ cD D h0 ad T (oJ ao cJ f) [.ref (ad o), .ref ao] (vck 1 0 0 k1) T1 (oJ ao cJ (vfJ k1 f r1)) := by
  cases k1 with
  | zero => exact v_meanPower_n l hst D h0 ad T o  ao f h hrc h_o h_s
  | succ e1 => exact v_meanPower_t l hst D h0 ad T o  ao f h hrc h_o h_s
set_option maxHeartbeats 4000000 in
set_option maxRecDepth 100000 in
theorem v_peaks_n (l : Launch) (hst : l.stackTraces = false) (D : va_G) {cI cJ cZ cMic cSrc cSt cAI cAJ cD : ClassId} (h0 : Nat) (ad : Nat → Nat) (T : AT) (o : Nat) (ao : Nat) (f : Nat → Int64) {r1 : Int32} {T1 : AT} (h : g_X11_peaks T o = some (0, r1, T1)) (hrc : RC T) (h_o : o < T.1) (h_s : T.2.1 o = (11, 0)) : tWi l yL_peaks (Cond.codeWith yL_peaks cL_peaks 3 (some .int) [(0, 8, 11, 21)] :: wsA) 8 169 cI cJ cZ cMic cSrc cSt cAI cAJ cD D h0 ad T (oJ ao cJ f) [.ref (ad o), .ref ao] (vck 1 0 0 (0)) T1 (oJ ao cJ (vfJ (0) f r1.toInt64)) := by
  intro sz
  refine va_MetW (cc := cL_peaks) (maxL := 3) (ret := some .int) (by decide) rfl ?_
  intro p e s m args below meth c s₁ B hml hv
  obtain ⟨rfl, hsz, hP, hK, hD0, hX, hN, hA0, hTS⟩ := hv
  have hx := B.exec
  have hb := B.bytes
  have hr := B.returns
  have hts := atoms_spec (ws := (Cond.codeWith yL_peaks cL_peaks 3 (some .int) [(0, 8, 11, 21)] :: wsA)) B.pre
  have hown : s.vm.findClass RL = some m.cls := findClass_of_methodNamed B.named
  have hlocks := B.notSynchronized
  have htb := vx_table (x := yL_peaks) B (hts _ (.head _))
  subst hsz
  have hD := hD0.self (sz := s.heap.size)
  generalize hAe : va_A (cW ad T.1 (cc cI cJ cZ cMic cSrc cSt cAI cAJ ad T) ++ [oJ ao cJ f]) s.heap.size = A at hD hX hA0 ⊢
  have hA : ∀ q : Nat, s.heap.size ≤ q → A q := fun q h => by rw [← hAe]; exact Or.inr h
  have G : gL cI cJ cZ cMic cSrc cSt cAI cAJ D ad A s.heap s.heap [] T [oJ ao cJ f] := ⟨hP, hD, va_S.rf⟩
  have E : cE p c cL_peaks s m ([.ref (ad o), .ref ao] : List Value).toArray (Cond.codeWith yL_peaks cL_peaks 3 (some .int) [(0, 8, 11, 21)] :: wsA) D RL (CT cI cJ cZ cMic cSrc cSt cAI cAJ ++ [(cD, .double)]) := ⟨hx, hb, hts, hown, hK⟩
  have hl := lv_entry ([.ref (ad o), .ref ao]) (n := 3) (Nat.le_of_ble_eq_true rfl)
  rw [lg_entry_eq]
  generalize (lg_sl ([.ref (ad o), .ref ao]) ++ List.replicate (3 - (lg_sl ([.ref (ad o), .ref ao])).length) Slot.unset).toArray = ls at hl ⊢
  have hl : lv_has ls 3 [(0, .ref (ad o)), (1, .ref ao)] := hl
  refine lv_aload_n hx hb dL_peaks_0 rfl (lv_at hl 1 rfl) ?_
  refine lv_iconst (v := 0) hx hb dL_peaks_1 (by decide) ?_
  refine lv_aload_n hx hb dL_peaks_2 rfl (lv_at hl 0 rfl) ?_
  refine t_avi (As := []) (rest := [.int 0, .ref ao]) E G hA hX hX.2.2.2.1 hml (a_X11_peaks l hst D cI cJ cZ cMic cSrc cSt cAI cAJ ad T o  h hrc h_o) (cwV 0 hts (gaV qA_1021 qA_1022 qA_1023 qA_131 qA_820) rfl rfl rfl (by decide +kernel) ⟨Nat.le_of_ble_eq_true rfl, Nat.le_of_ble_eq_true rfl⟩) h_o (cc_o11 h_s) rfl rfl hl.1 rfl (lv_room (Nat.le_of_ble_eq_true rfl)) dL_peaks_3 ⟨by show 0 + (T1.1 - T.1) ≤ T1.1 - T.1 + 1; omega, by show 0 + (sg T1 - sg T) ≤ sg T1 - sg T + 6; omega⟩ ?_
  intro ad2 H locs had G
  refine lv_i2l (v := r1.toInt64) hx hb dL_peaks_6 rfl ?_
  refine t_last E G dL_peaks_7 (fun H locs G => ?_)
  refine lv_goto (tgt := 14) hx hb dL_peaks_8 (by decide) ?_
  refine lv_iconst (v := 0) hx hb dL_peaks_14 (by decide) ?_
  refine W.widen (k := T1.1 - T.1 + 1) (n := sg T1 - sg T + 6) (by omega) (by omega) ?_
  exact W.iret (v := 0) hx hb hr (fun t ht hW => ⟨⟨0, ad2, rfl, ⟨rfl, had⟩, ⟨by rw [ht]; exact G.1, va_K.moved hW.alike hK, G.2.1⟩⟩, G.2.2.F ht⟩) G.2.2.2.2 dL_peaks_15
set_option maxHeartbeats 4000000 in
set_option maxRecDepth 100000 in
theorem v_peaks_t (l : Launch) (hst : l.stackTraces = false) (D : va_G) {cI cJ cZ cMic cSrc cSt cAI cAJ cD : ClassId} (h0 : Nat) (ad : Nat → Nat) (T : AT) (o : Nat) (ao : Nat) (f : Nat → Int64) {e1 : Nat} {r1 : Int32} {T1 : AT} (h : g_X11_peaks T o = some (e1 + 1, r1, T1)) (hrc : RC T) (h_o : o < T.1) (h_s : T.2.1 o = (11, 0)) : tWi l yL_peaks (Cond.codeWith yL_peaks cL_peaks 3 (some .int) [(0, 8, 11, 21)] :: wsA) 8 169 cI cJ cZ cMic cSrc cSt cAI cAJ cD D h0 ad T (oJ ao cJ f) [.ref (ad o), .ref ao] (vck 1 0 0 (e1 + 1)) T1 (oJ ao cJ (vfJ (e1 + 1) f r1.toInt64)) := by
  intro sz
  refine va_MetW (cc := cL_peaks) (maxL := 3) (ret := some .int) (by decide) rfl ?_
  intro p e s m args below meth c s₁ B hml hv
  obtain ⟨rfl, hsz, hP, hK, hD0, hX, hN, hA0, hTS⟩ := hv
  have hx := B.exec
  have hb := B.bytes
  have hr := B.returns
  have hts := atoms_spec (ws := (Cond.codeWith yL_peaks cL_peaks 3 (some .int) [(0, 8, 11, 21)] :: wsA)) B.pre
  have hown : s.vm.findClass RL = some m.cls := findClass_of_methodNamed B.named
  have hlocks := B.notSynchronized
  have htb := vx_table (x := yL_peaks) B (hts _ (.head _))
  subst hsz
  have hD := hD0.self (sz := s.heap.size)
  generalize hAe : va_A (cW ad T.1 (cc cI cJ cZ cMic cSrc cSt cAI cAJ ad T) ++ [oJ ao cJ f]) s.heap.size = A at hD hX hA0 ⊢
  have hA : ∀ q : Nat, s.heap.size ≤ q → A q := fun q h => by rw [← hAe]; exact Or.inr h
  have G : gL cI cJ cZ cMic cSrc cSt cAI cAJ D ad A s.heap s.heap [] T [oJ ao cJ f] := ⟨hP, hD, va_S.rf⟩
  have E : cE p c cL_peaks s m ([.ref (ad o), .ref ao] : List Value).toArray (Cond.codeWith yL_peaks cL_peaks 3 (some .int) [(0, 8, 11, 21)] :: wsA) D RL (CT cI cJ cZ cMic cSrc cSt cAI cAJ ++ [(cD, .double)]) := ⟨hx, hb, hts, hown, hK⟩
  have hl := lv_entry ([.ref (ad o), .ref ao]) (n := 3) (Nat.le_of_ble_eq_true rfl)
  rw [lg_entry_eq]
  generalize (lg_sl ([.ref (ad o), .ref ao]) ++ List.replicate (3 - (lg_sl ([.ref (ad o), .ref ao])).length) Slot.unset).toArray = ls at hl ⊢
  have hl : lv_has ls 3 [(0, .ref (ad o)), (1, .ref ao)] := hl
  refine lv_aload_n hx hb dL_peaks_0 rfl (lv_at hl 1 rfl) ?_
  refine lv_iconst (v := 0) hx hb dL_peaks_1 (by decide) ?_
  refine lv_aload_n hx hb dL_peaks_2 rfl (lv_at hl 0 rfl) ?_
  refine t_bvi (As := []) (rest := [.int 0, .ref ao]) E G hA hX hX.2.2.2.1 hml (b_X11_peaks l hst D cI cJ cZ cMic cSrc cSt cAI cAJ ad T o  h hrc h_o) (cwV 0 hts (gaV qA_1021 qA_1022 qA_1023 qA_131 qA_820) rfl rfl rfl (by decide +kernel) ⟨Nat.le_of_ble_eq_true rfl, Nat.le_of_ble_eq_true rfl⟩) h_o (cc_o11 h_s) rfl rfl hl.1 rfl (lv_room (Nat.le_of_ble_eq_true rfl)) dL_peaks_3 ⟨by show 0 + (T1.1 - T.1 + 1) ≤ T1.1 - T.1 + 1; omega, by show 0 + (sg T1 - sg T + 6) ≤ sg T1 - sg T + 6; omega⟩ ?_
  intro E9 ce q9 ad2 H locs hE had G hce hcv hcl
  rcases e1 with _ | _ | e1
  · have hE : E9 = xISE := hE
    subst hE
    refine vx_catch (name := xISE) hown [] { startPc := 0, endPc := 8, handlerPc := 11, catchType := 21 } [] htb (fun z hz => absurd hz List.not_mem_nil) (by decide) (by decide) (hts _ (.tail _ qA_952)) (hX.use (.castable xISE xISE) (by decide +kernel)) hce hcv hcl ?_
    refine lv_astore_n (lv' := [(2, .ref q9), (0, .ref (ad o)), (1, .ref ao)]) hx hb dL_peaks_11 rfl hl (by decide) rfl (fun ls hl => ?_)
    refine lv_iconst (v := 1) hx hb dL_peaks_12 (by decide) ?_
    refine W.widen (k := T1.1 - T.1 + 1) (n := sg T1 - sg T + 6) (by omega) (by omega) ?_
    exact W.iret (v := 1) hx hb hr (fun t ht hW => ⟨⟨1, ad2, rfl, ⟨rfl, had⟩, ⟨by rw [ht]; exact G.1, va_K.moved hW.alike hK, G.2.1⟩⟩, G.2.2.F ht⟩) G.2.2.2.2 dL_peaks_13
  · exact absurd (cd_g_X11_peaks (S := [0, 1]) (fun _ h => h) T o _ _ _ h) (by decide)
  · have q := (cd_g_X11_peaks (S := [0, 1]) (fun _ h => h) T o _ _ _ h)
    simp only [List.mem_cons, List.not_mem_nil, or_false] at q
    omega
theorem v_peaks (l : Launch) (hst : l.stackTraces = false) (D : va_G) {cI cJ cZ cMic cSrc cSt cAI cAJ cD : ClassId} (h0 : Nat) (ad : Nat → Nat) (T : AT) (o : Nat) (ao : Nat) (f : Nat → Int64) {k1 : Nat} {r1 : Int32} {T1 : AT} (h : g_X11_peaks T o = some (k1, r1, T1)) (hrc : RC T) (h_o : o < T.1) (h_s : T.2.1 o = (11, 0)) : tWi l yL_peaks (Cond.codeWith yL_peaks cL_peaks 3 (some .int) [(0, 8, 11, 21)] :: wsA) 8 169 cI cJ cZ cMic cSrc cSt cAI cAJ cD D h0 ad T (oJ ao cJ f) [.ref (ad o), .ref ao] (vck 1 0 0 k1) T1 (oJ ao cJ (vfJ k1 f r1.toInt64)) := by
  cases k1 with
  | zero => exact v_peaks_n l hst D h0 ad T o  ao f h hrc h_o h_s
  | succ e1 => exact v_peaks_t l hst D h0 ad T o  ao f h hrc h_o h_s
set_option maxHeartbeats 4000000 in
set_option maxRecDepth 100000 in
theorem v_peakAt_n (l : Launch) (hst : l.stackTraces = false) (D : va_G) {cI cJ cZ cMic cSrc cSt cAI cAJ cD : ClassId} (h0 : Nat) (ad : Nat → Nat) (T : AT) (o : Nat) (a0 : Int32) (ao : Nat) (f : Nat → Int64) {r1 : Int32} {T1 : AT} (h : g_X11_peakAt T o a0 = some (0, r1, T1)) (hrc : RC T) (h_o : o < T.1) (h_s : T.2.1 o = (11, 0)) : tWi l yL_peakAt (Cond.codeWith yL_peakAt cL_peakAt 4 (some .int) [(0, 9, 12, 21), (0, 9, 15, 13)] :: wsA) 8 171 cI cJ cZ cMic cSrc cSt cAI cAJ cD D h0 ad T (oJ ao cJ f) [.ref (ad o), .int a0, .ref ao] (vck 1 2 0 (0)) T1 (oJ ao cJ (vfJ (0) f r1.toInt64)) := by
  intro sz
  refine va_MetW (cc := cL_peakAt) (maxL := 4) (ret := some .int) (by decide) rfl ?_
  intro p e s m args below meth c s₁ B hml hv
  obtain ⟨rfl, hsz, hP, hK, hD0, hX, hN, hA0, hTS⟩ := hv
  have hx := B.exec
  have hb := B.bytes
  have hr := B.returns
  have hts := atoms_spec (ws := (Cond.codeWith yL_peakAt cL_peakAt 4 (some .int) [(0, 9, 12, 21), (0, 9, 15, 13)] :: wsA)) B.pre
  have hown : s.vm.findClass RL = some m.cls := findClass_of_methodNamed B.named
  have hlocks := B.notSynchronized
  have htb := vx_table (x := yL_peakAt) B (hts _ (.head _))
  subst hsz
  have hD := hD0.self (sz := s.heap.size)
  generalize hAe : va_A (cW ad T.1 (cc cI cJ cZ cMic cSrc cSt cAI cAJ ad T) ++ [oJ ao cJ f]) s.heap.size = A at hD hX hA0 ⊢
  have hA : ∀ q : Nat, s.heap.size ≤ q → A q := fun q h => by rw [← hAe]; exact Or.inr h
  have G : gL cI cJ cZ cMic cSrc cSt cAI cAJ D ad A s.heap s.heap [] T [oJ ao cJ f] := ⟨hP, hD, va_S.rf⟩
  have E : cE p c cL_peakAt s m ([.ref (ad o), .int a0, .ref ao] : List Value).toArray (Cond.codeWith yL_peakAt cL_peakAt 4 (some .int) [(0, 9, 12, 21), (0, 9, 15, 13)] :: wsA) D RL (CT cI cJ cZ cMic cSrc cSt cAI cAJ ++ [(cD, .double)]) := ⟨hx, hb, hts, hown, hK⟩
  have hl := lv_entry ([.ref (ad o), .int a0, .ref ao]) (n := 4) (Nat.le_of_ble_eq_true rfl)
  rw [lg_entry_eq]
  generalize (lg_sl ([.ref (ad o), .int a0, .ref ao]) ++ List.replicate (4 - (lg_sl ([.ref (ad o), .int a0, .ref ao])).length) Slot.unset).toArray = ls at hl ⊢
  have hl : lv_has ls 4 [(0, .ref (ad o)), (1, .int a0), (2, .ref ao)] := hl
  refine lv_aload_n hx hb dL_peakAt_0 rfl (lv_at hl 2 rfl) ?_
  refine lv_iconst (v := 0) hx hb dL_peakAt_1 (by decide) ?_
  refine lv_aload_n hx hb dL_peakAt_2 rfl (lv_at hl 0 rfl) ?_
  refine lv_iload_n hx hb dL_peakAt_3 rfl (lv_at hl 1 rfl) ?_
  refine t_avi (As := [.int a0]) (rest := [.int 0, .ref ao]) E G hA hX hX.2.2.2.1 hml (a_X11_peakAt l hst D cI cJ cZ cMic cSrc cSt cAI cAJ ad T o a0 h hrc h_o) (cwV 1 hts (gaV qA_1025 qA_1026 qA_1027 qA_131 qA_822) rfl rfl rfl (by decide +kernel) ⟨Nat.le_of_ble_eq_true rfl, Nat.le_of_ble_eq_true rfl⟩) h_o (cc_o11 h_s) rfl rfl hl.1 rfl (lv_room (Nat.le_of_ble_eq_true rfl)) dL_peakAt_4 ⟨by show 0 + (T1.1 - T.1) ≤ T1.1 - T.1 + 1; omega, by show 0 + (sg T1 - sg T) ≤ sg T1 - sg T + 6; omega⟩ ?_
  intro ad2 H locs had G
  refine lv_i2l (v := r1.toInt64) hx hb dL_peakAt_7 rfl ?_
  refine t_last E G dL_peakAt_8 (fun H locs G => ?_)
  refine lv_goto (tgt := 18) hx hb dL_peakAt_9 (by decide) ?_
  refine lv_iconst (v := 0) hx hb dL_peakAt_18 (by decide) ?_
  refine W.widen (k := T1.1 - T.1 + 1) (n := sg T1 - sg T + 6) (by omega) (by omega) ?_
  exact W.iret (v := 0) hx hb hr (fun t ht hW => ⟨⟨0, ad2, rfl, ⟨rfl, had⟩, ⟨by rw [ht]; exact G.1, va_K.moved hW.alike hK, G.2.1⟩⟩, G.2.2.F ht⟩) G.2.2.2.2 dL_peakAt_19
set_option maxHeartbeats 4000000 in
set_option maxRecDepth 100000 in
theorem v_peakAt_t (l : Launch) (hst : l.stackTraces = false) (D : va_G) {cI cJ cZ cMic cSrc cSt cAI cAJ cD : ClassId} (h0 : Nat) (ad : Nat → Nat) (T : AT) (o : Nat) (a0 : Int32) (ao : Nat) (f : Nat → Int64) {e1 : Nat} {r1 : Int32} {T1 : AT} (h : g_X11_peakAt T o a0 = some (e1 + 1, r1, T1)) (hrc : RC T) (h_o : o < T.1) (h_s : T.2.1 o = (11, 0)) : tWi l yL_peakAt (Cond.codeWith yL_peakAt cL_peakAt 4 (some .int) [(0, 9, 12, 21), (0, 9, 15, 13)] :: wsA) 8 171 cI cJ cZ cMic cSrc cSt cAI cAJ cD D h0 ad T (oJ ao cJ f) [.ref (ad o), .int a0, .ref ao] (vck 1 2 0 (e1 + 1)) T1 (oJ ao cJ (vfJ (e1 + 1) f r1.toInt64)) := by
  intro sz
  refine va_MetW (cc := cL_peakAt) (maxL := 4) (ret := some .int) (by decide) rfl ?_
  intro p e s m args below meth c s₁ B hml hv
  obtain ⟨rfl, hsz, hP, hK, hD0, hX, hN, hA0, hTS⟩ := hv
  have hx := B.exec
  have hb := B.bytes
  have hr := B.returns
  have hts := atoms_spec (ws := (Cond.codeWith yL_peakAt cL_peakAt 4 (some .int) [(0, 9, 12, 21), (0, 9, 15, 13)] :: wsA)) B.pre
  have hown : s.vm.findClass RL = some m.cls := findClass_of_methodNamed B.named
  have hlocks := B.notSynchronized
  have htb := vx_table (x := yL_peakAt) B (hts _ (.head _))
  subst hsz
  have hD := hD0.self (sz := s.heap.size)
  generalize hAe : va_A (cW ad T.1 (cc cI cJ cZ cMic cSrc cSt cAI cAJ ad T) ++ [oJ ao cJ f]) s.heap.size = A at hD hX hA0 ⊢
  have hA : ∀ q : Nat, s.heap.size ≤ q → A q := fun q h => by rw [← hAe]; exact Or.inr h
  have G : gL cI cJ cZ cMic cSrc cSt cAI cAJ D ad A s.heap s.heap [] T [oJ ao cJ f] := ⟨hP, hD, va_S.rf⟩
  have E : cE p c cL_peakAt s m ([.ref (ad o), .int a0, .ref ao] : List Value).toArray (Cond.codeWith yL_peakAt cL_peakAt 4 (some .int) [(0, 9, 12, 21), (0, 9, 15, 13)] :: wsA) D RL (CT cI cJ cZ cMic cSrc cSt cAI cAJ ++ [(cD, .double)]) := ⟨hx, hb, hts, hown, hK⟩
  have hl := lv_entry ([.ref (ad o), .int a0, .ref ao]) (n := 4) (Nat.le_of_ble_eq_true rfl)
  rw [lg_entry_eq]
  generalize (lg_sl ([.ref (ad o), .int a0, .ref ao]) ++ List.replicate (4 - (lg_sl ([.ref (ad o), .int a0, .ref ao])).length) Slot.unset).toArray = ls at hl ⊢
  have hl : lv_has ls 4 [(0, .ref (ad o)), (1, .int a0), (2, .ref ao)] := hl
  refine lv_aload_n hx hb dL_peakAt_0 rfl (lv_at hl 2 rfl) ?_
  refine lv_iconst (v := 0) hx hb dL_peakAt_1 (by decide) ?_
  refine lv_aload_n hx hb dL_peakAt_2 rfl (lv_at hl 0 rfl) ?_
  refine lv_iload_n hx hb dL_peakAt_3 rfl (lv_at hl 1 rfl) ?_
  refine t_bvi (As := [.int a0]) (rest := [.int 0, .ref ao]) E G hA hX hX.2.2.2.1 hml (b_X11_peakAt l hst D cI cJ cZ cMic cSrc cSt cAI cAJ ad T o a0 h hrc h_o) (cwV 1 hts (gaV qA_1025 qA_1026 qA_1027 qA_131 qA_822) rfl rfl rfl (by decide +kernel) ⟨Nat.le_of_ble_eq_true rfl, Nat.le_of_ble_eq_true rfl⟩) h_o (cc_o11 h_s) rfl rfl hl.1 rfl (lv_room (Nat.le_of_ble_eq_true rfl)) dL_peakAt_4 ⟨by show 0 + (T1.1 - T.1 + 1) ≤ T1.1 - T.1 + 1; omega, by show 0 + (sg T1 - sg T + 6) ≤ sg T1 - sg T + 6; omega⟩ ?_
  intro E9 ce q9 ad2 H locs hE had G hce hcv hcl
  rcases e1 with _ | _ | e1
  · have hE : E9 = xISE := hE
    subst hE
    refine vx_catch (name := xISE) hown [] { startPc := 0, endPc := 9, handlerPc := 12, catchType := 21 } [{ startPc := 0, endPc := 9, handlerPc := 15, catchType := 13 }] htb (fun z hz => absurd hz List.not_mem_nil) (by decide) (by decide) (hts _ (.tail _ qA_952)) (hX.use (.castable xISE xISE) (by decide +kernel)) hce hcv hcl ?_
    refine lv_astore_n (lv' := [(3, .ref q9), (0, .ref (ad o)), (1, .int a0), (2, .ref ao)]) hx hb dL_peakAt_12 rfl hl (by decide) rfl (fun ls hl => ?_)
    refine lv_iconst (v := 1) hx hb dL_peakAt_13 (by decide) ?_
    refine W.widen (k := T1.1 - T.1 + 1) (n := sg T1 - sg T + 6) (by omega) (by omega) ?_
    exact W.iret (v := 1) hx hb hr (fun t ht hW => ⟨⟨1, ad2, rfl, ⟨rfl, had⟩, ⟨by rw [ht]; exact G.1, va_K.moved hW.alike hK, G.2.1⟩⟩, G.2.2.F ht⟩) G.2.2.2.2 dL_peakAt_14
  · have hE : E9 = xIOB := hE
    subst hE
    refine vx_catch (name := xIOB) hown [{ startPc := 0, endPc := 9, handlerPc := 12, catchType := 21 }] { startPc := 0, endPc := 9, handlerPc := 15, catchType := 13 } [] htb (List.forall_mem_cons.mpr ⟨Or.inr ⟨by decide, xISE, hts _ (.tail _ qA_952), hN.2.2.1⟩, fun z hz => absurd hz List.not_mem_nil⟩) (by decide) (by decide) (hts _ (.tail _ qA_946)) (hX.use (.castable xIOB xIOB) (by decide +kernel)) hce hcv hcl ?_
    refine lv_astore_n (lv' := [(3, .ref q9), (0, .ref (ad o)), (1, .int a0), (2, .ref ao)]) hx hb dL_peakAt_15 rfl hl (by decide) rfl (fun ls hl => ?_)
    refine lv_iconst (v := 2) hx hb dL_peakAt_16 (by decide) ?_
    refine W.widen (k := T1.1 - T.1 + 1) (n := sg T1 - sg T + 6) (by omega) (by omega) ?_
    exact W.iret (v := 2) hx hb hr (fun t ht hW => ⟨⟨2, ad2, rfl, ⟨rfl, had⟩, ⟨by rw [ht]; exact G.1, va_K.moved hW.alike hK, G.2.1⟩⟩, G.2.2.F ht⟩) G.2.2.2.2 dL_peakAt_17
  · have q := (cd_g_X11_peakAt (S := [0, 1, 2]) (fun _ h => h) T o a0 _ _ _ h)
    simp only [List.mem_cons, List.not_mem_nil, or_false] at q
    omega
theorem v_peakAt (l : Launch) (hst : l.stackTraces = false) (D : va_G) {cI cJ cZ cMic cSrc cSt cAI cAJ cD : ClassId} (h0 : Nat) (ad : Nat → Nat) (T : AT) (o : Nat) (a0 : Int32) (ao : Nat) (f : Nat → Int64) {k1 : Nat} {r1 : Int32} {T1 : AT} (h : g_X11_peakAt T o a0 = some (k1, r1, T1)) (hrc : RC T) (h_o : o < T.1) (h_s : T.2.1 o = (11, 0)) : tWi l yL_peakAt (Cond.codeWith yL_peakAt cL_peakAt 4 (some .int) [(0, 9, 12, 21), (0, 9, 15, 13)] :: wsA) 8 171 cI cJ cZ cMic cSrc cSt cAI cAJ cD D h0 ad T (oJ ao cJ f) [.ref (ad o), .int a0, .ref ao] (vck 1 2 0 k1) T1 (oJ ao cJ (vfJ k1 f r1.toInt64)) := by
  cases k1 with
  | zero => exact v_peakAt_n l hst D h0 ad T o a0 ao f h hrc h_o h_s
  | succ e1 => exact v_peakAt_t l hst D h0 ad T o a0 ao f h hrc h_o h_s
set_option maxHeartbeats 4000000 in
set_option maxRecDepth 100000 in
theorem v_isPeak_n (l : Launch) (hst : l.stackTraces = false) (D : va_G) {cI cJ cZ cMic cSrc cSt cAI cAJ cD : ClassId} (h0 : Nat) (ad : Nat → Nat) (T : AT) (o : Nat) (a0 : Int32) (ao : Nat) (f : Nat → Int64) {r1 : Int32} {T1 : AT} (h : g_X11_isPeak T o a0 = some (0, r1, T1)) (hrc : RC T) (h_o : o < T.1) (h_s : T.2.1 o = (11, 0)) : tWi l yL_isPeak (Cond.codeWith yL_isPeak cL_isPeak 4 (some .int) [(0, 16, 19, 21), (0, 16, 22, 13)] :: wsA) 9 170 cI cJ cZ cMic cSrc cSt cAI cAJ cD D h0 ad T (oJ ao cJ f) [.ref (ad o), .int a0, .ref ao] (vck 1 2 0 (0)) T1 (oJ ao cJ (vfJ (0) f (vzb r1))) := by
  intro sz
  refine va_MetW (cc := cL_isPeak) (maxL := 4) (ret := some .int) (by decide) rfl ?_
  intro p e s m args below meth c s₁ B hml hv
  obtain ⟨rfl, hsz, hP, hK, hD0, hX, hN, hA0, hTS⟩ := hv
  have hx := B.exec
  have hb := B.bytes
  have hr := B.returns
  have hts := atoms_spec (ws := (Cond.codeWith yL_isPeak cL_isPeak 4 (some .int) [(0, 16, 19, 21), (0, 16, 22, 13)] :: wsA)) B.pre
  have hown : s.vm.findClass RL = some m.cls := findClass_of_methodNamed B.named
  have hlocks := B.notSynchronized
  have htb := vx_table (x := yL_isPeak) B (hts _ (.head _))
  subst hsz
  have hD := hD0.self (sz := s.heap.size)
  generalize hAe : va_A (cW ad T.1 (cc cI cJ cZ cMic cSrc cSt cAI cAJ ad T) ++ [oJ ao cJ f]) s.heap.size = A at hD hX hA0 ⊢
  have hA : ∀ q : Nat, s.heap.size ≤ q → A q := fun q h => by rw [← hAe]; exact Or.inr h
  have G : gL cI cJ cZ cMic cSrc cSt cAI cAJ D ad A s.heap s.heap [] T [oJ ao cJ f] := ⟨hP, hD, va_S.rf⟩
  have E : cE p c cL_isPeak s m ([.ref (ad o), .int a0, .ref ao] : List Value).toArray (Cond.codeWith yL_isPeak cL_isPeak 4 (some .int) [(0, 16, 19, 21), (0, 16, 22, 13)] :: wsA) D RL (CT cI cJ cZ cMic cSrc cSt cAI cAJ ++ [(cD, .double)]) := ⟨hx, hb, hts, hown, hK⟩
  have hl := lv_entry ([.ref (ad o), .int a0, .ref ao]) (n := 4) (Nat.le_of_ble_eq_true rfl)
  rw [lg_entry_eq]
  generalize (lg_sl ([.ref (ad o), .int a0, .ref ao]) ++ List.replicate (4 - (lg_sl ([.ref (ad o), .int a0, .ref ao])).length) Slot.unset).toArray = ls at hl ⊢
  have hl : lv_has ls 4 [(0, .ref (ad o)), (1, .int a0), (2, .ref ao)] := hl
  refine lv_aload_n hx hb dL_isPeak_0 rfl (lv_at hl 2 rfl) ?_
  refine lv_iconst (v := 0) hx hb dL_isPeak_1 (by decide) ?_
  refine lv_aload_n hx hb dL_isPeak_2 rfl (lv_at hl 0 rfl) ?_
  refine lv_iload_n hx hb dL_isPeak_3 rfl (lv_at hl 1 rfl) ?_
  refine t_avi (As := [.int a0]) (rest := [.int 0, .ref ao]) E G hA hX hX.2.2.2.1 hml (a_X11_isPeak l hst D cI cJ cZ cMic cSrc cSt cAI cAJ ad T o a0 h hrc h_o) (cwV 1 hts (gaV qA_1029 qA_1030 qA_1031 qA_131 qA_826) rfl rfl rfl (by decide +kernel) ⟨Nat.le_of_ble_eq_true rfl, Nat.le_of_ble_eq_true rfl⟩) h_o (cc_o11 h_s) rfl rfl hl.1 rfl (lv_room (Nat.le_of_ble_eq_true rfl)) dL_isPeak_4 ⟨by show 0 + (T1.1 - T.1) ≤ T1.1 - T.1 + 1; omega, by show 0 + (sg T1 - sg T) ≤ sg T1 - sg T + 6; omega⟩ ?_
  intro ad2 H locs had G
  refine lv_if_eq (tgt := 14) hx hb dL_isPeak_7 (by decide) (fun c1 => ?_) (fun c1 => ?_)
  · refine lv_lconst (v := vzb r1) hx hb dL_isPeak_14 (by rw [vzb, if_pos c1]; rfl) ?_
    refine t_last E G dL_isPeak_15 (fun H locs G => ?_)
    refine lv_goto (tgt := 25) hx hb dL_isPeak_16 (by decide) ?_
    refine lv_iconst (v := 0) hx hb dL_isPeak_25 (by decide) ?_
    refine W.widen (k := T1.1 - T.1 + 1) (n := sg T1 - sg T + 6) (by omega) (by omega) ?_
    exact W.iret (v := 0) hx hb hr (fun t ht hW => ⟨⟨0, ad2, rfl, ⟨rfl, had⟩, ⟨by rw [ht]; exact G.1, va_K.moved hW.alike hK, G.2.1⟩⟩, G.2.2.F ht⟩) G.2.2.2.2 dL_isPeak_26
  · refine lv_lconst (v := vzb r1) hx hb dL_isPeak_10 (by rw [vzb, if_neg c1]; rfl) ?_
    refine lv_goto (tgt := 15) hx hb dL_isPeak_11 (by decide) ?_
    refine t_last E G dL_isPeak_15 (fun H locs G => ?_)
    refine lv_goto (tgt := 25) hx hb dL_isPeak_16 (by decide) ?_
    refine lv_iconst (v := 0) hx hb dL_isPeak_25 (by decide) ?_
    refine W.widen (k := T1.1 - T.1 + 1) (n := sg T1 - sg T + 6) (by omega) (by omega) ?_
    exact W.iret (v := 0) hx hb hr (fun t ht hW => ⟨⟨0, ad2, rfl, ⟨rfl, had⟩, ⟨by rw [ht]; exact G.1, va_K.moved hW.alike hK, G.2.1⟩⟩, G.2.2.F ht⟩) G.2.2.2.2 dL_isPeak_26
set_option maxHeartbeats 4000000 in
set_option maxRecDepth 100000 in
theorem v_isPeak_t (l : Launch) (hst : l.stackTraces = false) (D : va_G) {cI cJ cZ cMic cSrc cSt cAI cAJ cD : ClassId} (h0 : Nat) (ad : Nat → Nat) (T : AT) (o : Nat) (a0 : Int32) (ao : Nat) (f : Nat → Int64) {e1 : Nat} {r1 : Int32} {T1 : AT} (h : g_X11_isPeak T o a0 = some (e1 + 1, r1, T1)) (hrc : RC T) (h_o : o < T.1) (h_s : T.2.1 o = (11, 0)) : tWi l yL_isPeak (Cond.codeWith yL_isPeak cL_isPeak 4 (some .int) [(0, 16, 19, 21), (0, 16, 22, 13)] :: wsA) 9 170 cI cJ cZ cMic cSrc cSt cAI cAJ cD D h0 ad T (oJ ao cJ f) [.ref (ad o), .int a0, .ref ao] (vck 1 2 0 (e1 + 1)) T1 (oJ ao cJ (vfJ (e1 + 1) f (vzb r1))) := by
  intro sz
  refine va_MetW (cc := cL_isPeak) (maxL := 4) (ret := some .int) (by decide) rfl ?_
  intro p e s m args below meth c s₁ B hml hv
  obtain ⟨rfl, hsz, hP, hK, hD0, hX, hN, hA0, hTS⟩ := hv
  have hx := B.exec
  have hb := B.bytes
  have hr := B.returns
  have hts := atoms_spec (ws := (Cond.codeWith yL_isPeak cL_isPeak 4 (some .int) [(0, 16, 19, 21), (0, 16, 22, 13)] :: wsA)) B.pre
  have hown : s.vm.findClass RL = some m.cls := findClass_of_methodNamed B.named
  have hlocks := B.notSynchronized
  have htb := vx_table (x := yL_isPeak) B (hts _ (.head _))
  subst hsz
  have hD := hD0.self (sz := s.heap.size)
  generalize hAe : va_A (cW ad T.1 (cc cI cJ cZ cMic cSrc cSt cAI cAJ ad T) ++ [oJ ao cJ f]) s.heap.size = A at hD hX hA0 ⊢
  have hA : ∀ q : Nat, s.heap.size ≤ q → A q := fun q h => by rw [← hAe]; exact Or.inr h
  have G : gL cI cJ cZ cMic cSrc cSt cAI cAJ D ad A s.heap s.heap [] T [oJ ao cJ f] := ⟨hP, hD, va_S.rf⟩
  have E : cE p c cL_isPeak s m ([.ref (ad o), .int a0, .ref ao] : List Value).toArray (Cond.codeWith yL_isPeak cL_isPeak 4 (some .int) [(0, 16, 19, 21), (0, 16, 22, 13)] :: wsA) D RL (CT cI cJ cZ cMic cSrc cSt cAI cAJ ++ [(cD, .double)]) := ⟨hx, hb, hts, hown, hK⟩
  have hl := lv_entry ([.ref (ad o), .int a0, .ref ao]) (n := 4) (Nat.le_of_ble_eq_true rfl)
  rw [lg_entry_eq]
  generalize (lg_sl ([.ref (ad o), .int a0, .ref ao]) ++ List.replicate (4 - (lg_sl ([.ref (ad o), .int a0, .ref ao])).length) Slot.unset).toArray = ls at hl ⊢
  have hl : lv_has ls 4 [(0, .ref (ad o)), (1, .int a0), (2, .ref ao)] := hl
  refine lv_aload_n hx hb dL_isPeak_0 rfl (lv_at hl 2 rfl) ?_
  refine lv_iconst (v := 0) hx hb dL_isPeak_1 (by decide) ?_
  refine lv_aload_n hx hb dL_isPeak_2 rfl (lv_at hl 0 rfl) ?_
  refine lv_iload_n hx hb dL_isPeak_3 rfl (lv_at hl 1 rfl) ?_
  refine t_bvi (As := [.int a0]) (rest := [.int 0, .ref ao]) E G hA hX hX.2.2.2.1 hml (b_X11_isPeak l hst D cI cJ cZ cMic cSrc cSt cAI cAJ ad T o a0 h hrc h_o) (cwV 1 hts (gaV qA_1029 qA_1030 qA_1031 qA_131 qA_826) rfl rfl rfl (by decide +kernel) ⟨Nat.le_of_ble_eq_true rfl, Nat.le_of_ble_eq_true rfl⟩) h_o (cc_o11 h_s) rfl rfl hl.1 rfl (lv_room (Nat.le_of_ble_eq_true rfl)) dL_isPeak_4 ⟨by show 0 + (T1.1 - T.1 + 1) ≤ T1.1 - T.1 + 1; omega, by show 0 + (sg T1 - sg T + 6) ≤ sg T1 - sg T + 6; omega⟩ ?_
  intro E9 ce q9 ad2 H locs hE had G hce hcv hcl
  rcases e1 with _ | _ | e1
  · have hE : E9 = xISE := hE
    subst hE
    refine vx_catch (name := xISE) hown [] { startPc := 0, endPc := 16, handlerPc := 19, catchType := 21 } [{ startPc := 0, endPc := 16, handlerPc := 22, catchType := 13 }] htb (fun z hz => absurd hz List.not_mem_nil) (by decide) (by decide) (hts _ (.tail _ qA_952)) (hX.use (.castable xISE xISE) (by decide +kernel)) hce hcv hcl ?_
    refine lv_astore_n (lv' := [(3, .ref q9), (0, .ref (ad o)), (1, .int a0), (2, .ref ao)]) hx hb dL_isPeak_19 rfl hl (by decide) rfl (fun ls hl => ?_)
    refine lv_iconst (v := 1) hx hb dL_isPeak_20 (by decide) ?_
    refine W.widen (k := T1.1 - T.1 + 1) (n := sg T1 - sg T + 6) (by omega) (by omega) ?_
    exact W.iret (v := 1) hx hb hr (fun t ht hW => ⟨⟨1, ad2, rfl, ⟨rfl, had⟩, ⟨by rw [ht]; exact G.1, va_K.moved hW.alike hK, G.2.1⟩⟩, G.2.2.F ht⟩) G.2.2.2.2 dL_isPeak_21
  · have hE : E9 = xIOB := hE
    subst hE
    refine vx_catch (name := xIOB) hown [{ startPc := 0, endPc := 16, handlerPc := 19, catchType := 21 }] { startPc := 0, endPc := 16, handlerPc := 22, catchType := 13 } [] htb (List.forall_mem_cons.mpr ⟨Or.inr ⟨by decide, xISE, hts _ (.tail _ qA_952), hN.2.2.1⟩, fun z hz => absurd hz List.not_mem_nil⟩) (by decide) (by decide) (hts _ (.tail _ qA_946)) (hX.use (.castable xIOB xIOB) (by decide +kernel)) hce hcv hcl ?_
    refine lv_astore_n (lv' := [(3, .ref q9), (0, .ref (ad o)), (1, .int a0), (2, .ref ao)]) hx hb dL_isPeak_22 rfl hl (by decide) rfl (fun ls hl => ?_)
    refine lv_iconst (v := 2) hx hb dL_isPeak_23 (by decide) ?_
    refine W.widen (k := T1.1 - T.1 + 1) (n := sg T1 - sg T + 6) (by omega) (by omega) ?_
    exact W.iret (v := 2) hx hb hr (fun t ht hW => ⟨⟨2, ad2, rfl, ⟨rfl, had⟩, ⟨by rw [ht]; exact G.1, va_K.moved hW.alike hK, G.2.1⟩⟩, G.2.2.F ht⟩) G.2.2.2.2 dL_isPeak_24
  · have q := (cd_g_X11_isPeak (S := [0, 1, 2]) (fun _ h => h) T o a0 _ _ _ h)
    simp only [List.mem_cons, List.not_mem_nil, or_false] at q
    omega
theorem v_isPeak (l : Launch) (hst : l.stackTraces = false) (D : va_G) {cI cJ cZ cMic cSrc cSt cAI cAJ cD : ClassId} (h0 : Nat) (ad : Nat → Nat) (T : AT) (o : Nat) (a0 : Int32) (ao : Nat) (f : Nat → Int64) {k1 : Nat} {r1 : Int32} {T1 : AT} (h : g_X11_isPeak T o a0 = some (k1, r1, T1)) (hrc : RC T) (h_o : o < T.1) (h_s : T.2.1 o = (11, 0)) : tWi l yL_isPeak (Cond.codeWith yL_isPeak cL_isPeak 4 (some .int) [(0, 16, 19, 21), (0, 16, 22, 13)] :: wsA) 9 170 cI cJ cZ cMic cSrc cSt cAI cAJ cD D h0 ad T (oJ ao cJ f) [.ref (ad o), .int a0, .ref ao] (vck 1 2 0 k1) T1 (oJ ao cJ (vfJ k1 f (vzb r1))) := by
  cases k1 with
  | zero => exact v_isPeak_n l hst D h0 ad T o a0 ao f h hrc h_o h_s
  | succ e1 => exact v_isPeak_t l hst D h0 ad T o a0 ao f h hrc h_o h_s
set_option maxHeartbeats 4000000 in
set_option maxRecDepth 100000 in
theorem v_zonePower_n (l : Launch) (hst : l.stackTraces = false) (D : va_G) {cI cJ cZ cMic cSrc cSt cAI cAJ cD : ClassId} (h0 : Nat) (ad : Nat → Nat) (T : AT) (o : Nat) (a0 : Int32) (ao : Nat) (f : Nat → Int64) {r1 : Int64} {T1 : AT} (h : g_X11_zonePower T o a0 = some (0, r1, T1)) (hrc : RC T) (h_o : o < T.1) (h_s : T.2.1 o = (11, 0)) : tWi l yL_zonePower (Cond.codeWith yL_zonePower cL_zonePower 4 (some .int) [(0, 8, 11, 21), (0, 8, 14, 13)] :: wsA) 8 170 cI cJ cZ cMic cSrc cSt cAI cAJ cD D h0 ad T (oJ ao cJ f) [.ref (ad o), .int a0, .ref ao] (vck 1 2 0 (0)) T1 (oJ ao cJ (vfJ (0) f r1)) := by
  intro sz
  refine va_MetW (cc := cL_zonePower) (maxL := 4) (ret := some .int) (by decide) rfl ?_
  intro p e s m args below meth c s₁ B hml hv
  obtain ⟨rfl, hsz, hP, hK, hD0, hX, hN, hA0, hTS⟩ := hv
  have hx := B.exec
  have hb := B.bytes
  have hr := B.returns
  have hts := atoms_spec (ws := (Cond.codeWith yL_zonePower cL_zonePower 4 (some .int) [(0, 8, 11, 21), (0, 8, 14, 13)] :: wsA)) B.pre
  have hown : s.vm.findClass RL = some m.cls := findClass_of_methodNamed B.named
  have hlocks := B.notSynchronized
  have htb := vx_table (x := yL_zonePower) B (hts _ (.head _))
  subst hsz
  have hD := hD0.self (sz := s.heap.size)
  generalize hAe : va_A (cW ad T.1 (cc cI cJ cZ cMic cSrc cSt cAI cAJ ad T) ++ [oJ ao cJ f]) s.heap.size = A at hD hX hA0 ⊢
  have hA : ∀ q : Nat, s.heap.size ≤ q → A q := fun q h => by rw [← hAe]; exact Or.inr h
  have G : gL cI cJ cZ cMic cSrc cSt cAI cAJ D ad A s.heap s.heap [] T [oJ ao cJ f] := ⟨hP, hD, va_S.rf⟩
  have E : cE p c cL_zonePower s m ([.ref (ad o), .int a0, .ref ao] : List Value).toArray (Cond.codeWith yL_zonePower cL_zonePower 4 (some .int) [(0, 8, 11, 21), (0, 8, 14, 13)] :: wsA) D RL (CT cI cJ cZ cMic cSrc cSt cAI cAJ ++ [(cD, .double)]) := ⟨hx, hb, hts, hown, hK⟩
  have hl := lv_entry ([.ref (ad o), .int a0, .ref ao]) (n := 4) (Nat.le_of_ble_eq_true rfl)
  rw [lg_entry_eq]
  generalize (lg_sl ([.ref (ad o), .int a0, .ref ao]) ++ List.replicate (4 - (lg_sl ([.ref (ad o), .int a0, .ref ao])).length) Slot.unset).toArray = ls at hl ⊢
  have hl : lv_has ls 4 [(0, .ref (ad o)), (1, .int a0), (2, .ref ao)] := hl
  refine lv_aload_n hx hb dL_zonePower_0 rfl (lv_at hl 2 rfl) ?_
  refine lv_iconst (v := 0) hx hb dL_zonePower_1 (by decide) ?_
  refine lv_aload_n hx hb dL_zonePower_2 rfl (lv_at hl 0 rfl) ?_
  refine lv_iload_n hx hb dL_zonePower_3 rfl (lv_at hl 1 rfl) ?_
  refine t_avl (As := [.int a0]) (rest := [.int 0, .ref ao]) E G hA hX hX.2.2.2.1 hml (a_X11_zonePower l hst D cI cJ cZ cMic cSrc cSt cAI cAJ ad T o a0 h hrc h_o) (cwV 1 hts (gaV qA_1033 qA_1034 qA_1035 qA_131 qA_828) rfl rfl rfl (by decide +kernel) ⟨Nat.le_of_ble_eq_true rfl, Nat.le_of_ble_eq_true rfl⟩) h_o (cc_o11 h_s) rfl rfl hl.1 rfl (lv_room (Nat.le_of_ble_eq_true rfl)) dL_zonePower_4 ⟨by show 0 + (T1.1 - T.1) ≤ T1.1 - T.1 + 1; omega, by show 0 + (sg T1 - sg T) ≤ sg T1 - sg T + 6; omega⟩ ?_
  intro ad2 H locs had G
  refine t_last E G dL_zonePower_7 (fun H locs G => ?_)
  refine lv_goto (tgt := 17) hx hb dL_zonePower_8 (by decide) ?_
  refine lv_iconst (v := 0) hx hb dL_zonePower_17 (by decide) ?_
  refine W.widen (k := T1.1 - T.1 + 1) (n := sg T1 - sg T + 6) (by omega) (by omega) ?_
  exact W.iret (v := 0) hx hb hr (fun t ht hW => ⟨⟨0, ad2, rfl, ⟨rfl, had⟩, ⟨by rw [ht]; exact G.1, va_K.moved hW.alike hK, G.2.1⟩⟩, G.2.2.F ht⟩) G.2.2.2.2 dL_zonePower_18
set_option maxHeartbeats 4000000 in
set_option maxRecDepth 100000 in
theorem v_zonePower_t (l : Launch) (hst : l.stackTraces = false) (D : va_G) {cI cJ cZ cMic cSrc cSt cAI cAJ cD : ClassId} (h0 : Nat) (ad : Nat → Nat) (T : AT) (o : Nat) (a0 : Int32) (ao : Nat) (f : Nat → Int64) {e1 : Nat} {r1 : Int64} {T1 : AT} (h : g_X11_zonePower T o a0 = some (e1 + 1, r1, T1)) (hrc : RC T) (h_o : o < T.1) (h_s : T.2.1 o = (11, 0)) : tWi l yL_zonePower (Cond.codeWith yL_zonePower cL_zonePower 4 (some .int) [(0, 8, 11, 21), (0, 8, 14, 13)] :: wsA) 8 170 cI cJ cZ cMic cSrc cSt cAI cAJ cD D h0 ad T (oJ ao cJ f) [.ref (ad o), .int a0, .ref ao] (vck 1 2 0 (e1 + 1)) T1 (oJ ao cJ (vfJ (e1 + 1) f r1)) := by
  intro sz
  refine va_MetW (cc := cL_zonePower) (maxL := 4) (ret := some .int) (by decide) rfl ?_
  intro p e s m args below meth c s₁ B hml hv
  obtain ⟨rfl, hsz, hP, hK, hD0, hX, hN, hA0, hTS⟩ := hv
  have hx := B.exec
  have hb := B.bytes
  have hr := B.returns
  have hts := atoms_spec (ws := (Cond.codeWith yL_zonePower cL_zonePower 4 (some .int) [(0, 8, 11, 21), (0, 8, 14, 13)] :: wsA)) B.pre
  have hown : s.vm.findClass RL = some m.cls := findClass_of_methodNamed B.named
  have hlocks := B.notSynchronized
  have htb := vx_table (x := yL_zonePower) B (hts _ (.head _))
  subst hsz
  have hD := hD0.self (sz := s.heap.size)
  generalize hAe : va_A (cW ad T.1 (cc cI cJ cZ cMic cSrc cSt cAI cAJ ad T) ++ [oJ ao cJ f]) s.heap.size = A at hD hX hA0 ⊢
  have hA : ∀ q : Nat, s.heap.size ≤ q → A q := fun q h => by rw [← hAe]; exact Or.inr h
  have G : gL cI cJ cZ cMic cSrc cSt cAI cAJ D ad A s.heap s.heap [] T [oJ ao cJ f] := ⟨hP, hD, va_S.rf⟩
  have E : cE p c cL_zonePower s m ([.ref (ad o), .int a0, .ref ao] : List Value).toArray (Cond.codeWith yL_zonePower cL_zonePower 4 (some .int) [(0, 8, 11, 21), (0, 8, 14, 13)] :: wsA) D RL (CT cI cJ cZ cMic cSrc cSt cAI cAJ ++ [(cD, .double)]) := ⟨hx, hb, hts, hown, hK⟩
  have hl := lv_entry ([.ref (ad o), .int a0, .ref ao]) (n := 4) (Nat.le_of_ble_eq_true rfl)
  rw [lg_entry_eq]
  generalize (lg_sl ([.ref (ad o), .int a0, .ref ao]) ++ List.replicate (4 - (lg_sl ([.ref (ad o), .int a0, .ref ao])).length) Slot.unset).toArray = ls at hl ⊢
  have hl : lv_has ls 4 [(0, .ref (ad o)), (1, .int a0), (2, .ref ao)] := hl
  refine lv_aload_n hx hb dL_zonePower_0 rfl (lv_at hl 2 rfl) ?_
  refine lv_iconst (v := 0) hx hb dL_zonePower_1 (by decide) ?_
  refine lv_aload_n hx hb dL_zonePower_2 rfl (lv_at hl 0 rfl) ?_
  refine lv_iload_n hx hb dL_zonePower_3 rfl (lv_at hl 1 rfl) ?_
  refine t_bvl (As := [.int a0]) (rest := [.int 0, .ref ao]) E G hA hX hX.2.2.2.1 hml (b_X11_zonePower l hst D cI cJ cZ cMic cSrc cSt cAI cAJ ad T o a0 h hrc h_o) (cwV 1 hts (gaV qA_1033 qA_1034 qA_1035 qA_131 qA_828) rfl rfl rfl (by decide +kernel) ⟨Nat.le_of_ble_eq_true rfl, Nat.le_of_ble_eq_true rfl⟩) h_o (cc_o11 h_s) rfl rfl hl.1 rfl (lv_room (Nat.le_of_ble_eq_true rfl)) dL_zonePower_4 ⟨by show 0 + (T1.1 - T.1 + 1) ≤ T1.1 - T.1 + 1; omega, by show 0 + (sg T1 - sg T + 6) ≤ sg T1 - sg T + 6; omega⟩ ?_
  intro E9 ce q9 ad2 H locs hE had G hce hcv hcl
  rcases e1 with _ | _ | e1
  · have hE : E9 = xISE := hE
    subst hE
    refine vx_catch (name := xISE) hown [] { startPc := 0, endPc := 8, handlerPc := 11, catchType := 21 } [{ startPc := 0, endPc := 8, handlerPc := 14, catchType := 13 }] htb (fun z hz => absurd hz List.not_mem_nil) (by decide) (by decide) (hts _ (.tail _ qA_952)) (hX.use (.castable xISE xISE) (by decide +kernel)) hce hcv hcl ?_
    refine lv_astore_n (lv' := [(3, .ref q9), (0, .ref (ad o)), (1, .int a0), (2, .ref ao)]) hx hb dL_zonePower_11 rfl hl (by decide) rfl (fun ls hl => ?_)
    refine lv_iconst (v := 1) hx hb dL_zonePower_12 (by decide) ?_
    refine W.widen (k := T1.1 - T.1 + 1) (n := sg T1 - sg T + 6) (by omega) (by omega) ?_
    exact W.iret (v := 1) hx hb hr (fun t ht hW => ⟨⟨1, ad2, rfl, ⟨rfl, had⟩, ⟨by rw [ht]; exact G.1, va_K.moved hW.alike hK, G.2.1⟩⟩, G.2.2.F ht⟩) G.2.2.2.2 dL_zonePower_13
  · have hE : E9 = xIOB := hE
    subst hE
    refine vx_catch (name := xIOB) hown [{ startPc := 0, endPc := 8, handlerPc := 11, catchType := 21 }] { startPc := 0, endPc := 8, handlerPc := 14, catchType := 13 } [] htb (List.forall_mem_cons.mpr ⟨Or.inr ⟨by decide, xISE, hts _ (.tail _ qA_952), hN.2.2.1⟩, fun z hz => absurd hz List.not_mem_nil⟩) (by decide) (by decide) (hts _ (.tail _ qA_946)) (hX.use (.castable xIOB xIOB) (by decide +kernel)) hce hcv hcl ?_
    refine lv_astore_n (lv' := [(3, .ref q9), (0, .ref (ad o)), (1, .int a0), (2, .ref ao)]) hx hb dL_zonePower_14 rfl hl (by decide) rfl (fun ls hl => ?_)
    refine lv_iconst (v := 2) hx hb dL_zonePower_15 (by decide) ?_
    refine W.widen (k := T1.1 - T.1 + 1) (n := sg T1 - sg T + 6) (by omega) (by omega) ?_
    exact W.iret (v := 2) hx hb hr (fun t ht hW => ⟨⟨2, ad2, rfl, ⟨rfl, had⟩, ⟨by rw [ht]; exact G.1, va_K.moved hW.alike hK, G.2.1⟩⟩, G.2.2.F ht⟩) G.2.2.2.2 dL_zonePower_16
  · have q := (cd_g_X11_zonePower (S := [0, 1, 2]) (fun _ h => h) T o a0 _ _ _ h)
    simp only [List.mem_cons, List.not_mem_nil, or_false] at q
    omega
theorem v_zonePower (l : Launch) (hst : l.stackTraces = false) (D : va_G) {cI cJ cZ cMic cSrc cSt cAI cAJ cD : ClassId} (h0 : Nat) (ad : Nat → Nat) (T : AT) (o : Nat) (a0 : Int32) (ao : Nat) (f : Nat → Int64) {k1 : Nat} {r1 : Int64} {T1 : AT} (h : g_X11_zonePower T o a0 = some (k1, r1, T1)) (hrc : RC T) (h_o : o < T.1) (h_s : T.2.1 o = (11, 0)) : tWi l yL_zonePower (Cond.codeWith yL_zonePower cL_zonePower 4 (some .int) [(0, 8, 11, 21), (0, 8, 14, 13)] :: wsA) 8 170 cI cJ cZ cMic cSrc cSt cAI cAJ cD D h0 ad T (oJ ao cJ f) [.ref (ad o), .int a0, .ref ao] (vck 1 2 0 k1) T1 (oJ ao cJ (vfJ k1 f r1)) := by
  cases k1 with
  | zero => exact v_zonePower_n l hst D h0 ad T o a0 ao f h hrc h_o h_s
  | succ e1 => exact v_zonePower_t l hst D h0 ad T o a0 ao f h hrc h_o h_s
set_option maxHeartbeats 4000000 in
set_option maxRecDepth 100000 in
theorem v_zoneBest_n (l : Launch) (hst : l.stackTraces = false) (D : va_G) {cI cJ cZ cMic cSrc cSt cAI cAJ cD : ClassId} (h0 : Nat) (ad : Nat → Nat) (T : AT) (o : Nat) (a0 : Int32) (ao : Nat) (f : Nat → Int64) {r1 : Int32} {T1 : AT} (h : g_X11_zoneBest T o a0 = some (0, r1, T1)) (hrc : RC T) (h_o : o < T.1) (h_s : T.2.1 o = (11, 0)) : tWi l yL_zoneBest (Cond.codeWith yL_zoneBest cL_zoneBest 4 (some .int) [(0, 9, 12, 21), (0, 9, 15, 13)] :: wsA) 8 170 cI cJ cZ cMic cSrc cSt cAI cAJ cD D h0 ad T (oJ ao cJ f) [.ref (ad o), .int a0, .ref ao] (vck 1 2 0 (0)) T1 (oJ ao cJ (vfJ (0) f r1.toInt64)) := by
  intro sz
  refine va_MetW (cc := cL_zoneBest) (maxL := 4) (ret := some .int) (by decide) rfl ?_
  intro p e s m args below meth c s₁ B hml hv
  obtain ⟨rfl, hsz, hP, hK, hD0, hX, hN, hA0, hTS⟩ := hv
  have hx := B.exec
  have hb := B.bytes
  have hr := B.returns
  have hts := atoms_spec (ws := (Cond.codeWith yL_zoneBest cL_zoneBest 4 (some .int) [(0, 9, 12, 21), (0, 9, 15, 13)] :: wsA)) B.pre
  have hown : s.vm.findClass RL = some m.cls := findClass_of_methodNamed B.named
  have hlocks := B.notSynchronized
  have htb := vx_table (x := yL_zoneBest) B (hts _ (.head _))
  subst hsz
  have hD := hD0.self (sz := s.heap.size)
  generalize hAe : va_A (cW ad T.1 (cc cI cJ cZ cMic cSrc cSt cAI cAJ ad T) ++ [oJ ao cJ f]) s.heap.size = A at hD hX hA0 ⊢
  have hA : ∀ q : Nat, s.heap.size ≤ q → A q := fun q h => by rw [← hAe]; exact Or.inr h
  have G : gL cI cJ cZ cMic cSrc cSt cAI cAJ D ad A s.heap s.heap [] T [oJ ao cJ f] := ⟨hP, hD, va_S.rf⟩
  have E : cE p c cL_zoneBest s m ([.ref (ad o), .int a0, .ref ao] : List Value).toArray (Cond.codeWith yL_zoneBest cL_zoneBest 4 (some .int) [(0, 9, 12, 21), (0, 9, 15, 13)] :: wsA) D RL (CT cI cJ cZ cMic cSrc cSt cAI cAJ ++ [(cD, .double)]) := ⟨hx, hb, hts, hown, hK⟩
  have hl := lv_entry ([.ref (ad o), .int a0, .ref ao]) (n := 4) (Nat.le_of_ble_eq_true rfl)
  rw [lg_entry_eq]
  generalize (lg_sl ([.ref (ad o), .int a0, .ref ao]) ++ List.replicate (4 - (lg_sl ([.ref (ad o), .int a0, .ref ao])).length) Slot.unset).toArray = ls at hl ⊢
  have hl : lv_has ls 4 [(0, .ref (ad o)), (1, .int a0), (2, .ref ao)] := hl
  refine lv_aload_n hx hb dL_zoneBest_0 rfl (lv_at hl 2 rfl) ?_
  refine lv_iconst (v := 0) hx hb dL_zoneBest_1 (by decide) ?_
  refine lv_aload_n hx hb dL_zoneBest_2 rfl (lv_at hl 0 rfl) ?_
  refine lv_iload_n hx hb dL_zoneBest_3 rfl (lv_at hl 1 rfl) ?_
  refine t_avi (As := [.int a0]) (rest := [.int 0, .ref ao]) E G hA hX hX.2.2.2.1 hml (a_X11_zoneBest l hst D cI cJ cZ cMic cSrc cSt cAI cAJ ad T o a0 h hrc h_o) (cwV 1 hts (gaV qA_1037 qA_1038 qA_1039 qA_131 qA_831) rfl rfl rfl (by decide +kernel) ⟨Nat.le_of_ble_eq_true rfl, Nat.le_of_ble_eq_true rfl⟩) h_o (cc_o11 h_s) rfl rfl hl.1 rfl (lv_room (Nat.le_of_ble_eq_true rfl)) dL_zoneBest_4 ⟨by show 0 + (T1.1 - T.1) ≤ T1.1 - T.1 + 1; omega, by show 0 + (sg T1 - sg T) ≤ sg T1 - sg T + 6; omega⟩ ?_
  intro ad2 H locs had G
  refine lv_i2l (v := r1.toInt64) hx hb dL_zoneBest_7 rfl ?_
  refine t_last E G dL_zoneBest_8 (fun H locs G => ?_)
  refine lv_goto (tgt := 18) hx hb dL_zoneBest_9 (by decide) ?_
  refine lv_iconst (v := 0) hx hb dL_zoneBest_18 (by decide) ?_
  refine W.widen (k := T1.1 - T.1 + 1) (n := sg T1 - sg T + 6) (by omega) (by omega) ?_
  exact W.iret (v := 0) hx hb hr (fun t ht hW => ⟨⟨0, ad2, rfl, ⟨rfl, had⟩, ⟨by rw [ht]; exact G.1, va_K.moved hW.alike hK, G.2.1⟩⟩, G.2.2.F ht⟩) G.2.2.2.2 dL_zoneBest_19
set_option maxHeartbeats 4000000 in
set_option maxRecDepth 100000 in
theorem v_zoneBest_t (l : Launch) (hst : l.stackTraces = false) (D : va_G) {cI cJ cZ cMic cSrc cSt cAI cAJ cD : ClassId} (h0 : Nat) (ad : Nat → Nat) (T : AT) (o : Nat) (a0 : Int32) (ao : Nat) (f : Nat → Int64) {e1 : Nat} {r1 : Int32} {T1 : AT} (h : g_X11_zoneBest T o a0 = some (e1 + 1, r1, T1)) (hrc : RC T) (h_o : o < T.1) (h_s : T.2.1 o = (11, 0)) : tWi l yL_zoneBest (Cond.codeWith yL_zoneBest cL_zoneBest 4 (some .int) [(0, 9, 12, 21), (0, 9, 15, 13)] :: wsA) 8 170 cI cJ cZ cMic cSrc cSt cAI cAJ cD D h0 ad T (oJ ao cJ f) [.ref (ad o), .int a0, .ref ao] (vck 1 2 0 (e1 + 1)) T1 (oJ ao cJ (vfJ (e1 + 1) f r1.toInt64)) := by
  intro sz
  refine va_MetW (cc := cL_zoneBest) (maxL := 4) (ret := some .int) (by decide) rfl ?_
  intro p e s m args below meth c s₁ B hml hv
  obtain ⟨rfl, hsz, hP, hK, hD0, hX, hN, hA0, hTS⟩ := hv
  have hx := B.exec
  have hb := B.bytes
  have hr := B.returns
  have hts := atoms_spec (ws := (Cond.codeWith yL_zoneBest cL_zoneBest 4 (some .int) [(0, 9, 12, 21), (0, 9, 15, 13)] :: wsA)) B.pre
  have hown : s.vm.findClass RL = some m.cls := findClass_of_methodNamed B.named
  have hlocks := B.notSynchronized
  have htb := vx_table (x := yL_zoneBest) B (hts _ (.head _))
  subst hsz
  have hD := hD0.self (sz := s.heap.size)
  generalize hAe : va_A (cW ad T.1 (cc cI cJ cZ cMic cSrc cSt cAI cAJ ad T) ++ [oJ ao cJ f]) s.heap.size = A at hD hX hA0 ⊢
  have hA : ∀ q : Nat, s.heap.size ≤ q → A q := fun q h => by rw [← hAe]; exact Or.inr h
  have G : gL cI cJ cZ cMic cSrc cSt cAI cAJ D ad A s.heap s.heap [] T [oJ ao cJ f] := ⟨hP, hD, va_S.rf⟩
  have E : cE p c cL_zoneBest s m ([.ref (ad o), .int a0, .ref ao] : List Value).toArray (Cond.codeWith yL_zoneBest cL_zoneBest 4 (some .int) [(0, 9, 12, 21), (0, 9, 15, 13)] :: wsA) D RL (CT cI cJ cZ cMic cSrc cSt cAI cAJ ++ [(cD, .double)]) := ⟨hx, hb, hts, hown, hK⟩
  have hl := lv_entry ([.ref (ad o), .int a0, .ref ao]) (n := 4) (Nat.le_of_ble_eq_true rfl)
  rw [lg_entry_eq]
  generalize (lg_sl ([.ref (ad o), .int a0, .ref ao]) ++ List.replicate (4 - (lg_sl ([.ref (ad o), .int a0, .ref ao])).length) Slot.unset).toArray = ls at hl ⊢
  have hl : lv_has ls 4 [(0, .ref (ad o)), (1, .int a0), (2, .ref ao)] := hl
  refine lv_aload_n hx hb dL_zoneBest_0 rfl (lv_at hl 2 rfl) ?_
  refine lv_iconst (v := 0) hx hb dL_zoneBest_1 (by decide) ?_
  refine lv_aload_n hx hb dL_zoneBest_2 rfl (lv_at hl 0 rfl) ?_
  refine lv_iload_n hx hb dL_zoneBest_3 rfl (lv_at hl 1 rfl) ?_
  refine t_bvi (As := [.int a0]) (rest := [.int 0, .ref ao]) E G hA hX hX.2.2.2.1 hml (b_X11_zoneBest l hst D cI cJ cZ cMic cSrc cSt cAI cAJ ad T o a0 h hrc h_o) (cwV 1 hts (gaV qA_1037 qA_1038 qA_1039 qA_131 qA_831) rfl rfl rfl (by decide +kernel) ⟨Nat.le_of_ble_eq_true rfl, Nat.le_of_ble_eq_true rfl⟩) h_o (cc_o11 h_s) rfl rfl hl.1 rfl (lv_room (Nat.le_of_ble_eq_true rfl)) dL_zoneBest_4 ⟨by show 0 + (T1.1 - T.1 + 1) ≤ T1.1 - T.1 + 1; omega, by show 0 + (sg T1 - sg T + 6) ≤ sg T1 - sg T + 6; omega⟩ ?_
  intro E9 ce q9 ad2 H locs hE had G hce hcv hcl
  rcases e1 with _ | _ | e1
  · have hE : E9 = xISE := hE
    subst hE
    refine vx_catch (name := xISE) hown [] { startPc := 0, endPc := 9, handlerPc := 12, catchType := 21 } [{ startPc := 0, endPc := 9, handlerPc := 15, catchType := 13 }] htb (fun z hz => absurd hz List.not_mem_nil) (by decide) (by decide) (hts _ (.tail _ qA_952)) (hX.use (.castable xISE xISE) (by decide +kernel)) hce hcv hcl ?_
    refine lv_astore_n (lv' := [(3, .ref q9), (0, .ref (ad o)), (1, .int a0), (2, .ref ao)]) hx hb dL_zoneBest_12 rfl hl (by decide) rfl (fun ls hl => ?_)
    refine lv_iconst (v := 1) hx hb dL_zoneBest_13 (by decide) ?_
    refine W.widen (k := T1.1 - T.1 + 1) (n := sg T1 - sg T + 6) (by omega) (by omega) ?_
    exact W.iret (v := 1) hx hb hr (fun t ht hW => ⟨⟨1, ad2, rfl, ⟨rfl, had⟩, ⟨by rw [ht]; exact G.1, va_K.moved hW.alike hK, G.2.1⟩⟩, G.2.2.F ht⟩) G.2.2.2.2 dL_zoneBest_14
  · have hE : E9 = xIOB := hE
    subst hE
    refine vx_catch (name := xIOB) hown [{ startPc := 0, endPc := 9, handlerPc := 12, catchType := 21 }] { startPc := 0, endPc := 9, handlerPc := 15, catchType := 13 } [] htb (List.forall_mem_cons.mpr ⟨Or.inr ⟨by decide, xISE, hts _ (.tail _ qA_952), hN.2.2.1⟩, fun z hz => absurd hz List.not_mem_nil⟩) (by decide) (by decide) (hts _ (.tail _ qA_946)) (hX.use (.castable xIOB xIOB) (by decide +kernel)) hce hcv hcl ?_
    refine lv_astore_n (lv' := [(3, .ref q9), (0, .ref (ad o)), (1, .int a0), (2, .ref ao)]) hx hb dL_zoneBest_15 rfl hl (by decide) rfl (fun ls hl => ?_)
    refine lv_iconst (v := 2) hx hb dL_zoneBest_16 (by decide) ?_
    refine W.widen (k := T1.1 - T.1 + 1) (n := sg T1 - sg T + 6) (by omega) (by omega) ?_
    exact W.iret (v := 2) hx hb hr (fun t ht hW => ⟨⟨2, ad2, rfl, ⟨rfl, had⟩, ⟨by rw [ht]; exact G.1, va_K.moved hW.alike hK, G.2.1⟩⟩, G.2.2.F ht⟩) G.2.2.2.2 dL_zoneBest_17
  · have q := (cd_g_X11_zoneBest (S := [0, 1, 2]) (fun _ h => h) T o a0 _ _ _ h)
    simp only [List.mem_cons, List.not_mem_nil, or_false] at q
    omega
theorem v_zoneBest (l : Launch) (hst : l.stackTraces = false) (D : va_G) {cI cJ cZ cMic cSrc cSt cAI cAJ cD : ClassId} (h0 : Nat) (ad : Nat → Nat) (T : AT) (o : Nat) (a0 : Int32) (ao : Nat) (f : Nat → Int64) {k1 : Nat} {r1 : Int32} {T1 : AT} (h : g_X11_zoneBest T o a0 = some (k1, r1, T1)) (hrc : RC T) (h_o : o < T.1) (h_s : T.2.1 o = (11, 0)) : tWi l yL_zoneBest (Cond.codeWith yL_zoneBest cL_zoneBest 4 (some .int) [(0, 9, 12, 21), (0, 9, 15, 13)] :: wsA) 8 170 cI cJ cZ cMic cSrc cSt cAI cAJ cD D h0 ad T (oJ ao cJ f) [.ref (ad o), .int a0, .ref ao] (vck 1 2 0 k1) T1 (oJ ao cJ (vfJ k1 f r1.toInt64)) := by
  cases k1 with
  | zero => exact v_zoneBest_n l hst D h0 ad T o a0 ao f h hrc h_o h_s
  | succ e1 => exact v_zoneBest_t l hst D h0 ad T o a0 ao f h hrc h_o h_s
set_option maxHeartbeats 4000000 in
set_option maxRecDepth 100000 in
theorem v_contrast_n (l : Launch) (hst : l.stackTraces = false) (D : va_G) {cI cJ cZ cMic cSrc cSt cAI cAJ cD : ClassId} (h0 : Nat) (ad : Nat → Nat) (T : AT) (o : Nat) (ao : Nat) (f : Nat → UInt64) {r1 : UInt32} {T1 : AT} (hnan : ∀ {r : UInt32} {T1 : AT}, g_X11_contrast T o = some (0, r, T1) → vf_n64 (FP.f2d r)) (h : g_X11_contrast T o = some (0, r1, T1)) (hrc : RC T) (h_o : o < T.1) (h_s : T.2.1 o = (11, 0)) : tWi l yL_contrast (Cond.codeWith yL_contrast cL_contrast 3 (some .int) [(0, 8, 11, 21)] :: wsA) 8 171 cI cJ cZ cMic cSrc cSt cAI cAJ cD D h0 ad T (oD ao cD f) [.ref (ad o), .ref ao] (vck 1 0 0 (0)) T1 (oD ao cD (vfD (0) f (FP.f2d r1))) := by
  intro sz
  refine va_MetW (cc := cL_contrast) (maxL := 3) (ret := some .int) (by decide) rfl ?_
  intro p e s m args below meth c s₁ B hml hv
  obtain ⟨rfl, hsz, hP, hK, hD0, hX, hN, hA0, hTS⟩ := hv
  have hx := B.exec
  have hb := B.bytes
  have hr := B.returns
  have hts := atoms_spec (ws := (Cond.codeWith yL_contrast cL_contrast 3 (some .int) [(0, 8, 11, 21)] :: wsA)) B.pre
  have hown : s.vm.findClass RL = some m.cls := findClass_of_methodNamed B.named
  have hlocks := B.notSynchronized
  have htb := vx_table (x := yL_contrast) B (hts _ (.head _))
  subst hsz
  have hD := hD0.self (sz := s.heap.size)
  generalize hAe : va_A (cW ad T.1 (cc cI cJ cZ cMic cSrc cSt cAI cAJ ad T) ++ [oD ao cD f]) s.heap.size = A at hD hX hA0 ⊢
  have hA : ∀ q : Nat, s.heap.size ≤ q → A q := fun q h => by rw [← hAe]; exact Or.inr h
  have G : gL cI cJ cZ cMic cSrc cSt cAI cAJ D ad A s.heap s.heap [] T [oD ao cD f] := ⟨hP, hD, va_S.rf⟩
  have E : cE p c cL_contrast s m ([.ref (ad o), .ref ao] : List Value).toArray (Cond.codeWith yL_contrast cL_contrast 3 (some .int) [(0, 8, 11, 21)] :: wsA) D RL (CT cI cJ cZ cMic cSrc cSt cAI cAJ ++ [(cD, .double)]) := ⟨hx, hb, hts, hown, hK⟩
  have hl := lv_entry ([.ref (ad o), .ref ao]) (n := 3) (Nat.le_of_ble_eq_true rfl)
  rw [lg_entry_eq]
  generalize (lg_sl ([.ref (ad o), .ref ao]) ++ List.replicate (3 - (lg_sl ([.ref (ad o), .ref ao])).length) Slot.unset).toArray = ls at hl ⊢
  have hl : lv_has ls 3 [(0, .ref (ad o)), (1, .ref ao)] := hl
  refine lv_aload_n hx hb dL_contrast_0 rfl (lv_at hl 1 rfl) ?_
  refine lv_iconst (v := 0) hx hb dL_contrast_1 (by decide) ?_
  refine lv_aload_n hx hb dL_contrast_2 rfl (lv_at hl 0 rfl) ?_
  refine t_avf (As := []) (rest := [.int 0, .ref ao]) E G hA hX hX.2.2.2.1 hml (a_X11_contrast l hst D cI cJ cZ cMic cSrc cSt cAI cAJ ad T o  h hrc h_o) (cwV 0 hts (gaV qA_1041 qA_1042 qA_1043 qA_131 qA_833) rfl rfl rfl (by decide +kernel) ⟨Nat.le_of_ble_eq_true rfl, Nat.le_of_ble_eq_true rfl⟩) h_o (cc_o11 h_s) rfl rfl hl.1 rfl (lv_room (Nat.le_of_ble_eq_true rfl)) dL_contrast_3 ⟨by show 0 + (T1.1 - T.1) ≤ T1.1 - T.1 + 1; omega, by show 0 + (sg T1 - sg T) ≤ sg T1 - sg T + 6; omega⟩ ?_
  intro ad2 H locs had G
  refine lv_f2d hx hb dL_contrast_6 (hnan h) ?_
  refine t_dast E G dL_contrast_7 (fun H locs G => ?_)
  refine lv_goto (tgt := 14) hx hb dL_contrast_8 (by decide) ?_
  refine lv_iconst (v := 0) hx hb dL_contrast_14 (by decide) ?_
  refine W.widen (k := T1.1 - T.1 + 1) (n := sg T1 - sg T + 6) (by omega) (by omega) ?_
  exact W.iret (v := 0) hx hb hr (fun t ht hW => ⟨⟨0, ad2, rfl, ⟨rfl, had⟩, ⟨by rw [ht]; exact G.1, va_K.moved hW.alike hK, G.2.1⟩⟩, G.2.2.F ht⟩) G.2.2.2.2 dL_contrast_15
set_option maxHeartbeats 4000000 in
set_option maxRecDepth 100000 in
theorem v_contrast_t (l : Launch) (hst : l.stackTraces = false) (D : va_G) {cI cJ cZ cMic cSrc cSt cAI cAJ cD : ClassId} (h0 : Nat) (ad : Nat → Nat) (T : AT) (o : Nat) (ao : Nat) (f : Nat → UInt64) {e1 : Nat} {r1 : UInt32} {T1 : AT} (h : g_X11_contrast T o = some (e1 + 1, r1, T1)) (hrc : RC T) (h_o : o < T.1) (h_s : T.2.1 o = (11, 0)) : tWi l yL_contrast (Cond.codeWith yL_contrast cL_contrast 3 (some .int) [(0, 8, 11, 21)] :: wsA) 8 171 cI cJ cZ cMic cSrc cSt cAI cAJ cD D h0 ad T (oD ao cD f) [.ref (ad o), .ref ao] (vck 1 0 0 (e1 + 1)) T1 (oD ao cD (vfD (e1 + 1) f (FP.f2d r1))) := by
  intro sz
  refine va_MetW (cc := cL_contrast) (maxL := 3) (ret := some .int) (by decide) rfl ?_
  intro p e s m args below meth c s₁ B hml hv
  obtain ⟨rfl, hsz, hP, hK, hD0, hX, hN, hA0, hTS⟩ := hv
  have hx := B.exec
  have hb := B.bytes
  have hr := B.returns
  have hts := atoms_spec (ws := (Cond.codeWith yL_contrast cL_contrast 3 (some .int) [(0, 8, 11, 21)] :: wsA)) B.pre
  have hown : s.vm.findClass RL = some m.cls := findClass_of_methodNamed B.named
  have hlocks := B.notSynchronized
  have htb := vx_table (x := yL_contrast) B (hts _ (.head _))
  subst hsz
  have hD := hD0.self (sz := s.heap.size)
  generalize hAe : va_A (cW ad T.1 (cc cI cJ cZ cMic cSrc cSt cAI cAJ ad T) ++ [oD ao cD f]) s.heap.size = A at hD hX hA0 ⊢
  have hA : ∀ q : Nat, s.heap.size ≤ q → A q := fun q h => by rw [← hAe]; exact Or.inr h
  have G : gL cI cJ cZ cMic cSrc cSt cAI cAJ D ad A s.heap s.heap [] T [oD ao cD f] := ⟨hP, hD, va_S.rf⟩
  have E : cE p c cL_contrast s m ([.ref (ad o), .ref ao] : List Value).toArray (Cond.codeWith yL_contrast cL_contrast 3 (some .int) [(0, 8, 11, 21)] :: wsA) D RL (CT cI cJ cZ cMic cSrc cSt cAI cAJ ++ [(cD, .double)]) := ⟨hx, hb, hts, hown, hK⟩
  have hl := lv_entry ([.ref (ad o), .ref ao]) (n := 3) (Nat.le_of_ble_eq_true rfl)
  rw [lg_entry_eq]
  generalize (lg_sl ([.ref (ad o), .ref ao]) ++ List.replicate (3 - (lg_sl ([.ref (ad o), .ref ao])).length) Slot.unset).toArray = ls at hl ⊢
  have hl : lv_has ls 3 [(0, .ref (ad o)), (1, .ref ao)] := hl
  refine lv_aload_n hx hb dL_contrast_0 rfl (lv_at hl 1 rfl) ?_
  refine lv_iconst (v := 0) hx hb dL_contrast_1 (by decide) ?_
  refine lv_aload_n hx hb dL_contrast_2 rfl (lv_at hl 0 rfl) ?_
  refine t_bvf (As := []) (rest := [.int 0, .ref ao]) E G hA hX hX.2.2.2.1 hml (b_X11_contrast l hst D cI cJ cZ cMic cSrc cSt cAI cAJ ad T o  h hrc h_o) (cwV 0 hts (gaV qA_1041 qA_1042 qA_1043 qA_131 qA_833) rfl rfl rfl (by decide +kernel) ⟨Nat.le_of_ble_eq_true rfl, Nat.le_of_ble_eq_true rfl⟩) h_o (cc_o11 h_s) rfl rfl hl.1 rfl (lv_room (Nat.le_of_ble_eq_true rfl)) dL_contrast_3 ⟨by show 0 + (T1.1 - T.1 + 1) ≤ T1.1 - T.1 + 1; omega, by show 0 + (sg T1 - sg T + 6) ≤ sg T1 - sg T + 6; omega⟩ ?_
  intro E9 ce q9 ad2 H locs hE had G hce hcv hcl
  rcases e1 with _ | _ | e1
  · have hE : E9 = xISE := hE
    subst hE
    refine vx_catch (name := xISE) hown [] { startPc := 0, endPc := 8, handlerPc := 11, catchType := 21 } [] htb (fun z hz => absurd hz List.not_mem_nil) (by decide) (by decide) (hts _ (.tail _ qA_952)) (hX.use (.castable xISE xISE) (by decide +kernel)) hce hcv hcl ?_
    refine lv_astore_n (lv' := [(2, .ref q9), (0, .ref (ad o)), (1, .ref ao)]) hx hb dL_contrast_11 rfl hl (by decide) rfl (fun ls hl => ?_)
    refine lv_iconst (v := 1) hx hb dL_contrast_12 (by decide) ?_
    refine W.widen (k := T1.1 - T.1 + 1) (n := sg T1 - sg T + 6) (by omega) (by omega) ?_
    exact W.iret (v := 1) hx hb hr (fun t ht hW => ⟨⟨1, ad2, rfl, ⟨rfl, had⟩, ⟨by rw [ht]; exact G.1, va_K.moved hW.alike hK, G.2.1⟩⟩, G.2.2.F ht⟩) G.2.2.2.2 dL_contrast_13
  · exact absurd (cd_g_X11_contrast (S := [0, 1]) (fun _ h => h) T o _ _ _ h) (by decide)
  · have q := (cd_g_X11_contrast (S := [0, 1]) (fun _ h => h) T o _ _ _ h)
    simp only [List.mem_cons, List.not_mem_nil, or_false] at q
    omega
theorem v_contrast (l : Launch) (hst : l.stackTraces = false) (D : va_G) {cI cJ cZ cMic cSrc cSt cAI cAJ cD : ClassId} (h0 : Nat) (ad : Nat → Nat) (T : AT) (o : Nat) (ao : Nat) (f : Nat → UInt64) {k1 : Nat} {r1 : UInt32} {T1 : AT} (hnan : ∀ {r : UInt32} {T1 : AT}, g_X11_contrast T o = some (0, r, T1) → vf_n64 (FP.f2d r)) (h : g_X11_contrast T o = some (k1, r1, T1)) (hrc : RC T) (h_o : o < T.1) (h_s : T.2.1 o = (11, 0)) : tWi l yL_contrast (Cond.codeWith yL_contrast cL_contrast 3 (some .int) [(0, 8, 11, 21)] :: wsA) 8 171 cI cJ cZ cMic cSrc cSt cAI cAJ cD D h0 ad T (oD ao cD f) [.ref (ad o), .ref ao] (vck 1 0 0 k1) T1 (oD ao cD (vfD k1 f (FP.f2d r1))) := by
  cases k1 with
  | zero => exact v_contrast_n l hst D h0 ad T o  ao f hnan h hrc h_o h_s
  | succ e1 => exact v_contrast_t l hst D h0 ad T o  ao f h hrc h_o h_s
set_option maxHeartbeats 4000000 in
set_option maxRecDepth 100000 in
theorem v_alias_n (l : Launch) (hst : l.stackTraces = false) (D : va_G) {cI cJ cZ cMic cSrc cSt cAI cAJ cD : ClassId} (h0 : Nat) (ad : Nat → Nat) (T : AT) (o : Nat) (a0 a1 a2 : Int32) (ao : Nat) (f : Nat → Int64) {r1 : Int32} {T1 : AT} (h : g_X11_alias T o a0 a1 a2 = some (0, r1, T1)) (hrc : RC T) (h_o : o < T.1) (h_s : T.2.1 o = (11, 0)) : tWi l yL_alias (Cond.codeWith yL_alias cL_alias 6 (some .int) [(0, 12, 15, 21), (0, 12, 19, 13), (0, 12, 23, 15)] :: wsA) 9 146 cI cJ cZ cMic cSrc cSt cAI cAJ cD D h0 ad T (oJ ao cJ f) [.ref (ad o), .int a0, .int a1, .int a2, .ref ao] (vck 1 2 3 (0)) T1 (oJ ao cJ (vfJ (0) f r1.toInt64)) := by
  intro sz
  refine va_MetW (cc := cL_alias) (maxL := 6) (ret := some .int) (by decide) rfl ?_
  intro p e s m args below meth c s₁ B hml hv
  obtain ⟨rfl, hsz, hP, hK, hD0, hX, hN, hA0, hTS⟩ := hv
  have hx := B.exec
  have hb := B.bytes
  have hr := B.returns
  have hts := atoms_spec (ws := (Cond.codeWith yL_alias cL_alias 6 (some .int) [(0, 12, 15, 21), (0, 12, 19, 13), (0, 12, 23, 15)] :: wsA)) B.pre
  have hown : s.vm.findClass RL = some m.cls := findClass_of_methodNamed B.named
  have hlocks := B.notSynchronized
  have htb := vx_table (x := yL_alias) B (hts _ (.head _))
  subst hsz
  have hD := hD0.self (sz := s.heap.size)
  generalize hAe : va_A (cW ad T.1 (cc cI cJ cZ cMic cSrc cSt cAI cAJ ad T) ++ [oJ ao cJ f]) s.heap.size = A at hD hX hA0 ⊢
  have hA : ∀ q : Nat, s.heap.size ≤ q → A q := fun q h => by rw [← hAe]; exact Or.inr h
  have G : gL cI cJ cZ cMic cSrc cSt cAI cAJ D ad A s.heap s.heap [] T [oJ ao cJ f] := ⟨hP, hD, va_S.rf⟩
  have E : cE p c cL_alias s m ([.ref (ad o), .int a0, .int a1, .int a2, .ref ao] : List Value).toArray (Cond.codeWith yL_alias cL_alias 6 (some .int) [(0, 12, 15, 21), (0, 12, 19, 13), (0, 12, 23, 15)] :: wsA) D RL (CT cI cJ cZ cMic cSrc cSt cAI cAJ ++ [(cD, .double)]) := ⟨hx, hb, hts, hown, hK⟩
  have hl := lv_entry ([.ref (ad o), .int a0, .int a1, .int a2, .ref ao]) (n := 6) (Nat.le_of_ble_eq_true rfl)
  rw [lg_entry_eq]
  generalize (lg_sl ([.ref (ad o), .int a0, .int a1, .int a2, .ref ao]) ++ List.replicate (6 - (lg_sl ([.ref (ad o), .int a0, .int a1, .int a2, .ref ao])).length) Slot.unset).toArray = ls at hl ⊢
  have hl : lv_has ls 6 [(0, .ref (ad o)), (1, .int a0), (2, .int a1), (3, .int a2), (4, .ref ao)] := hl
  refine lv_aload hx hb dL_alias_0 (lv_at hl 4 rfl) ?_
  refine lv_iconst (v := 0) hx hb dL_alias_2 (by decide) ?_
  refine lv_aload_n hx hb dL_alias_3 rfl (lv_at hl 0 rfl) ?_
  refine lv_iload_n hx hb dL_alias_4 rfl (lv_at hl 1 rfl) ?_
  refine lv_iload_n hx hb dL_alias_5 rfl (lv_at hl 2 rfl) ?_
  refine lv_iload_n hx hb dL_alias_6 rfl (lv_at hl 3 rfl) ?_
  refine t_cvi (As := [.int a0, .int a1, .int a2]) (rest := [.int 0, .ref ao]) E G hA hX hX.2.2.2.1 hml (u_X11_alias l hst D cI cJ cZ cMic cSrc cSt cAI cAJ ad T o a0 a1 a2 h) (cwV 3 hts (gaV qA_1045 qA_1046 qA_1047 qA_131 qA_840) rfl rfl rfl (by decide +kernel) ⟨Nat.le_of_ble_eq_true rfl, Nat.le_of_ble_eq_true rfl⟩) h_o (cc_o11 h_s) rfl rfl hl.1 rfl (lv_room (Nat.le_of_ble_eq_true rfl)) dL_alias_7 ⟨by show 0 + (0) ≤ T1.1 - T.1 + 1; omega, by show 0 + (0) ≤ sg T1 - sg T + 6; omega⟩ ?_
  intro r9 S1 H locs hp G
  obtain ⟨hr9, hS1⟩ := hp
  rw [hS1] at G
  rw [hr9]
  have had : ∀ n, n < T.1 → ad n = ad n := fun _ _ => rfl
  refine lv_i2l (v := r1.toInt64) hx hb dL_alias_10 rfl ?_
  refine t_last E G dL_alias_11 (fun H locs G => ?_)
  refine lv_goto (tgt := 27) hx hb dL_alias_12 (by decide) ?_
  refine lv_iconst (v := 0) hx hb dL_alias_27 (by decide) ?_
  refine W.widen (k := T1.1 - T.1 + 1) (n := sg T1 - sg T + 6) (by omega) (by omega) ?_
  exact W.iret (v := 0) hx hb hr (fun t ht hW => ⟨⟨0, ad, rfl, ⟨rfl, had⟩, ⟨by rw [ht]; exact G.1, va_K.moved hW.alike hK, G.2.1⟩⟩, G.2.2.F ht⟩) G.2.2.2.2 dL_alias_28
set_option maxHeartbeats 4000000 in
set_option maxRecDepth 100000 in
theorem v_alias_t (l : Launch) (hst : l.stackTraces = false) (D : va_G) {cI cJ cZ cMic cSrc cSt cAI cAJ cD : ClassId} (h0 : Nat) (ad : Nat → Nat) (T : AT) (o : Nat) (a0 a1 a2 : Int32) (ao : Nat) (f : Nat → Int64) {e1 : Nat} {r1 : Int32} {T1 : AT} (h : g_X11_alias T o a0 a1 a2 = some (e1 + 1, r1, T1)) (hrc : RC T) (h_o : o < T.1) (h_s : T.2.1 o = (11, 0)) : tWi l yL_alias (Cond.codeWith yL_alias cL_alias 6 (some .int) [(0, 12, 15, 21), (0, 12, 19, 13), (0, 12, 23, 15)] :: wsA) 9 146 cI cJ cZ cMic cSrc cSt cAI cAJ cD D h0 ad T (oJ ao cJ f) [.ref (ad o), .int a0, .int a1, .int a2, .ref ao] (vck 1 2 3 (e1 + 1)) T1 (oJ ao cJ (vfJ (e1 + 1) f r1.toInt64)) := by
  intro sz
  refine va_MetW (cc := cL_alias) (maxL := 6) (ret := some .int) (by decide) rfl ?_
  intro p e s m args below meth c s₁ B hml hv
  obtain ⟨rfl, hsz, hP, hK, hD0, hX, hN, hA0, hTS⟩ := hv
  have hx := B.exec
  have hb := B.bytes
  have hr := B.returns
  have hts := atoms_spec (ws := (Cond.codeWith yL_alias cL_alias 6 (some .int) [(0, 12, 15, 21), (0, 12, 19, 13), (0, 12, 23, 15)] :: wsA)) B.pre
  have hown : s.vm.findClass RL = some m.cls := findClass_of_methodNamed B.named
  have hlocks := B.notSynchronized
  have htb := vx_table (x := yL_alias) B (hts _ (.head _))
  subst hsz
  have hD := hD0.self (sz := s.heap.size)
  generalize hAe : va_A (cW ad T.1 (cc cI cJ cZ cMic cSrc cSt cAI cAJ ad T) ++ [oJ ao cJ f]) s.heap.size = A at hD hX hA0 ⊢
  have hA : ∀ q : Nat, s.heap.size ≤ q → A q := fun q h => by rw [← hAe]; exact Or.inr h
  have G : gL cI cJ cZ cMic cSrc cSt cAI cAJ D ad A s.heap s.heap [] T [oJ ao cJ f] := ⟨hP, hD, va_S.rf⟩
  have E : cE p c cL_alias s m ([.ref (ad o), .int a0, .int a1, .int a2, .ref ao] : List Value).toArray (Cond.codeWith yL_alias cL_alias 6 (some .int) [(0, 12, 15, 21), (0, 12, 19, 13), (0, 12, 23, 15)] :: wsA) D RL (CT cI cJ cZ cMic cSrc cSt cAI cAJ ++ [(cD, .double)]) := ⟨hx, hb, hts, hown, hK⟩
  have hl := lv_entry ([.ref (ad o), .int a0, .int a1, .int a2, .ref ao]) (n := 6) (Nat.le_of_ble_eq_true rfl)
  rw [lg_entry_eq]
  generalize (lg_sl ([.ref (ad o), .int a0, .int a1, .int a2, .ref ao]) ++ List.replicate (6 - (lg_sl ([.ref (ad o), .int a0, .int a1, .int a2, .ref ao])).length) Slot.unset).toArray = ls at hl ⊢
  have hl : lv_has ls 6 [(0, .ref (ad o)), (1, .int a0), (2, .int a1), (3, .int a2), (4, .ref ao)] := hl
  refine lv_aload hx hb dL_alias_0 (lv_at hl 4 rfl) ?_
  refine lv_iconst (v := 0) hx hb dL_alias_2 (by decide) ?_
  refine lv_aload_n hx hb dL_alias_3 rfl (lv_at hl 0 rfl) ?_
  refine lv_iload_n hx hb dL_alias_4 rfl (lv_at hl 1 rfl) ?_
  refine lv_iload_n hx hb dL_alias_5 rfl (lv_at hl 2 rfl) ?_
  refine lv_iload_n hx hb dL_alias_6 rfl (lv_at hl 3 rfl) ?_
  refine t_xvi (As := [.int a0, .int a1, .int a2]) (rest := [.int 0, .ref ao]) E G hA hX hX.2.2.2.1 hml (x_X11_alias l hst D cI cJ cZ cMic cSrc cSt cAI cAJ ad T o a0 a1 a2 h) (cwV 3 hts (gaV qA_1045 qA_1046 qA_1047 qA_131 qA_840) rfl rfl rfl (by decide +kernel) ⟨Nat.le_of_ble_eq_true rfl, Nat.le_of_ble_eq_true rfl⟩) h_o (cc_o11 h_s) rfl rfl hl.1 rfl (lv_room (Nat.le_of_ble_eq_true rfl)) dL_alias_7 ⟨by show 0 + (1) ≤ T1.1 - T.1 + 1; omega, by show 0 + (6) ≤ sg T1 - sg T + 6; omega⟩ ?_
  intro E9 ce q9 S1 H locs hp G hce hcv hcl
  obtain ⟨hE, hS1⟩ := hp
  rw [hS1] at G
  have had : ∀ n, n < T.1 → ad n = ad n := fun _ _ => rfl
  rcases e1 with _ | _ | e1
  · have hE : E9 = xISE := hE
    subst hE
    refine vx_catch (name := xISE) hown [] { startPc := 0, endPc := 12, handlerPc := 15, catchType := 21 } [{ startPc := 0, endPc := 12, handlerPc := 19, catchType := 13 }, { startPc := 0, endPc := 12, handlerPc := 23, catchType := 15 }] htb (fun z hz => absurd hz List.not_mem_nil) (by decide) (by decide) (hts _ (.tail _ qA_952)) (hX.use (.castable xISE xISE) (by decide +kernel)) hce hcv hcl ?_
    refine lv_astore (lv' := [(5, .ref q9), (0, .ref (ad o)), (1, .int a0), (2, .int a1), (3, .int a2), (4, .ref ao)]) hx hb dL_alias_15 hl (by decide) rfl (fun ls hl => ?_)
    refine lv_iconst (v := 1) hx hb dL_alias_17 (by decide) ?_
    refine W.widen (k := T1.1 - T.1 + 1) (n := sg T1 - sg T + 6) (by omega) (by omega) ?_
    exact W.iret (v := 1) hx hb hr (fun t ht hW => ⟨⟨1, ad, rfl, ⟨rfl, had⟩, ⟨by rw [ht]; exact G.1, va_K.moved hW.alike hK, G.2.1⟩⟩, G.2.2.F ht⟩) G.2.2.2.2 dL_alias_18
  · have hE : E9 = xIOB := hE
    subst hE
    refine vx_catch (name := xIOB) hown [{ startPc := 0, endPc := 12, handlerPc := 15, catchType := 21 }] { startPc := 0, endPc := 12, handlerPc := 19, catchType := 13 } [{ startPc := 0, endPc := 12, handlerPc := 23, catchType := 15 }] htb (List.forall_mem_cons.mpr ⟨Or.inr ⟨by decide, xISE, hts _ (.tail _ qA_952), hN.2.2.1⟩, fun z hz => absurd hz List.not_mem_nil⟩) (by decide) (by decide) (hts _ (.tail _ qA_946)) (hX.use (.castable xIOB xIOB) (by decide +kernel)) hce hcv hcl ?_
    refine lv_astore (lv' := [(5, .ref q9), (0, .ref (ad o)), (1, .int a0), (2, .int a1), (3, .int a2), (4, .ref ao)]) hx hb dL_alias_19 hl (by decide) rfl (fun ls hl => ?_)
    refine lv_iconst (v := 2) hx hb dL_alias_21 (by decide) ?_
    refine W.widen (k := T1.1 - T.1 + 1) (n := sg T1 - sg T + 6) (by omega) (by omega) ?_
    exact W.iret (v := 2) hx hb hr (fun t ht hW => ⟨⟨2, ad, rfl, ⟨rfl, had⟩, ⟨by rw [ht]; exact G.1, va_K.moved hW.alike hK, G.2.1⟩⟩, G.2.2.F ht⟩) G.2.2.2.2 dL_alias_22
  · have hE : E9 = xIAE := hE
    subst hE
    refine vx_catch (name := xIAE) hown [{ startPc := 0, endPc := 12, handlerPc := 15, catchType := 21 }, { startPc := 0, endPc := 12, handlerPc := 19, catchType := 13 }] { startPc := 0, endPc := 12, handlerPc := 23, catchType := 15 } [] htb (List.forall_mem_cons.mpr ⟨Or.inr ⟨by decide, xISE, hts _ (.tail _ qA_952), hN.2.2.2⟩, List.forall_mem_cons.mpr ⟨Or.inr ⟨by decide, xIOB, hts _ (.tail _ qA_946), hN.1⟩, fun z hz => absurd hz List.not_mem_nil⟩⟩) (by decide) (by decide) (hts _ (.tail _ qA_947)) (hX.use (.castable xIAE xIAE) (by decide +kernel)) hce hcv hcl ?_
    refine lv_astore (lv' := [(5, .ref q9), (0, .ref (ad o)), (1, .int a0), (2, .int a1), (3, .int a2), (4, .ref ao)]) hx hb dL_alias_23 hl (by decide) rfl (fun ls hl => ?_)
    refine lv_iconst (v := 3) hx hb dL_alias_25 (by decide) ?_
    refine W.widen (k := T1.1 - T.1 + 1) (n := sg T1 - sg T + 6) (by omega) (by omega) ?_
    exact W.iret (v := 3) hx hb hr (fun t ht hW => ⟨⟨3, ad, rfl, ⟨rfl, had⟩, ⟨by rw [ht]; exact G.1, va_K.moved hW.alike hK, G.2.1⟩⟩, G.2.2.F ht⟩) G.2.2.2.2 dL_alias_26
theorem v_alias (l : Launch) (hst : l.stackTraces = false) (D : va_G) {cI cJ cZ cMic cSrc cSt cAI cAJ cD : ClassId} (h0 : Nat) (ad : Nat → Nat) (T : AT) (o : Nat) (a0 a1 a2 : Int32) (ao : Nat) (f : Nat → Int64) {k1 : Nat} {r1 : Int32} {T1 : AT} (h : g_X11_alias T o a0 a1 a2 = some (k1, r1, T1)) (hrc : RC T) (h_o : o < T.1) (h_s : T.2.1 o = (11, 0)) : tWi l yL_alias (Cond.codeWith yL_alias cL_alias 6 (some .int) [(0, 12, 15, 21), (0, 12, 19, 13), (0, 12, 23, 15)] :: wsA) 9 146 cI cJ cZ cMic cSrc cSt cAI cAJ cD D h0 ad T (oJ ao cJ f) [.ref (ad o), .int a0, .int a1, .int a2, .ref ao] (vck 1 2 3 k1) T1 (oJ ao cJ (vfJ k1 f r1.toInt64)) := by
  cases k1 with
  | zero => exact v_alias_n l hst D h0 ad T o a0 a1 a2 ao f h hrc h_o h_s
  | succ e1 => exact v_alias_t l hst D h0 ad T o a0 a1 a2 ao f h hrc h_o h_s
set_option maxHeartbeats 4000000 in
set_option maxRecDepth 100000 in
theorem v_isAlias_n (l : Launch) (hst : l.stackTraces = false) (D : va_G) {cI cJ cZ cMic cSrc cSt cAI cAJ cD : ClassId} (h0 : Nat) (ad : Nat → Nat) (T : AT) (o : Nat) (a0 a1 a2 : Int32) (ao : Nat) (f : Nat → Int64) {r1 : Int32} {T1 : AT} (h : g_X11_isAlias T o a0 a1 a2 = some (0, r1, T1)) (hrc : RC T) (h_o : o < T.1) (h_s : T.2.1 o = (11, 0)) : tWi l yL_isAlias (Cond.codeWith yL_isAlias cL_isAlias 6 (some .int) [(0, 19, 22, 21), (0, 19, 26, 13), (0, 19, 30, 15)] :: wsA) 9 172 cI cJ cZ cMic cSrc cSt cAI cAJ cD D h0 ad T (oJ ao cJ f) [.ref (ad o), .int a0, .int a1, .int a2, .ref ao] (vck 1 2 3 (0)) T1 (oJ ao cJ (vfJ (0) f (vzb r1))) := by
  intro sz
  refine va_MetW (cc := cL_isAlias) (maxL := 6) (ret := some .int) (by decide) rfl ?_
  intro p e s m args below meth c s₁ B hml hv
  obtain ⟨rfl, hsz, hP, hK, hD0, hX, hN, hA0, hTS⟩ := hv
  have hx := B.exec
  have hb := B.bytes
  have hr := B.returns
  have hts := atoms_spec (ws := (Cond.codeWith yL_isAlias cL_isAlias 6 (some .int) [(0, 19, 22, 21), (0, 19, 26, 13), (0, 19, 30, 15)] :: wsA)) B.pre
  have hown : s.vm.findClass RL = some m.cls := findClass_of_methodNamed B.named
  have hlocks := B.notSynchronized
  have htb := vx_table (x := yL_isAlias) B (hts _ (.head _))
  subst hsz
  have hD := hD0.self (sz := s.heap.size)
  generalize hAe : va_A (cW ad T.1 (cc cI cJ cZ cMic cSrc cSt cAI cAJ ad T) ++ [oJ ao cJ f]) s.heap.size = A at hD hX hA0 ⊢
  have hA : ∀ q : Nat, s.heap.size ≤ q → A q := fun q h => by rw [← hAe]; exact Or.inr h
  have G : gL cI cJ cZ cMic cSrc cSt cAI cAJ D ad A s.heap s.heap [] T [oJ ao cJ f] := ⟨hP, hD, va_S.rf⟩
  have E : cE p c cL_isAlias s m ([.ref (ad o), .int a0, .int a1, .int a2, .ref ao] : List Value).toArray (Cond.codeWith yL_isAlias cL_isAlias 6 (some .int) [(0, 19, 22, 21), (0, 19, 26, 13), (0, 19, 30, 15)] :: wsA) D RL (CT cI cJ cZ cMic cSrc cSt cAI cAJ ++ [(cD, .double)]) := ⟨hx, hb, hts, hown, hK⟩
  have hl := lv_entry ([.ref (ad o), .int a0, .int a1, .int a2, .ref ao]) (n := 6) (Nat.le_of_ble_eq_true rfl)
  rw [lg_entry_eq]
  generalize (lg_sl ([.ref (ad o), .int a0, .int a1, .int a2, .ref ao]) ++ List.replicate (6 - (lg_sl ([.ref (ad o), .int a0, .int a1, .int a2, .ref ao])).length) Slot.unset).toArray = ls at hl ⊢
  have hl : lv_has ls 6 [(0, .ref (ad o)), (1, .int a0), (2, .int a1), (3, .int a2), (4, .ref ao)] := hl
  refine lv_aload hx hb dL_isAlias_0 (lv_at hl 4 rfl) ?_
  refine lv_iconst (v := 0) hx hb dL_isAlias_2 (by decide) ?_
  refine lv_aload_n hx hb dL_isAlias_3 rfl (lv_at hl 0 rfl) ?_
  refine lv_iload_n hx hb dL_isAlias_4 rfl (lv_at hl 1 rfl) ?_
  refine lv_iload_n hx hb dL_isAlias_5 rfl (lv_at hl 2 rfl) ?_
  refine lv_iload_n hx hb dL_isAlias_6 rfl (lv_at hl 3 rfl) ?_
  refine t_avi (As := [.int a0, .int a1, .int a2]) (rest := [.int 0, .ref ao]) E G hA hX hX.2.2.2.1 hml (a_X11_isAlias l hst D cI cJ cZ cMic cSrc cSt cAI cAJ ad T o a0 a1 a2 h hrc h_o) (cwV 3 hts (gaV qA_1049 qA_1050 qA_1051 qA_131 qA_847) rfl rfl rfl (by decide +kernel) ⟨Nat.le_of_ble_eq_true rfl, Nat.le_of_ble_eq_true rfl⟩) h_o (cc_o11 h_s) rfl rfl hl.1 rfl (lv_room (Nat.le_of_ble_eq_true rfl)) dL_isAlias_7 ⟨by show 0 + (T1.1 - T.1) ≤ T1.1 - T.1 + 1; omega, by show 0 + (sg T1 - sg T) ≤ sg T1 - sg T + 6; omega⟩ ?_
  intro ad2 H locs had G
  refine lv_if_eq (tgt := 17) hx hb dL_isAlias_10 (by decide) (fun c1 => ?_) (fun c1 => ?_)
  · refine lv_lconst (v := vzb r1) hx hb dL_isAlias_17 (by rw [vzb, if_pos c1]; rfl) ?_
    refine t_last E G dL_isAlias_18 (fun H locs G => ?_)
    refine lv_goto (tgt := 34) hx hb dL_isAlias_19 (by decide) ?_
    refine lv_iconst (v := 0) hx hb dL_isAlias_34 (by decide) ?_
    refine W.widen (k := T1.1 - T.1 + 1) (n := sg T1 - sg T + 6) (by omega) (by omega) ?_
    exact W.iret (v := 0) hx hb hr (fun t ht hW => ⟨⟨0, ad2, rfl, ⟨rfl, had⟩, ⟨by rw [ht]; exact G.1, va_K.moved hW.alike hK, G.2.1⟩⟩, G.2.2.F ht⟩) G.2.2.2.2 dL_isAlias_35
  · refine lv_lconst (v := vzb r1) hx hb dL_isAlias_13 (by rw [vzb, if_neg c1]; rfl) ?_
    refine lv_goto (tgt := 18) hx hb dL_isAlias_14 (by decide) ?_
    refine t_last E G dL_isAlias_18 (fun H locs G => ?_)
    refine lv_goto (tgt := 34) hx hb dL_isAlias_19 (by decide) ?_
    refine lv_iconst (v := 0) hx hb dL_isAlias_34 (by decide) ?_
    refine W.widen (k := T1.1 - T.1 + 1) (n := sg T1 - sg T + 6) (by omega) (by omega) ?_
    exact W.iret (v := 0) hx hb hr (fun t ht hW => ⟨⟨0, ad2, rfl, ⟨rfl, had⟩, ⟨by rw [ht]; exact G.1, va_K.moved hW.alike hK, G.2.1⟩⟩, G.2.2.F ht⟩) G.2.2.2.2 dL_isAlias_35
set_option maxHeartbeats 4000000 in
set_option maxRecDepth 100000 in
theorem v_isAlias_t (l : Launch) (hst : l.stackTraces = false) (D : va_G) {cI cJ cZ cMic cSrc cSt cAI cAJ cD : ClassId} (h0 : Nat) (ad : Nat → Nat) (T : AT) (o : Nat) (a0 a1 a2 : Int32) (ao : Nat) (f : Nat → Int64) {e1 : Nat} {r1 : Int32} {T1 : AT} (h : g_X11_isAlias T o a0 a1 a2 = some (e1 + 1, r1, T1)) (hrc : RC T) (h_o : o < T.1) (h_s : T.2.1 o = (11, 0)) : tWi l yL_isAlias (Cond.codeWith yL_isAlias cL_isAlias 6 (some .int) [(0, 19, 22, 21), (0, 19, 26, 13), (0, 19, 30, 15)] :: wsA) 9 172 cI cJ cZ cMic cSrc cSt cAI cAJ cD D h0 ad T (oJ ao cJ f) [.ref (ad o), .int a0, .int a1, .int a2, .ref ao] (vck 1 2 3 (e1 + 1)) T1 (oJ ao cJ (vfJ (e1 + 1) f (vzb r1))) := by
  intro sz
  refine va_MetW (cc := cL_isAlias) (maxL := 6) (ret := some .int) (by decide) rfl ?_
  intro p e s m args below meth c s₁ B hml hv
  obtain ⟨rfl, hsz, hP, hK, hD0, hX, hN, hA0, hTS⟩ := hv
  have hx := B.exec
  have hb := B.bytes
  have hr := B.returns
  have hts := atoms_spec (ws := (Cond.codeWith yL_isAlias cL_isAlias 6 (some .int) [(0, 19, 22, 21), (0, 19, 26, 13), (0, 19, 30, 15)] :: wsA)) B.pre
  have hown : s.vm.findClass RL = some m.cls := findClass_of_methodNamed B.named
  have hlocks := B.notSynchronized
  have htb := vx_table (x := yL_isAlias) B (hts _ (.head _))
  subst hsz
  have hD := hD0.self (sz := s.heap.size)
  generalize hAe : va_A (cW ad T.1 (cc cI cJ cZ cMic cSrc cSt cAI cAJ ad T) ++ [oJ ao cJ f]) s.heap.size = A at hD hX hA0 ⊢
  have hA : ∀ q : Nat, s.heap.size ≤ q → A q := fun q h => by rw [← hAe]; exact Or.inr h
  have G : gL cI cJ cZ cMic cSrc cSt cAI cAJ D ad A s.heap s.heap [] T [oJ ao cJ f] := ⟨hP, hD, va_S.rf⟩
  have E : cE p c cL_isAlias s m ([.ref (ad o), .int a0, .int a1, .int a2, .ref ao] : List Value).toArray (Cond.codeWith yL_isAlias cL_isAlias 6 (some .int) [(0, 19, 22, 21), (0, 19, 26, 13), (0, 19, 30, 15)] :: wsA) D RL (CT cI cJ cZ cMic cSrc cSt cAI cAJ ++ [(cD, .double)]) := ⟨hx, hb, hts, hown, hK⟩
  have hl := lv_entry ([.ref (ad o), .int a0, .int a1, .int a2, .ref ao]) (n := 6) (Nat.le_of_ble_eq_true rfl)
  rw [lg_entry_eq]
  generalize (lg_sl ([.ref (ad o), .int a0, .int a1, .int a2, .ref ao]) ++ List.replicate (6 - (lg_sl ([.ref (ad o), .int a0, .int a1, .int a2, .ref ao])).length) Slot.unset).toArray = ls at hl ⊢
  have hl : lv_has ls 6 [(0, .ref (ad o)), (1, .int a0), (2, .int a1), (3, .int a2), (4, .ref ao)] := hl
  refine lv_aload hx hb dL_isAlias_0 (lv_at hl 4 rfl) ?_
  refine lv_iconst (v := 0) hx hb dL_isAlias_2 (by decide) ?_
  refine lv_aload_n hx hb dL_isAlias_3 rfl (lv_at hl 0 rfl) ?_
  refine lv_iload_n hx hb dL_isAlias_4 rfl (lv_at hl 1 rfl) ?_
  refine lv_iload_n hx hb dL_isAlias_5 rfl (lv_at hl 2 rfl) ?_
  refine lv_iload_n hx hb dL_isAlias_6 rfl (lv_at hl 3 rfl) ?_
  refine t_bvi (As := [.int a0, .int a1, .int a2]) (rest := [.int 0, .ref ao]) E G hA hX hX.2.2.2.1 hml (b_X11_isAlias l hst D cI cJ cZ cMic cSrc cSt cAI cAJ ad T o a0 a1 a2 h hrc h_o) (cwV 3 hts (gaV qA_1049 qA_1050 qA_1051 qA_131 qA_847) rfl rfl rfl (by decide +kernel) ⟨Nat.le_of_ble_eq_true rfl, Nat.le_of_ble_eq_true rfl⟩) h_o (cc_o11 h_s) rfl rfl hl.1 rfl (lv_room (Nat.le_of_ble_eq_true rfl)) dL_isAlias_7 ⟨by show 0 + (T1.1 - T.1 + 1) ≤ T1.1 - T.1 + 1; omega, by show 0 + (sg T1 - sg T + 6) ≤ sg T1 - sg T + 6; omega⟩ ?_
  intro E9 ce q9 ad2 H locs hE had G hce hcv hcl
  rcases e1 with _ | _ | e1
  · have hE : E9 = xISE := hE
    subst hE
    refine vx_catch (name := xISE) hown [] { startPc := 0, endPc := 19, handlerPc := 22, catchType := 21 } [{ startPc := 0, endPc := 19, handlerPc := 26, catchType := 13 }, { startPc := 0, endPc := 19, handlerPc := 30, catchType := 15 }] htb (fun z hz => absurd hz List.not_mem_nil) (by decide) (by decide) (hts _ (.tail _ qA_952)) (hX.use (.castable xISE xISE) (by decide +kernel)) hce hcv hcl ?_
    refine lv_astore (lv' := [(5, .ref q9), (0, .ref (ad o)), (1, .int a0), (2, .int a1), (3, .int a2), (4, .ref ao)]) hx hb dL_isAlias_22 hl (by decide) rfl (fun ls hl => ?_)
    refine lv_iconst (v := 1) hx hb dL_isAlias_24 (by decide) ?_
    refine W.widen (k := T1.1 - T.1 + 1) (n := sg T1 - sg T + 6) (by omega) (by omega) ?_
    exact W.iret (v := 1) hx hb hr (fun t ht hW => ⟨⟨1, ad2, rfl, ⟨rfl, had⟩, ⟨by rw [ht]; exact G.1, va_K.moved hW.alike hK, G.2.1⟩⟩, G.2.2.F ht⟩) G.2.2.2.2 dL_isAlias_25
  · have hE : E9 = xIOB := hE
    subst hE
    refine vx_catch (name := xIOB) hown [{ startPc := 0, endPc := 19, handlerPc := 22, catchType := 21 }] { startPc := 0, endPc := 19, handlerPc := 26, catchType := 13 } [{ startPc := 0, endPc := 19, handlerPc := 30, catchType := 15 }] htb (List.forall_mem_cons.mpr ⟨Or.inr ⟨by decide, xISE, hts _ (.tail _ qA_952), hN.2.2.1⟩, fun z hz => absurd hz List.not_mem_nil⟩) (by decide) (by decide) (hts _ (.tail _ qA_946)) (hX.use (.castable xIOB xIOB) (by decide +kernel)) hce hcv hcl ?_
    refine lv_astore (lv' := [(5, .ref q9), (0, .ref (ad o)), (1, .int a0), (2, .int a1), (3, .int a2), (4, .ref ao)]) hx hb dL_isAlias_26 hl (by decide) rfl (fun ls hl => ?_)
    refine lv_iconst (v := 2) hx hb dL_isAlias_28 (by decide) ?_
    refine W.widen (k := T1.1 - T.1 + 1) (n := sg T1 - sg T + 6) (by omega) (by omega) ?_
    exact W.iret (v := 2) hx hb hr (fun t ht hW => ⟨⟨2, ad2, rfl, ⟨rfl, had⟩, ⟨by rw [ht]; exact G.1, va_K.moved hW.alike hK, G.2.1⟩⟩, G.2.2.F ht⟩) G.2.2.2.2 dL_isAlias_29
  · have hE : E9 = xIAE := hE
    subst hE
    refine vx_catch (name := xIAE) hown [{ startPc := 0, endPc := 19, handlerPc := 22, catchType := 21 }, { startPc := 0, endPc := 19, handlerPc := 26, catchType := 13 }] { startPc := 0, endPc := 19, handlerPc := 30, catchType := 15 } [] htb (List.forall_mem_cons.mpr ⟨Or.inr ⟨by decide, xISE, hts _ (.tail _ qA_952), hN.2.2.2⟩, List.forall_mem_cons.mpr ⟨Or.inr ⟨by decide, xIOB, hts _ (.tail _ qA_946), hN.1⟩, fun z hz => absurd hz List.not_mem_nil⟩⟩) (by decide) (by decide) (hts _ (.tail _ qA_947)) (hX.use (.castable xIAE xIAE) (by decide +kernel)) hce hcv hcl ?_
    refine lv_astore (lv' := [(5, .ref q9), (0, .ref (ad o)), (1, .int a0), (2, .int a1), (3, .int a2), (4, .ref ao)]) hx hb dL_isAlias_30 hl (by decide) rfl (fun ls hl => ?_)
    refine lv_iconst (v := 3) hx hb dL_isAlias_32 (by decide) ?_
    refine W.widen (k := T1.1 - T.1 + 1) (n := sg T1 - sg T + 6) (by omega) (by omega) ?_
    exact W.iret (v := 3) hx hb hr (fun t ht hW => ⟨⟨3, ad2, rfl, ⟨rfl, had⟩, ⟨by rw [ht]; exact G.1, va_K.moved hW.alike hK, G.2.1⟩⟩, G.2.2.F ht⟩) G.2.2.2.2 dL_isAlias_33
theorem v_isAlias (l : Launch) (hst : l.stackTraces = false) (D : va_G) {cI cJ cZ cMic cSrc cSt cAI cAJ cD : ClassId} (h0 : Nat) (ad : Nat → Nat) (T : AT) (o : Nat) (a0 a1 a2 : Int32) (ao : Nat) (f : Nat → Int64) {k1 : Nat} {r1 : Int32} {T1 : AT} (h : g_X11_isAlias T o a0 a1 a2 = some (k1, r1, T1)) (hrc : RC T) (h_o : o < T.1) (h_s : T.2.1 o = (11, 0)) : tWi l yL_isAlias (Cond.codeWith yL_isAlias cL_isAlias 6 (some .int) [(0, 19, 22, 21), (0, 19, 26, 13), (0, 19, 30, 15)] :: wsA) 9 172 cI cJ cZ cMic cSrc cSt cAI cAJ cD D h0 ad T (oJ ao cJ f) [.ref (ad o), .int a0, .int a1, .int a2, .ref ao] (vck 1 2 3 k1) T1 (oJ ao cJ (vfJ k1 f (vzb r1))) := by
  cases k1 with
  | zero => exact v_isAlias_n l hst D h0 ad T o a0 a1 a2 ao f h hrc h_o h_s
  | succ e1 => exact v_isAlias_t l hst D h0 ad T o a0 a1 a2 ao f h hrc h_o h_s
set_option maxHeartbeats 4000000 in
set_option maxRecDepth 100000 in
theorem v_aliases_n (l : Launch) (hst : l.stackTraces = false) (D : va_G) {cI cJ cZ cMic cSrc cSt cAI cAJ cD : ClassId} (h0 : Nat) (ad : Nat → Nat) (T : AT) (o : Nat) (a0 a1 : Int32) (ao : Nat) (f : Nat → Int64) {r1 : Int32} {T1 : AT} (h : g_X11_aliases T o a0 a1 = some (0, r1, T1)) (hrc : RC T) (h_o : o < T.1) (h_s : T.2.1 o = (11, 0)) : tWi l yL_aliases (Cond.codeWith yL_aliases cL_aliases 5 (some .int) [(0, 10, 13, 21), (0, 10, 17, 15)] :: wsA) 8 174 cI cJ cZ cMic cSrc cSt cAI cAJ cD D h0 ad T (oJ ao cJ f) [.ref (ad o), .int a0, .int a1, .ref ao] (vck 1 0 2 (0)) T1 (oJ ao cJ (vfJ (0) f r1.toInt64)) := by
  intro sz
  refine va_MetW (cc := cL_aliases) (maxL := 5) (ret := some .int) (by decide) rfl ?_
  intro p e s m args below meth c s₁ B hml hv
  obtain ⟨rfl, hsz, hP, hK, hD0, hX, hN, hA0, hTS⟩ := hv
  have hx := B.exec
  have hb := B.bytes
  have hr := B.returns
  have hts := atoms_spec (ws := (Cond.codeWith yL_aliases cL_aliases 5 (some .int) [(0, 10, 13, 21), (0, 10, 17, 15)] :: wsA)) B.pre
  have hown : s.vm.findClass RL = some m.cls := findClass_of_methodNamed B.named
  have hlocks := B.notSynchronized
  have htb := vx_table (x := yL_aliases) B (hts _ (.head _))
  subst hsz
  have hD := hD0.self (sz := s.heap.size)
  generalize hAe : va_A (cW ad T.1 (cc cI cJ cZ cMic cSrc cSt cAI cAJ ad T) ++ [oJ ao cJ f]) s.heap.size = A at hD hX hA0 ⊢
  have hA : ∀ q : Nat, s.heap.size ≤ q → A q := fun q h => by rw [← hAe]; exact Or.inr h
  have G : gL cI cJ cZ cMic cSrc cSt cAI cAJ D ad A s.heap s.heap [] T [oJ ao cJ f] := ⟨hP, hD, va_S.rf⟩
  have E : cE p c cL_aliases s m ([.ref (ad o), .int a0, .int a1, .ref ao] : List Value).toArray (Cond.codeWith yL_aliases cL_aliases 5 (some .int) [(0, 10, 13, 21), (0, 10, 17, 15)] :: wsA) D RL (CT cI cJ cZ cMic cSrc cSt cAI cAJ ++ [(cD, .double)]) := ⟨hx, hb, hts, hown, hK⟩
  have hl := lv_entry ([.ref (ad o), .int a0, .int a1, .ref ao]) (n := 5) (Nat.le_of_ble_eq_true rfl)
  rw [lg_entry_eq]
  generalize (lg_sl ([.ref (ad o), .int a0, .int a1, .ref ao]) ++ List.replicate (5 - (lg_sl ([.ref (ad o), .int a0, .int a1, .ref ao])).length) Slot.unset).toArray = ls at hl ⊢
  have hl : lv_has ls 5 [(0, .ref (ad o)), (1, .int a0), (2, .int a1), (3, .ref ao)] := hl
  refine lv_aload_n hx hb dL_aliases_0 rfl (lv_at hl 3 rfl) ?_
  refine lv_iconst (v := 0) hx hb dL_aliases_1 (by decide) ?_
  refine lv_aload_n hx hb dL_aliases_2 rfl (lv_at hl 0 rfl) ?_
  refine lv_iload_n hx hb dL_aliases_3 rfl (lv_at hl 1 rfl) ?_
  refine lv_iload_n hx hb dL_aliases_4 rfl (lv_at hl 2 rfl) ?_
  refine t_avi (As := [.int a0, .int a1]) (rest := [.int 0, .ref ao]) E G hA hX hX.2.2.2.1 hml (a_X11_aliases l hst D cI cJ cZ cMic cSrc cSt cAI cAJ ad T o a0 a1 h hrc h_o) (cwV 2 hts (gaV qA_1053 qA_1054 qA_1055 qA_131 qA_855) rfl rfl rfl (by decide +kernel) ⟨Nat.le_of_ble_eq_true rfl, Nat.le_of_ble_eq_true rfl⟩) h_o (cc_o11 h_s) rfl rfl hl.1 rfl (lv_room (Nat.le_of_ble_eq_true rfl)) dL_aliases_5 ⟨by show 0 + (T1.1 - T.1) ≤ T1.1 - T.1 + 1; omega, by show 0 + (sg T1 - sg T) ≤ sg T1 - sg T + 6; omega⟩ ?_
  intro ad2 H locs had G
  refine lv_i2l (v := r1.toInt64) hx hb dL_aliases_8 rfl ?_
  refine t_last E G dL_aliases_9 (fun H locs G => ?_)
  refine lv_goto (tgt := 21) hx hb dL_aliases_10 (by decide) ?_
  refine lv_iconst (v := 0) hx hb dL_aliases_21 (by decide) ?_
  refine W.widen (k := T1.1 - T.1 + 1) (n := sg T1 - sg T + 6) (by omega) (by omega) ?_
  exact W.iret (v := 0) hx hb hr (fun t ht hW => ⟨⟨0, ad2, rfl, ⟨rfl, had⟩, ⟨by rw [ht]; exact G.1, va_K.moved hW.alike hK, G.2.1⟩⟩, G.2.2.F ht⟩) G.2.2.2.2 dL_aliases_22
set_option maxHeartbeats 4000000 in
set_option maxRecDepth 100000 in
theorem v_aliases_t (l : Launch) (hst : l.stackTraces = false) (D : va_G) {cI cJ cZ cMic cSrc cSt cAI cAJ cD : ClassId} (h0 : Nat) (ad : Nat → Nat) (T : AT) (o : Nat) (a0 a1 : Int32) (ao : Nat) (f : Nat → Int64) {e1 : Nat} {r1 : Int32} {T1 : AT} (h : g_X11_aliases T o a0 a1 = some (e1 + 1, r1, T1)) (hrc : RC T) (h_o : o < T.1) (h_s : T.2.1 o = (11, 0)) : tWi l yL_aliases (Cond.codeWith yL_aliases cL_aliases 5 (some .int) [(0, 10, 13, 21), (0, 10, 17, 15)] :: wsA) 8 174 cI cJ cZ cMic cSrc cSt cAI cAJ cD D h0 ad T (oJ ao cJ f) [.ref (ad o), .int a0, .int a1, .ref ao] (vck 1 0 2 (e1 + 1)) T1 (oJ ao cJ (vfJ (e1 + 1) f r1.toInt64)) := by
  intro sz
  refine va_MetW (cc := cL_aliases) (maxL := 5) (ret := some .int) (by decide) rfl ?_
  intro p e s m args below meth c s₁ B hml hv
  obtain ⟨rfl, hsz, hP, hK, hD0, hX, hN, hA0, hTS⟩ := hv
  have hx := B.exec
  have hb := B.bytes
  have hr := B.returns
  have hts := atoms_spec (ws := (Cond.codeWith yL_aliases cL_aliases 5 (some .int) [(0, 10, 13, 21), (0, 10, 17, 15)] :: wsA)) B.pre
  have hown : s.vm.findClass RL = some m.cls := findClass_of_methodNamed B.named
  have hlocks := B.notSynchronized
  have htb := vx_table (x := yL_aliases) B (hts _ (.head _))
  subst hsz
  have hD := hD0.self (sz := s.heap.size)
  generalize hAe : va_A (cW ad T.1 (cc cI cJ cZ cMic cSrc cSt cAI cAJ ad T) ++ [oJ ao cJ f]) s.heap.size = A at hD hX hA0 ⊢
  have hA : ∀ q : Nat, s.heap.size ≤ q → A q := fun q h => by rw [← hAe]; exact Or.inr h
  have G : gL cI cJ cZ cMic cSrc cSt cAI cAJ D ad A s.heap s.heap [] T [oJ ao cJ f] := ⟨hP, hD, va_S.rf⟩
  have E : cE p c cL_aliases s m ([.ref (ad o), .int a0, .int a1, .ref ao] : List Value).toArray (Cond.codeWith yL_aliases cL_aliases 5 (some .int) [(0, 10, 13, 21), (0, 10, 17, 15)] :: wsA) D RL (CT cI cJ cZ cMic cSrc cSt cAI cAJ ++ [(cD, .double)]) := ⟨hx, hb, hts, hown, hK⟩
  have hl := lv_entry ([.ref (ad o), .int a0, .int a1, .ref ao]) (n := 5) (Nat.le_of_ble_eq_true rfl)
  rw [lg_entry_eq]
  generalize (lg_sl ([.ref (ad o), .int a0, .int a1, .ref ao]) ++ List.replicate (5 - (lg_sl ([.ref (ad o), .int a0, .int a1, .ref ao])).length) Slot.unset).toArray = ls at hl ⊢
  have hl : lv_has ls 5 [(0, .ref (ad o)), (1, .int a0), (2, .int a1), (3, .ref ao)] := hl
  refine lv_aload_n hx hb dL_aliases_0 rfl (lv_at hl 3 rfl) ?_
  refine lv_iconst (v := 0) hx hb dL_aliases_1 (by decide) ?_
  refine lv_aload_n hx hb dL_aliases_2 rfl (lv_at hl 0 rfl) ?_
  refine lv_iload_n hx hb dL_aliases_3 rfl (lv_at hl 1 rfl) ?_
  refine lv_iload_n hx hb dL_aliases_4 rfl (lv_at hl 2 rfl) ?_
  refine t_bvi (As := [.int a0, .int a1]) (rest := [.int 0, .ref ao]) E G hA hX hX.2.2.2.1 hml (b_X11_aliases l hst D cI cJ cZ cMic cSrc cSt cAI cAJ ad T o a0 a1 h hrc h_o) (cwV 2 hts (gaV qA_1053 qA_1054 qA_1055 qA_131 qA_855) rfl rfl rfl (by decide +kernel) ⟨Nat.le_of_ble_eq_true rfl, Nat.le_of_ble_eq_true rfl⟩) h_o (cc_o11 h_s) rfl rfl hl.1 rfl (lv_room (Nat.le_of_ble_eq_true rfl)) dL_aliases_5 ⟨by show 0 + (T1.1 - T.1 + 1) ≤ T1.1 - T.1 + 1; omega, by show 0 + (sg T1 - sg T + 6) ≤ sg T1 - sg T + 6; omega⟩ ?_
  intro E9 ce q9 ad2 H locs hE had G hce hcv hcl
  rcases e1 with _ | _ | e1
  · have hE : E9 = xISE := hE
    subst hE
    refine vx_catch (name := xISE) hown [] { startPc := 0, endPc := 10, handlerPc := 13, catchType := 21 } [{ startPc := 0, endPc := 10, handlerPc := 17, catchType := 15 }] htb (fun z hz => absurd hz List.not_mem_nil) (by decide) (by decide) (hts _ (.tail _ qA_952)) (hX.use (.castable xISE xISE) (by decide +kernel)) hce hcv hcl ?_
    refine lv_astore (lv' := [(4, .ref q9), (0, .ref (ad o)), (1, .int a0), (2, .int a1), (3, .ref ao)]) hx hb dL_aliases_13 hl (by decide) rfl (fun ls hl => ?_)
    refine lv_iconst (v := 1) hx hb dL_aliases_15 (by decide) ?_
    refine W.widen (k := T1.1 - T.1 + 1) (n := sg T1 - sg T + 6) (by omega) (by omega) ?_
    exact W.iret (v := 1) hx hb hr (fun t ht hW => ⟨⟨1, ad2, rfl, ⟨rfl, had⟩, ⟨by rw [ht]; exact G.1, va_K.moved hW.alike hK, G.2.1⟩⟩, G.2.2.F ht⟩) G.2.2.2.2 dL_aliases_16
  · exact absurd (cd_g_X11_aliases (S := [0, 1, 3]) (fun _ h => h) T o a0 a1 _ _ _ h) (by decide)
  · have hE : E9 = xIAE := hE
    subst hE
    refine vx_catch (name := xIAE) hown [{ startPc := 0, endPc := 10, handlerPc := 13, catchType := 21 }] { startPc := 0, endPc := 10, handlerPc := 17, catchType := 15 } [] htb (List.forall_mem_cons.mpr ⟨Or.inr ⟨by decide, xISE, hts _ (.tail _ qA_952), hN.2.2.2⟩, fun z hz => absurd hz List.not_mem_nil⟩) (by decide) (by decide) (hts _ (.tail _ qA_947)) (hX.use (.castable xIAE xIAE) (by decide +kernel)) hce hcv hcl ?_
    refine lv_astore (lv' := [(4, .ref q9), (0, .ref (ad o)), (1, .int a0), (2, .int a1), (3, .ref ao)]) hx hb dL_aliases_17 hl (by decide) rfl (fun ls hl => ?_)
    refine lv_iconst (v := 2) hx hb dL_aliases_19 (by decide) ?_
    refine W.widen (k := T1.1 - T.1 + 1) (n := sg T1 - sg T + 6) (by omega) (by omega) ?_
    exact W.iret (v := 2) hx hb hr (fun t ht hW => ⟨⟨2, ad2, rfl, ⟨rfl, had⟩, ⟨by rw [ht]; exact G.1, va_K.moved hW.alike hK, G.2.1⟩⟩, G.2.2.F ht⟩) G.2.2.2.2 dL_aliases_20
theorem v_aliases (l : Launch) (hst : l.stackTraces = false) (D : va_G) {cI cJ cZ cMic cSrc cSt cAI cAJ cD : ClassId} (h0 : Nat) (ad : Nat → Nat) (T : AT) (o : Nat) (a0 a1 : Int32) (ao : Nat) (f : Nat → Int64) {k1 : Nat} {r1 : Int32} {T1 : AT} (h : g_X11_aliases T o a0 a1 = some (k1, r1, T1)) (hrc : RC T) (h_o : o < T.1) (h_s : T.2.1 o = (11, 0)) : tWi l yL_aliases (Cond.codeWith yL_aliases cL_aliases 5 (some .int) [(0, 10, 13, 21), (0, 10, 17, 15)] :: wsA) 8 174 cI cJ cZ cMic cSrc cSt cAI cAJ cD D h0 ad T (oJ ao cJ f) [.ref (ad o), .int a0, .int a1, .ref ao] (vck 1 0 2 k1) T1 (oJ ao cJ (vfJ k1 f r1.toInt64)) := by
  cases k1 with
  | zero => exact v_aliases_n l hst D h0 ad T o a0 a1 ao f h hrc h_o h_s
  | succ e1 => exact v_aliases_t l hst D h0 ad T o a0 a1 ao f h hrc h_o h_s
set_option maxHeartbeats 4000000 in
set_option maxRecDepth 100000 in
theorem v_blockPower_n (l : Launch) (hst : l.stackTraces = false) (D : va_G) {cI cJ cZ cMic cSrc cSt cAI cAJ cD : ClassId} (h0 : Nat) (ad : Nat → Nat) (T : AT) (o : Nat) (a0 a1 a2 : Int32) (ao : Nat) (f : Nat → Int64) {r1 : Int64} {T1 : AT} (h : g_X11_blockPower T o a0 a1 a2 = some (0, r1, T1)) (hrc : RC T) (h_o : o < T.1) (h_s : T.2.1 o = (11, 0)) : tWi l yL_blockPower (Cond.codeWith yL_blockPower cL_blockPower 6 (some .int) [(0, 11, 14, 21), (0, 11, 18, 13), (0, 11, 22, 15)] :: wsA) 9 146 cI cJ cZ cMic cSrc cSt cAI cAJ cD D h0 ad T (oJ ao cJ f) [.ref (ad o), .int a0, .int a1, .int a2, .ref ao] (vck 1 2 3 (0)) T1 (oJ ao cJ (vfJ (0) f r1)) := by
  intro sz
  refine va_MetW (cc := cL_blockPower) (maxL := 6) (ret := some .int) (by decide) rfl ?_
  intro p e s m args below meth c s₁ B hml hv
  obtain ⟨rfl, hsz, hP, hK, hD0, hX, hN, hA0, hTS⟩ := hv
  have hx := B.exec
  have hb := B.bytes
  have hr := B.returns
  have hts := atoms_spec (ws := (Cond.codeWith yL_blockPower cL_blockPower 6 (some .int) [(0, 11, 14, 21), (0, 11, 18, 13), (0, 11, 22, 15)] :: wsA)) B.pre
  have hown : s.vm.findClass RL = some m.cls := findClass_of_methodNamed B.named
  have hlocks := B.notSynchronized
  have htb := vx_table (x := yL_blockPower) B (hts _ (.head _))
  subst hsz
  have hD := hD0.self (sz := s.heap.size)
  generalize hAe : va_A (cW ad T.1 (cc cI cJ cZ cMic cSrc cSt cAI cAJ ad T) ++ [oJ ao cJ f]) s.heap.size = A at hD hX hA0 ⊢
  have hA : ∀ q : Nat, s.heap.size ≤ q → A q := fun q h => by rw [← hAe]; exact Or.inr h
  have G : gL cI cJ cZ cMic cSrc cSt cAI cAJ D ad A s.heap s.heap [] T [oJ ao cJ f] := ⟨hP, hD, va_S.rf⟩
  have E : cE p c cL_blockPower s m ([.ref (ad o), .int a0, .int a1, .int a2, .ref ao] : List Value).toArray (Cond.codeWith yL_blockPower cL_blockPower 6 (some .int) [(0, 11, 14, 21), (0, 11, 18, 13), (0, 11, 22, 15)] :: wsA) D RL (CT cI cJ cZ cMic cSrc cSt cAI cAJ ++ [(cD, .double)]) := ⟨hx, hb, hts, hown, hK⟩
  have hl := lv_entry ([.ref (ad o), .int a0, .int a1, .int a2, .ref ao]) (n := 6) (Nat.le_of_ble_eq_true rfl)
  rw [lg_entry_eq]
  generalize (lg_sl ([.ref (ad o), .int a0, .int a1, .int a2, .ref ao]) ++ List.replicate (6 - (lg_sl ([.ref (ad o), .int a0, .int a1, .int a2, .ref ao])).length) Slot.unset).toArray = ls at hl ⊢
  have hl : lv_has ls 6 [(0, .ref (ad o)), (1, .int a0), (2, .int a1), (3, .int a2), (4, .ref ao)] := hl
  refine lv_aload hx hb dL_blockPower_0 (lv_at hl 4 rfl) ?_
  refine lv_iconst (v := 0) hx hb dL_blockPower_2 (by decide) ?_
  refine lv_aload_n hx hb dL_blockPower_3 rfl (lv_at hl 0 rfl) ?_
  refine lv_iload_n hx hb dL_blockPower_4 rfl (lv_at hl 1 rfl) ?_
  refine lv_iload_n hx hb dL_blockPower_5 rfl (lv_at hl 2 rfl) ?_
  refine lv_iload_n hx hb dL_blockPower_6 rfl (lv_at hl 3 rfl) ?_
  refine t_avl (As := [.int a0, .int a1, .int a2]) (rest := [.int 0, .ref ao]) E G hA hX hX.2.2.2.1 hml (a_X11_blockPower l hst D cI cJ cZ cMic cSrc cSt cAI cAJ ad T o a0 a1 a2 h hrc h_o) (cwV 3 hts (gaV qA_1057 qA_1058 qA_1059 qA_131 qA_856) rfl rfl rfl (by decide +kernel) ⟨Nat.le_of_ble_eq_true rfl, Nat.le_of_ble_eq_true rfl⟩) h_o (cc_o11 h_s) rfl rfl hl.1 rfl (lv_room (Nat.le_of_ble_eq_true rfl)) dL_blockPower_7 ⟨by show 0 + (T1.1 - T.1) ≤ T1.1 - T.1 + 1; omega, by show 0 + (sg T1 - sg T) ≤ sg T1 - sg T + 6; omega⟩ ?_
  intro ad2 H locs had G
  refine t_last E G dL_blockPower_10 (fun H locs G => ?_)
  refine lv_goto (tgt := 26) hx hb dL_blockPower_11 (by decide) ?_
  refine lv_iconst (v := 0) hx hb dL_blockPower_26 (by decide) ?_
  refine W.widen (k := T1.1 - T.1 + 1) (n := sg T1 - sg T + 6) (by omega) (by omega) ?_
  exact W.iret (v := 0) hx hb hr (fun t ht hW => ⟨⟨0, ad2, rfl, ⟨rfl, had⟩, ⟨by rw [ht]; exact G.1, va_K.moved hW.alike hK, G.2.1⟩⟩, G.2.2.F ht⟩) G.2.2.2.2 dL_blockPower_27
set_option maxHeartbeats 4000000 in
set_option maxRecDepth 100000 in
theorem v_blockPower_t (l : Launch) (hst : l.stackTraces = false) (D : va_G) {cI cJ cZ cMic cSrc cSt cAI cAJ cD : ClassId} (h0 : Nat) (ad : Nat → Nat) (T : AT) (o : Nat) (a0 a1 a2 : Int32) (ao : Nat) (f : Nat → Int64) {e1 : Nat} {r1 : Int64} {T1 : AT} (h : g_X11_blockPower T o a0 a1 a2 = some (e1 + 1, r1, T1)) (hrc : RC T) (h_o : o < T.1) (h_s : T.2.1 o = (11, 0)) : tWi l yL_blockPower (Cond.codeWith yL_blockPower cL_blockPower 6 (some .int) [(0, 11, 14, 21), (0, 11, 18, 13), (0, 11, 22, 15)] :: wsA) 9 146 cI cJ cZ cMic cSrc cSt cAI cAJ cD D h0 ad T (oJ ao cJ f) [.ref (ad o), .int a0, .int a1, .int a2, .ref ao] (vck 1 2 3 (e1 + 1)) T1 (oJ ao cJ (vfJ (e1 + 1) f r1)) := by
  intro sz
  refine va_MetW (cc := cL_blockPower) (maxL := 6) (ret := some .int) (by decide) rfl ?_
  intro p e s m args below meth c s₁ B hml hv
  obtain ⟨rfl, hsz, hP, hK, hD0, hX, hN, hA0, hTS⟩ := hv
  have hx := B.exec
  have hb := B.bytes
  have hr := B.returns
  have hts := atoms_spec (ws := (Cond.codeWith yL_blockPower cL_blockPower 6 (some .int) [(0, 11, 14, 21), (0, 11, 18, 13), (0, 11, 22, 15)] :: wsA)) B.pre
  have hown : s.vm.findClass RL = some m.cls := findClass_of_methodNamed B.named
  have hlocks := B.notSynchronized
  have htb := vx_table (x := yL_blockPower) B (hts _ (.head _))
  subst hsz
  have hD := hD0.self (sz := s.heap.size)
  generalize hAe : va_A (cW ad T.1 (cc cI cJ cZ cMic cSrc cSt cAI cAJ ad T) ++ [oJ ao cJ f]) s.heap.size = A at hD hX hA0 ⊢
  have hA : ∀ q : Nat, s.heap.size ≤ q → A q := fun q h => by rw [← hAe]; exact Or.inr h
  have G : gL cI cJ cZ cMic cSrc cSt cAI cAJ D ad A s.heap s.heap [] T [oJ ao cJ f] := ⟨hP, hD, va_S.rf⟩
  have E : cE p c cL_blockPower s m ([.ref (ad o), .int a0, .int a1, .int a2, .ref ao] : List Value).toArray (Cond.codeWith yL_blockPower cL_blockPower 6 (some .int) [(0, 11, 14, 21), (0, 11, 18, 13), (0, 11, 22, 15)] :: wsA) D RL (CT cI cJ cZ cMic cSrc cSt cAI cAJ ++ [(cD, .double)]) := ⟨hx, hb, hts, hown, hK⟩
  have hl := lv_entry ([.ref (ad o), .int a0, .int a1, .int a2, .ref ao]) (n := 6) (Nat.le_of_ble_eq_true rfl)
  rw [lg_entry_eq]
  generalize (lg_sl ([.ref (ad o), .int a0, .int a1, .int a2, .ref ao]) ++ List.replicate (6 - (lg_sl ([.ref (ad o), .int a0, .int a1, .int a2, .ref ao])).length) Slot.unset).toArray = ls at hl ⊢
  have hl : lv_has ls 6 [(0, .ref (ad o)), (1, .int a0), (2, .int a1), (3, .int a2), (4, .ref ao)] := hl
  refine lv_aload hx hb dL_blockPower_0 (lv_at hl 4 rfl) ?_
  refine lv_iconst (v := 0) hx hb dL_blockPower_2 (by decide) ?_
  refine lv_aload_n hx hb dL_blockPower_3 rfl (lv_at hl 0 rfl) ?_
  refine lv_iload_n hx hb dL_blockPower_4 rfl (lv_at hl 1 rfl) ?_
  refine lv_iload_n hx hb dL_blockPower_5 rfl (lv_at hl 2 rfl) ?_
  refine lv_iload_n hx hb dL_blockPower_6 rfl (lv_at hl 3 rfl) ?_
  refine t_bvl (As := [.int a0, .int a1, .int a2]) (rest := [.int 0, .ref ao]) E G hA hX hX.2.2.2.1 hml (b_X11_blockPower l hst D cI cJ cZ cMic cSrc cSt cAI cAJ ad T o a0 a1 a2 h hrc h_o) (cwV 3 hts (gaV qA_1057 qA_1058 qA_1059 qA_131 qA_856) rfl rfl rfl (by decide +kernel) ⟨Nat.le_of_ble_eq_true rfl, Nat.le_of_ble_eq_true rfl⟩) h_o (cc_o11 h_s) rfl rfl hl.1 rfl (lv_room (Nat.le_of_ble_eq_true rfl)) dL_blockPower_7 ⟨by show 0 + (T1.1 - T.1 + 1) ≤ T1.1 - T.1 + 1; omega, by show 0 + (sg T1 - sg T + 6) ≤ sg T1 - sg T + 6; omega⟩ ?_
  intro E9 ce q9 ad2 H locs hE had G hce hcv hcl
  rcases e1 with _ | _ | e1
  · have hE : E9 = xISE := hE
    subst hE
    refine vx_catch (name := xISE) hown [] { startPc := 0, endPc := 11, handlerPc := 14, catchType := 21 } [{ startPc := 0, endPc := 11, handlerPc := 18, catchType := 13 }, { startPc := 0, endPc := 11, handlerPc := 22, catchType := 15 }] htb (fun z hz => absurd hz List.not_mem_nil) (by decide) (by decide) (hts _ (.tail _ qA_952)) (hX.use (.castable xISE xISE) (by decide +kernel)) hce hcv hcl ?_
    refine lv_astore (lv' := [(5, .ref q9), (0, .ref (ad o)), (1, .int a0), (2, .int a1), (3, .int a2), (4, .ref ao)]) hx hb dL_blockPower_14 hl (by decide) rfl (fun ls hl => ?_)
    refine lv_iconst (v := 1) hx hb dL_blockPower_16 (by decide) ?_
    refine W.widen (k := T1.1 - T.1 + 1) (n := sg T1 - sg T + 6) (by omega) (by omega) ?_
    exact W.iret (v := 1) hx hb hr (fun t ht hW => ⟨⟨1, ad2, rfl, ⟨rfl, had⟩, ⟨by rw [ht]; exact G.1, va_K.moved hW.alike hK, G.2.1⟩⟩, G.2.2.F ht⟩) G.2.2.2.2 dL_blockPower_17
  · have hE : E9 = xIOB := hE
    subst hE
    refine vx_catch (name := xIOB) hown [{ startPc := 0, endPc := 11, handlerPc := 14, catchType := 21 }] { startPc := 0, endPc := 11, handlerPc := 18, catchType := 13 } [{ startPc := 0, endPc := 11, handlerPc := 22, catchType := 15 }] htb (List.forall_mem_cons.mpr ⟨Or.inr ⟨by decide, xISE, hts _ (.tail _ qA_952), hN.2.2.1⟩, fun z hz => absurd hz List.not_mem_nil⟩) (by decide) (by decide) (hts _ (.tail _ qA_946)) (hX.use (.castable xIOB xIOB) (by decide +kernel)) hce hcv hcl ?_
    refine lv_astore (lv' := [(5, .ref q9), (0, .ref (ad o)), (1, .int a0), (2, .int a1), (3, .int a2), (4, .ref ao)]) hx hb dL_blockPower_18 hl (by decide) rfl (fun ls hl => ?_)
    refine lv_iconst (v := 2) hx hb dL_blockPower_20 (by decide) ?_
    refine W.widen (k := T1.1 - T.1 + 1) (n := sg T1 - sg T + 6) (by omega) (by omega) ?_
    exact W.iret (v := 2) hx hb hr (fun t ht hW => ⟨⟨2, ad2, rfl, ⟨rfl, had⟩, ⟨by rw [ht]; exact G.1, va_K.moved hW.alike hK, G.2.1⟩⟩, G.2.2.F ht⟩) G.2.2.2.2 dL_blockPower_21
  · have hE : E9 = xIAE := hE
    subst hE
    refine vx_catch (name := xIAE) hown [{ startPc := 0, endPc := 11, handlerPc := 14, catchType := 21 }, { startPc := 0, endPc := 11, handlerPc := 18, catchType := 13 }] { startPc := 0, endPc := 11, handlerPc := 22, catchType := 15 } [] htb (List.forall_mem_cons.mpr ⟨Or.inr ⟨by decide, xISE, hts _ (.tail _ qA_952), hN.2.2.2⟩, List.forall_mem_cons.mpr ⟨Or.inr ⟨by decide, xIOB, hts _ (.tail _ qA_946), hN.1⟩, fun z hz => absurd hz List.not_mem_nil⟩⟩) (by decide) (by decide) (hts _ (.tail _ qA_947)) (hX.use (.castable xIAE xIAE) (by decide +kernel)) hce hcv hcl ?_
    refine lv_astore (lv' := [(5, .ref q9), (0, .ref (ad o)), (1, .int a0), (2, .int a1), (3, .int a2), (4, .ref ao)]) hx hb dL_blockPower_22 hl (by decide) rfl (fun ls hl => ?_)
    refine lv_iconst (v := 3) hx hb dL_blockPower_24 (by decide) ?_
    refine W.widen (k := T1.1 - T.1 + 1) (n := sg T1 - sg T + 6) (by omega) (by omega) ?_
    exact W.iret (v := 3) hx hb hr (fun t ht hW => ⟨⟨3, ad2, rfl, ⟨rfl, had⟩, ⟨by rw [ht]; exact G.1, va_K.moved hW.alike hK, G.2.1⟩⟩, G.2.2.F ht⟩) G.2.2.2.2 dL_blockPower_25
theorem v_blockPower (l : Launch) (hst : l.stackTraces = false) (D : va_G) {cI cJ cZ cMic cSrc cSt cAI cAJ cD : ClassId} (h0 : Nat) (ad : Nat → Nat) (T : AT) (o : Nat) (a0 a1 a2 : Int32) (ao : Nat) (f : Nat → Int64) {k1 : Nat} {r1 : Int64} {T1 : AT} (h : g_X11_blockPower T o a0 a1 a2 = some (k1, r1, T1)) (hrc : RC T) (h_o : o < T.1) (h_s : T.2.1 o = (11, 0)) : tWi l yL_blockPower (Cond.codeWith yL_blockPower cL_blockPower 6 (some .int) [(0, 11, 14, 21), (0, 11, 18, 13), (0, 11, 22, 15)] :: wsA) 9 146 cI cJ cZ cMic cSrc cSt cAI cAJ cD D h0 ad T (oJ ao cJ f) [.ref (ad o), .int a0, .int a1, .int a2, .ref ao] (vck 1 2 3 k1) T1 (oJ ao cJ (vfJ k1 f r1)) := by
  cases k1 with
  | zero => exact v_blockPower_n l hst D h0 ad T o a0 a1 a2 ao f h hrc h_o h_s
  | succ e1 => exact v_blockPower_t l hst D h0 ad T o a0 a1 a2 ao f h hrc h_o h_s
end
section
/-! 14d.vc2.lean.txt -/
set_option maxHeartbeats 4000000 in
set_option maxRecDepth 100000 in
theorem v_blockBest_n (l : Launch) (hst : l.stackTraces = false) (D : va_G) {cI cJ cZ cMic cSrc cSt cAI cAJ cD : ClassId} (h0 : Nat) (ad : Nat → Nat) (T : AT) (o : Nat) (a0 a1 : Int32) (ao : Nat) (f : Nat → Int64) {r1 : Int32} {T1 : AT} (h : g_X11_blockBest T o a0 a1 = some (0, r1, T1)) (hrc : RC T) (h_o : o < T.1) (h_s : T.2.1 o = (11, 0)) : tWi l yL_blockBest (Cond.codeWith yL_blockBest cL_blockBest 5 (some .int) [(0, 10, 13, 21), (0, 10, 17, 15)] :: wsA) 8 177 cI cJ cZ cMic cSrc cSt cAI cAJ cD D h0 ad T (oJ ao cJ f) [.ref (ad o), .int a0, .int a1, .ref ao] (vck 1 0 2 (0)) T1 (oJ ao cJ (vfJ (0) f r1.toInt64)) := by
  intro sz
  refine va_MetW (cc := cL_blockBest) (maxL := 5) (ret := some .int) (by decide) rfl ?_
  intro p e s m args below meth c s₁ B hml hv
  obtain ⟨rfl, hsz, hP, hK, hD0, hX, hN, hA0, hTS⟩ := hv
  have hx := B.exec
  have hb := B.bytes
  have hr := B.returns
  have hts := atoms_spec (ws := (Cond.codeWith yL_blockBest cL_blockBest 5 (some .int) [(0, 10, 13, 21), (0, 10, 17, 15)] :: wsA)) B.pre
  have hown : s.vm.findClass RL = some m.cls := findClass_of_methodNamed B.named
  have hlocks := B.notSynchronized
  have htb := vx_table (x := yL_blockBest) B (hts _ (.head _))
  subst hsz
  have hD := hD0.self (sz := s.heap.size)
  generalize hAe : va_A (cW ad T.1 (cc cI cJ cZ cMic cSrc cSt cAI cAJ ad T) ++ [oJ ao cJ f]) s.heap.size = A at hD hX hA0 ⊢
  have hA : ∀ q : Nat, s.heap.size ≤ q → A q := fun q h => by rw [← hAe]; exact Or.inr h
  have G : gL cI cJ cZ cMic cSrc cSt cAI cAJ D ad A s.heap s.heap [] T [oJ ao cJ f] := ⟨hP, hD, va_S.rf⟩
  have E : cE p c cL_blockBest s m ([.ref (ad o), .int a0, .int a1, .ref ao] : List Value).toArray (Cond.codeWith yL_blockBest cL_blockBest 5 (some .int) [(0, 10, 13, 21), (0, 10, 17, 15)] :: wsA) D RL (CT cI cJ cZ cMic cSrc cSt cAI cAJ ++ [(cD, .double)]) := ⟨hx, hb, hts, hown, hK⟩
  have hl := lv_entry ([.ref (ad o), .int a0, .int a1, .ref ao]) (n := 5) (Nat.le_of_ble_eq_true rfl)
  rw [lg_entry_eq]
  generalize (lg_sl ([.ref (ad o), .int a0, .int a1, .ref ao]) ++ List.replicate (5 - (lg_sl ([.ref (ad o), .int a0, .int a1, .ref ao])).length) Slot.unset).toArray = ls at hl ⊢
  have hl : lv_has ls 5 [(0, .ref (ad o)), (1, .int a0), (2, .int a1), (3, .ref ao)] := hl
  refine lv_aload_n hx hb dL_blockBest_0 rfl (lv_at hl 3 rfl) ?_
  refine lv_iconst (v := 0) hx hb dL_blockBest_1 (by decide) ?_
  refine lv_aload_n hx hb dL_blockBest_2 rfl (lv_at hl 0 rfl) ?_
  refine lv_iload_n hx hb dL_blockBest_3 rfl (lv_at hl 1 rfl) ?_
  refine lv_iload_n hx hb dL_blockBest_4 rfl (lv_at hl 2 rfl) ?_
  refine t_avi (As := [.int a0, .int a1]) (rest := [.int 0, .ref ao]) E G hA hX hX.2.2.2.1 hml (a_X11_blockBest l hst D cI cJ cZ cMic cSrc cSt cAI cAJ ad T o a0 a1 h hrc h_o) (cwV 2 hts (gaV qA_1061 qA_1062 qA_1063 qA_131 qA_858) rfl rfl rfl (by decide +kernel) ⟨Nat.le_of_ble_eq_true rfl, Nat.le_of_ble_eq_true rfl⟩) h_o (cc_o11 h_s) rfl rfl hl.1 rfl (lv_room (Nat.le_of_ble_eq_true rfl)) dL_blockBest_5 ⟨by show 0 + (T1.1 - T.1) ≤ T1.1 - T.1 + 1; omega, by show 0 + (sg T1 - sg T) ≤ sg T1 - sg T + 6; omega⟩ ?_
  intro ad2 H locs had G
  refine lv_i2l (v := r1.toInt64) hx hb dL_blockBest_8 rfl ?_
  refine t_last E G dL_blockBest_9 (fun H locs G => ?_)
  refine lv_goto (tgt := 21) hx hb dL_blockBest_10 (by decide) ?_
  refine lv_iconst (v := 0) hx hb dL_blockBest_21 (by decide) ?_
  refine W.widen (k := T1.1 - T.1 + 1) (n := sg T1 - sg T + 6) (by omega) (by omega) ?_
  exact W.iret (v := 0) hx hb hr (fun t ht hW => ⟨⟨0, ad2, rfl, ⟨rfl, had⟩, ⟨by rw [ht]; exact G.1, va_K.moved hW.alike hK, G.2.1⟩⟩, G.2.2.F ht⟩) G.2.2.2.2 dL_blockBest_22
set_option maxHeartbeats 4000000 in
set_option maxRecDepth 100000 in
theorem v_blockBest_t (l : Launch) (hst : l.stackTraces = false) (D : va_G) {cI cJ cZ cMic cSrc cSt cAI cAJ cD : ClassId} (h0 : Nat) (ad : Nat → Nat) (T : AT) (o : Nat) (a0 a1 : Int32) (ao : Nat) (f : Nat → Int64) {e1 : Nat} {r1 : Int32} {T1 : AT} (h : g_X11_blockBest T o a0 a1 = some (e1 + 1, r1, T1)) (hrc : RC T) (h_o : o < T.1) (h_s : T.2.1 o = (11, 0)) : tWi l yL_blockBest (Cond.codeWith yL_blockBest cL_blockBest 5 (some .int) [(0, 10, 13, 21), (0, 10, 17, 15)] :: wsA) 8 177 cI cJ cZ cMic cSrc cSt cAI cAJ cD D h0 ad T (oJ ao cJ f) [.ref (ad o), .int a0, .int a1, .ref ao] (vck 1 0 2 (e1 + 1)) T1 (oJ ao cJ (vfJ (e1 + 1) f r1.toInt64)) := by
  intro sz
  refine va_MetW (cc := cL_blockBest) (maxL := 5) (ret := some .int) (by decide) rfl ?_
  intro p e s m args below meth c s₁ B hml hv
  obtain ⟨rfl, hsz, hP, hK, hD0, hX, hN, hA0, hTS⟩ := hv
  have hx := B.exec
  have hb := B.bytes
  have hr := B.returns
  have hts := atoms_spec (ws := (Cond.codeWith yL_blockBest cL_blockBest 5 (some .int) [(0, 10, 13, 21), (0, 10, 17, 15)] :: wsA)) B.pre
  have hown : s.vm.findClass RL = some m.cls := findClass_of_methodNamed B.named
  have hlocks := B.notSynchronized
  have htb := vx_table (x := yL_blockBest) B (hts _ (.head _))
  subst hsz
  have hD := hD0.self (sz := s.heap.size)
  generalize hAe : va_A (cW ad T.1 (cc cI cJ cZ cMic cSrc cSt cAI cAJ ad T) ++ [oJ ao cJ f]) s.heap.size = A at hD hX hA0 ⊢
  have hA : ∀ q : Nat, s.heap.size ≤ q → A q := fun q h => by rw [← hAe]; exact Or.inr h
  have G : gL cI cJ cZ cMic cSrc cSt cAI cAJ D ad A s.heap s.heap [] T [oJ ao cJ f] := ⟨hP, hD, va_S.rf⟩
  have E : cE p c cL_blockBest s m ([.ref (ad o), .int a0, .int a1, .ref ao] : List Value).toArray (Cond.codeWith yL_blockBest cL_blockBest 5 (some .int) [(0, 10, 13, 21), (0, 10, 17, 15)] :: wsA) D RL (CT cI cJ cZ cMic cSrc cSt cAI cAJ ++ [(cD, .double)]) := ⟨hx, hb, hts, hown, hK⟩
  have hl := lv_entry ([.ref (ad o), .int a0, .int a1, .ref ao]) (n := 5) (Nat.le_of_ble_eq_true rfl)
  rw [lg_entry_eq]
  generalize (lg_sl ([.ref (ad o), .int a0, .int a1, .ref ao]) ++ List.replicate (5 - (lg_sl ([.ref (ad o), .int a0, .int a1, .ref ao])).length) Slot.unset).toArray = ls at hl ⊢
  have hl : lv_has ls 5 [(0, .ref (ad o)), (1, .int a0), (2, .int a1), (3, .ref ao)] := hl
  refine lv_aload_n hx hb dL_blockBest_0 rfl (lv_at hl 3 rfl) ?_
  refine lv_iconst (v := 0) hx hb dL_blockBest_1 (by decide) ?_
  refine lv_aload_n hx hb dL_blockBest_2 rfl (lv_at hl 0 rfl) ?_
  refine lv_iload_n hx hb dL_blockBest_3 rfl (lv_at hl 1 rfl) ?_
  refine lv_iload_n hx hb dL_blockBest_4 rfl (lv_at hl 2 rfl) ?_
  refine t_bvi (As := [.int a0, .int a1]) (rest := [.int 0, .ref ao]) E G hA hX hX.2.2.2.1 hml (b_X11_blockBest l hst D cI cJ cZ cMic cSrc cSt cAI cAJ ad T o a0 a1 h hrc h_o) (cwV 2 hts (gaV qA_1061 qA_1062 qA_1063 qA_131 qA_858) rfl rfl rfl (by decide +kernel) ⟨Nat.le_of_ble_eq_true rfl, Nat.le_of_ble_eq_true rfl⟩) h_o (cc_o11 h_s) rfl rfl hl.1 rfl (lv_room (Nat.le_of_ble_eq_true rfl)) dL_blockBest_5 ⟨by show 0 + (T1.1 - T.1 + 1) ≤ T1.1 - T.1 + 1; omega, by show 0 + (sg T1 - sg T + 6) ≤ sg T1 - sg T + 6; omega⟩ ?_
  intro E9 ce q9 ad2 H locs hE had G hce hcv hcl
  rcases e1 with _ | _ | e1
  · have hE : E9 = xISE := hE
    subst hE
    refine vx_catch (name := xISE) hown [] { startPc := 0, endPc := 10, handlerPc := 13, catchType := 21 } [{ startPc := 0, endPc := 10, handlerPc := 17, catchType := 15 }] htb (fun z hz => absurd hz List.not_mem_nil) (by decide) (by decide) (hts _ (.tail _ qA_952)) (hX.use (.castable xISE xISE) (by decide +kernel)) hce hcv hcl ?_
    refine lv_astore (lv' := [(4, .ref q9), (0, .ref (ad o)), (1, .int a0), (2, .int a1), (3, .ref ao)]) hx hb dL_blockBest_13 hl (by decide) rfl (fun ls hl => ?_)
    refine lv_iconst (v := 1) hx hb dL_blockBest_15 (by decide) ?_
    refine W.widen (k := T1.1 - T.1 + 1) (n := sg T1 - sg T + 6) (by omega) (by omega) ?_
    exact W.iret (v := 1) hx hb hr (fun t ht hW => ⟨⟨1, ad2, rfl, ⟨rfl, had⟩, ⟨by rw [ht]; exact G.1, va_K.moved hW.alike hK, G.2.1⟩⟩, G.2.2.F ht⟩) G.2.2.2.2 dL_blockBest_16
  · exact absurd (cd_g_X11_blockBest (S := [0, 1, 3]) (fun _ h => h) T o a0 a1 _ _ _ h) (by decide)
  · have hE : E9 = xIAE := hE
    subst hE
    refine vx_catch (name := xIAE) hown [{ startPc := 0, endPc := 10, handlerPc := 13, catchType := 21 }] { startPc := 0, endPc := 10, handlerPc := 17, catchType := 15 } [] htb (List.forall_mem_cons.mpr ⟨Or.inr ⟨by decide, xISE, hts _ (.tail _ qA_952), hN.2.2.2⟩, fun z hz => absurd hz List.not_mem_nil⟩) (by decide) (by decide) (hts _ (.tail _ qA_947)) (hX.use (.castable xIAE xIAE) (by decide +kernel)) hce hcv hcl ?_
    refine lv_astore (lv' := [(4, .ref q9), (0, .ref (ad o)), (1, .int a0), (2, .int a1), (3, .ref ao)]) hx hb dL_blockBest_17 hl (by decide) rfl (fun ls hl => ?_)
    refine lv_iconst (v := 2) hx hb dL_blockBest_19 (by decide) ?_
    refine W.widen (k := T1.1 - T.1 + 1) (n := sg T1 - sg T + 6) (by omega) (by omega) ?_
    exact W.iret (v := 2) hx hb hr (fun t ht hW => ⟨⟨2, ad2, rfl, ⟨rfl, had⟩, ⟨by rw [ht]; exact G.1, va_K.moved hW.alike hK, G.2.1⟩⟩, G.2.2.F ht⟩) G.2.2.2.2 dL_blockBest_20
theorem v_blockBest (l : Launch) (hst : l.stackTraces = false) (D : va_G) {cI cJ cZ cMic cSrc cSt cAI cAJ cD : ClassId} (h0 : Nat) (ad : Nat → Nat) (T : AT) (o : Nat) (a0 a1 : Int32) (ao : Nat) (f : Nat → Int64) {k1 : Nat} {r1 : Int32} {T1 : AT} (h : g_X11_blockBest T o a0 a1 = some (k1, r1, T1)) (hrc : RC T) (h_o : o < T.1) (h_s : T.2.1 o = (11, 0)) : tWi l yL_blockBest (Cond.codeWith yL_blockBest cL_blockBest 5 (some .int) [(0, 10, 13, 21), (0, 10, 17, 15)] :: wsA) 8 177 cI cJ cZ cMic cSrc cSt cAI cAJ cD D h0 ad T (oJ ao cJ f) [.ref (ad o), .int a0, .int a1, .ref ao] (vck 1 0 2 k1) T1 (oJ ao cJ (vfJ k1 f r1.toInt64)) := by
  cases k1 with
  | zero => exact v_blockBest_n l hst D h0 ad T o a0 a1 ao f h hrc h_o h_s
  | succ e1 => exact v_blockBest_t l hst D h0 ad T o a0 a1 ao f h hrc h_o h_s
set_option maxHeartbeats 4000000 in
set_option maxRecDepth 100000 in
theorem v_path_n (l : Launch) (hst : l.stackTraces = false) (D : va_G) {cI cJ cZ cMic cSrc cSt cAI cAJ cD : ClassId} (h0 : Nat) (ad : Nat → Nat) (T : AT) (o : Nat) (a0 : Int32) (ao : Nat) (f : Nat → Int64) {r1 : Int32} {T1 : AT} (h : g_X11_path T o a0 = some (0, r1, T1)) (hrc : RC T) (h_o : o < T.1) (h_s : T.2.1 o = (11, 0)) : tWi l yL_path (Cond.codeWith yL_path cL_path 4 (some .int) [(0, 9, 12, 21), (0, 9, 15, 15)] :: wsA) 8 180 cI cJ cZ cMic cSrc cSt cAI cAJ cD D h0 ad T (oJ ao cJ f) [.ref (ad o), .int a0, .ref ao] (vck 1 0 2 (0)) T1 (oJ ao cJ (vfJ (0) f r1.toInt64)) := by
  intro sz
  refine va_MetW (cc := cL_path) (maxL := 4) (ret := some .int) (by decide) rfl ?_
  intro p e s m args below meth c s₁ B hml hv
  obtain ⟨rfl, hsz, hP, hK, hD0, hX, hN, hA0, hTS⟩ := hv
  have hx := B.exec
  have hb := B.bytes
  have hr := B.returns
  have hts := atoms_spec (ws := (Cond.codeWith yL_path cL_path 4 (some .int) [(0, 9, 12, 21), (0, 9, 15, 15)] :: wsA)) B.pre
  have hown : s.vm.findClass RL = some m.cls := findClass_of_methodNamed B.named
  have hlocks := B.notSynchronized
  have htb := vx_table (x := yL_path) B (hts _ (.head _))
  subst hsz
  have hD := hD0.self (sz := s.heap.size)
  generalize hAe : va_A (cW ad T.1 (cc cI cJ cZ cMic cSrc cSt cAI cAJ ad T) ++ [oJ ao cJ f]) s.heap.size = A at hD hX hA0 ⊢
  have hA : ∀ q : Nat, s.heap.size ≤ q → A q := fun q h => by rw [← hAe]; exact Or.inr h
  have G : gL cI cJ cZ cMic cSrc cSt cAI cAJ D ad A s.heap s.heap [] T [oJ ao cJ f] := ⟨hP, hD, va_S.rf⟩
  have E : cE p c cL_path s m ([.ref (ad o), .int a0, .ref ao] : List Value).toArray (Cond.codeWith yL_path cL_path 4 (some .int) [(0, 9, 12, 21), (0, 9, 15, 15)] :: wsA) D RL (CT cI cJ cZ cMic cSrc cSt cAI cAJ ++ [(cD, .double)]) := ⟨hx, hb, hts, hown, hK⟩
  have hl := lv_entry ([.ref (ad o), .int a0, .ref ao]) (n := 4) (Nat.le_of_ble_eq_true rfl)
  rw [lg_entry_eq]
  generalize (lg_sl ([.ref (ad o), .int a0, .ref ao]) ++ List.replicate (4 - (lg_sl ([.ref (ad o), .int a0, .ref ao])).length) Slot.unset).toArray = ls at hl ⊢
  have hl : lv_has ls 4 [(0, .ref (ad o)), (1, .int a0), (2, .ref ao)] := hl
  refine lv_aload_n hx hb dL_path_0 rfl (lv_at hl 2 rfl) ?_
  refine lv_iconst (v := 0) hx hb dL_path_1 (by decide) ?_
  refine lv_aload_n hx hb dL_path_2 rfl (lv_at hl 0 rfl) ?_
  refine lv_iload_n hx hb dL_path_3 rfl (lv_at hl 1 rfl) ?_
  refine t_avi (As := [.int a0]) (rest := [.int 0, .ref ao]) E G hA hX hX.2.2.2.1 hml (a_X11_path l hst D cI cJ cZ cMic cSrc cSt cAI cAJ ad T o a0 h hrc h_o) (cwV 1 hts (gaV qA_1065 qA_1066 qA_1067 qA_131 qA_862) rfl rfl rfl (by decide +kernel) ⟨Nat.le_of_ble_eq_true rfl, Nat.le_of_ble_eq_true rfl⟩) h_o (cc_o11 h_s) rfl rfl hl.1 rfl (lv_room (Nat.le_of_ble_eq_true rfl)) dL_path_4 ⟨by show 0 + (T1.1 - T.1) ≤ T1.1 - T.1 + 1; omega, by show 0 + (sg T1 - sg T) ≤ sg T1 - sg T + 6; omega⟩ ?_
  intro ad2 H locs had G
  refine lv_i2l (v := r1.toInt64) hx hb dL_path_7 rfl ?_
  refine t_last E G dL_path_8 (fun H locs G => ?_)
  refine lv_goto (tgt := 18) hx hb dL_path_9 (by decide) ?_
  refine lv_iconst (v := 0) hx hb dL_path_18 (by decide) ?_
  refine W.widen (k := T1.1 - T.1 + 1) (n := sg T1 - sg T + 6) (by omega) (by omega) ?_
  exact W.iret (v := 0) hx hb hr (fun t ht hW => ⟨⟨0, ad2, rfl, ⟨rfl, had⟩, ⟨by rw [ht]; exact G.1, va_K.moved hW.alike hK, G.2.1⟩⟩, G.2.2.F ht⟩) G.2.2.2.2 dL_path_19
set_option maxHeartbeats 4000000 in
set_option maxRecDepth 100000 in
theorem v_path_t (l : Launch) (hst : l.stackTraces = false) (D : va_G) {cI cJ cZ cMic cSrc cSt cAI cAJ cD : ClassId} (h0 : Nat) (ad : Nat → Nat) (T : AT) (o : Nat) (a0 : Int32) (ao : Nat) (f : Nat → Int64) {e1 : Nat} {r1 : Int32} {T1 : AT} (h : g_X11_path T o a0 = some (e1 + 1, r1, T1)) (hrc : RC T) (h_o : o < T.1) (h_s : T.2.1 o = (11, 0)) : tWi l yL_path (Cond.codeWith yL_path cL_path 4 (some .int) [(0, 9, 12, 21), (0, 9, 15, 15)] :: wsA) 8 180 cI cJ cZ cMic cSrc cSt cAI cAJ cD D h0 ad T (oJ ao cJ f) [.ref (ad o), .int a0, .ref ao] (vck 1 0 2 (e1 + 1)) T1 (oJ ao cJ (vfJ (e1 + 1) f r1.toInt64)) := by
  intro sz
  refine va_MetW (cc := cL_path) (maxL := 4) (ret := some .int) (by decide) rfl ?_
  intro p e s m args below meth c s₁ B hml hv
  obtain ⟨rfl, hsz, hP, hK, hD0, hX, hN, hA0, hTS⟩ := hv
  have hx := B.exec
  have hb := B.bytes
  have hr := B.returns
  have hts := atoms_spec (ws := (Cond.codeWith yL_path cL_path 4 (some .int) [(0, 9, 12, 21), (0, 9, 15, 15)] :: wsA)) B.pre
  have hown : s.vm.findClass RL = some m.cls := findClass_of_methodNamed B.named
  have hlocks := B.notSynchronized
  have htb := vx_table (x := yL_path) B (hts _ (.head _))
  subst hsz
  have hD := hD0.self (sz := s.heap.size)
  generalize hAe : va_A (cW ad T.1 (cc cI cJ cZ cMic cSrc cSt cAI cAJ ad T) ++ [oJ ao cJ f]) s.heap.size = A at hD hX hA0 ⊢
  have hA : ∀ q : Nat, s.heap.size ≤ q → A q := fun q h => by rw [← hAe]; exact Or.inr h
  have G : gL cI cJ cZ cMic cSrc cSt cAI cAJ D ad A s.heap s.heap [] T [oJ ao cJ f] := ⟨hP, hD, va_S.rf⟩
  have E : cE p c cL_path s m ([.ref (ad o), .int a0, .ref ao] : List Value).toArray (Cond.codeWith yL_path cL_path 4 (some .int) [(0, 9, 12, 21), (0, 9, 15, 15)] :: wsA) D RL (CT cI cJ cZ cMic cSrc cSt cAI cAJ ++ [(cD, .double)]) := ⟨hx, hb, hts, hown, hK⟩
  have hl := lv_entry ([.ref (ad o), .int a0, .ref ao]) (n := 4) (Nat.le_of_ble_eq_true rfl)
  rw [lg_entry_eq]
  generalize (lg_sl ([.ref (ad o), .int a0, .ref ao]) ++ List.replicate (4 - (lg_sl ([.ref (ad o), .int a0, .ref ao])).length) Slot.unset).toArray = ls at hl ⊢
  have hl : lv_has ls 4 [(0, .ref (ad o)), (1, .int a0), (2, .ref ao)] := hl
  refine lv_aload_n hx hb dL_path_0 rfl (lv_at hl 2 rfl) ?_
  refine lv_iconst (v := 0) hx hb dL_path_1 (by decide) ?_
  refine lv_aload_n hx hb dL_path_2 rfl (lv_at hl 0 rfl) ?_
  refine lv_iload_n hx hb dL_path_3 rfl (lv_at hl 1 rfl) ?_
  refine t_bvi (As := [.int a0]) (rest := [.int 0, .ref ao]) E G hA hX hX.2.2.2.1 hml (b_X11_path l hst D cI cJ cZ cMic cSrc cSt cAI cAJ ad T o a0 h hrc h_o) (cwV 1 hts (gaV qA_1065 qA_1066 qA_1067 qA_131 qA_862) rfl rfl rfl (by decide +kernel) ⟨Nat.le_of_ble_eq_true rfl, Nat.le_of_ble_eq_true rfl⟩) h_o (cc_o11 h_s) rfl rfl hl.1 rfl (lv_room (Nat.le_of_ble_eq_true rfl)) dL_path_4 ⟨by show 0 + (T1.1 - T.1 + 1) ≤ T1.1 - T.1 + 1; omega, by show 0 + (sg T1 - sg T + 6) ≤ sg T1 - sg T + 6; omega⟩ ?_
  intro E9 ce q9 ad2 H locs hE had G hce hcv hcl
  rcases e1 with _ | _ | e1
  · have hE : E9 = xISE := hE
    subst hE
    refine vx_catch (name := xISE) hown [] { startPc := 0, endPc := 9, handlerPc := 12, catchType := 21 } [{ startPc := 0, endPc := 9, handlerPc := 15, catchType := 15 }] htb (fun z hz => absurd hz List.not_mem_nil) (by decide) (by decide) (hts _ (.tail _ qA_952)) (hX.use (.castable xISE xISE) (by decide +kernel)) hce hcv hcl ?_
    refine lv_astore_n (lv' := [(3, .ref q9), (0, .ref (ad o)), (1, .int a0), (2, .ref ao)]) hx hb dL_path_12 rfl hl (by decide) rfl (fun ls hl => ?_)
    refine lv_iconst (v := 1) hx hb dL_path_13 (by decide) ?_
    refine W.widen (k := T1.1 - T.1 + 1) (n := sg T1 - sg T + 6) (by omega) (by omega) ?_
    exact W.iret (v := 1) hx hb hr (fun t ht hW => ⟨⟨1, ad2, rfl, ⟨rfl, had⟩, ⟨by rw [ht]; exact G.1, va_K.moved hW.alike hK, G.2.1⟩⟩, G.2.2.F ht⟩) G.2.2.2.2 dL_path_14
  · exact absurd (cd_g_X11_path (S := [0, 1, 3]) (fun _ h => h) T o a0 _ _ _ h) (by decide)
  · have hE : E9 = xIAE := hE
    subst hE
    refine vx_catch (name := xIAE) hown [{ startPc := 0, endPc := 9, handlerPc := 12, catchType := 21 }] { startPc := 0, endPc := 9, handlerPc := 15, catchType := 15 } [] htb (List.forall_mem_cons.mpr ⟨Or.inr ⟨by decide, xISE, hts _ (.tail _ qA_952), hN.2.2.2⟩, fun z hz => absurd hz List.not_mem_nil⟩) (by decide) (by decide) (hts _ (.tail _ qA_947)) (hX.use (.castable xIAE xIAE) (by decide +kernel)) hce hcv hcl ?_
    refine lv_astore_n (lv' := [(3, .ref q9), (0, .ref (ad o)), (1, .int a0), (2, .ref ao)]) hx hb dL_path_15 rfl hl (by decide) rfl (fun ls hl => ?_)
    refine lv_iconst (v := 2) hx hb dL_path_16 (by decide) ?_
    refine W.widen (k := T1.1 - T.1 + 1) (n := sg T1 - sg T + 6) (by omega) (by omega) ?_
    exact W.iret (v := 2) hx hb hr (fun t ht hW => ⟨⟨2, ad2, rfl, ⟨rfl, had⟩, ⟨by rw [ht]; exact G.1, va_K.moved hW.alike hK, G.2.1⟩⟩, G.2.2.F ht⟩) G.2.2.2.2 dL_path_17
theorem v_path (l : Launch) (hst : l.stackTraces = false) (D : va_G) {cI cJ cZ cMic cSrc cSt cAI cAJ cD : ClassId} (h0 : Nat) (ad : Nat → Nat) (T : AT) (o : Nat) (a0 : Int32) (ao : Nat) (f : Nat → Int64) {k1 : Nat} {r1 : Int32} {T1 : AT} (h : g_X11_path T o a0 = some (k1, r1, T1)) (hrc : RC T) (h_o : o < T.1) (h_s : T.2.1 o = (11, 0)) : tWi l yL_path (Cond.codeWith yL_path cL_path 4 (some .int) [(0, 9, 12, 21), (0, 9, 15, 15)] :: wsA) 8 180 cI cJ cZ cMic cSrc cSt cAI cAJ cD D h0 ad T (oJ ao cJ f) [.ref (ad o), .int a0, .ref ao] (vck 1 0 2 k1) T1 (oJ ao cJ (vfJ k1 f r1.toInt64)) := by
  cases k1 with
  | zero => exact v_path_n l hst D h0 ad T o a0 ao f h hrc h_o h_s
  | succ e1 => exact v_path_t l hst D h0 ad T o a0 ao f h hrc h_o h_s
set_option maxHeartbeats 4000000 in
set_option maxRecDepth 100000 in
theorem v_trackScore_n (l : Launch) (hst : l.stackTraces = false) (D : va_G) {cI cJ cZ cMic cSrc cSt cAI cAJ cD : ClassId} (h0 : Nat) (ad : Nat → Nat) (T : AT) (o : Nat) (a0 : Int32) (ao : Nat) (f : Nat → Int64) {r1 : Int64} {T1 : AT} (h : g_X11_trackScore T o a0 = some (0, r1, T1)) (hrc : RC T) (h_o : o < T.1) (h_s : T.2.1 o = (11, 0)) : tWi l yL_trackScore (Cond.codeWith yL_trackScore cL_trackScore 4 (some .int) [(0, 8, 11, 21), (0, 8, 14, 15)] :: wsA) 8 180 cI cJ cZ cMic cSrc cSt cAI cAJ cD D h0 ad T (oJ ao cJ f) [.ref (ad o), .int a0, .ref ao] (vck 1 0 2 (0)) T1 (oJ ao cJ (vfJ (0) f r1)) := by
  intro sz
  refine va_MetW (cc := cL_trackScore) (maxL := 4) (ret := some .int) (by decide) rfl ?_
  intro p e s m args below meth c s₁ B hml hv
  obtain ⟨rfl, hsz, hP, hK, hD0, hX, hN, hA0, hTS⟩ := hv
  have hx := B.exec
  have hb := B.bytes
  have hr := B.returns
  have hts := atoms_spec (ws := (Cond.codeWith yL_trackScore cL_trackScore 4 (some .int) [(0, 8, 11, 21), (0, 8, 14, 15)] :: wsA)) B.pre
  have hown : s.vm.findClass RL = some m.cls := findClass_of_methodNamed B.named
  have hlocks := B.notSynchronized
  have htb := vx_table (x := yL_trackScore) B (hts _ (.head _))
  subst hsz
  have hD := hD0.self (sz := s.heap.size)
  generalize hAe : va_A (cW ad T.1 (cc cI cJ cZ cMic cSrc cSt cAI cAJ ad T) ++ [oJ ao cJ f]) s.heap.size = A at hD hX hA0 ⊢
  have hA : ∀ q : Nat, s.heap.size ≤ q → A q := fun q h => by rw [← hAe]; exact Or.inr h
  have G : gL cI cJ cZ cMic cSrc cSt cAI cAJ D ad A s.heap s.heap [] T [oJ ao cJ f] := ⟨hP, hD, va_S.rf⟩
  have E : cE p c cL_trackScore s m ([.ref (ad o), .int a0, .ref ao] : List Value).toArray (Cond.codeWith yL_trackScore cL_trackScore 4 (some .int) [(0, 8, 11, 21), (0, 8, 14, 15)] :: wsA) D RL (CT cI cJ cZ cMic cSrc cSt cAI cAJ ++ [(cD, .double)]) := ⟨hx, hb, hts, hown, hK⟩
  have hl := lv_entry ([.ref (ad o), .int a0, .ref ao]) (n := 4) (Nat.le_of_ble_eq_true rfl)
  rw [lg_entry_eq]
  generalize (lg_sl ([.ref (ad o), .int a0, .ref ao]) ++ List.replicate (4 - (lg_sl ([.ref (ad o), .int a0, .ref ao])).length) Slot.unset).toArray = ls at hl ⊢
  have hl : lv_has ls 4 [(0, .ref (ad o)), (1, .int a0), (2, .ref ao)] := hl
  refine lv_aload_n hx hb dL_trackScore_0 rfl (lv_at hl 2 rfl) ?_
  refine lv_iconst (v := 0) hx hb dL_trackScore_1 (by decide) ?_
  refine lv_aload_n hx hb dL_trackScore_2 rfl (lv_at hl 0 rfl) ?_
  refine lv_iload_n hx hb dL_trackScore_3 rfl (lv_at hl 1 rfl) ?_
  refine t_avl (As := [.int a0]) (rest := [.int 0, .ref ao]) E G hA hX hX.2.2.2.1 hml (a_X11_trackScore l hst D cI cJ cZ cMic cSrc cSt cAI cAJ ad T o a0 h hrc h_o) (cwV 1 hts (gaV qA_1069 qA_1070 qA_1071 qA_131 qA_863) rfl rfl rfl (by decide +kernel) ⟨Nat.le_of_ble_eq_true rfl, Nat.le_of_ble_eq_true rfl⟩) h_o (cc_o11 h_s) rfl rfl hl.1 rfl (lv_room (Nat.le_of_ble_eq_true rfl)) dL_trackScore_4 ⟨by show 0 + (T1.1 - T.1) ≤ T1.1 - T.1 + 1; omega, by show 0 + (sg T1 - sg T) ≤ sg T1 - sg T + 6; omega⟩ ?_
  intro ad2 H locs had G
  refine t_last E G dL_trackScore_7 (fun H locs G => ?_)
  refine lv_goto (tgt := 17) hx hb dL_trackScore_8 (by decide) ?_
  refine lv_iconst (v := 0) hx hb dL_trackScore_17 (by decide) ?_
  refine W.widen (k := T1.1 - T.1 + 1) (n := sg T1 - sg T + 6) (by omega) (by omega) ?_
  exact W.iret (v := 0) hx hb hr (fun t ht hW => ⟨⟨0, ad2, rfl, ⟨rfl, had⟩, ⟨by rw [ht]; exact G.1, va_K.moved hW.alike hK, G.2.1⟩⟩, G.2.2.F ht⟩) G.2.2.2.2 dL_trackScore_18
set_option maxHeartbeats 4000000 in
set_option maxRecDepth 100000 in
theorem v_trackScore_t (l : Launch) (hst : l.stackTraces = false) (D : va_G) {cI cJ cZ cMic cSrc cSt cAI cAJ cD : ClassId} (h0 : Nat) (ad : Nat → Nat) (T : AT) (o : Nat) (a0 : Int32) (ao : Nat) (f : Nat → Int64) {e1 : Nat} {r1 : Int64} {T1 : AT} (h : g_X11_trackScore T o a0 = some (e1 + 1, r1, T1)) (hrc : RC T) (h_o : o < T.1) (h_s : T.2.1 o = (11, 0)) : tWi l yL_trackScore (Cond.codeWith yL_trackScore cL_trackScore 4 (some .int) [(0, 8, 11, 21), (0, 8, 14, 15)] :: wsA) 8 180 cI cJ cZ cMic cSrc cSt cAI cAJ cD D h0 ad T (oJ ao cJ f) [.ref (ad o), .int a0, .ref ao] (vck 1 0 2 (e1 + 1)) T1 (oJ ao cJ (vfJ (e1 + 1) f r1)) := by
  intro sz
  refine va_MetW (cc := cL_trackScore) (maxL := 4) (ret := some .int) (by decide) rfl ?_
  intro p e s m args below meth c s₁ B hml hv
  obtain ⟨rfl, hsz, hP, hK, hD0, hX, hN, hA0, hTS⟩ := hv
  have hx := B.exec
  have hb := B.bytes
  have hr := B.returns
  have hts := atoms_spec (ws := (Cond.codeWith yL_trackScore cL_trackScore 4 (some .int) [(0, 8, 11, 21), (0, 8, 14, 15)] :: wsA)) B.pre
  have hown : s.vm.findClass RL = some m.cls := findClass_of_methodNamed B.named
  have hlocks := B.notSynchronized
  have htb := vx_table (x := yL_trackScore) B (hts _ (.head _))
  subst hsz
  have hD := hD0.self (sz := s.heap.size)
  generalize hAe : va_A (cW ad T.1 (cc cI cJ cZ cMic cSrc cSt cAI cAJ ad T) ++ [oJ ao cJ f]) s.heap.size = A at hD hX hA0 ⊢
  have hA : ∀ q : Nat, s.heap.size ≤ q → A q := fun q h => by rw [← hAe]; exact Or.inr h
  have G : gL cI cJ cZ cMic cSrc cSt cAI cAJ D ad A s.heap s.heap [] T [oJ ao cJ f] := ⟨hP, hD, va_S.rf⟩
  have E : cE p c cL_trackScore s m ([.ref (ad o), .int a0, .ref ao] : List Value).toArray (Cond.codeWith yL_trackScore cL_trackScore 4 (some .int) [(0, 8, 11, 21), (0, 8, 14, 15)] :: wsA) D RL (CT cI cJ cZ cMic cSrc cSt cAI cAJ ++ [(cD, .double)]) := ⟨hx, hb, hts, hown, hK⟩
  have hl := lv_entry ([.ref (ad o), .int a0, .ref ao]) (n := 4) (Nat.le_of_ble_eq_true rfl)
  rw [lg_entry_eq]
  generalize (lg_sl ([.ref (ad o), .int a0, .ref ao]) ++ List.replicate (4 - (lg_sl ([.ref (ad o), .int a0, .ref ao])).length) Slot.unset).toArray = ls at hl ⊢
  have hl : lv_has ls 4 [(0, .ref (ad o)), (1, .int a0), (2, .ref ao)] := hl
  refine lv_aload_n hx hb dL_trackScore_0 rfl (lv_at hl 2 rfl) ?_
  refine lv_iconst (v := 0) hx hb dL_trackScore_1 (by decide) ?_
  refine lv_aload_n hx hb dL_trackScore_2 rfl (lv_at hl 0 rfl) ?_
  refine lv_iload_n hx hb dL_trackScore_3 rfl (lv_at hl 1 rfl) ?_
  refine t_bvl (As := [.int a0]) (rest := [.int 0, .ref ao]) E G hA hX hX.2.2.2.1 hml (b_X11_trackScore l hst D cI cJ cZ cMic cSrc cSt cAI cAJ ad T o a0 h hrc h_o) (cwV 1 hts (gaV qA_1069 qA_1070 qA_1071 qA_131 qA_863) rfl rfl rfl (by decide +kernel) ⟨Nat.le_of_ble_eq_true rfl, Nat.le_of_ble_eq_true rfl⟩) h_o (cc_o11 h_s) rfl rfl hl.1 rfl (lv_room (Nat.le_of_ble_eq_true rfl)) dL_trackScore_4 ⟨by show 0 + (T1.1 - T.1 + 1) ≤ T1.1 - T.1 + 1; omega, by show 0 + (sg T1 - sg T + 6) ≤ sg T1 - sg T + 6; omega⟩ ?_
  intro E9 ce q9 ad2 H locs hE had G hce hcv hcl
  rcases e1 with _ | _ | e1
  · have hE : E9 = xISE := hE
    subst hE
    refine vx_catch (name := xISE) hown [] { startPc := 0, endPc := 8, handlerPc := 11, catchType := 21 } [{ startPc := 0, endPc := 8, handlerPc := 14, catchType := 15 }] htb (fun z hz => absurd hz List.not_mem_nil) (by decide) (by decide) (hts _ (.tail _ qA_952)) (hX.use (.castable xISE xISE) (by decide +kernel)) hce hcv hcl ?_
    refine lv_astore_n (lv' := [(3, .ref q9), (0, .ref (ad o)), (1, .int a0), (2, .ref ao)]) hx hb dL_trackScore_11 rfl hl (by decide) rfl (fun ls hl => ?_)
    refine lv_iconst (v := 1) hx hb dL_trackScore_12 (by decide) ?_
    refine W.widen (k := T1.1 - T.1 + 1) (n := sg T1 - sg T + 6) (by omega) (by omega) ?_
    exact W.iret (v := 1) hx hb hr (fun t ht hW => ⟨⟨1, ad2, rfl, ⟨rfl, had⟩, ⟨by rw [ht]; exact G.1, va_K.moved hW.alike hK, G.2.1⟩⟩, G.2.2.F ht⟩) G.2.2.2.2 dL_trackScore_13
  · exact absurd (cd_g_X11_trackScore (S := [0, 1, 3]) (fun _ h => h) T o a0 _ _ _ h) (by decide)
  · have hE : E9 = xIAE := hE
    subst hE
    refine vx_catch (name := xIAE) hown [{ startPc := 0, endPc := 8, handlerPc := 11, catchType := 21 }] { startPc := 0, endPc := 8, handlerPc := 14, catchType := 15 } [] htb (List.forall_mem_cons.mpr ⟨Or.inr ⟨by decide, xISE, hts _ (.tail _ qA_952), hN.2.2.2⟩, fun z hz => absurd hz List.not_mem_nil⟩) (by decide) (by decide) (hts _ (.tail _ qA_947)) (hX.use (.castable xIAE xIAE) (by decide +kernel)) hce hcv hcl ?_
    refine lv_astore_n (lv' := [(3, .ref q9), (0, .ref (ad o)), (1, .int a0), (2, .ref ao)]) hx hb dL_trackScore_14 rfl hl (by decide) rfl (fun ls hl => ?_)
    refine lv_iconst (v := 2) hx hb dL_trackScore_15 (by decide) ?_
    refine W.widen (k := T1.1 - T.1 + 1) (n := sg T1 - sg T + 6) (by omega) (by omega) ?_
    exact W.iret (v := 2) hx hb hr (fun t ht hW => ⟨⟨2, ad2, rfl, ⟨rfl, had⟩, ⟨by rw [ht]; exact G.1, va_K.moved hW.alike hK, G.2.1⟩⟩, G.2.2.F ht⟩) G.2.2.2.2 dL_trackScore_16
theorem v_trackScore (l : Launch) (hst : l.stackTraces = false) (D : va_G) {cI cJ cZ cMic cSrc cSt cAI cAJ cD : ClassId} (h0 : Nat) (ad : Nat → Nat) (T : AT) (o : Nat) (a0 : Int32) (ao : Nat) (f : Nat → Int64) {k1 : Nat} {r1 : Int64} {T1 : AT} (h : g_X11_trackScore T o a0 = some (k1, r1, T1)) (hrc : RC T) (h_o : o < T.1) (h_s : T.2.1 o = (11, 0)) : tWi l yL_trackScore (Cond.codeWith yL_trackScore cL_trackScore 4 (some .int) [(0, 8, 11, 21), (0, 8, 14, 15)] :: wsA) 8 180 cI cJ cZ cMic cSrc cSt cAI cAJ cD D h0 ad T (oJ ao cJ f) [.ref (ad o), .int a0, .ref ao] (vck 1 0 2 k1) T1 (oJ ao cJ (vfJ k1 f r1)) := by
  cases k1 with
  | zero => exact v_trackScore_n l hst D h0 ad T o a0 ao f h hrc h_o h_s
  | succ e1 => exact v_trackScore_t l hst D h0 ad T o a0 ao f h hrc h_o h_s
set_option maxHeartbeats 4000000 in
set_option maxRecDepth 100000 in
theorem v_trackCell_n (l : Launch) (hst : l.stackTraces = false) (D : va_G) {cI cJ cZ cMic cSrc cSt cAI cAJ cD : ClassId} (h0 : Nat) (ad : Nat → Nat) (T : AT) (o : Nat) (a0 a1 : Int32) (ao : Nat) (f : Nat → Int64) {r1 : Int32} {T1 : AT} (h : g_X11_trackCell T o a0 a1 = some (0, r1, T1)) (hrc : RC T) (h_o : o < T.1) (h_s : T.2.1 o = (11, 0)) : tWi l yL_trackCell (Cond.codeWith yL_trackCell cL_trackCell 5 (some .int) [(0, 10, 13, 21), (0, 10, 17, 13), (0, 10, 21, 15)] :: wsA) 8 182 cI cJ cZ cMic cSrc cSt cAI cAJ cD D h0 ad T (oJ ao cJ f) [.ref (ad o), .int a0, .int a1, .ref ao] (vck 1 2 3 (0)) T1 (oJ ao cJ (vfJ (0) f r1.toInt64)) := by
  intro sz
  refine va_MetW (cc := cL_trackCell) (maxL := 5) (ret := some .int) (by decide) rfl ?_
  intro p e s m args below meth c s₁ B hml hv
  obtain ⟨rfl, hsz, hP, hK, hD0, hX, hN, hA0, hTS⟩ := hv
  have hx := B.exec
  have hb := B.bytes
  have hr := B.returns
  have hts := atoms_spec (ws := (Cond.codeWith yL_trackCell cL_trackCell 5 (some .int) [(0, 10, 13, 21), (0, 10, 17, 13), (0, 10, 21, 15)] :: wsA)) B.pre
  have hown : s.vm.findClass RL = some m.cls := findClass_of_methodNamed B.named
  have hlocks := B.notSynchronized
  have htb := vx_table (x := yL_trackCell) B (hts _ (.head _))
  subst hsz
  have hD := hD0.self (sz := s.heap.size)
  generalize hAe : va_A (cW ad T.1 (cc cI cJ cZ cMic cSrc cSt cAI cAJ ad T) ++ [oJ ao cJ f]) s.heap.size = A at hD hX hA0 ⊢
  have hA : ∀ q : Nat, s.heap.size ≤ q → A q := fun q h => by rw [← hAe]; exact Or.inr h
  have G : gL cI cJ cZ cMic cSrc cSt cAI cAJ D ad A s.heap s.heap [] T [oJ ao cJ f] := ⟨hP, hD, va_S.rf⟩
  have E : cE p c cL_trackCell s m ([.ref (ad o), .int a0, .int a1, .ref ao] : List Value).toArray (Cond.codeWith yL_trackCell cL_trackCell 5 (some .int) [(0, 10, 13, 21), (0, 10, 17, 13), (0, 10, 21, 15)] :: wsA) D RL (CT cI cJ cZ cMic cSrc cSt cAI cAJ ++ [(cD, .double)]) := ⟨hx, hb, hts, hown, hK⟩
  have hl := lv_entry ([.ref (ad o), .int a0, .int a1, .ref ao]) (n := 5) (Nat.le_of_ble_eq_true rfl)
  rw [lg_entry_eq]
  generalize (lg_sl ([.ref (ad o), .int a0, .int a1, .ref ao]) ++ List.replicate (5 - (lg_sl ([.ref (ad o), .int a0, .int a1, .ref ao])).length) Slot.unset).toArray = ls at hl ⊢
  have hl : lv_has ls 5 [(0, .ref (ad o)), (1, .int a0), (2, .int a1), (3, .ref ao)] := hl
  refine lv_aload_n hx hb dL_trackCell_0 rfl (lv_at hl 3 rfl) ?_
  refine lv_iconst (v := 0) hx hb dL_trackCell_1 (by decide) ?_
  refine lv_aload_n hx hb dL_trackCell_2 rfl (lv_at hl 0 rfl) ?_
  refine lv_iload_n hx hb dL_trackCell_3 rfl (lv_at hl 1 rfl) ?_
  refine lv_iload_n hx hb dL_trackCell_4 rfl (lv_at hl 2 rfl) ?_
  refine t_avi (As := [.int a0, .int a1]) (rest := [.int 0, .ref ao]) E G hA hX hX.2.2.2.1 hml (a_X11_trackCell l hst D cI cJ cZ cMic cSrc cSt cAI cAJ ad T o a0 a1 h hrc h_o) (cwV 2 hts (gaV qA_1073 qA_1074 qA_1075 qA_131 qA_871) rfl rfl rfl (by decide +kernel) ⟨Nat.le_of_ble_eq_true rfl, Nat.le_of_ble_eq_true rfl⟩) h_o (cc_o11 h_s) rfl rfl hl.1 rfl (lv_room (Nat.le_of_ble_eq_true rfl)) dL_trackCell_5 ⟨by show 0 + (T1.1 - T.1) ≤ T1.1 - T.1 + 1; omega, by show 0 + (sg T1 - sg T) ≤ sg T1 - sg T + 6; omega⟩ ?_
  intro ad2 H locs had G
  refine lv_i2l (v := r1.toInt64) hx hb dL_trackCell_8 rfl ?_
  refine t_last E G dL_trackCell_9 (fun H locs G => ?_)
  refine lv_goto (tgt := 25) hx hb dL_trackCell_10 (by decide) ?_
  refine lv_iconst (v := 0) hx hb dL_trackCell_25 (by decide) ?_
  refine W.widen (k := T1.1 - T.1 + 1) (n := sg T1 - sg T + 6) (by omega) (by omega) ?_
  exact W.iret (v := 0) hx hb hr (fun t ht hW => ⟨⟨0, ad2, rfl, ⟨rfl, had⟩, ⟨by rw [ht]; exact G.1, va_K.moved hW.alike hK, G.2.1⟩⟩, G.2.2.F ht⟩) G.2.2.2.2 dL_trackCell_26
set_option maxHeartbeats 4000000 in
set_option maxRecDepth 100000 in
theorem v_trackCell_t (l : Launch) (hst : l.stackTraces = false) (D : va_G) {cI cJ cZ cMic cSrc cSt cAI cAJ cD : ClassId} (h0 : Nat) (ad : Nat → Nat) (T : AT) (o : Nat) (a0 a1 : Int32) (ao : Nat) (f : Nat → Int64) {e1 : Nat} {r1 : Int32} {T1 : AT} (h : g_X11_trackCell T o a0 a1 = some (e1 + 1, r1, T1)) (hrc : RC T) (h_o : o < T.1) (h_s : T.2.1 o = (11, 0)) : tWi l yL_trackCell (Cond.codeWith yL_trackCell cL_trackCell 5 (some .int) [(0, 10, 13, 21), (0, 10, 17, 13), (0, 10, 21, 15)] :: wsA) 8 182 cI cJ cZ cMic cSrc cSt cAI cAJ cD D h0 ad T (oJ ao cJ f) [.ref (ad o), .int a0, .int a1, .ref ao] (vck 1 2 3 (e1 + 1)) T1 (oJ ao cJ (vfJ (e1 + 1) f r1.toInt64)) := by
  intro sz
  refine va_MetW (cc := cL_trackCell) (maxL := 5) (ret := some .int) (by decide) rfl ?_
  intro p e s m args below meth c s₁ B hml hv
  obtain ⟨rfl, hsz, hP, hK, hD0, hX, hN, hA0, hTS⟩ := hv
  have hx := B.exec
  have hb := B.bytes
  have hr := B.returns
  have hts := atoms_spec (ws := (Cond.codeWith yL_trackCell cL_trackCell 5 (some .int) [(0, 10, 13, 21), (0, 10, 17, 13), (0, 10, 21, 15)] :: wsA)) B.pre
  have hown : s.vm.findClass RL = some m.cls := findClass_of_methodNamed B.named
  have hlocks := B.notSynchronized
  have htb := vx_table (x := yL_trackCell) B (hts _ (.head _))
  subst hsz
  have hD := hD0.self (sz := s.heap.size)
  generalize hAe : va_A (cW ad T.1 (cc cI cJ cZ cMic cSrc cSt cAI cAJ ad T) ++ [oJ ao cJ f]) s.heap.size = A at hD hX hA0 ⊢
  have hA : ∀ q : Nat, s.heap.size ≤ q → A q := fun q h => by rw [← hAe]; exact Or.inr h
  have G : gL cI cJ cZ cMic cSrc cSt cAI cAJ D ad A s.heap s.heap [] T [oJ ao cJ f] := ⟨hP, hD, va_S.rf⟩
  have E : cE p c cL_trackCell s m ([.ref (ad o), .int a0, .int a1, .ref ao] : List Value).toArray (Cond.codeWith yL_trackCell cL_trackCell 5 (some .int) [(0, 10, 13, 21), (0, 10, 17, 13), (0, 10, 21, 15)] :: wsA) D RL (CT cI cJ cZ cMic cSrc cSt cAI cAJ ++ [(cD, .double)]) := ⟨hx, hb, hts, hown, hK⟩
  have hl := lv_entry ([.ref (ad o), .int a0, .int a1, .ref ao]) (n := 5) (Nat.le_of_ble_eq_true rfl)
  rw [lg_entry_eq]
  generalize (lg_sl ([.ref (ad o), .int a0, .int a1, .ref ao]) ++ List.replicate (5 - (lg_sl ([.ref (ad o), .int a0, .int a1, .ref ao])).length) Slot.unset).toArray = ls at hl ⊢
  have hl : lv_has ls 5 [(0, .ref (ad o)), (1, .int a0), (2, .int a1), (3, .ref ao)] := hl
  refine lv_aload_n hx hb dL_trackCell_0 rfl (lv_at hl 3 rfl) ?_
  refine lv_iconst (v := 0) hx hb dL_trackCell_1 (by decide) ?_
  refine lv_aload_n hx hb dL_trackCell_2 rfl (lv_at hl 0 rfl) ?_
  refine lv_iload_n hx hb dL_trackCell_3 rfl (lv_at hl 1 rfl) ?_
  refine lv_iload_n hx hb dL_trackCell_4 rfl (lv_at hl 2 rfl) ?_
  refine t_bvi (As := [.int a0, .int a1]) (rest := [.int 0, .ref ao]) E G hA hX hX.2.2.2.1 hml (b_X11_trackCell l hst D cI cJ cZ cMic cSrc cSt cAI cAJ ad T o a0 a1 h hrc h_o) (cwV 2 hts (gaV qA_1073 qA_1074 qA_1075 qA_131 qA_871) rfl rfl rfl (by decide +kernel) ⟨Nat.le_of_ble_eq_true rfl, Nat.le_of_ble_eq_true rfl⟩) h_o (cc_o11 h_s) rfl rfl hl.1 rfl (lv_room (Nat.le_of_ble_eq_true rfl)) dL_trackCell_5 ⟨by show 0 + (T1.1 - T.1 + 1) ≤ T1.1 - T.1 + 1; omega, by show 0 + (sg T1 - sg T + 6) ≤ sg T1 - sg T + 6; omega⟩ ?_
  intro E9 ce q9 ad2 H locs hE had G hce hcv hcl
  rcases e1 with _ | _ | e1
  · have hE : E9 = xISE := hE
    subst hE
    refine vx_catch (name := xISE) hown [] { startPc := 0, endPc := 10, handlerPc := 13, catchType := 21 } [{ startPc := 0, endPc := 10, handlerPc := 17, catchType := 13 }, { startPc := 0, endPc := 10, handlerPc := 21, catchType := 15 }] htb (fun z hz => absurd hz List.not_mem_nil) (by decide) (by decide) (hts _ (.tail _ qA_952)) (hX.use (.castable xISE xISE) (by decide +kernel)) hce hcv hcl ?_
    refine lv_astore (lv' := [(4, .ref q9), (0, .ref (ad o)), (1, .int a0), (2, .int a1), (3, .ref ao)]) hx hb dL_trackCell_13 hl (by decide) rfl (fun ls hl => ?_)
    refine lv_iconst (v := 1) hx hb dL_trackCell_15 (by decide) ?_
    refine W.widen (k := T1.1 - T.1 + 1) (n := sg T1 - sg T + 6) (by omega) (by omega) ?_
    exact W.iret (v := 1) hx hb hr (fun t ht hW => ⟨⟨1, ad2, rfl, ⟨rfl, had⟩, ⟨by rw [ht]; exact G.1, va_K.moved hW.alike hK, G.2.1⟩⟩, G.2.2.F ht⟩) G.2.2.2.2 dL_trackCell_16
  · have hE : E9 = xIOB := hE
    subst hE
    refine vx_catch (name := xIOB) hown [{ startPc := 0, endPc := 10, handlerPc := 13, catchType := 21 }] { startPc := 0, endPc := 10, handlerPc := 17, catchType := 13 } [{ startPc := 0, endPc := 10, handlerPc := 21, catchType := 15 }] htb (List.forall_mem_cons.mpr ⟨Or.inr ⟨by decide, xISE, hts _ (.tail _ qA_952), hN.2.2.1⟩, fun z hz => absurd hz List.not_mem_nil⟩) (by decide) (by decide) (hts _ (.tail _ qA_946)) (hX.use (.castable xIOB xIOB) (by decide +kernel)) hce hcv hcl ?_
    refine lv_astore (lv' := [(4, .ref q9), (0, .ref (ad o)), (1, .int a0), (2, .int a1), (3, .ref ao)]) hx hb dL_trackCell_17 hl (by decide) rfl (fun ls hl => ?_)
    refine lv_iconst (v := 2) hx hb dL_trackCell_19 (by decide) ?_
    refine W.widen (k := T1.1 - T.1 + 1) (n := sg T1 - sg T + 6) (by omega) (by omega) ?_
    exact W.iret (v := 2) hx hb hr (fun t ht hW => ⟨⟨2, ad2, rfl, ⟨rfl, had⟩, ⟨by rw [ht]; exact G.1, va_K.moved hW.alike hK, G.2.1⟩⟩, G.2.2.F ht⟩) G.2.2.2.2 dL_trackCell_20
  · have hE : E9 = xIAE := hE
    subst hE
    refine vx_catch (name := xIAE) hown [{ startPc := 0, endPc := 10, handlerPc := 13, catchType := 21 }, { startPc := 0, endPc := 10, handlerPc := 17, catchType := 13 }] { startPc := 0, endPc := 10, handlerPc := 21, catchType := 15 } [] htb (List.forall_mem_cons.mpr ⟨Or.inr ⟨by decide, xISE, hts _ (.tail _ qA_952), hN.2.2.2⟩, List.forall_mem_cons.mpr ⟨Or.inr ⟨by decide, xIOB, hts _ (.tail _ qA_946), hN.1⟩, fun z hz => absurd hz List.not_mem_nil⟩⟩) (by decide) (by decide) (hts _ (.tail _ qA_947)) (hX.use (.castable xIAE xIAE) (by decide +kernel)) hce hcv hcl ?_
    refine lv_astore (lv' := [(4, .ref q9), (0, .ref (ad o)), (1, .int a0), (2, .int a1), (3, .ref ao)]) hx hb dL_trackCell_21 hl (by decide) rfl (fun ls hl => ?_)
    refine lv_iconst (v := 3) hx hb dL_trackCell_23 (by decide) ?_
    refine W.widen (k := T1.1 - T.1 + 1) (n := sg T1 - sg T + 6) (by omega) (by omega) ?_
    exact W.iret (v := 3) hx hb hr (fun t ht hW => ⟨⟨3, ad2, rfl, ⟨rfl, had⟩, ⟨by rw [ht]; exact G.1, va_K.moved hW.alike hK, G.2.1⟩⟩, G.2.2.F ht⟩) G.2.2.2.2 dL_trackCell_24
theorem v_trackCell (l : Launch) (hst : l.stackTraces = false) (D : va_G) {cI cJ cZ cMic cSrc cSt cAI cAJ cD : ClassId} (h0 : Nat) (ad : Nat → Nat) (T : AT) (o : Nat) (a0 a1 : Int32) (ao : Nat) (f : Nat → Int64) {k1 : Nat} {r1 : Int32} {T1 : AT} (h : g_X11_trackCell T o a0 a1 = some (k1, r1, T1)) (hrc : RC T) (h_o : o < T.1) (h_s : T.2.1 o = (11, 0)) : tWi l yL_trackCell (Cond.codeWith yL_trackCell cL_trackCell 5 (some .int) [(0, 10, 13, 21), (0, 10, 17, 13), (0, 10, 21, 15)] :: wsA) 8 182 cI cJ cZ cMic cSrc cSt cAI cAJ cD D h0 ad T (oJ ao cJ f) [.ref (ad o), .int a0, .int a1, .ref ao] (vck 1 2 3 k1) T1 (oJ ao cJ (vfJ k1 f r1.toInt64)) := by
  cases k1 with
  | zero => exact v_trackCell_n l hst D h0 ad T o a0 a1 ao f h hrc h_o h_s
  | succ e1 => exact v_trackCell_t l hst D h0 ad T o a0 a1 ao f h hrc h_o h_s
set_option maxHeartbeats 4000000 in
set_option maxRecDepth 100000 in
theorem v_movingPower_n (l : Launch) (hst : l.stackTraces = false) (D : va_G) {cI cJ cZ cMic cSrc cSt cAI cAJ cD : ClassId} (h0 : Nat) (ad : Nat → Nat) (T : AT) (o : Nat) (a0 a1 a2 : Int32) (ao : Nat) (f : Nat → Int64) {r1 : Int64} {T1 : AT} (h : g_X11_movingPower T o a0 a1 a2 = some (0, r1, T1)) (hrc : RC T) (h_o : o < T.1) (h_s : T.2.1 o = (11, 0)) : tWi l yL_movingPower (Cond.codeWith yL_movingPower cL_movingPower 6 (some .int) [(0, 11, 14, 21), (0, 11, 18, 13), (0, 11, 22, 15)] :: wsA) 9 146 cI cJ cZ cMic cSrc cSt cAI cAJ cD D h0 ad T (oJ ao cJ f) [.ref (ad o), .int a0, .int a1, .int a2, .ref ao] (vck 1 2 3 (0)) T1 (oJ ao cJ (vfJ (0) f r1)) := by
  intro sz
  refine va_MetW (cc := cL_movingPower) (maxL := 6) (ret := some .int) (by decide) rfl ?_
  intro p e s m args below meth c s₁ B hml hv
  obtain ⟨rfl, hsz, hP, hK, hD0, hX, hN, hA0, hTS⟩ := hv
  have hx := B.exec
  have hb := B.bytes
  have hr := B.returns
  have hts := atoms_spec (ws := (Cond.codeWith yL_movingPower cL_movingPower 6 (some .int) [(0, 11, 14, 21), (0, 11, 18, 13), (0, 11, 22, 15)] :: wsA)) B.pre
  have hown : s.vm.findClass RL = some m.cls := findClass_of_methodNamed B.named
  have hlocks := B.notSynchronized
  have htb := vx_table (x := yL_movingPower) B (hts _ (.head _))
  subst hsz
  have hD := hD0.self (sz := s.heap.size)
  generalize hAe : va_A (cW ad T.1 (cc cI cJ cZ cMic cSrc cSt cAI cAJ ad T) ++ [oJ ao cJ f]) s.heap.size = A at hD hX hA0 ⊢
  have hA : ∀ q : Nat, s.heap.size ≤ q → A q := fun q h => by rw [← hAe]; exact Or.inr h
  have G : gL cI cJ cZ cMic cSrc cSt cAI cAJ D ad A s.heap s.heap [] T [oJ ao cJ f] := ⟨hP, hD, va_S.rf⟩
  have E : cE p c cL_movingPower s m ([.ref (ad o), .int a0, .int a1, .int a2, .ref ao] : List Value).toArray (Cond.codeWith yL_movingPower cL_movingPower 6 (some .int) [(0, 11, 14, 21), (0, 11, 18, 13), (0, 11, 22, 15)] :: wsA) D RL (CT cI cJ cZ cMic cSrc cSt cAI cAJ ++ [(cD, .double)]) := ⟨hx, hb, hts, hown, hK⟩
  have hl := lv_entry ([.ref (ad o), .int a0, .int a1, .int a2, .ref ao]) (n := 6) (Nat.le_of_ble_eq_true rfl)
  rw [lg_entry_eq]
  generalize (lg_sl ([.ref (ad o), .int a0, .int a1, .int a2, .ref ao]) ++ List.replicate (6 - (lg_sl ([.ref (ad o), .int a0, .int a1, .int a2, .ref ao])).length) Slot.unset).toArray = ls at hl ⊢
  have hl : lv_has ls 6 [(0, .ref (ad o)), (1, .int a0), (2, .int a1), (3, .int a2), (4, .ref ao)] := hl
  refine lv_aload hx hb dL_movingPower_0 (lv_at hl 4 rfl) ?_
  refine lv_iconst (v := 0) hx hb dL_movingPower_2 (by decide) ?_
  refine lv_aload_n hx hb dL_movingPower_3 rfl (lv_at hl 0 rfl) ?_
  refine lv_iload_n hx hb dL_movingPower_4 rfl (lv_at hl 1 rfl) ?_
  refine lv_iload_n hx hb dL_movingPower_5 rfl (lv_at hl 2 rfl) ?_
  refine lv_iload_n hx hb dL_movingPower_6 rfl (lv_at hl 3 rfl) ?_
  refine t_avl (As := [.int a0, .int a1, .int a2]) (rest := [.int 0, .ref ao]) E G hA hX hX.2.2.2.1 hml (a_X11_movingPower l hst D cI cJ cZ cMic cSrc cSt cAI cAJ ad T o a0 a1 a2 h hrc h_o) (cwV 3 hts (gaV qA_1077 qA_1078 qA_1079 qA_131 qA_873) rfl rfl rfl (by decide +kernel) ⟨Nat.le_of_ble_eq_true rfl, Nat.le_of_ble_eq_true rfl⟩) h_o (cc_o11 h_s) rfl rfl hl.1 rfl (lv_room (Nat.le_of_ble_eq_true rfl)) dL_movingPower_7 ⟨by show 0 + (T1.1 - T.1) ≤ T1.1 - T.1 + 1; omega, by show 0 + (sg T1 - sg T) ≤ sg T1 - sg T + 6; omega⟩ ?_
  intro ad2 H locs had G
  refine t_last E G dL_movingPower_10 (fun H locs G => ?_)
  refine lv_goto (tgt := 26) hx hb dL_movingPower_11 (by decide) ?_
  refine lv_iconst (v := 0) hx hb dL_movingPower_26 (by decide) ?_
  refine W.widen (k := T1.1 - T.1 + 1) (n := sg T1 - sg T + 6) (by omega) (by omega) ?_
  exact W.iret (v := 0) hx hb hr (fun t ht hW => ⟨⟨0, ad2, rfl, ⟨rfl, had⟩, ⟨by rw [ht]; exact G.1, va_K.moved hW.alike hK, G.2.1⟩⟩, G.2.2.F ht⟩) G.2.2.2.2 dL_movingPower_27
set_option maxHeartbeats 4000000 in
set_option maxRecDepth 100000 in
theorem v_movingPower_t (l : Launch) (hst : l.stackTraces = false) (D : va_G) {cI cJ cZ cMic cSrc cSt cAI cAJ cD : ClassId} (h0 : Nat) (ad : Nat → Nat) (T : AT) (o : Nat) (a0 a1 a2 : Int32) (ao : Nat) (f : Nat → Int64) {e1 : Nat} {r1 : Int64} {T1 : AT} (h : g_X11_movingPower T o a0 a1 a2 = some (e1 + 1, r1, T1)) (hrc : RC T) (h_o : o < T.1) (h_s : T.2.1 o = (11, 0)) : tWi l yL_movingPower (Cond.codeWith yL_movingPower cL_movingPower 6 (some .int) [(0, 11, 14, 21), (0, 11, 18, 13), (0, 11, 22, 15)] :: wsA) 9 146 cI cJ cZ cMic cSrc cSt cAI cAJ cD D h0 ad T (oJ ao cJ f) [.ref (ad o), .int a0, .int a1, .int a2, .ref ao] (vck 1 2 3 (e1 + 1)) T1 (oJ ao cJ (vfJ (e1 + 1) f r1)) := by
  intro sz
  refine va_MetW (cc := cL_movingPower) (maxL := 6) (ret := some .int) (by decide) rfl ?_
  intro p e s m args below meth c s₁ B hml hv
  obtain ⟨rfl, hsz, hP, hK, hD0, hX, hN, hA0, hTS⟩ := hv
  have hx := B.exec
  have hb := B.bytes
  have hr := B.returns
  have hts := atoms_spec (ws := (Cond.codeWith yL_movingPower cL_movingPower 6 (some .int) [(0, 11, 14, 21), (0, 11, 18, 13), (0, 11, 22, 15)] :: wsA)) B.pre
  have hown : s.vm.findClass RL = some m.cls := findClass_of_methodNamed B.named
  have hlocks := B.notSynchronized
  have htb := vx_table (x := yL_movingPower) B (hts _ (.head _))
  subst hsz
  have hD := hD0.self (sz := s.heap.size)
  generalize hAe : va_A (cW ad T.1 (cc cI cJ cZ cMic cSrc cSt cAI cAJ ad T) ++ [oJ ao cJ f]) s.heap.size = A at hD hX hA0 ⊢
  have hA : ∀ q : Nat, s.heap.size ≤ q → A q := fun q h => by rw [← hAe]; exact Or.inr h
  have G : gL cI cJ cZ cMic cSrc cSt cAI cAJ D ad A s.heap s.heap [] T [oJ ao cJ f] := ⟨hP, hD, va_S.rf⟩
  have E : cE p c cL_movingPower s m ([.ref (ad o), .int a0, .int a1, .int a2, .ref ao] : List Value).toArray (Cond.codeWith yL_movingPower cL_movingPower 6 (some .int) [(0, 11, 14, 21), (0, 11, 18, 13), (0, 11, 22, 15)] :: wsA) D RL (CT cI cJ cZ cMic cSrc cSt cAI cAJ ++ [(cD, .double)]) := ⟨hx, hb, hts, hown, hK⟩
  have hl := lv_entry ([.ref (ad o), .int a0, .int a1, .int a2, .ref ao]) (n := 6) (Nat.le_of_ble_eq_true rfl)
  rw [lg_entry_eq]
  generalize (lg_sl ([.ref (ad o), .int a0, .int a1, .int a2, .ref ao]) ++ List.replicate (6 - (lg_sl ([.ref (ad o), .int a0, .int a1, .int a2, .ref ao])).length) Slot.unset).toArray = ls at hl ⊢
  have hl : lv_has ls 6 [(0, .ref (ad o)), (1, .int a0), (2, .int a1), (3, .int a2), (4, .ref ao)] := hl
  refine lv_aload hx hb dL_movingPower_0 (lv_at hl 4 rfl) ?_
  refine lv_iconst (v := 0) hx hb dL_movingPower_2 (by decide) ?_
  refine lv_aload_n hx hb dL_movingPower_3 rfl (lv_at hl 0 rfl) ?_
  refine lv_iload_n hx hb dL_movingPower_4 rfl (lv_at hl 1 rfl) ?_
  refine lv_iload_n hx hb dL_movingPower_5 rfl (lv_at hl 2 rfl) ?_
  refine lv_iload_n hx hb dL_movingPower_6 rfl (lv_at hl 3 rfl) ?_
  refine t_bvl (As := [.int a0, .int a1, .int a2]) (rest := [.int 0, .ref ao]) E G hA hX hX.2.2.2.1 hml (b_X11_movingPower l hst D cI cJ cZ cMic cSrc cSt cAI cAJ ad T o a0 a1 a2 h hrc h_o) (cwV 3 hts (gaV qA_1077 qA_1078 qA_1079 qA_131 qA_873) rfl rfl rfl (by decide +kernel) ⟨Nat.le_of_ble_eq_true rfl, Nat.le_of_ble_eq_true rfl⟩) h_o (cc_o11 h_s) rfl rfl hl.1 rfl (lv_room (Nat.le_of_ble_eq_true rfl)) dL_movingPower_7 ⟨by show 0 + (T1.1 - T.1 + 1) ≤ T1.1 - T.1 + 1; omega, by show 0 + (sg T1 - sg T + 6) ≤ sg T1 - sg T + 6; omega⟩ ?_
  intro E9 ce q9 ad2 H locs hE had G hce hcv hcl
  rcases e1 with _ | _ | e1
  · have hE : E9 = xISE := hE
    subst hE
    refine vx_catch (name := xISE) hown [] { startPc := 0, endPc := 11, handlerPc := 14, catchType := 21 } [{ startPc := 0, endPc := 11, handlerPc := 18, catchType := 13 }, { startPc := 0, endPc := 11, handlerPc := 22, catchType := 15 }] htb (fun z hz => absurd hz List.not_mem_nil) (by decide) (by decide) (hts _ (.tail _ qA_952)) (hX.use (.castable xISE xISE) (by decide +kernel)) hce hcv hcl ?_
    refine lv_astore (lv' := [(5, .ref q9), (0, .ref (ad o)), (1, .int a0), (2, .int a1), (3, .int a2), (4, .ref ao)]) hx hb dL_movingPower_14 hl (by decide) rfl (fun ls hl => ?_)
    refine lv_iconst (v := 1) hx hb dL_movingPower_16 (by decide) ?_
    refine W.widen (k := T1.1 - T.1 + 1) (n := sg T1 - sg T + 6) (by omega) (by omega) ?_
    exact W.iret (v := 1) hx hb hr (fun t ht hW => ⟨⟨1, ad2, rfl, ⟨rfl, had⟩, ⟨by rw [ht]; exact G.1, va_K.moved hW.alike hK, G.2.1⟩⟩, G.2.2.F ht⟩) G.2.2.2.2 dL_movingPower_17
  · have hE : E9 = xIOB := hE
    subst hE
    refine vx_catch (name := xIOB) hown [{ startPc := 0, endPc := 11, handlerPc := 14, catchType := 21 }] { startPc := 0, endPc := 11, handlerPc := 18, catchType := 13 } [{ startPc := 0, endPc := 11, handlerPc := 22, catchType := 15 }] htb (List.forall_mem_cons.mpr ⟨Or.inr ⟨by decide, xISE, hts _ (.tail _ qA_952), hN.2.2.1⟩, fun z hz => absurd hz List.not_mem_nil⟩) (by decide) (by decide) (hts _ (.tail _ qA_946)) (hX.use (.castable xIOB xIOB) (by decide +kernel)) hce hcv hcl ?_
    refine lv_astore (lv' := [(5, .ref q9), (0, .ref (ad o)), (1, .int a0), (2, .int a1), (3, .int a2), (4, .ref ao)]) hx hb dL_movingPower_18 hl (by decide) rfl (fun ls hl => ?_)
    refine lv_iconst (v := 2) hx hb dL_movingPower_20 (by decide) ?_
    refine W.widen (k := T1.1 - T.1 + 1) (n := sg T1 - sg T + 6) (by omega) (by omega) ?_
    exact W.iret (v := 2) hx hb hr (fun t ht hW => ⟨⟨2, ad2, rfl, ⟨rfl, had⟩, ⟨by rw [ht]; exact G.1, va_K.moved hW.alike hK, G.2.1⟩⟩, G.2.2.F ht⟩) G.2.2.2.2 dL_movingPower_21
  · have hE : E9 = xIAE := hE
    subst hE
    refine vx_catch (name := xIAE) hown [{ startPc := 0, endPc := 11, handlerPc := 14, catchType := 21 }, { startPc := 0, endPc := 11, handlerPc := 18, catchType := 13 }] { startPc := 0, endPc := 11, handlerPc := 22, catchType := 15 } [] htb (List.forall_mem_cons.mpr ⟨Or.inr ⟨by decide, xISE, hts _ (.tail _ qA_952), hN.2.2.2⟩, List.forall_mem_cons.mpr ⟨Or.inr ⟨by decide, xIOB, hts _ (.tail _ qA_946), hN.1⟩, fun z hz => absurd hz List.not_mem_nil⟩⟩) (by decide) (by decide) (hts _ (.tail _ qA_947)) (hX.use (.castable xIAE xIAE) (by decide +kernel)) hce hcv hcl ?_
    refine lv_astore (lv' := [(5, .ref q9), (0, .ref (ad o)), (1, .int a0), (2, .int a1), (3, .int a2), (4, .ref ao)]) hx hb dL_movingPower_22 hl (by decide) rfl (fun ls hl => ?_)
    refine lv_iconst (v := 3) hx hb dL_movingPower_24 (by decide) ?_
    refine W.widen (k := T1.1 - T.1 + 1) (n := sg T1 - sg T + 6) (by omega) (by omega) ?_
    exact W.iret (v := 3) hx hb hr (fun t ht hW => ⟨⟨3, ad2, rfl, ⟨rfl, had⟩, ⟨by rw [ht]; exact G.1, va_K.moved hW.alike hK, G.2.1⟩⟩, G.2.2.F ht⟩) G.2.2.2.2 dL_movingPower_25
theorem v_movingPower (l : Launch) (hst : l.stackTraces = false) (D : va_G) {cI cJ cZ cMic cSrc cSt cAI cAJ cD : ClassId} (h0 : Nat) (ad : Nat → Nat) (T : AT) (o : Nat) (a0 a1 a2 : Int32) (ao : Nat) (f : Nat → Int64) {k1 : Nat} {r1 : Int64} {T1 : AT} (h : g_X11_movingPower T o a0 a1 a2 = some (k1, r1, T1)) (hrc : RC T) (h_o : o < T.1) (h_s : T.2.1 o = (11, 0)) : tWi l yL_movingPower (Cond.codeWith yL_movingPower cL_movingPower 6 (some .int) [(0, 11, 14, 21), (0, 11, 18, 13), (0, 11, 22, 15)] :: wsA) 9 146 cI cJ cZ cMic cSrc cSt cAI cAJ cD D h0 ad T (oJ ao cJ f) [.ref (ad o), .int a0, .int a1, .int a2, .ref ao] (vck 1 2 3 k1) T1 (oJ ao cJ (vfJ k1 f r1)) := by
  cases k1 with
  | zero => exact v_movingPower_n l hst D h0 ad T o a0 a1 a2 ao f h hrc h_o h_s
  | succ e1 => exact v_movingPower_t l hst D h0 ad T o a0 a1 a2 ao f h hrc h_o h_s
set_option maxHeartbeats 4000000 in
set_option maxRecDepth 100000 in
theorem v_bestVelocity_n (l : Launch) (hst : l.stackTraces = false) (D : va_G) {cI cJ cZ cMic cSrc cSt cAI cAJ cD : ClassId} (h0 : Nat) (ad : Nat → Nat) (T : AT) (o : Nat) (a0 a1 a2 : Int32) (ao : Nat) (f : Nat → Int64) {r1 : Int32} {T1 : AT} (h : g_X11_bestVelocity T o a0 a1 a2 = some (0, r1, T1)) (hrc : RC T) (h_o : o < T.1) (h_s : T.2.1 o = (11, 0)) : tWi l yL_bestVelocity (Cond.codeWith yL_bestVelocity cL_bestVelocity 6 (some .int) [(0, 12, 15, 21), (0, 12, 19, 13), (0, 12, 23, 15)] :: wsA) 9 149 cI cJ cZ cMic cSrc cSt cAI cAJ cD D h0 ad T (oJ ao cJ f) [.ref (ad o), .int a0, .int a1, .int a2, .ref ao] (vck 1 2 3 (0)) T1 (oJ ao cJ (vfJ (0) f r1.toInt64)) := by
  intro sz
  refine va_MetW (cc := cL_bestVelocity) (maxL := 6) (ret := some .int) (by decide) rfl ?_
  intro p e s m args below meth c s₁ B hml hv
  obtain ⟨rfl, hsz, hP, hK, hD0, hX, hN, hA0, hTS⟩ := hv
  have hx := B.exec
  have hb := B.bytes
  have hr := B.returns
  have hts := atoms_spec (ws := (Cond.codeWith yL_bestVelocity cL_bestVelocity 6 (some .int) [(0, 12, 15, 21), (0, 12, 19, 13), (0, 12, 23, 15)] :: wsA)) B.pre
  have hown : s.vm.findClass RL = some m.cls := findClass_of_methodNamed B.named
  have hlocks := B.notSynchronized
  have htb := vx_table (x := yL_bestVelocity) B (hts _ (.head _))
  subst hsz
  have hD := hD0.self (sz := s.heap.size)
  generalize hAe : va_A (cW ad T.1 (cc cI cJ cZ cMic cSrc cSt cAI cAJ ad T) ++ [oJ ao cJ f]) s.heap.size = A at hD hX hA0 ⊢
  have hA : ∀ q : Nat, s.heap.size ≤ q → A q := fun q h => by rw [← hAe]; exact Or.inr h
  have G : gL cI cJ cZ cMic cSrc cSt cAI cAJ D ad A s.heap s.heap [] T [oJ ao cJ f] := ⟨hP, hD, va_S.rf⟩
  have E : cE p c cL_bestVelocity s m ([.ref (ad o), .int a0, .int a1, .int a2, .ref ao] : List Value).toArray (Cond.codeWith yL_bestVelocity cL_bestVelocity 6 (some .int) [(0, 12, 15, 21), (0, 12, 19, 13), (0, 12, 23, 15)] :: wsA) D RL (CT cI cJ cZ cMic cSrc cSt cAI cAJ ++ [(cD, .double)]) := ⟨hx, hb, hts, hown, hK⟩
  have hl := lv_entry ([.ref (ad o), .int a0, .int a1, .int a2, .ref ao]) (n := 6) (Nat.le_of_ble_eq_true rfl)
  rw [lg_entry_eq]
  generalize (lg_sl ([.ref (ad o), .int a0, .int a1, .int a2, .ref ao]) ++ List.replicate (6 - (lg_sl ([.ref (ad o), .int a0, .int a1, .int a2, .ref ao])).length) Slot.unset).toArray = ls at hl ⊢
  have hl : lv_has ls 6 [(0, .ref (ad o)), (1, .int a0), (2, .int a1), (3, .int a2), (4, .ref ao)] := hl
  refine lv_aload hx hb dL_bestVelocity_0 (lv_at hl 4 rfl) ?_
  refine lv_iconst (v := 0) hx hb dL_bestVelocity_2 (by decide) ?_
  refine lv_aload_n hx hb dL_bestVelocity_3 rfl (lv_at hl 0 rfl) ?_
  refine lv_iload_n hx hb dL_bestVelocity_4 rfl (lv_at hl 1 rfl) ?_
  refine lv_iload_n hx hb dL_bestVelocity_5 rfl (lv_at hl 2 rfl) ?_
  refine lv_iload_n hx hb dL_bestVelocity_6 rfl (lv_at hl 3 rfl) ?_
  refine t_avi (As := [.int a0, .int a1, .int a2]) (rest := [.int 0, .ref ao]) E G hA hX hX.2.2.2.1 hml (a_X11_bestVelocity l hst D cI cJ cZ cMic cSrc cSt cAI cAJ ad T o a0 a1 a2 h hrc h_o) (cwV 3 hts (gaV qA_1081 qA_1082 qA_1083 qA_131 qA_880) rfl rfl rfl (by decide +kernel) ⟨Nat.le_of_ble_eq_true rfl, Nat.le_of_ble_eq_true rfl⟩) h_o (cc_o11 h_s) rfl rfl hl.1 rfl (lv_room (Nat.le_of_ble_eq_true rfl)) dL_bestVelocity_7 ⟨by show 0 + (T1.1 - T.1) ≤ T1.1 - T.1 + 1; omega, by show 0 + (sg T1 - sg T) ≤ sg T1 - sg T + 6; omega⟩ ?_
  intro ad2 H locs had G
  refine lv_i2l (v := r1.toInt64) hx hb dL_bestVelocity_10 rfl ?_
  refine t_last E G dL_bestVelocity_11 (fun H locs G => ?_)
  refine lv_goto (tgt := 27) hx hb dL_bestVelocity_12 (by decide) ?_
  refine lv_iconst (v := 0) hx hb dL_bestVelocity_27 (by decide) ?_
  refine W.widen (k := T1.1 - T.1 + 1) (n := sg T1 - sg T + 6) (by omega) (by omega) ?_
  exact W.iret (v := 0) hx hb hr (fun t ht hW => ⟨⟨0, ad2, rfl, ⟨rfl, had⟩, ⟨by rw [ht]; exact G.1, va_K.moved hW.alike hK, G.2.1⟩⟩, G.2.2.F ht⟩) G.2.2.2.2 dL_bestVelocity_28
set_option maxHeartbeats 4000000 in
set_option maxRecDepth 100000 in
theorem v_bestVelocity_t (l : Launch) (hst : l.stackTraces = false) (D : va_G) {cI cJ cZ cMic cSrc cSt cAI cAJ cD : ClassId} (h0 : Nat) (ad : Nat → Nat) (T : AT) (o : Nat) (a0 a1 a2 : Int32) (ao : Nat) (f : Nat → Int64) {e1 : Nat} {r1 : Int32} {T1 : AT} (h : g_X11_bestVelocity T o a0 a1 a2 = some (e1 + 1, r1, T1)) (hrc : RC T) (h_o : o < T.1) (h_s : T.2.1 o = (11, 0)) : tWi l yL_bestVelocity (Cond.codeWith yL_bestVelocity cL_bestVelocity 6 (some .int) [(0, 12, 15, 21), (0, 12, 19, 13), (0, 12, 23, 15)] :: wsA) 9 149 cI cJ cZ cMic cSrc cSt cAI cAJ cD D h0 ad T (oJ ao cJ f) [.ref (ad o), .int a0, .int a1, .int a2, .ref ao] (vck 1 2 3 (e1 + 1)) T1 (oJ ao cJ (vfJ (e1 + 1) f r1.toInt64)) := by
  intro sz
  refine va_MetW (cc := cL_bestVelocity) (maxL := 6) (ret := some .int) (by decide) rfl ?_
  intro p e s m args below meth c s₁ B hml hv
  obtain ⟨rfl, hsz, hP, hK, hD0, hX, hN, hA0, hTS⟩ := hv
  have hx := B.exec
  have hb := B.bytes
  have hr := B.returns
  have hts := atoms_spec (ws := (Cond.codeWith yL_bestVelocity cL_bestVelocity 6 (some .int) [(0, 12, 15, 21), (0, 12, 19, 13), (0, 12, 23, 15)] :: wsA)) B.pre
  have hown : s.vm.findClass RL = some m.cls := findClass_of_methodNamed B.named
  have hlocks := B.notSynchronized
  have htb := vx_table (x := yL_bestVelocity) B (hts _ (.head _))
  subst hsz
  have hD := hD0.self (sz := s.heap.size)
  generalize hAe : va_A (cW ad T.1 (cc cI cJ cZ cMic cSrc cSt cAI cAJ ad T) ++ [oJ ao cJ f]) s.heap.size = A at hD hX hA0 ⊢
  have hA : ∀ q : Nat, s.heap.size ≤ q → A q := fun q h => by rw [← hAe]; exact Or.inr h
  have G : gL cI cJ cZ cMic cSrc cSt cAI cAJ D ad A s.heap s.heap [] T [oJ ao cJ f] := ⟨hP, hD, va_S.rf⟩
  have E : cE p c cL_bestVelocity s m ([.ref (ad o), .int a0, .int a1, .int a2, .ref ao] : List Value).toArray (Cond.codeWith yL_bestVelocity cL_bestVelocity 6 (some .int) [(0, 12, 15, 21), (0, 12, 19, 13), (0, 12, 23, 15)] :: wsA) D RL (CT cI cJ cZ cMic cSrc cSt cAI cAJ ++ [(cD, .double)]) := ⟨hx, hb, hts, hown, hK⟩
  have hl := lv_entry ([.ref (ad o), .int a0, .int a1, .int a2, .ref ao]) (n := 6) (Nat.le_of_ble_eq_true rfl)
  rw [lg_entry_eq]
  generalize (lg_sl ([.ref (ad o), .int a0, .int a1, .int a2, .ref ao]) ++ List.replicate (6 - (lg_sl ([.ref (ad o), .int a0, .int a1, .int a2, .ref ao])).length) Slot.unset).toArray = ls at hl ⊢
  have hl : lv_has ls 6 [(0, .ref (ad o)), (1, .int a0), (2, .int a1), (3, .int a2), (4, .ref ao)] := hl
  refine lv_aload hx hb dL_bestVelocity_0 (lv_at hl 4 rfl) ?_
  refine lv_iconst (v := 0) hx hb dL_bestVelocity_2 (by decide) ?_
  refine lv_aload_n hx hb dL_bestVelocity_3 rfl (lv_at hl 0 rfl) ?_
  refine lv_iload_n hx hb dL_bestVelocity_4 rfl (lv_at hl 1 rfl) ?_
  refine lv_iload_n hx hb dL_bestVelocity_5 rfl (lv_at hl 2 rfl) ?_
  refine lv_iload_n hx hb dL_bestVelocity_6 rfl (lv_at hl 3 rfl) ?_
  refine t_bvi (As := [.int a0, .int a1, .int a2]) (rest := [.int 0, .ref ao]) E G hA hX hX.2.2.2.1 hml (b_X11_bestVelocity l hst D cI cJ cZ cMic cSrc cSt cAI cAJ ad T o a0 a1 a2 h hrc h_o) (cwV 3 hts (gaV qA_1081 qA_1082 qA_1083 qA_131 qA_880) rfl rfl rfl (by decide +kernel) ⟨Nat.le_of_ble_eq_true rfl, Nat.le_of_ble_eq_true rfl⟩) h_o (cc_o11 h_s) rfl rfl hl.1 rfl (lv_room (Nat.le_of_ble_eq_true rfl)) dL_bestVelocity_7 ⟨by show 0 + (T1.1 - T.1 + 1) ≤ T1.1 - T.1 + 1; omega, by show 0 + (sg T1 - sg T + 6) ≤ sg T1 - sg T + 6; omega⟩ ?_
  intro E9 ce q9 ad2 H locs hE had G hce hcv hcl
  rcases e1 with _ | _ | e1
  · have hE : E9 = xISE := hE
    subst hE
    refine vx_catch (name := xISE) hown [] { startPc := 0, endPc := 12, handlerPc := 15, catchType := 21 } [{ startPc := 0, endPc := 12, handlerPc := 19, catchType := 13 }, { startPc := 0, endPc := 12, handlerPc := 23, catchType := 15 }] htb (fun z hz => absurd hz List.not_mem_nil) (by decide) (by decide) (hts _ (.tail _ qA_952)) (hX.use (.castable xISE xISE) (by decide +kernel)) hce hcv hcl ?_
    refine lv_astore (lv' := [(5, .ref q9), (0, .ref (ad o)), (1, .int a0), (2, .int a1), (3, .int a2), (4, .ref ao)]) hx hb dL_bestVelocity_15 hl (by decide) rfl (fun ls hl => ?_)
    refine lv_iconst (v := 1) hx hb dL_bestVelocity_17 (by decide) ?_
    refine W.widen (k := T1.1 - T.1 + 1) (n := sg T1 - sg T + 6) (by omega) (by omega) ?_
    exact W.iret (v := 1) hx hb hr (fun t ht hW => ⟨⟨1, ad2, rfl, ⟨rfl, had⟩, ⟨by rw [ht]; exact G.1, va_K.moved hW.alike hK, G.2.1⟩⟩, G.2.2.F ht⟩) G.2.2.2.2 dL_bestVelocity_18
  · have hE : E9 = xIOB := hE
    subst hE
    refine vx_catch (name := xIOB) hown [{ startPc := 0, endPc := 12, handlerPc := 15, catchType := 21 }] { startPc := 0, endPc := 12, handlerPc := 19, catchType := 13 } [{ startPc := 0, endPc := 12, handlerPc := 23, catchType := 15 }] htb (List.forall_mem_cons.mpr ⟨Or.inr ⟨by decide, xISE, hts _ (.tail _ qA_952), hN.2.2.1⟩, fun z hz => absurd hz List.not_mem_nil⟩) (by decide) (by decide) (hts _ (.tail _ qA_946)) (hX.use (.castable xIOB xIOB) (by decide +kernel)) hce hcv hcl ?_
    refine lv_astore (lv' := [(5, .ref q9), (0, .ref (ad o)), (1, .int a0), (2, .int a1), (3, .int a2), (4, .ref ao)]) hx hb dL_bestVelocity_19 hl (by decide) rfl (fun ls hl => ?_)
    refine lv_iconst (v := 2) hx hb dL_bestVelocity_21 (by decide) ?_
    refine W.widen (k := T1.1 - T.1 + 1) (n := sg T1 - sg T + 6) (by omega) (by omega) ?_
    exact W.iret (v := 2) hx hb hr (fun t ht hW => ⟨⟨2, ad2, rfl, ⟨rfl, had⟩, ⟨by rw [ht]; exact G.1, va_K.moved hW.alike hK, G.2.1⟩⟩, G.2.2.F ht⟩) G.2.2.2.2 dL_bestVelocity_22
  · have hE : E9 = xIAE := hE
    subst hE
    refine vx_catch (name := xIAE) hown [{ startPc := 0, endPc := 12, handlerPc := 15, catchType := 21 }, { startPc := 0, endPc := 12, handlerPc := 19, catchType := 13 }] { startPc := 0, endPc := 12, handlerPc := 23, catchType := 15 } [] htb (List.forall_mem_cons.mpr ⟨Or.inr ⟨by decide, xISE, hts _ (.tail _ qA_952), hN.2.2.2⟩, List.forall_mem_cons.mpr ⟨Or.inr ⟨by decide, xIOB, hts _ (.tail _ qA_946), hN.1⟩, fun z hz => absurd hz List.not_mem_nil⟩⟩) (by decide) (by decide) (hts _ (.tail _ qA_947)) (hX.use (.castable xIAE xIAE) (by decide +kernel)) hce hcv hcl ?_
    refine lv_astore (lv' := [(5, .ref q9), (0, .ref (ad o)), (1, .int a0), (2, .int a1), (3, .int a2), (4, .ref ao)]) hx hb dL_bestVelocity_23 hl (by decide) rfl (fun ls hl => ?_)
    refine lv_iconst (v := 3) hx hb dL_bestVelocity_25 (by decide) ?_
    refine W.widen (k := T1.1 - T.1 + 1) (n := sg T1 - sg T + 6) (by omega) (by omega) ?_
    exact W.iret (v := 3) hx hb hr (fun t ht hW => ⟨⟨3, ad2, rfl, ⟨rfl, had⟩, ⟨by rw [ht]; exact G.1, va_K.moved hW.alike hK, G.2.1⟩⟩, G.2.2.F ht⟩) G.2.2.2.2 dL_bestVelocity_26
theorem v_bestVelocity (l : Launch) (hst : l.stackTraces = false) (D : va_G) {cI cJ cZ cMic cSrc cSt cAI cAJ cD : ClassId} (h0 : Nat) (ad : Nat → Nat) (T : AT) (o : Nat) (a0 a1 a2 : Int32) (ao : Nat) (f : Nat → Int64) {k1 : Nat} {r1 : Int32} {T1 : AT} (h : g_X11_bestVelocity T o a0 a1 a2 = some (k1, r1, T1)) (hrc : RC T) (h_o : o < T.1) (h_s : T.2.1 o = (11, 0)) : tWi l yL_bestVelocity (Cond.codeWith yL_bestVelocity cL_bestVelocity 6 (some .int) [(0, 12, 15, 21), (0, 12, 19, 13), (0, 12, 23, 15)] :: wsA) 9 149 cI cJ cZ cMic cSrc cSt cAI cAJ cD D h0 ad T (oJ ao cJ f) [.ref (ad o), .int a0, .int a1, .int a2, .ref ao] (vck 1 2 3 k1) T1 (oJ ao cJ (vfJ k1 f r1.toInt64)) := by
  cases k1 with
  | zero => exact v_bestVelocity_n l hst D h0 ad T o a0 a1 a2 ao f h hrc h_o h_s
  | succ e1 => exact v_bestVelocity_t l hst D h0 ad T o a0 a1 a2 ao f h hrc h_o h_s
set_option maxHeartbeats 4000000 in
set_option maxRecDepth 100000 in
theorem v_correlation_n (l : Launch) (hst : l.stackTraces = false) (D : va_G) {cI cJ cZ cMic cSrc cSt cAI cAJ cD : ClassId} (h0 : Nat) (ad : Nat → Nat) (T : AT) (o : Nat) (a0 a1 a2 : Int32) (ao : Nat) (f : Nat → Int64) {r1 : Int64} {T1 : AT} (h : g_X11_correlation T o a0 a1 a2 = some (0, r1, T1)) (hrc : RC T) (h_o : o < T.1) (h_s : T.2.1 o = (11, 0)) : tWi l yL_correlation (Cond.codeWith yL_correlation cL_correlation 6 (some .int) [(0, 11, 14, 21), (0, 11, 18, 13), (0, 11, 22, 15)] :: wsA) 9 146 cI cJ cZ cMic cSrc cSt cAI cAJ cD D h0 ad T (oJ ao cJ f) [.ref (ad o), .int a0, .int a1, .int a2, .ref ao] (vck 1 2 3 (0)) T1 (oJ ao cJ (vfJ (0) f r1)) := by
  intro sz
  refine va_MetW (cc := cL_correlation) (maxL := 6) (ret := some .int) (by decide) rfl ?_
  intro p e s m args below meth c s₁ B hml hv
  obtain ⟨rfl, hsz, hP, hK, hD0, hX, hN, hA0, hTS⟩ := hv
  have hx := B.exec
  have hb := B.bytes
  have hr := B.returns
  have hts := atoms_spec (ws := (Cond.codeWith yL_correlation cL_correlation 6 (some .int) [(0, 11, 14, 21), (0, 11, 18, 13), (0, 11, 22, 15)] :: wsA)) B.pre
  have hown : s.vm.findClass RL = some m.cls := findClass_of_methodNamed B.named
  have hlocks := B.notSynchronized
  have htb := vx_table (x := yL_correlation) B (hts _ (.head _))
  subst hsz
  have hD := hD0.self (sz := s.heap.size)
  generalize hAe : va_A (cW ad T.1 (cc cI cJ cZ cMic cSrc cSt cAI cAJ ad T) ++ [oJ ao cJ f]) s.heap.size = A at hD hX hA0 ⊢
  have hA : ∀ q : Nat, s.heap.size ≤ q → A q := fun q h => by rw [← hAe]; exact Or.inr h
  have G : gL cI cJ cZ cMic cSrc cSt cAI cAJ D ad A s.heap s.heap [] T [oJ ao cJ f] := ⟨hP, hD, va_S.rf⟩
  have E : cE p c cL_correlation s m ([.ref (ad o), .int a0, .int a1, .int a2, .ref ao] : List Value).toArray (Cond.codeWith yL_correlation cL_correlation 6 (some .int) [(0, 11, 14, 21), (0, 11, 18, 13), (0, 11, 22, 15)] :: wsA) D RL (CT cI cJ cZ cMic cSrc cSt cAI cAJ ++ [(cD, .double)]) := ⟨hx, hb, hts, hown, hK⟩
  have hl := lv_entry ([.ref (ad o), .int a0, .int a1, .int a2, .ref ao]) (n := 6) (Nat.le_of_ble_eq_true rfl)
  rw [lg_entry_eq]
  generalize (lg_sl ([.ref (ad o), .int a0, .int a1, .int a2, .ref ao]) ++ List.replicate (6 - (lg_sl ([.ref (ad o), .int a0, .int a1, .int a2, .ref ao])).length) Slot.unset).toArray = ls at hl ⊢
  have hl : lv_has ls 6 [(0, .ref (ad o)), (1, .int a0), (2, .int a1), (3, .int a2), (4, .ref ao)] := hl
  refine lv_aload hx hb dL_correlation_0 (lv_at hl 4 rfl) ?_
  refine lv_iconst (v := 0) hx hb dL_correlation_2 (by decide) ?_
  refine lv_aload_n hx hb dL_correlation_3 rfl (lv_at hl 0 rfl) ?_
  refine lv_iload_n hx hb dL_correlation_4 rfl (lv_at hl 1 rfl) ?_
  refine lv_iload_n hx hb dL_correlation_5 rfl (lv_at hl 2 rfl) ?_
  refine lv_iload_n hx hb dL_correlation_6 rfl (lv_at hl 3 rfl) ?_
  refine t_avl (As := [.int a0, .int a1, .int a2]) (rest := [.int 0, .ref ao]) E G hA hX hX.2.2.2.1 hml (a_X11_correlation l hst D cI cJ cZ cMic cSrc cSt cAI cAJ ad T o a0 a1 a2 h hrc h_o) (cwV 3 hts (gaV qA_1085 qA_1086 qA_1087 qA_131 qA_883) rfl rfl rfl (by decide +kernel) ⟨Nat.le_of_ble_eq_true rfl, Nat.le_of_ble_eq_true rfl⟩) h_o (cc_o11 h_s) rfl rfl hl.1 rfl (lv_room (Nat.le_of_ble_eq_true rfl)) dL_correlation_7 ⟨by show 0 + (T1.1 - T.1) ≤ T1.1 - T.1 + 1; omega, by show 0 + (sg T1 - sg T) ≤ sg T1 - sg T + 6; omega⟩ ?_
  intro ad2 H locs had G
  refine t_last E G dL_correlation_10 (fun H locs G => ?_)
  refine lv_goto (tgt := 26) hx hb dL_correlation_11 (by decide) ?_
  refine lv_iconst (v := 0) hx hb dL_correlation_26 (by decide) ?_
  refine W.widen (k := T1.1 - T.1 + 1) (n := sg T1 - sg T + 6) (by omega) (by omega) ?_
  exact W.iret (v := 0) hx hb hr (fun t ht hW => ⟨⟨0, ad2, rfl, ⟨rfl, had⟩, ⟨by rw [ht]; exact G.1, va_K.moved hW.alike hK, G.2.1⟩⟩, G.2.2.F ht⟩) G.2.2.2.2 dL_correlation_27
set_option maxHeartbeats 4000000 in
set_option maxRecDepth 100000 in
theorem v_correlation_t (l : Launch) (hst : l.stackTraces = false) (D : va_G) {cI cJ cZ cMic cSrc cSt cAI cAJ cD : ClassId} (h0 : Nat) (ad : Nat → Nat) (T : AT) (o : Nat) (a0 a1 a2 : Int32) (ao : Nat) (f : Nat → Int64) {e1 : Nat} {r1 : Int64} {T1 : AT} (h : g_X11_correlation T o a0 a1 a2 = some (e1 + 1, r1, T1)) (hrc : RC T) (h_o : o < T.1) (h_s : T.2.1 o = (11, 0)) : tWi l yL_correlation (Cond.codeWith yL_correlation cL_correlation 6 (some .int) [(0, 11, 14, 21), (0, 11, 18, 13), (0, 11, 22, 15)] :: wsA) 9 146 cI cJ cZ cMic cSrc cSt cAI cAJ cD D h0 ad T (oJ ao cJ f) [.ref (ad o), .int a0, .int a1, .int a2, .ref ao] (vck 1 2 3 (e1 + 1)) T1 (oJ ao cJ (vfJ (e1 + 1) f r1)) := by
  intro sz
  refine va_MetW (cc := cL_correlation) (maxL := 6) (ret := some .int) (by decide) rfl ?_
  intro p e s m args below meth c s₁ B hml hv
  obtain ⟨rfl, hsz, hP, hK, hD0, hX, hN, hA0, hTS⟩ := hv
  have hx := B.exec
  have hb := B.bytes
  have hr := B.returns
  have hts := atoms_spec (ws := (Cond.codeWith yL_correlation cL_correlation 6 (some .int) [(0, 11, 14, 21), (0, 11, 18, 13), (0, 11, 22, 15)] :: wsA)) B.pre
  have hown : s.vm.findClass RL = some m.cls := findClass_of_methodNamed B.named
  have hlocks := B.notSynchronized
  have htb := vx_table (x := yL_correlation) B (hts _ (.head _))
  subst hsz
  have hD := hD0.self (sz := s.heap.size)
  generalize hAe : va_A (cW ad T.1 (cc cI cJ cZ cMic cSrc cSt cAI cAJ ad T) ++ [oJ ao cJ f]) s.heap.size = A at hD hX hA0 ⊢
  have hA : ∀ q : Nat, s.heap.size ≤ q → A q := fun q h => by rw [← hAe]; exact Or.inr h
  have G : gL cI cJ cZ cMic cSrc cSt cAI cAJ D ad A s.heap s.heap [] T [oJ ao cJ f] := ⟨hP, hD, va_S.rf⟩
  have E : cE p c cL_correlation s m ([.ref (ad o), .int a0, .int a1, .int a2, .ref ao] : List Value).toArray (Cond.codeWith yL_correlation cL_correlation 6 (some .int) [(0, 11, 14, 21), (0, 11, 18, 13), (0, 11, 22, 15)] :: wsA) D RL (CT cI cJ cZ cMic cSrc cSt cAI cAJ ++ [(cD, .double)]) := ⟨hx, hb, hts, hown, hK⟩
  have hl := lv_entry ([.ref (ad o), .int a0, .int a1, .int a2, .ref ao]) (n := 6) (Nat.le_of_ble_eq_true rfl)
  rw [lg_entry_eq]
  generalize (lg_sl ([.ref (ad o), .int a0, .int a1, .int a2, .ref ao]) ++ List.replicate (6 - (lg_sl ([.ref (ad o), .int a0, .int a1, .int a2, .ref ao])).length) Slot.unset).toArray = ls at hl ⊢
  have hl : lv_has ls 6 [(0, .ref (ad o)), (1, .int a0), (2, .int a1), (3, .int a2), (4, .ref ao)] := hl
  refine lv_aload hx hb dL_correlation_0 (lv_at hl 4 rfl) ?_
  refine lv_iconst (v := 0) hx hb dL_correlation_2 (by decide) ?_
  refine lv_aload_n hx hb dL_correlation_3 rfl (lv_at hl 0 rfl) ?_
  refine lv_iload_n hx hb dL_correlation_4 rfl (lv_at hl 1 rfl) ?_
  refine lv_iload_n hx hb dL_correlation_5 rfl (lv_at hl 2 rfl) ?_
  refine lv_iload_n hx hb dL_correlation_6 rfl (lv_at hl 3 rfl) ?_
  refine t_bvl (As := [.int a0, .int a1, .int a2]) (rest := [.int 0, .ref ao]) E G hA hX hX.2.2.2.1 hml (b_X11_correlation l hst D cI cJ cZ cMic cSrc cSt cAI cAJ ad T o a0 a1 a2 h hrc h_o) (cwV 3 hts (gaV qA_1085 qA_1086 qA_1087 qA_131 qA_883) rfl rfl rfl (by decide +kernel) ⟨Nat.le_of_ble_eq_true rfl, Nat.le_of_ble_eq_true rfl⟩) h_o (cc_o11 h_s) rfl rfl hl.1 rfl (lv_room (Nat.le_of_ble_eq_true rfl)) dL_correlation_7 ⟨by show 0 + (T1.1 - T.1 + 1) ≤ T1.1 - T.1 + 1; omega, by show 0 + (sg T1 - sg T + 6) ≤ sg T1 - sg T + 6; omega⟩ ?_
  intro E9 ce q9 ad2 H locs hE had G hce hcv hcl
  rcases e1 with _ | _ | e1
  · have hE : E9 = xISE := hE
    subst hE
    refine vx_catch (name := xISE) hown [] { startPc := 0, endPc := 11, handlerPc := 14, catchType := 21 } [{ startPc := 0, endPc := 11, handlerPc := 18, catchType := 13 }, { startPc := 0, endPc := 11, handlerPc := 22, catchType := 15 }] htb (fun z hz => absurd hz List.not_mem_nil) (by decide) (by decide) (hts _ (.tail _ qA_952)) (hX.use (.castable xISE xISE) (by decide +kernel)) hce hcv hcl ?_
    refine lv_astore (lv' := [(5, .ref q9), (0, .ref (ad o)), (1, .int a0), (2, .int a1), (3, .int a2), (4, .ref ao)]) hx hb dL_correlation_14 hl (by decide) rfl (fun ls hl => ?_)
    refine lv_iconst (v := 1) hx hb dL_correlation_16 (by decide) ?_
    refine W.widen (k := T1.1 - T.1 + 1) (n := sg T1 - sg T + 6) (by omega) (by omega) ?_
    exact W.iret (v := 1) hx hb hr (fun t ht hW => ⟨⟨1, ad2, rfl, ⟨rfl, had⟩, ⟨by rw [ht]; exact G.1, va_K.moved hW.alike hK, G.2.1⟩⟩, G.2.2.F ht⟩) G.2.2.2.2 dL_correlation_17
  · have hE : E9 = xIOB := hE
    subst hE
    refine vx_catch (name := xIOB) hown [{ startPc := 0, endPc := 11, handlerPc := 14, catchType := 21 }] { startPc := 0, endPc := 11, handlerPc := 18, catchType := 13 } [{ startPc := 0, endPc := 11, handlerPc := 22, catchType := 15 }] htb (List.forall_mem_cons.mpr ⟨Or.inr ⟨by decide, xISE, hts _ (.tail _ qA_952), hN.2.2.1⟩, fun z hz => absurd hz List.not_mem_nil⟩) (by decide) (by decide) (hts _ (.tail _ qA_946)) (hX.use (.castable xIOB xIOB) (by decide +kernel)) hce hcv hcl ?_
    refine lv_astore (lv' := [(5, .ref q9), (0, .ref (ad o)), (1, .int a0), (2, .int a1), (3, .int a2), (4, .ref ao)]) hx hb dL_correlation_18 hl (by decide) rfl (fun ls hl => ?_)
    refine lv_iconst (v := 2) hx hb dL_correlation_20 (by decide) ?_
    refine W.widen (k := T1.1 - T.1 + 1) (n := sg T1 - sg T + 6) (by omega) (by omega) ?_
    exact W.iret (v := 2) hx hb hr (fun t ht hW => ⟨⟨2, ad2, rfl, ⟨rfl, had⟩, ⟨by rw [ht]; exact G.1, va_K.moved hW.alike hK, G.2.1⟩⟩, G.2.2.F ht⟩) G.2.2.2.2 dL_correlation_21
  · have hE : E9 = xIAE := hE
    subst hE
    refine vx_catch (name := xIAE) hown [{ startPc := 0, endPc := 11, handlerPc := 14, catchType := 21 }, { startPc := 0, endPc := 11, handlerPc := 18, catchType := 13 }] { startPc := 0, endPc := 11, handlerPc := 22, catchType := 15 } [] htb (List.forall_mem_cons.mpr ⟨Or.inr ⟨by decide, xISE, hts _ (.tail _ qA_952), hN.2.2.2⟩, List.forall_mem_cons.mpr ⟨Or.inr ⟨by decide, xIOB, hts _ (.tail _ qA_946), hN.1⟩, fun z hz => absurd hz List.not_mem_nil⟩⟩) (by decide) (by decide) (hts _ (.tail _ qA_947)) (hX.use (.castable xIAE xIAE) (by decide +kernel)) hce hcv hcl ?_
    refine lv_astore (lv' := [(5, .ref q9), (0, .ref (ad o)), (1, .int a0), (2, .int a1), (3, .int a2), (4, .ref ao)]) hx hb dL_correlation_22 hl (by decide) rfl (fun ls hl => ?_)
    refine lv_iconst (v := 3) hx hb dL_correlation_24 (by decide) ?_
    refine W.widen (k := T1.1 - T.1 + 1) (n := sg T1 - sg T + 6) (by omega) (by omega) ?_
    exact W.iret (v := 3) hx hb hr (fun t ht hW => ⟨⟨3, ad2, rfl, ⟨rfl, had⟩, ⟨by rw [ht]; exact G.1, va_K.moved hW.alike hK, G.2.1⟩⟩, G.2.2.F ht⟩) G.2.2.2.2 dL_correlation_25
theorem v_correlation (l : Launch) (hst : l.stackTraces = false) (D : va_G) {cI cJ cZ cMic cSrc cSt cAI cAJ cD : ClassId} (h0 : Nat) (ad : Nat → Nat) (T : AT) (o : Nat) (a0 a1 a2 : Int32) (ao : Nat) (f : Nat → Int64) {k1 : Nat} {r1 : Int64} {T1 : AT} (h : g_X11_correlation T o a0 a1 a2 = some (k1, r1, T1)) (hrc : RC T) (h_o : o < T.1) (h_s : T.2.1 o = (11, 0)) : tWi l yL_correlation (Cond.codeWith yL_correlation cL_correlation 6 (some .int) [(0, 11, 14, 21), (0, 11, 18, 13), (0, 11, 22, 15)] :: wsA) 9 146 cI cJ cZ cMic cSrc cSt cAI cAJ cD D h0 ad T (oJ ao cJ f) [.ref (ad o), .int a0, .int a1, .int a2, .ref ao] (vck 1 2 3 k1) T1 (oJ ao cJ (vfJ k1 f r1)) := by
  cases k1 with
  | zero => exact v_correlation_n l hst D h0 ad T o a0 a1 a2 ao f h hrc h_o h_s
  | succ e1 => exact v_correlation_t l hst D h0 ad T o a0 a1 a2 ao f h hrc h_o h_s
set_option maxHeartbeats 4000000 in
set_option maxRecDepth 100000 in
theorem v_bestLag_n (l : Launch) (hst : l.stackTraces = false) (D : va_G) {cI cJ cZ cMic cSrc cSt cAI cAJ cD : ClassId} (h0 : Nat) (ad : Nat → Nat) (T : AT) (o : Nat) (a0 a1 a2 : Int32) (ao : Nat) (f : Nat → Int64) {r1 : Int32} {T1 : AT} (h : g_X11_bestLag T o a0 a1 a2 = some (0, r1, T1)) (hrc : RC T) (h_o : o < T.1) (h_s : T.2.1 o = (11, 0)) : tWi l yL_bestLag (Cond.codeWith yL_bestLag cL_bestLag 6 (some .int) [(0, 12, 15, 21), (0, 12, 19, 13), (0, 12, 23, 15)] :: wsA) 9 148 cI cJ cZ cMic cSrc cSt cAI cAJ cD D h0 ad T (oJ ao cJ f) [.ref (ad o), .int a0, .int a1, .int a2, .ref ao] (vck 1 2 3 (0)) T1 (oJ ao cJ (vfJ (0) f r1.toInt64)) := by
  intro sz
  refine va_MetW (cc := cL_bestLag) (maxL := 6) (ret := some .int) (by decide) rfl ?_
  intro p e s m args below meth c s₁ B hml hv
  obtain ⟨rfl, hsz, hP, hK, hD0, hX, hN, hA0, hTS⟩ := hv
  have hx := B.exec
  have hb := B.bytes
  have hr := B.returns
  have hts := atoms_spec (ws := (Cond.codeWith yL_bestLag cL_bestLag 6 (some .int) [(0, 12, 15, 21), (0, 12, 19, 13), (0, 12, 23, 15)] :: wsA)) B.pre
  have hown : s.vm.findClass RL = some m.cls := findClass_of_methodNamed B.named
  have hlocks := B.notSynchronized
  have htb := vx_table (x := yL_bestLag) B (hts _ (.head _))
  subst hsz
  have hD := hD0.self (sz := s.heap.size)
  generalize hAe : va_A (cW ad T.1 (cc cI cJ cZ cMic cSrc cSt cAI cAJ ad T) ++ [oJ ao cJ f]) s.heap.size = A at hD hX hA0 ⊢
  have hA : ∀ q : Nat, s.heap.size ≤ q → A q := fun q h => by rw [← hAe]; exact Or.inr h
  have G : gL cI cJ cZ cMic cSrc cSt cAI cAJ D ad A s.heap s.heap [] T [oJ ao cJ f] := ⟨hP, hD, va_S.rf⟩
  have E : cE p c cL_bestLag s m ([.ref (ad o), .int a0, .int a1, .int a2, .ref ao] : List Value).toArray (Cond.codeWith yL_bestLag cL_bestLag 6 (some .int) [(0, 12, 15, 21), (0, 12, 19, 13), (0, 12, 23, 15)] :: wsA) D RL (CT cI cJ cZ cMic cSrc cSt cAI cAJ ++ [(cD, .double)]) := ⟨hx, hb, hts, hown, hK⟩
  have hl := lv_entry ([.ref (ad o), .int a0, .int a1, .int a2, .ref ao]) (n := 6) (Nat.le_of_ble_eq_true rfl)
  rw [lg_entry_eq]
  generalize (lg_sl ([.ref (ad o), .int a0, .int a1, .int a2, .ref ao]) ++ List.replicate (6 - (lg_sl ([.ref (ad o), .int a0, .int a1, .int a2, .ref ao])).length) Slot.unset).toArray = ls at hl ⊢
  have hl : lv_has ls 6 [(0, .ref (ad o)), (1, .int a0), (2, .int a1), (3, .int a2), (4, .ref ao)] := hl
  refine lv_aload hx hb dL_bestLag_0 (lv_at hl 4 rfl) ?_
  refine lv_iconst (v := 0) hx hb dL_bestLag_2 (by decide) ?_
  refine lv_aload_n hx hb dL_bestLag_3 rfl (lv_at hl 0 rfl) ?_
  refine lv_iload_n hx hb dL_bestLag_4 rfl (lv_at hl 1 rfl) ?_
  refine lv_iload_n hx hb dL_bestLag_5 rfl (lv_at hl 2 rfl) ?_
  refine lv_iload_n hx hb dL_bestLag_6 rfl (lv_at hl 3 rfl) ?_
  refine t_avi (As := [.int a0, .int a1, .int a2]) (rest := [.int 0, .ref ao]) E G hA hX hX.2.2.2.1 hml (a_X11_bestLag l hst D cI cJ cZ cMic cSrc cSt cAI cAJ ad T o a0 a1 a2 h hrc h_o) (cwV 3 hts (gaV qA_1089 qA_1090 qA_1091 qA_131 qA_887) rfl rfl rfl (by decide +kernel) ⟨Nat.le_of_ble_eq_true rfl, Nat.le_of_ble_eq_true rfl⟩) h_o (cc_o11 h_s) rfl rfl hl.1 rfl (lv_room (Nat.le_of_ble_eq_true rfl)) dL_bestLag_7 ⟨by show 0 + (T1.1 - T.1) ≤ T1.1 - T.1 + 1; omega, by show 0 + (sg T1 - sg T) ≤ sg T1 - sg T + 6; omega⟩ ?_
  intro ad2 H locs had G
  refine lv_i2l (v := r1.toInt64) hx hb dL_bestLag_10 rfl ?_
  refine t_last E G dL_bestLag_11 (fun H locs G => ?_)
  refine lv_goto (tgt := 27) hx hb dL_bestLag_12 (by decide) ?_
  refine lv_iconst (v := 0) hx hb dL_bestLag_27 (by decide) ?_
  refine W.widen (k := T1.1 - T.1 + 1) (n := sg T1 - sg T + 6) (by omega) (by omega) ?_
  exact W.iret (v := 0) hx hb hr (fun t ht hW => ⟨⟨0, ad2, rfl, ⟨rfl, had⟩, ⟨by rw [ht]; exact G.1, va_K.moved hW.alike hK, G.2.1⟩⟩, G.2.2.F ht⟩) G.2.2.2.2 dL_bestLag_28
set_option maxHeartbeats 4000000 in
set_option maxRecDepth 100000 in
theorem v_bestLag_t (l : Launch) (hst : l.stackTraces = false) (D : va_G) {cI cJ cZ cMic cSrc cSt cAI cAJ cD : ClassId} (h0 : Nat) (ad : Nat → Nat) (T : AT) (o : Nat) (a0 a1 a2 : Int32) (ao : Nat) (f : Nat → Int64) {e1 : Nat} {r1 : Int32} {T1 : AT} (h : g_X11_bestLag T o a0 a1 a2 = some (e1 + 1, r1, T1)) (hrc : RC T) (h_o : o < T.1) (h_s : T.2.1 o = (11, 0)) : tWi l yL_bestLag (Cond.codeWith yL_bestLag cL_bestLag 6 (some .int) [(0, 12, 15, 21), (0, 12, 19, 13), (0, 12, 23, 15)] :: wsA) 9 148 cI cJ cZ cMic cSrc cSt cAI cAJ cD D h0 ad T (oJ ao cJ f) [.ref (ad o), .int a0, .int a1, .int a2, .ref ao] (vck 1 2 3 (e1 + 1)) T1 (oJ ao cJ (vfJ (e1 + 1) f r1.toInt64)) := by
  intro sz
  refine va_MetW (cc := cL_bestLag) (maxL := 6) (ret := some .int) (by decide) rfl ?_
  intro p e s m args below meth c s₁ B hml hv
  obtain ⟨rfl, hsz, hP, hK, hD0, hX, hN, hA0, hTS⟩ := hv
  have hx := B.exec
  have hb := B.bytes
  have hr := B.returns
  have hts := atoms_spec (ws := (Cond.codeWith yL_bestLag cL_bestLag 6 (some .int) [(0, 12, 15, 21), (0, 12, 19, 13), (0, 12, 23, 15)] :: wsA)) B.pre
  have hown : s.vm.findClass RL = some m.cls := findClass_of_methodNamed B.named
  have hlocks := B.notSynchronized
  have htb := vx_table (x := yL_bestLag) B (hts _ (.head _))
  subst hsz
  have hD := hD0.self (sz := s.heap.size)
  generalize hAe : va_A (cW ad T.1 (cc cI cJ cZ cMic cSrc cSt cAI cAJ ad T) ++ [oJ ao cJ f]) s.heap.size = A at hD hX hA0 ⊢
  have hA : ∀ q : Nat, s.heap.size ≤ q → A q := fun q h => by rw [← hAe]; exact Or.inr h
  have G : gL cI cJ cZ cMic cSrc cSt cAI cAJ D ad A s.heap s.heap [] T [oJ ao cJ f] := ⟨hP, hD, va_S.rf⟩
  have E : cE p c cL_bestLag s m ([.ref (ad o), .int a0, .int a1, .int a2, .ref ao] : List Value).toArray (Cond.codeWith yL_bestLag cL_bestLag 6 (some .int) [(0, 12, 15, 21), (0, 12, 19, 13), (0, 12, 23, 15)] :: wsA) D RL (CT cI cJ cZ cMic cSrc cSt cAI cAJ ++ [(cD, .double)]) := ⟨hx, hb, hts, hown, hK⟩
  have hl := lv_entry ([.ref (ad o), .int a0, .int a1, .int a2, .ref ao]) (n := 6) (Nat.le_of_ble_eq_true rfl)
  rw [lg_entry_eq]
  generalize (lg_sl ([.ref (ad o), .int a0, .int a1, .int a2, .ref ao]) ++ List.replicate (6 - (lg_sl ([.ref (ad o), .int a0, .int a1, .int a2, .ref ao])).length) Slot.unset).toArray = ls at hl ⊢
  have hl : lv_has ls 6 [(0, .ref (ad o)), (1, .int a0), (2, .int a1), (3, .int a2), (4, .ref ao)] := hl
  refine lv_aload hx hb dL_bestLag_0 (lv_at hl 4 rfl) ?_
  refine lv_iconst (v := 0) hx hb dL_bestLag_2 (by decide) ?_
  refine lv_aload_n hx hb dL_bestLag_3 rfl (lv_at hl 0 rfl) ?_
  refine lv_iload_n hx hb dL_bestLag_4 rfl (lv_at hl 1 rfl) ?_
  refine lv_iload_n hx hb dL_bestLag_5 rfl (lv_at hl 2 rfl) ?_
  refine lv_iload_n hx hb dL_bestLag_6 rfl (lv_at hl 3 rfl) ?_
  refine t_bvi (As := [.int a0, .int a1, .int a2]) (rest := [.int 0, .ref ao]) E G hA hX hX.2.2.2.1 hml (b_X11_bestLag l hst D cI cJ cZ cMic cSrc cSt cAI cAJ ad T o a0 a1 a2 h hrc h_o) (cwV 3 hts (gaV qA_1089 qA_1090 qA_1091 qA_131 qA_887) rfl rfl rfl (by decide +kernel) ⟨Nat.le_of_ble_eq_true rfl, Nat.le_of_ble_eq_true rfl⟩) h_o (cc_o11 h_s) rfl rfl hl.1 rfl (lv_room (Nat.le_of_ble_eq_true rfl)) dL_bestLag_7 ⟨by show 0 + (T1.1 - T.1 + 1) ≤ T1.1 - T.1 + 1; omega, by show 0 + (sg T1 - sg T + 6) ≤ sg T1 - sg T + 6; omega⟩ ?_
  intro E9 ce q9 ad2 H locs hE had G hce hcv hcl
  rcases e1 with _ | _ | e1
  · have hE : E9 = xISE := hE
    subst hE
    refine vx_catch (name := xISE) hown [] { startPc := 0, endPc := 12, handlerPc := 15, catchType := 21 } [{ startPc := 0, endPc := 12, handlerPc := 19, catchType := 13 }, { startPc := 0, endPc := 12, handlerPc := 23, catchType := 15 }] htb (fun z hz => absurd hz List.not_mem_nil) (by decide) (by decide) (hts _ (.tail _ qA_952)) (hX.use (.castable xISE xISE) (by decide +kernel)) hce hcv hcl ?_
    refine lv_astore (lv' := [(5, .ref q9), (0, .ref (ad o)), (1, .int a0), (2, .int a1), (3, .int a2), (4, .ref ao)]) hx hb dL_bestLag_15 hl (by decide) rfl (fun ls hl => ?_)
    refine lv_iconst (v := 1) hx hb dL_bestLag_17 (by decide) ?_
    refine W.widen (k := T1.1 - T.1 + 1) (n := sg T1 - sg T + 6) (by omega) (by omega) ?_
    exact W.iret (v := 1) hx hb hr (fun t ht hW => ⟨⟨1, ad2, rfl, ⟨rfl, had⟩, ⟨by rw [ht]; exact G.1, va_K.moved hW.alike hK, G.2.1⟩⟩, G.2.2.F ht⟩) G.2.2.2.2 dL_bestLag_18
  · have hE : E9 = xIOB := hE
    subst hE
    refine vx_catch (name := xIOB) hown [{ startPc := 0, endPc := 12, handlerPc := 15, catchType := 21 }] { startPc := 0, endPc := 12, handlerPc := 19, catchType := 13 } [{ startPc := 0, endPc := 12, handlerPc := 23, catchType := 15 }] htb (List.forall_mem_cons.mpr ⟨Or.inr ⟨by decide, xISE, hts _ (.tail _ qA_952), hN.2.2.1⟩, fun z hz => absurd hz List.not_mem_nil⟩) (by decide) (by decide) (hts _ (.tail _ qA_946)) (hX.use (.castable xIOB xIOB) (by decide +kernel)) hce hcv hcl ?_
    refine lv_astore (lv' := [(5, .ref q9), (0, .ref (ad o)), (1, .int a0), (2, .int a1), (3, .int a2), (4, .ref ao)]) hx hb dL_bestLag_19 hl (by decide) rfl (fun ls hl => ?_)
    refine lv_iconst (v := 2) hx hb dL_bestLag_21 (by decide) ?_
    refine W.widen (k := T1.1 - T.1 + 1) (n := sg T1 - sg T + 6) (by omega) (by omega) ?_
    exact W.iret (v := 2) hx hb hr (fun t ht hW => ⟨⟨2, ad2, rfl, ⟨rfl, had⟩, ⟨by rw [ht]; exact G.1, va_K.moved hW.alike hK, G.2.1⟩⟩, G.2.2.F ht⟩) G.2.2.2.2 dL_bestLag_22
  · have hE : E9 = xIAE := hE
    subst hE
    refine vx_catch (name := xIAE) hown [{ startPc := 0, endPc := 12, handlerPc := 15, catchType := 21 }, { startPc := 0, endPc := 12, handlerPc := 19, catchType := 13 }] { startPc := 0, endPc := 12, handlerPc := 23, catchType := 15 } [] htb (List.forall_mem_cons.mpr ⟨Or.inr ⟨by decide, xISE, hts _ (.tail _ qA_952), hN.2.2.2⟩, List.forall_mem_cons.mpr ⟨Or.inr ⟨by decide, xIOB, hts _ (.tail _ qA_946), hN.1⟩, fun z hz => absurd hz List.not_mem_nil⟩⟩) (by decide) (by decide) (hts _ (.tail _ qA_947)) (hX.use (.castable xIAE xIAE) (by decide +kernel)) hce hcv hcl ?_
    refine lv_astore (lv' := [(5, .ref q9), (0, .ref (ad o)), (1, .int a0), (2, .int a1), (3, .int a2), (4, .ref ao)]) hx hb dL_bestLag_23 hl (by decide) rfl (fun ls hl => ?_)
    refine lv_iconst (v := 3) hx hb dL_bestLag_25 (by decide) ?_
    refine W.widen (k := T1.1 - T.1 + 1) (n := sg T1 - sg T + 6) (by omega) (by omega) ?_
    exact W.iret (v := 3) hx hb hr (fun t ht hW => ⟨⟨3, ad2, rfl, ⟨rfl, had⟩, ⟨by rw [ht]; exact G.1, va_K.moved hW.alike hK, G.2.1⟩⟩, G.2.2.F ht⟩) G.2.2.2.2 dL_bestLag_26
theorem v_bestLag (l : Launch) (hst : l.stackTraces = false) (D : va_G) {cI cJ cZ cMic cSrc cSt cAI cAJ cD : ClassId} (h0 : Nat) (ad : Nat → Nat) (T : AT) (o : Nat) (a0 a1 a2 : Int32) (ao : Nat) (f : Nat → Int64) {k1 : Nat} {r1 : Int32} {T1 : AT} (h : g_X11_bestLag T o a0 a1 a2 = some (k1, r1, T1)) (hrc : RC T) (h_o : o < T.1) (h_s : T.2.1 o = (11, 0)) : tWi l yL_bestLag (Cond.codeWith yL_bestLag cL_bestLag 6 (some .int) [(0, 12, 15, 21), (0, 12, 19, 13), (0, 12, 23, 15)] :: wsA) 9 148 cI cJ cZ cMic cSrc cSt cAI cAJ cD D h0 ad T (oJ ao cJ f) [.ref (ad o), .int a0, .int a1, .int a2, .ref ao] (vck 1 2 3 k1) T1 (oJ ao cJ (vfJ k1 f r1.toInt64)) := by
  cases k1 with
  | zero => exact v_bestLag_n l hst D h0 ad T o a0 a1 a2 ao f h hrc h_o h_s
  | succ e1 => exact v_bestLag_t l hst D h0 ad T o a0 a1 a2 ao f h hrc h_o h_s
set_option maxHeartbeats 4000000 in
set_option maxRecDepth 100000 in
theorem v_level_n (l : Launch) (hst : l.stackTraces = false) (D : va_G) {cI cJ cZ cMic cSrc cSt cAI cAJ cD : ClassId} (h0 : Nat) (ad : Nat → Nat) (T : AT) (o : Nat) (a0 : Int32) (ao : Nat) (f : Nat → Int64) {r1 : Int64} {T1 : AT} (h : g_X11_level T o a0 = some (0, r1, T1)) (hrc : RC T) (h_o : o < T.1) (h_s : T.2.1 o = (11, 0)) : tWi l yL_level (Cond.codeWith yL_level cL_level 4 (some .int) [(0, 8, 11, 21), (0, 8, 14, 13)] :: wsA) 9 146 cI cJ cZ cMic cSrc cSt cAI cAJ cD D h0 ad T (oJ ao cJ f) [.ref (ad o), .int a0, .ref ao] (vck 1 2 0 (0)) T1 (oJ ao cJ (vfJ (0) f r1)) := by
  intro sz
  refine va_MetW (cc := cL_level) (maxL := 4) (ret := some .int) (by decide) rfl ?_
  intro p e s m args below meth c s₁ B hml hv
  obtain ⟨rfl, hsz, hP, hK, hD0, hX, hN, hA0, hTS⟩ := hv
  have hx := B.exec
  have hb := B.bytes
  have hr := B.returns
  have hts := atoms_spec (ws := (Cond.codeWith yL_level cL_level 4 (some .int) [(0, 8, 11, 21), (0, 8, 14, 13)] :: wsA)) B.pre
  have hown : s.vm.findClass RL = some m.cls := findClass_of_methodNamed B.named
  have hlocks := B.notSynchronized
  have htb := vx_table (x := yL_level) B (hts _ (.head _))
  subst hsz
  have hD := hD0.self (sz := s.heap.size)
  generalize hAe : va_A (cW ad T.1 (cc cI cJ cZ cMic cSrc cSt cAI cAJ ad T) ++ [oJ ao cJ f]) s.heap.size = A at hD hX hA0 ⊢
  have hA : ∀ q : Nat, s.heap.size ≤ q → A q := fun q h => by rw [← hAe]; exact Or.inr h
  have G : gL cI cJ cZ cMic cSrc cSt cAI cAJ D ad A s.heap s.heap [] T [oJ ao cJ f] := ⟨hP, hD, va_S.rf⟩
  have E : cE p c cL_level s m ([.ref (ad o), .int a0, .ref ao] : List Value).toArray (Cond.codeWith yL_level cL_level 4 (some .int) [(0, 8, 11, 21), (0, 8, 14, 13)] :: wsA) D RL (CT cI cJ cZ cMic cSrc cSt cAI cAJ ++ [(cD, .double)]) := ⟨hx, hb, hts, hown, hK⟩
  have hl := lv_entry ([.ref (ad o), .int a0, .ref ao]) (n := 4) (Nat.le_of_ble_eq_true rfl)
  rw [lg_entry_eq]
  generalize (lg_sl ([.ref (ad o), .int a0, .ref ao]) ++ List.replicate (4 - (lg_sl ([.ref (ad o), .int a0, .ref ao])).length) Slot.unset).toArray = ls at hl ⊢
  have hl : lv_has ls 4 [(0, .ref (ad o)), (1, .int a0), (2, .ref ao)] := hl
  refine lv_aload_n hx hb dL_level_0 rfl (lv_at hl 2 rfl) ?_
  refine lv_iconst (v := 0) hx hb dL_level_1 (by decide) ?_
  refine lv_aload_n hx hb dL_level_2 rfl (lv_at hl 0 rfl) ?_
  refine lv_iload_n hx hb dL_level_3 rfl (lv_at hl 1 rfl) ?_
  refine t_avl (As := [.int a0]) (rest := [.int 0, .ref ao]) E G hA hX hX.2.2.2.1 hml (a_X11_level l hst D cI cJ cZ cMic cSrc cSt cAI cAJ ad T o a0 h hrc h_o) (cwV 1 hts (gaV qA_1093 qA_1094 qA_1095 qA_131 qA_888) rfl rfl rfl (by decide +kernel) ⟨Nat.le_of_ble_eq_true rfl, Nat.le_of_ble_eq_true rfl⟩) h_o (cc_o11 h_s) rfl rfl hl.1 rfl (lv_room (Nat.le_of_ble_eq_true rfl)) dL_level_4 ⟨by show 0 + (T1.1 - T.1) ≤ T1.1 - T.1 + 1; omega, by show 0 + (sg T1 - sg T) ≤ sg T1 - sg T + 6; omega⟩ ?_
  intro ad2 H locs had G
  refine t_last E G dL_level_7 (fun H locs G => ?_)
  refine lv_goto (tgt := 17) hx hb dL_level_8 (by decide) ?_
  refine lv_iconst (v := 0) hx hb dL_level_17 (by decide) ?_
  refine W.widen (k := T1.1 - T.1 + 1) (n := sg T1 - sg T + 6) (by omega) (by omega) ?_
  exact W.iret (v := 0) hx hb hr (fun t ht hW => ⟨⟨0, ad2, rfl, ⟨rfl, had⟩, ⟨by rw [ht]; exact G.1, va_K.moved hW.alike hK, G.2.1⟩⟩, G.2.2.F ht⟩) G.2.2.2.2 dL_level_18
set_option maxHeartbeats 4000000 in
set_option maxRecDepth 100000 in
theorem v_level_t (l : Launch) (hst : l.stackTraces = false) (D : va_G) {cI cJ cZ cMic cSrc cSt cAI cAJ cD : ClassId} (h0 : Nat) (ad : Nat → Nat) (T : AT) (o : Nat) (a0 : Int32) (ao : Nat) (f : Nat → Int64) {e1 : Nat} {r1 : Int64} {T1 : AT} (h : g_X11_level T o a0 = some (e1 + 1, r1, T1)) (hrc : RC T) (h_o : o < T.1) (h_s : T.2.1 o = (11, 0)) : tWi l yL_level (Cond.codeWith yL_level cL_level 4 (some .int) [(0, 8, 11, 21), (0, 8, 14, 13)] :: wsA) 9 146 cI cJ cZ cMic cSrc cSt cAI cAJ cD D h0 ad T (oJ ao cJ f) [.ref (ad o), .int a0, .ref ao] (vck 1 2 0 (e1 + 1)) T1 (oJ ao cJ (vfJ (e1 + 1) f r1)) := by
  intro sz
  refine va_MetW (cc := cL_level) (maxL := 4) (ret := some .int) (by decide) rfl ?_
  intro p e s m args below meth c s₁ B hml hv
  obtain ⟨rfl, hsz, hP, hK, hD0, hX, hN, hA0, hTS⟩ := hv
  have hx := B.exec
  have hb := B.bytes
  have hr := B.returns
  have hts := atoms_spec (ws := (Cond.codeWith yL_level cL_level 4 (some .int) [(0, 8, 11, 21), (0, 8, 14, 13)] :: wsA)) B.pre
  have hown : s.vm.findClass RL = some m.cls := findClass_of_methodNamed B.named
  have hlocks := B.notSynchronized
  have htb := vx_table (x := yL_level) B (hts _ (.head _))
  subst hsz
  have hD := hD0.self (sz := s.heap.size)
  generalize hAe : va_A (cW ad T.1 (cc cI cJ cZ cMic cSrc cSt cAI cAJ ad T) ++ [oJ ao cJ f]) s.heap.size = A at hD hX hA0 ⊢
  have hA : ∀ q : Nat, s.heap.size ≤ q → A q := fun q h => by rw [← hAe]; exact Or.inr h
  have G : gL cI cJ cZ cMic cSrc cSt cAI cAJ D ad A s.heap s.heap [] T [oJ ao cJ f] := ⟨hP, hD, va_S.rf⟩
  have E : cE p c cL_level s m ([.ref (ad o), .int a0, .ref ao] : List Value).toArray (Cond.codeWith yL_level cL_level 4 (some .int) [(0, 8, 11, 21), (0, 8, 14, 13)] :: wsA) D RL (CT cI cJ cZ cMic cSrc cSt cAI cAJ ++ [(cD, .double)]) := ⟨hx, hb, hts, hown, hK⟩
  have hl := lv_entry ([.ref (ad o), .int a0, .ref ao]) (n := 4) (Nat.le_of_ble_eq_true rfl)
  rw [lg_entry_eq]
  generalize (lg_sl ([.ref (ad o), .int a0, .ref ao]) ++ List.replicate (4 - (lg_sl ([.ref (ad o), .int a0, .ref ao])).length) Slot.unset).toArray = ls at hl ⊢
  have hl : lv_has ls 4 [(0, .ref (ad o)), (1, .int a0), (2, .ref ao)] := hl
  refine lv_aload_n hx hb dL_level_0 rfl (lv_at hl 2 rfl) ?_
  refine lv_iconst (v := 0) hx hb dL_level_1 (by decide) ?_
  refine lv_aload_n hx hb dL_level_2 rfl (lv_at hl 0 rfl) ?_
  refine lv_iload_n hx hb dL_level_3 rfl (lv_at hl 1 rfl) ?_
  refine t_bvl (As := [.int a0]) (rest := [.int 0, .ref ao]) E G hA hX hX.2.2.2.1 hml (b_X11_level l hst D cI cJ cZ cMic cSrc cSt cAI cAJ ad T o a0 h hrc h_o) (cwV 1 hts (gaV qA_1093 qA_1094 qA_1095 qA_131 qA_888) rfl rfl rfl (by decide +kernel) ⟨Nat.le_of_ble_eq_true rfl, Nat.le_of_ble_eq_true rfl⟩) h_o (cc_o11 h_s) rfl rfl hl.1 rfl (lv_room (Nat.le_of_ble_eq_true rfl)) dL_level_4 ⟨by show 0 + (T1.1 - T.1 + 1) ≤ T1.1 - T.1 + 1; omega, by show 0 + (sg T1 - sg T + 6) ≤ sg T1 - sg T + 6; omega⟩ ?_
  intro E9 ce q9 ad2 H locs hE had G hce hcv hcl
  rcases e1 with _ | _ | e1
  · have hE : E9 = xISE := hE
    subst hE
    refine vx_catch (name := xISE) hown [] { startPc := 0, endPc := 8, handlerPc := 11, catchType := 21 } [{ startPc := 0, endPc := 8, handlerPc := 14, catchType := 13 }] htb (fun z hz => absurd hz List.not_mem_nil) (by decide) (by decide) (hts _ (.tail _ qA_952)) (hX.use (.castable xISE xISE) (by decide +kernel)) hce hcv hcl ?_
    refine lv_astore_n (lv' := [(3, .ref q9), (0, .ref (ad o)), (1, .int a0), (2, .ref ao)]) hx hb dL_level_11 rfl hl (by decide) rfl (fun ls hl => ?_)
    refine lv_iconst (v := 1) hx hb dL_level_12 (by decide) ?_
    refine W.widen (k := T1.1 - T.1 + 1) (n := sg T1 - sg T + 6) (by omega) (by omega) ?_
    exact W.iret (v := 1) hx hb hr (fun t ht hW => ⟨⟨1, ad2, rfl, ⟨rfl, had⟩, ⟨by rw [ht]; exact G.1, va_K.moved hW.alike hK, G.2.1⟩⟩, G.2.2.F ht⟩) G.2.2.2.2 dL_level_13
  · have hE : E9 = xIOB := hE
    subst hE
    refine vx_catch (name := xIOB) hown [{ startPc := 0, endPc := 8, handlerPc := 11, catchType := 21 }] { startPc := 0, endPc := 8, handlerPc := 14, catchType := 13 } [] htb (List.forall_mem_cons.mpr ⟨Or.inr ⟨by decide, xISE, hts _ (.tail _ qA_952), hN.2.2.1⟩, fun z hz => absurd hz List.not_mem_nil⟩) (by decide) (by decide) (hts _ (.tail _ qA_946)) (hX.use (.castable xIOB xIOB) (by decide +kernel)) hce hcv hcl ?_
    refine lv_astore_n (lv' := [(3, .ref q9), (0, .ref (ad o)), (1, .int a0), (2, .ref ao)]) hx hb dL_level_14 rfl hl (by decide) rfl (fun ls hl => ?_)
    refine lv_iconst (v := 2) hx hb dL_level_15 (by decide) ?_
    refine W.widen (k := T1.1 - T.1 + 1) (n := sg T1 - sg T + 6) (by omega) (by omega) ?_
    exact W.iret (v := 2) hx hb hr (fun t ht hW => ⟨⟨2, ad2, rfl, ⟨rfl, had⟩, ⟨by rw [ht]; exact G.1, va_K.moved hW.alike hK, G.2.1⟩⟩, G.2.2.F ht⟩) G.2.2.2.2 dL_level_16
  · have q := (cd_g_X11_level (S := [0, 1, 2]) (fun _ h => h) T o a0 _ _ _ h)
    simp only [List.mem_cons, List.not_mem_nil, or_false] at q
    omega
theorem v_level (l : Launch) (hst : l.stackTraces = false) (D : va_G) {cI cJ cZ cMic cSrc cSt cAI cAJ cD : ClassId} (h0 : Nat) (ad : Nat → Nat) (T : AT) (o : Nat) (a0 : Int32) (ao : Nat) (f : Nat → Int64) {k1 : Nat} {r1 : Int64} {T1 : AT} (h : g_X11_level T o a0 = some (k1, r1, T1)) (hrc : RC T) (h_o : o < T.1) (h_s : T.2.1 o = (11, 0)) : tWi l yL_level (Cond.codeWith yL_level cL_level 4 (some .int) [(0, 8, 11, 21), (0, 8, 14, 13)] :: wsA) 9 146 cI cJ cZ cMic cSrc cSt cAI cAJ cD D h0 ad T (oJ ao cJ f) [.ref (ad o), .int a0, .ref ao] (vck 1 2 0 k1) T1 (oJ ao cJ (vfJ k1 f r1)) := by
  cases k1 with
  | zero => exact v_level_n l hst D h0 ad T o a0 ao f h hrc h_o h_s
  | succ e1 => exact v_level_t l hst D h0 ad T o a0 ao f h hrc h_o h_s
set_option maxHeartbeats 4000000 in
set_option maxRecDepth 100000 in
theorem v_loudest_n (l : Launch) (hst : l.stackTraces = false) (D : va_G) {cI cJ cZ cMic cSrc cSt cAI cAJ cD : ClassId} (h0 : Nat) (ad : Nat → Nat) (T : AT) (o : Nat) (a0 : Int32) (ao : Nat) (f : Nat → Int64) {r1 : Int32} {T1 : AT} (h : g_X11_loudest T o a0 = some (0, r1, T1)) (hrc : RC T) (h_o : o < T.1) (h_s : T.2.1 o = (11, 0)) : tWi l yL_loudest (Cond.codeWith yL_loudest cL_loudest 4 (some .int) [(0, 9, 12, 21), (0, 9, 15, 13)] :: wsA) 8 147 cI cJ cZ cMic cSrc cSt cAI cAJ cD D h0 ad T (oJ ao cJ f) [.ref (ad o), .int a0, .ref ao] (vck 1 2 0 (0)) T1 (oJ ao cJ (vfJ (0) f r1.toInt64)) := by
  intro sz
  refine va_MetW (cc := cL_loudest) (maxL := 4) (ret := some .int) (by decide) rfl ?_
  intro p e s m args below meth c s₁ B hml hv
  obtain ⟨rfl, hsz, hP, hK, hD0, hX, hN, hA0, hTS⟩ := hv
  have hx := B.exec
  have hb := B.bytes
  have hr := B.returns
  have hts := atoms_spec (ws := (Cond.codeWith yL_loudest cL_loudest 4 (some .int) [(0, 9, 12, 21), (0, 9, 15, 13)] :: wsA)) B.pre
  have hown : s.vm.findClass RL = some m.cls := findClass_of_methodNamed B.named
  have hlocks := B.notSynchronized
  have htb := vx_table (x := yL_loudest) B (hts _ (.head _))
  subst hsz
  have hD := hD0.self (sz := s.heap.size)
  generalize hAe : va_A (cW ad T.1 (cc cI cJ cZ cMic cSrc cSt cAI cAJ ad T) ++ [oJ ao cJ f]) s.heap.size = A at hD hX hA0 ⊢
  have hA : ∀ q : Nat, s.heap.size ≤ q → A q := fun q h => by rw [← hAe]; exact Or.inr h
  have G : gL cI cJ cZ cMic cSrc cSt cAI cAJ D ad A s.heap s.heap [] T [oJ ao cJ f] := ⟨hP, hD, va_S.rf⟩
  have E : cE p c cL_loudest s m ([.ref (ad o), .int a0, .ref ao] : List Value).toArray (Cond.codeWith yL_loudest cL_loudest 4 (some .int) [(0, 9, 12, 21), (0, 9, 15, 13)] :: wsA) D RL (CT cI cJ cZ cMic cSrc cSt cAI cAJ ++ [(cD, .double)]) := ⟨hx, hb, hts, hown, hK⟩
  have hl := lv_entry ([.ref (ad o), .int a0, .ref ao]) (n := 4) (Nat.le_of_ble_eq_true rfl)
  rw [lg_entry_eq]
  generalize (lg_sl ([.ref (ad o), .int a0, .ref ao]) ++ List.replicate (4 - (lg_sl ([.ref (ad o), .int a0, .ref ao])).length) Slot.unset).toArray = ls at hl ⊢
  have hl : lv_has ls 4 [(0, .ref (ad o)), (1, .int a0), (2, .ref ao)] := hl
  refine lv_aload_n hx hb dL_loudest_0 rfl (lv_at hl 2 rfl) ?_
  refine lv_iconst (v := 0) hx hb dL_loudest_1 (by decide) ?_
  refine lv_aload_n hx hb dL_loudest_2 rfl (lv_at hl 0 rfl) ?_
  refine lv_iload_n hx hb dL_loudest_3 rfl (lv_at hl 1 rfl) ?_
  refine t_avi (As := [.int a0]) (rest := [.int 0, .ref ao]) E G hA hX hX.2.2.2.1 hml (a_X11_loudest l hst D cI cJ cZ cMic cSrc cSt cAI cAJ ad T o a0 h hrc h_o) (cwV 1 hts (gaV qA_1097 qA_1098 qA_1099 qA_131 qA_893) rfl rfl rfl (by decide +kernel) ⟨Nat.le_of_ble_eq_true rfl, Nat.le_of_ble_eq_true rfl⟩) h_o (cc_o11 h_s) rfl rfl hl.1 rfl (lv_room (Nat.le_of_ble_eq_true rfl)) dL_loudest_4 ⟨by show 0 + (T1.1 - T.1) ≤ T1.1 - T.1 + 1; omega, by show 0 + (sg T1 - sg T) ≤ sg T1 - sg T + 6; omega⟩ ?_
  intro ad2 H locs had G
  refine lv_i2l (v := r1.toInt64) hx hb dL_loudest_7 rfl ?_
  refine t_last E G dL_loudest_8 (fun H locs G => ?_)
  refine lv_goto (tgt := 18) hx hb dL_loudest_9 (by decide) ?_
  refine lv_iconst (v := 0) hx hb dL_loudest_18 (by decide) ?_
  refine W.widen (k := T1.1 - T.1 + 1) (n := sg T1 - sg T + 6) (by omega) (by omega) ?_
  exact W.iret (v := 0) hx hb hr (fun t ht hW => ⟨⟨0, ad2, rfl, ⟨rfl, had⟩, ⟨by rw [ht]; exact G.1, va_K.moved hW.alike hK, G.2.1⟩⟩, G.2.2.F ht⟩) G.2.2.2.2 dL_loudest_19
set_option maxHeartbeats 4000000 in
set_option maxRecDepth 100000 in
theorem v_loudest_t (l : Launch) (hst : l.stackTraces = false) (D : va_G) {cI cJ cZ cMic cSrc cSt cAI cAJ cD : ClassId} (h0 : Nat) (ad : Nat → Nat) (T : AT) (o : Nat) (a0 : Int32) (ao : Nat) (f : Nat → Int64) {e1 : Nat} {r1 : Int32} {T1 : AT} (h : g_X11_loudest T o a0 = some (e1 + 1, r1, T1)) (hrc : RC T) (h_o : o < T.1) (h_s : T.2.1 o = (11, 0)) : tWi l yL_loudest (Cond.codeWith yL_loudest cL_loudest 4 (some .int) [(0, 9, 12, 21), (0, 9, 15, 13)] :: wsA) 8 147 cI cJ cZ cMic cSrc cSt cAI cAJ cD D h0 ad T (oJ ao cJ f) [.ref (ad o), .int a0, .ref ao] (vck 1 2 0 (e1 + 1)) T1 (oJ ao cJ (vfJ (e1 + 1) f r1.toInt64)) := by
  intro sz
  refine va_MetW (cc := cL_loudest) (maxL := 4) (ret := some .int) (by decide) rfl ?_
  intro p e s m args below meth c s₁ B hml hv
  obtain ⟨rfl, hsz, hP, hK, hD0, hX, hN, hA0, hTS⟩ := hv
  have hx := B.exec
  have hb := B.bytes
  have hr := B.returns
  have hts := atoms_spec (ws := (Cond.codeWith yL_loudest cL_loudest 4 (some .int) [(0, 9, 12, 21), (0, 9, 15, 13)] :: wsA)) B.pre
  have hown : s.vm.findClass RL = some m.cls := findClass_of_methodNamed B.named
  have hlocks := B.notSynchronized
  have htb := vx_table (x := yL_loudest) B (hts _ (.head _))
  subst hsz
  have hD := hD0.self (sz := s.heap.size)
  generalize hAe : va_A (cW ad T.1 (cc cI cJ cZ cMic cSrc cSt cAI cAJ ad T) ++ [oJ ao cJ f]) s.heap.size = A at hD hX hA0 ⊢
  have hA : ∀ q : Nat, s.heap.size ≤ q → A q := fun q h => by rw [← hAe]; exact Or.inr h
  have G : gL cI cJ cZ cMic cSrc cSt cAI cAJ D ad A s.heap s.heap [] T [oJ ao cJ f] := ⟨hP, hD, va_S.rf⟩
  have E : cE p c cL_loudest s m ([.ref (ad o), .int a0, .ref ao] : List Value).toArray (Cond.codeWith yL_loudest cL_loudest 4 (some .int) [(0, 9, 12, 21), (0, 9, 15, 13)] :: wsA) D RL (CT cI cJ cZ cMic cSrc cSt cAI cAJ ++ [(cD, .double)]) := ⟨hx, hb, hts, hown, hK⟩
  have hl := lv_entry ([.ref (ad o), .int a0, .ref ao]) (n := 4) (Nat.le_of_ble_eq_true rfl)
  rw [lg_entry_eq]
  generalize (lg_sl ([.ref (ad o), .int a0, .ref ao]) ++ List.replicate (4 - (lg_sl ([.ref (ad o), .int a0, .ref ao])).length) Slot.unset).toArray = ls at hl ⊢
  have hl : lv_has ls 4 [(0, .ref (ad o)), (1, .int a0), (2, .ref ao)] := hl
  refine lv_aload_n hx hb dL_loudest_0 rfl (lv_at hl 2 rfl) ?_
  refine lv_iconst (v := 0) hx hb dL_loudest_1 (by decide) ?_
  refine lv_aload_n hx hb dL_loudest_2 rfl (lv_at hl 0 rfl) ?_
  refine lv_iload_n hx hb dL_loudest_3 rfl (lv_at hl 1 rfl) ?_
  refine t_bvi (As := [.int a0]) (rest := [.int 0, .ref ao]) E G hA hX hX.2.2.2.1 hml (b_X11_loudest l hst D cI cJ cZ cMic cSrc cSt cAI cAJ ad T o a0 h hrc h_o) (cwV 1 hts (gaV qA_1097 qA_1098 qA_1099 qA_131 qA_893) rfl rfl rfl (by decide +kernel) ⟨Nat.le_of_ble_eq_true rfl, Nat.le_of_ble_eq_true rfl⟩) h_o (cc_o11 h_s) rfl rfl hl.1 rfl (lv_room (Nat.le_of_ble_eq_true rfl)) dL_loudest_4 ⟨by show 0 + (T1.1 - T.1 + 1) ≤ T1.1 - T.1 + 1; omega, by show 0 + (sg T1 - sg T + 6) ≤ sg T1 - sg T + 6; omega⟩ ?_
  intro E9 ce q9 ad2 H locs hE had G hce hcv hcl
  rcases e1 with _ | _ | e1
  · have hE : E9 = xISE := hE
    subst hE
    refine vx_catch (name := xISE) hown [] { startPc := 0, endPc := 9, handlerPc := 12, catchType := 21 } [{ startPc := 0, endPc := 9, handlerPc := 15, catchType := 13 }] htb (fun z hz => absurd hz List.not_mem_nil) (by decide) (by decide) (hts _ (.tail _ qA_952)) (hX.use (.castable xISE xISE) (by decide +kernel)) hce hcv hcl ?_
    refine lv_astore_n (lv' := [(3, .ref q9), (0, .ref (ad o)), (1, .int a0), (2, .ref ao)]) hx hb dL_loudest_12 rfl hl (by decide) rfl (fun ls hl => ?_)
    refine lv_iconst (v := 1) hx hb dL_loudest_13 (by decide) ?_
    refine W.widen (k := T1.1 - T.1 + 1) (n := sg T1 - sg T + 6) (by omega) (by omega) ?_
    exact W.iret (v := 1) hx hb hr (fun t ht hW => ⟨⟨1, ad2, rfl, ⟨rfl, had⟩, ⟨by rw [ht]; exact G.1, va_K.moved hW.alike hK, G.2.1⟩⟩, G.2.2.F ht⟩) G.2.2.2.2 dL_loudest_14
  · have hE : E9 = xIOB := hE
    subst hE
    refine vx_catch (name := xIOB) hown [{ startPc := 0, endPc := 9, handlerPc := 12, catchType := 21 }] { startPc := 0, endPc := 9, handlerPc := 15, catchType := 13 } [] htb (List.forall_mem_cons.mpr ⟨Or.inr ⟨by decide, xISE, hts _ (.tail _ qA_952), hN.2.2.1⟩, fun z hz => absurd hz List.not_mem_nil⟩) (by decide) (by decide) (hts _ (.tail _ qA_946)) (hX.use (.castable xIOB xIOB) (by decide +kernel)) hce hcv hcl ?_
    refine lv_astore_n (lv' := [(3, .ref q9), (0, .ref (ad o)), (1, .int a0), (2, .ref ao)]) hx hb dL_loudest_15 rfl hl (by decide) rfl (fun ls hl => ?_)
    refine lv_iconst (v := 2) hx hb dL_loudest_16 (by decide) ?_
    refine W.widen (k := T1.1 - T.1 + 1) (n := sg T1 - sg T + 6) (by omega) (by omega) ?_
    exact W.iret (v := 2) hx hb hr (fun t ht hW => ⟨⟨2, ad2, rfl, ⟨rfl, had⟩, ⟨by rw [ht]; exact G.1, va_K.moved hW.alike hK, G.2.1⟩⟩, G.2.2.F ht⟩) G.2.2.2.2 dL_loudest_17
  · have q := (cd_g_X11_loudest (S := [0, 1, 2]) (fun _ h => h) T o a0 _ _ _ h)
    simp only [List.mem_cons, List.not_mem_nil, or_false] at q
    omega
theorem v_loudest (l : Launch) (hst : l.stackTraces = false) (D : va_G) {cI cJ cZ cMic cSrc cSt cAI cAJ cD : ClassId} (h0 : Nat) (ad : Nat → Nat) (T : AT) (o : Nat) (a0 : Int32) (ao : Nat) (f : Nat → Int64) {k1 : Nat} {r1 : Int32} {T1 : AT} (h : g_X11_loudest T o a0 = some (k1, r1, T1)) (hrc : RC T) (h_o : o < T.1) (h_s : T.2.1 o = (11, 0)) : tWi l yL_loudest (Cond.codeWith yL_loudest cL_loudest 4 (some .int) [(0, 9, 12, 21), (0, 9, 15, 13)] :: wsA) 8 147 cI cJ cZ cMic cSrc cSt cAI cAJ cD D h0 ad T (oJ ao cJ f) [.ref (ad o), .int a0, .ref ao] (vck 1 2 0 k1) T1 (oJ ao cJ (vfJ k1 f r1.toInt64)) := by
  cases k1 with
  | zero => exact v_loudest_n l hst D h0 ad T o a0 ao f h hrc h_o h_s
  | succ e1 => exact v_loudest_t l hst D h0 ad T o a0 ao f h hrc h_o h_s
set_option maxHeartbeats 4000000 in
set_option maxRecDepth 100000 in
theorem v_writeMap_n (l : Launch) (hst : l.stackTraces = false) (D : va_G) {cI cJ cZ cMic cSrc cSt cAI cAJ cD : ClassId} (h0 : Nat) (ad : Nat → Nat) (T : AT) (o : Nat) (ao : Nat) (f : Nat → Int64) {r1 : Int32} {T1 : AT} (h : g_X11_writeMap T o = some (0, r1, T1)) (hrc : RC T) (h_o : o < T.1) (h_s : T.2.1 o = (11, 0)) : tWi l yL_writeMap (Cond.codeWith yL_writeMap cL_writeMap 3 (some .int) [(0, 8, 11, 21)] :: wsA) 8 171 cI cJ cZ cMic cSrc cSt cAI cAJ cD D h0 ad T (oJ ao cJ f) [.ref (ad o), .ref ao] (vck 1 0 0 (0)) T1 (oJ ao cJ (vfJ (0) f r1.toInt64)) := by
  intro sz
  refine va_MetW (cc := cL_writeMap) (maxL := 3) (ret := some .int) (by decide) rfl ?_
  intro p e s m args below meth c s₁ B hml hv
  obtain ⟨rfl, hsz, hP, hK, hD0, hX, hN, hA0, hTS⟩ := hv
  have hx := B.exec
  have hb := B.bytes
  have hr := B.returns
  have hts := atoms_spec (ws := (Cond.codeWith yL_writeMap cL_writeMap 3 (some .int) [(0, 8, 11, 21)] :: wsA)) B.pre
  have hown : s.vm.findClass RL = some m.cls := findClass_of_methodNamed B.named
  have hlocks := B.notSynchronized
  have htb := vx_table (x := yL_writeMap) B (hts _ (.head _))
  subst hsz
  have hD := hD0.self (sz := s.heap.size)
  generalize hAe : va_A (cW ad T.1 (cc cI cJ cZ cMic cSrc cSt cAI cAJ ad T) ++ [oJ ao cJ f]) s.heap.size = A at hD hX hA0 ⊢
  have hA : ∀ q : Nat, s.heap.size ≤ q → A q := fun q h => by rw [← hAe]; exact Or.inr h
  have G : gL cI cJ cZ cMic cSrc cSt cAI cAJ D ad A s.heap s.heap [] T [oJ ao cJ f] := ⟨hP, hD, va_S.rf⟩
  have E : cE p c cL_writeMap s m ([.ref (ad o), .ref ao] : List Value).toArray (Cond.codeWith yL_writeMap cL_writeMap 3 (some .int) [(0, 8, 11, 21)] :: wsA) D RL (CT cI cJ cZ cMic cSrc cSt cAI cAJ ++ [(cD, .double)]) := ⟨hx, hb, hts, hown, hK⟩
  have hl := lv_entry ([.ref (ad o), .ref ao]) (n := 3) (Nat.le_of_ble_eq_true rfl)
  rw [lg_entry_eq]
  generalize (lg_sl ([.ref (ad o), .ref ao]) ++ List.replicate (3 - (lg_sl ([.ref (ad o), .ref ao])).length) Slot.unset).toArray = ls at hl ⊢
  have hl : lv_has ls 3 [(0, .ref (ad o)), (1, .ref ao)] := hl
  refine lv_aload_n hx hb dL_writeMap_0 rfl (lv_at hl 1 rfl) ?_
  refine lv_iconst (v := 0) hx hb dL_writeMap_1 (by decide) ?_
  refine lv_aload_n hx hb dL_writeMap_2 rfl (lv_at hl 0 rfl) ?_
  refine t_avi (As := []) (rest := [.int 0, .ref ao]) E G hA hX hX.2.2.2.1 hml (a_X11_writeMap l hst D cI cJ cZ cMic cSrc cSt cAI cAJ ad T o  h hrc h_o) (cwV 0 hts (gaV qA_1101 qA_1102 qA_1103 qA_131 qA_895) rfl rfl rfl (by decide +kernel) ⟨Nat.le_of_ble_eq_true rfl, Nat.le_of_ble_eq_true rfl⟩) h_o (cc_o11 h_s) rfl rfl hl.1 rfl (lv_room (Nat.le_of_ble_eq_true rfl)) dL_writeMap_3 ⟨by show 0 + (T1.1 - T.1) ≤ T1.1 - T.1 + 1; omega, by show 0 + (sg T1 - sg T) ≤ sg T1 - sg T + 6; omega⟩ ?_
  intro ad2 H locs had G
  refine lv_i2l (v := r1.toInt64) hx hb dL_writeMap_6 rfl ?_
  refine t_last E G dL_writeMap_7 (fun H locs G => ?_)
  refine lv_goto (tgt := 14) hx hb dL_writeMap_8 (by decide) ?_
  refine lv_iconst (v := 0) hx hb dL_writeMap_14 (by decide) ?_
  refine W.widen (k := T1.1 - T.1 + 1) (n := sg T1 - sg T + 6) (by omega) (by omega) ?_
  exact W.iret (v := 0) hx hb hr (fun t ht hW => ⟨⟨0, ad2, rfl, ⟨rfl, had⟩, ⟨by rw [ht]; exact G.1, va_K.moved hW.alike hK, G.2.1⟩⟩, G.2.2.F ht⟩) G.2.2.2.2 dL_writeMap_15
set_option maxHeartbeats 4000000 in
set_option maxRecDepth 100000 in
theorem v_writeMap_t (l : Launch) (hst : l.stackTraces = false) (D : va_G) {cI cJ cZ cMic cSrc cSt cAI cAJ cD : ClassId} (h0 : Nat) (ad : Nat → Nat) (T : AT) (o : Nat) (ao : Nat) (f : Nat → Int64) {e1 : Nat} {r1 : Int32} {T1 : AT} (h : g_X11_writeMap T o = some (e1 + 1, r1, T1)) (hrc : RC T) (h_o : o < T.1) (h_s : T.2.1 o = (11, 0)) : tWi l yL_writeMap (Cond.codeWith yL_writeMap cL_writeMap 3 (some .int) [(0, 8, 11, 21)] :: wsA) 8 171 cI cJ cZ cMic cSrc cSt cAI cAJ cD D h0 ad T (oJ ao cJ f) [.ref (ad o), .ref ao] (vck 1 0 0 (e1 + 1)) T1 (oJ ao cJ (vfJ (e1 + 1) f r1.toInt64)) := by
  intro sz
  refine va_MetW (cc := cL_writeMap) (maxL := 3) (ret := some .int) (by decide) rfl ?_
  intro p e s m args below meth c s₁ B hml hv
  obtain ⟨rfl, hsz, hP, hK, hD0, hX, hN, hA0, hTS⟩ := hv
  have hx := B.exec
  have hb := B.bytes
  have hr := B.returns
  have hts := atoms_spec (ws := (Cond.codeWith yL_writeMap cL_writeMap 3 (some .int) [(0, 8, 11, 21)] :: wsA)) B.pre
  have hown : s.vm.findClass RL = some m.cls := findClass_of_methodNamed B.named
  have hlocks := B.notSynchronized
  have htb := vx_table (x := yL_writeMap) B (hts _ (.head _))
  subst hsz
  have hD := hD0.self (sz := s.heap.size)
  generalize hAe : va_A (cW ad T.1 (cc cI cJ cZ cMic cSrc cSt cAI cAJ ad T) ++ [oJ ao cJ f]) s.heap.size = A at hD hX hA0 ⊢
  have hA : ∀ q : Nat, s.heap.size ≤ q → A q := fun q h => by rw [← hAe]; exact Or.inr h
  have G : gL cI cJ cZ cMic cSrc cSt cAI cAJ D ad A s.heap s.heap [] T [oJ ao cJ f] := ⟨hP, hD, va_S.rf⟩
  have E : cE p c cL_writeMap s m ([.ref (ad o), .ref ao] : List Value).toArray (Cond.codeWith yL_writeMap cL_writeMap 3 (some .int) [(0, 8, 11, 21)] :: wsA) D RL (CT cI cJ cZ cMic cSrc cSt cAI cAJ ++ [(cD, .double)]) := ⟨hx, hb, hts, hown, hK⟩
  have hl := lv_entry ([.ref (ad o), .ref ao]) (n := 3) (Nat.le_of_ble_eq_true rfl)
  rw [lg_entry_eq]
  generalize (lg_sl ([.ref (ad o), .ref ao]) ++ List.replicate (3 - (lg_sl ([.ref (ad o), .ref ao])).length) Slot.unset).toArray = ls at hl ⊢
  have hl : lv_has ls 3 [(0, .ref (ad o)), (1, .ref ao)] := hl
  refine lv_aload_n hx hb dL_writeMap_0 rfl (lv_at hl 1 rfl) ?_
  refine lv_iconst (v := 0) hx hb dL_writeMap_1 (by decide) ?_
  refine lv_aload_n hx hb dL_writeMap_2 rfl (lv_at hl 0 rfl) ?_
  refine t_bvi (As := []) (rest := [.int 0, .ref ao]) E G hA hX hX.2.2.2.1 hml (b_X11_writeMap l hst D cI cJ cZ cMic cSrc cSt cAI cAJ ad T o  h hrc h_o) (cwV 0 hts (gaV qA_1101 qA_1102 qA_1103 qA_131 qA_895) rfl rfl rfl (by decide +kernel) ⟨Nat.le_of_ble_eq_true rfl, Nat.le_of_ble_eq_true rfl⟩) h_o (cc_o11 h_s) rfl rfl hl.1 rfl (lv_room (Nat.le_of_ble_eq_true rfl)) dL_writeMap_3 ⟨by show 0 + (T1.1 - T.1 + 1) ≤ T1.1 - T.1 + 1; omega, by show 0 + (sg T1 - sg T + 6) ≤ sg T1 - sg T + 6; omega⟩ ?_
  intro E9 ce q9 ad2 H locs hE had G hce hcv hcl
  rcases e1 with _ | _ | e1
  · have hE : E9 = xISE := hE
    subst hE
    refine vx_catch (name := xISE) hown [] { startPc := 0, endPc := 8, handlerPc := 11, catchType := 21 } [] htb (fun z hz => absurd hz List.not_mem_nil) (by decide) (by decide) (hts _ (.tail _ qA_952)) (hX.use (.castable xISE xISE) (by decide +kernel)) hce hcv hcl ?_
    refine lv_astore_n (lv' := [(2, .ref q9), (0, .ref (ad o)), (1, .ref ao)]) hx hb dL_writeMap_11 rfl hl (by decide) rfl (fun ls hl => ?_)
    refine lv_iconst (v := 1) hx hb dL_writeMap_12 (by decide) ?_
    refine W.widen (k := T1.1 - T.1 + 1) (n := sg T1 - sg T + 6) (by omega) (by omega) ?_
    exact W.iret (v := 1) hx hb hr (fun t ht hW => ⟨⟨1, ad2, rfl, ⟨rfl, had⟩, ⟨by rw [ht]; exact G.1, va_K.moved hW.alike hK, G.2.1⟩⟩, G.2.2.F ht⟩) G.2.2.2.2 dL_writeMap_13
  · exact absurd (cd_g_X11_writeMap (S := [0, 1]) (fun _ h => h) T o _ _ _ h) (by decide)
  · have q := (cd_g_X11_writeMap (S := [0, 1]) (fun _ h => h) T o _ _ _ h)
    simp only [List.mem_cons, List.not_mem_nil, or_false] at q
    omega
theorem v_writeMap (l : Launch) (hst : l.stackTraces = false) (D : va_G) {cI cJ cZ cMic cSrc cSt cAI cAJ cD : ClassId} (h0 : Nat) (ad : Nat → Nat) (T : AT) (o : Nat) (ao : Nat) (f : Nat → Int64) {k1 : Nat} {r1 : Int32} {T1 : AT} (h : g_X11_writeMap T o = some (k1, r1, T1)) (hrc : RC T) (h_o : o < T.1) (h_s : T.2.1 o = (11, 0)) : tWi l yL_writeMap (Cond.codeWith yL_writeMap cL_writeMap 3 (some .int) [(0, 8, 11, 21)] :: wsA) 8 171 cI cJ cZ cMic cSrc cSt cAI cAJ cD D h0 ad T (oJ ao cJ f) [.ref (ad o), .ref ao] (vck 1 0 0 k1) T1 (oJ ao cJ (vfJ k1 f r1.toInt64)) := by
  cases k1 with
  | zero => exact v_writeMap_n l hst D h0 ad T o  ao f h hrc h_o h_s
  | succ e1 => exact v_writeMap_t l hst D h0 ad T o  ao f h hrc h_o h_s
set_option maxHeartbeats 4000000 in
set_option maxRecDepth 100000 in
theorem v_mapByte_n (l : Launch) (hst : l.stackTraces = false) (D : va_G) {cI cJ cZ cMic cSrc cSt cAI cAJ cD : ClassId} (h0 : Nat) (ad : Nat → Nat) (T : AT) (o : Nat) (a0 : Int32) (ao : Nat) (f : Nat → Int64) {r1 : Int32} {T1 : AT} (h : g_X11_mapByte T o a0 = some (0, r1, T1)) (hrc : RC T) (h_o : o < T.1) (h_s : T.2.1 o = (11, 0)) : tWi l yL_mapByte (Cond.codeWith yL_mapByte cL_mapByte 4 (some .int) [(0, 9, 12, 13)] :: wsA) 8 123 cI cJ cZ cMic cSrc cSt cAI cAJ cD D h0 ad T (oJ ao cJ f) [.ref (ad o), .int a0, .ref ao] (vck 0 1 0 (0)) T1 (oJ ao cJ (vfJ (0) f r1.toInt64)) := by
  intro sz
  refine va_MetW (cc := cL_mapByte) (maxL := 4) (ret := some .int) (by decide) rfl ?_
  intro p e s m args below meth c s₁ B hml hv
  obtain ⟨rfl, hsz, hP, hK, hD0, hX, hN, hA0, hTS⟩ := hv
  have hx := B.exec
  have hb := B.bytes
  have hr := B.returns
  have hts := atoms_spec (ws := (Cond.codeWith yL_mapByte cL_mapByte 4 (some .int) [(0, 9, 12, 13)] :: wsA)) B.pre
  have hown : s.vm.findClass RL = some m.cls := findClass_of_methodNamed B.named
  have hlocks := B.notSynchronized
  have htb := vx_table (x := yL_mapByte) B (hts _ (.head _))
  subst hsz
  have hD := hD0.self (sz := s.heap.size)
  generalize hAe : va_A (cW ad T.1 (cc cI cJ cZ cMic cSrc cSt cAI cAJ ad T) ++ [oJ ao cJ f]) s.heap.size = A at hD hX hA0 ⊢
  have hA : ∀ q : Nat, s.heap.size ≤ q → A q := fun q h => by rw [← hAe]; exact Or.inr h
  have G : gL cI cJ cZ cMic cSrc cSt cAI cAJ D ad A s.heap s.heap [] T [oJ ao cJ f] := ⟨hP, hD, va_S.rf⟩
  have E : cE p c cL_mapByte s m ([.ref (ad o), .int a0, .ref ao] : List Value).toArray (Cond.codeWith yL_mapByte cL_mapByte 4 (some .int) [(0, 9, 12, 13)] :: wsA) D RL (CT cI cJ cZ cMic cSrc cSt cAI cAJ ++ [(cD, .double)]) := ⟨hx, hb, hts, hown, hK⟩
  have hl := lv_entry ([.ref (ad o), .int a0, .ref ao]) (n := 4) (Nat.le_of_ble_eq_true rfl)
  rw [lg_entry_eq]
  generalize (lg_sl ([.ref (ad o), .int a0, .ref ao]) ++ List.replicate (4 - (lg_sl ([.ref (ad o), .int a0, .ref ao])).length) Slot.unset).toArray = ls at hl ⊢
  have hl : lv_has ls 4 [(0, .ref (ad o)), (1, .int a0), (2, .ref ao)] := hl
  refine lv_aload_n hx hb dL_mapByte_0 rfl (lv_at hl 2 rfl) ?_
  refine lv_iconst (v := 0) hx hb dL_mapByte_1 (by decide) ?_
  refine lv_aload_n hx hb dL_mapByte_2 rfl (lv_at hl 0 rfl) ?_
  refine lv_iload_n hx hb dL_mapByte_3 rfl (lv_at hl 1 rfl) ?_
  refine t_cvi (As := [.int a0]) (rest := [.int 0, .ref ao]) E G hA hX hX.2.2.2.1 hml (u_X11_mapByte l hst D cI cJ cZ cMic cSrc cSt cAI cAJ ad T o a0 h) (cwV 1 hts (gaV qA_1105 qA_1106 qA_1107 qA_131 qA_905) rfl rfl rfl (by decide +kernel) ⟨Nat.le_of_ble_eq_true rfl, Nat.le_of_ble_eq_true rfl⟩) h_o (cc_o11 h_s) rfl rfl hl.1 rfl (lv_room (Nat.le_of_ble_eq_true rfl)) dL_mapByte_4 ⟨by show 0 + (0) ≤ T1.1 - T.1 + 1; omega, by show 0 + (0) ≤ sg T1 - sg T + 6; omega⟩ ?_
  intro r9 S1 H locs hp G
  obtain ⟨hr9, hS1⟩ := hp
  rw [hS1] at G
  rw [hr9]
  have had : ∀ n, n < T.1 → ad n = ad n := fun _ _ => rfl
  refine lv_i2l (v := r1.toInt64) hx hb dL_mapByte_7 rfl ?_
  refine t_last E G dL_mapByte_8 (fun H locs G => ?_)
  refine lv_goto (tgt := 15) hx hb dL_mapByte_9 (by decide) ?_
  refine lv_iconst (v := 0) hx hb dL_mapByte_15 (by decide) ?_
  refine W.widen (k := T1.1 - T.1 + 1) (n := sg T1 - sg T + 6) (by omega) (by omega) ?_
  exact W.iret (v := 0) hx hb hr (fun t ht hW => ⟨⟨0, ad, rfl, ⟨rfl, had⟩, ⟨by rw [ht]; exact G.1, va_K.moved hW.alike hK, G.2.1⟩⟩, G.2.2.F ht⟩) G.2.2.2.2 dL_mapByte_16
set_option maxHeartbeats 4000000 in
set_option maxRecDepth 100000 in
theorem v_mapByte_t (l : Launch) (hst : l.stackTraces = false) (D : va_G) {cI cJ cZ cMic cSrc cSt cAI cAJ cD : ClassId} (h0 : Nat) (ad : Nat → Nat) (T : AT) (o : Nat) (a0 : Int32) (ao : Nat) (f : Nat → Int64) {e1 : Nat} {r1 : Int32} {T1 : AT} (h : g_X11_mapByte T o a0 = some (e1 + 1, r1, T1)) (hrc : RC T) (h_o : o < T.1) (h_s : T.2.1 o = (11, 0)) : tWi l yL_mapByte (Cond.codeWith yL_mapByte cL_mapByte 4 (some .int) [(0, 9, 12, 13)] :: wsA) 8 123 cI cJ cZ cMic cSrc cSt cAI cAJ cD D h0 ad T (oJ ao cJ f) [.ref (ad o), .int a0, .ref ao] (vck 0 1 0 (e1 + 1)) T1 (oJ ao cJ (vfJ (e1 + 1) f r1.toInt64)) := by
  intro sz
  refine va_MetW (cc := cL_mapByte) (maxL := 4) (ret := some .int) (by decide) rfl ?_
  intro p e s m args below meth c s₁ B hml hv
  obtain ⟨rfl, hsz, hP, hK, hD0, hX, hN, hA0, hTS⟩ := hv
  have hx := B.exec
  have hb := B.bytes
  have hr := B.returns
  have hts := atoms_spec (ws := (Cond.codeWith yL_mapByte cL_mapByte 4 (some .int) [(0, 9, 12, 13)] :: wsA)) B.pre
  have hown : s.vm.findClass RL = some m.cls := findClass_of_methodNamed B.named
  have hlocks := B.notSynchronized
  have htb := vx_table (x := yL_mapByte) B (hts _ (.head _))
  subst hsz
  have hD := hD0.self (sz := s.heap.size)
  generalize hAe : va_A (cW ad T.1 (cc cI cJ cZ cMic cSrc cSt cAI cAJ ad T) ++ [oJ ao cJ f]) s.heap.size = A at hD hX hA0 ⊢
  have hA : ∀ q : Nat, s.heap.size ≤ q → A q := fun q h => by rw [← hAe]; exact Or.inr h
  have G : gL cI cJ cZ cMic cSrc cSt cAI cAJ D ad A s.heap s.heap [] T [oJ ao cJ f] := ⟨hP, hD, va_S.rf⟩
  have E : cE p c cL_mapByte s m ([.ref (ad o), .int a0, .ref ao] : List Value).toArray (Cond.codeWith yL_mapByte cL_mapByte 4 (some .int) [(0, 9, 12, 13)] :: wsA) D RL (CT cI cJ cZ cMic cSrc cSt cAI cAJ ++ [(cD, .double)]) := ⟨hx, hb, hts, hown, hK⟩
  have hl := lv_entry ([.ref (ad o), .int a0, .ref ao]) (n := 4) (Nat.le_of_ble_eq_true rfl)
  rw [lg_entry_eq]
  generalize (lg_sl ([.ref (ad o), .int a0, .ref ao]) ++ List.replicate (4 - (lg_sl ([.ref (ad o), .int a0, .ref ao])).length) Slot.unset).toArray = ls at hl ⊢
  have hl : lv_has ls 4 [(0, .ref (ad o)), (1, .int a0), (2, .ref ao)] := hl
  refine lv_aload_n hx hb dL_mapByte_0 rfl (lv_at hl 2 rfl) ?_
  refine lv_iconst (v := 0) hx hb dL_mapByte_1 (by decide) ?_
  refine lv_aload_n hx hb dL_mapByte_2 rfl (lv_at hl 0 rfl) ?_
  refine lv_iload_n hx hb dL_mapByte_3 rfl (lv_at hl 1 rfl) ?_
  refine t_xvi (As := [.int a0]) (rest := [.int 0, .ref ao]) E G hA hX hX.2.2.2.1 hml (x_X11_mapByte l hst D cI cJ cZ cMic cSrc cSt cAI cAJ ad T o a0 h) (cwV 1 hts (gaV qA_1105 qA_1106 qA_1107 qA_131 qA_905) rfl rfl rfl (by decide +kernel) ⟨Nat.le_of_ble_eq_true rfl, Nat.le_of_ble_eq_true rfl⟩) h_o (cc_o11 h_s) rfl rfl hl.1 rfl (lv_room (Nat.le_of_ble_eq_true rfl)) dL_mapByte_4 ⟨by show 0 + (1) ≤ T1.1 - T.1 + 1; omega, by show 0 + (6) ≤ sg T1 - sg T + 6; omega⟩ ?_
  intro E9 ce q9 S1 H locs hp G hce hcv hcl
  obtain ⟨hE, hS1⟩ := hp
  rw [hS1] at G
  have had : ∀ n, n < T.1 → ad n = ad n := fun _ _ => rfl
  rcases e1 with _ | _ | e1
  · exact absurd (cd_g_X11_mapByte (S := [0, 2]) (fun _ h => h) T o a0 _ _ _ h) (by decide)
  · have hE : E9 = xIOB := hE
    subst hE
    refine vx_catch (name := xIOB) hown [] { startPc := 0, endPc := 9, handlerPc := 12, catchType := 13 } [] htb (fun z hz => absurd hz List.not_mem_nil) (by decide) (by decide) (hts _ (.tail _ qA_946)) (hX.use (.castable xIOB xIOB) (by decide +kernel)) hce hcv hcl ?_
    refine lv_astore_n (lv' := [(3, .ref q9), (0, .ref (ad o)), (1, .int a0), (2, .ref ao)]) hx hb dL_mapByte_12 rfl hl (by decide) rfl (fun ls hl => ?_)
    refine lv_iconst (v := 1) hx hb dL_mapByte_13 (by decide) ?_
    refine W.widen (k := T1.1 - T.1 + 1) (n := sg T1 - sg T + 6) (by omega) (by omega) ?_
    exact W.iret (v := 1) hx hb hr (fun t ht hW => ⟨⟨1, ad, rfl, ⟨rfl, had⟩, ⟨by rw [ht]; exact G.1, va_K.moved hW.alike hK, G.2.1⟩⟩, G.2.2.F ht⟩) G.2.2.2.2 dL_mapByte_14
  · have q := (cd_g_X11_mapByte (S := [0, 2]) (fun _ h => h) T o a0 _ _ _ h)
    simp only [List.mem_cons, List.not_mem_nil, or_false] at q
    omega
theorem v_mapByte (l : Launch) (hst : l.stackTraces = false) (D : va_G) {cI cJ cZ cMic cSrc cSt cAI cAJ cD : ClassId} (h0 : Nat) (ad : Nat → Nat) (T : AT) (o : Nat) (a0 : Int32) (ao : Nat) (f : Nat → Int64) {k1 : Nat} {r1 : Int32} {T1 : AT} (h : g_X11_mapByte T o a0 = some (k1, r1, T1)) (hrc : RC T) (h_o : o < T.1) (h_s : T.2.1 o = (11, 0)) : tWi l yL_mapByte (Cond.codeWith yL_mapByte cL_mapByte 4 (some .int) [(0, 9, 12, 13)] :: wsA) 8 123 cI cJ cZ cMic cSrc cSt cAI cAJ cD D h0 ad T (oJ ao cJ f) [.ref (ad o), .int a0, .ref ao] (vck 0 1 0 k1) T1 (oJ ao cJ (vfJ k1 f r1.toInt64)) := by
  cases k1 with
  | zero => exact v_mapByte_n l hst D h0 ad T o a0 ao f h hrc h_o h_s
  | succ e1 => exact v_mapByte_t l hst D h0 ad T o a0 ao f h hrc h_o h_s
set_option maxHeartbeats 4000000 in
set_option maxRecDepth 100000 in
theorem v_pointBest_n (l : Launch) (hst : l.stackTraces = false) (D : va_G) {cI cJ cZ cMic cSrc cSt cAI cAJ cD : ClassId} (h0 : Nat) (ad : Nat → Nat) (T : AT) (o : Nat) (a0 a1 : Int32) (ao : Nat) (f : Nat → Int64) {r1 : Int32} {T1 : AT} (h : g_X11_pointBest T o a0 a1 = some (0, r1, T1)) (hrc : RC T) (h_o : o < T.1) (h_s : T.2.1 o = (11, 0)) : tWi l yL_pointBest (Cond.codeWith yL_pointBest cL_pointBest 5 (some .int) [(0, 10, 13, 21), (0, 10, 17, 13), (0, 10, 21, 15)] :: wsA) 9 171 cI cJ cZ cMic cSrc cSt cAI cAJ cD D h0 ad T (oJ ao cJ f) [.ref (ad o), .int a0, .int a1, .ref ao] (vck 1 2 3 (0)) T1 (oJ ao cJ (vfJ (0) f r1.toInt64)) := by
  intro sz
  refine va_MetW (cc := cL_pointBest) (maxL := 5) (ret := some .int) (by decide) rfl ?_
  intro p e s m args below meth c s₁ B hml hv
  obtain ⟨rfl, hsz, hP, hK, hD0, hX, hN, hA0, hTS⟩ := hv
  have hx := B.exec
  have hb := B.bytes
  have hr := B.returns
  have hts := atoms_spec (ws := (Cond.codeWith yL_pointBest cL_pointBest 5 (some .int) [(0, 10, 13, 21), (0, 10, 17, 13), (0, 10, 21, 15)] :: wsA)) B.pre
  have hown : s.vm.findClass RL = some m.cls := findClass_of_methodNamed B.named
  have hlocks := B.notSynchronized
  have htb := vx_table (x := yL_pointBest) B (hts _ (.head _))
  subst hsz
  have hD := hD0.self (sz := s.heap.size)
  generalize hAe : va_A (cW ad T.1 (cc cI cJ cZ cMic cSrc cSt cAI cAJ ad T) ++ [oJ ao cJ f]) s.heap.size = A at hD hX hA0 ⊢
  have hA : ∀ q : Nat, s.heap.size ≤ q → A q := fun q h => by rw [← hAe]; exact Or.inr h
  have G : gL cI cJ cZ cMic cSrc cSt cAI cAJ D ad A s.heap s.heap [] T [oJ ao cJ f] := ⟨hP, hD, va_S.rf⟩
  have E : cE p c cL_pointBest s m ([.ref (ad o), .int a0, .int a1, .ref ao] : List Value).toArray (Cond.codeWith yL_pointBest cL_pointBest 5 (some .int) [(0, 10, 13, 21), (0, 10, 17, 13), (0, 10, 21, 15)] :: wsA) D RL (CT cI cJ cZ cMic cSrc cSt cAI cAJ ++ [(cD, .double)]) := ⟨hx, hb, hts, hown, hK⟩
  have hl := lv_entry ([.ref (ad o), .int a0, .int a1, .ref ao]) (n := 5) (Nat.le_of_ble_eq_true rfl)
  rw [lg_entry_eq]
  generalize (lg_sl ([.ref (ad o), .int a0, .int a1, .ref ao]) ++ List.replicate (5 - (lg_sl ([.ref (ad o), .int a0, .int a1, .ref ao])).length) Slot.unset).toArray = ls at hl ⊢
  have hl : lv_has ls 5 [(0, .ref (ad o)), (1, .int a0), (2, .int a1), (3, .ref ao)] := hl
  refine lv_aload_n hx hb dL_pointBest_0 rfl (lv_at hl 3 rfl) ?_
  refine lv_iconst (v := 0) hx hb dL_pointBest_1 (by decide) ?_
  refine lv_aload_n hx hb dL_pointBest_2 rfl (lv_at hl 0 rfl) ?_
  refine lv_iload_n hx hb dL_pointBest_3 rfl (lv_at hl 1 rfl) ?_
  refine lv_iload_n hx hb dL_pointBest_4 rfl (lv_at hl 2 rfl) ?_
  refine t_avi (As := [.int a0, .int a1]) (rest := [.int 0, .ref ao]) E G hA hX hX.2.2.2.1 hml (a_X11_pointBest l hst D cI cJ cZ cMic cSrc cSt cAI cAJ ad T o a0 a1 h hrc h_o) (cwV 2 hts (gaV qA_1109 qA_1110 qA_1111 qA_131 qA_906) rfl rfl rfl (by decide +kernel) ⟨Nat.le_of_ble_eq_true rfl, Nat.le_of_ble_eq_true rfl⟩) h_o (cc_o11 h_s) rfl rfl hl.1 rfl (lv_room (Nat.le_of_ble_eq_true rfl)) dL_pointBest_5 ⟨by show 0 + (T1.1 - T.1) ≤ T1.1 - T.1 + 1; omega, by show 0 + (sg T1 - sg T) ≤ sg T1 - sg T + 6; omega⟩ ?_
  intro ad2 H locs had G
  refine lv_i2l (v := r1.toInt64) hx hb dL_pointBest_8 rfl ?_
  refine t_last E G dL_pointBest_9 (fun H locs G => ?_)
  refine lv_goto (tgt := 25) hx hb dL_pointBest_10 (by decide) ?_
  refine lv_iconst (v := 0) hx hb dL_pointBest_25 (by decide) ?_
  refine W.widen (k := T1.1 - T.1 + 1) (n := sg T1 - sg T + 6) (by omega) (by omega) ?_
  exact W.iret (v := 0) hx hb hr (fun t ht hW => ⟨⟨0, ad2, rfl, ⟨rfl, had⟩, ⟨by rw [ht]; exact G.1, va_K.moved hW.alike hK, G.2.1⟩⟩, G.2.2.F ht⟩) G.2.2.2.2 dL_pointBest_26
set_option maxHeartbeats 4000000 in
set_option maxRecDepth 100000 in
theorem v_pointBest_t (l : Launch) (hst : l.stackTraces = false) (D : va_G) {cI cJ cZ cMic cSrc cSt cAI cAJ cD : ClassId} (h0 : Nat) (ad : Nat → Nat) (T : AT) (o : Nat) (a0 a1 : Int32) (ao : Nat) (f : Nat → Int64) {e1 : Nat} {r1 : Int32} {T1 : AT} (h : g_X11_pointBest T o a0 a1 = some (e1 + 1, r1, T1)) (hrc : RC T) (h_o : o < T.1) (h_s : T.2.1 o = (11, 0)) : tWi l yL_pointBest (Cond.codeWith yL_pointBest cL_pointBest 5 (some .int) [(0, 10, 13, 21), (0, 10, 17, 13), (0, 10, 21, 15)] :: wsA) 9 171 cI cJ cZ cMic cSrc cSt cAI cAJ cD D h0 ad T (oJ ao cJ f) [.ref (ad o), .int a0, .int a1, .ref ao] (vck 1 2 3 (e1 + 1)) T1 (oJ ao cJ (vfJ (e1 + 1) f r1.toInt64)) := by
  intro sz
  refine va_MetW (cc := cL_pointBest) (maxL := 5) (ret := some .int) (by decide) rfl ?_
  intro p e s m args below meth c s₁ B hml hv
  obtain ⟨rfl, hsz, hP, hK, hD0, hX, hN, hA0, hTS⟩ := hv
  have hx := B.exec
  have hb := B.bytes
  have hr := B.returns
  have hts := atoms_spec (ws := (Cond.codeWith yL_pointBest cL_pointBest 5 (some .int) [(0, 10, 13, 21), (0, 10, 17, 13), (0, 10, 21, 15)] :: wsA)) B.pre
  have hown : s.vm.findClass RL = some m.cls := findClass_of_methodNamed B.named
  have hlocks := B.notSynchronized
  have htb := vx_table (x := yL_pointBest) B (hts _ (.head _))
  subst hsz
  have hD := hD0.self (sz := s.heap.size)
  generalize hAe : va_A (cW ad T.1 (cc cI cJ cZ cMic cSrc cSt cAI cAJ ad T) ++ [oJ ao cJ f]) s.heap.size = A at hD hX hA0 ⊢
  have hA : ∀ q : Nat, s.heap.size ≤ q → A q := fun q h => by rw [← hAe]; exact Or.inr h
  have G : gL cI cJ cZ cMic cSrc cSt cAI cAJ D ad A s.heap s.heap [] T [oJ ao cJ f] := ⟨hP, hD, va_S.rf⟩
  have E : cE p c cL_pointBest s m ([.ref (ad o), .int a0, .int a1, .ref ao] : List Value).toArray (Cond.codeWith yL_pointBest cL_pointBest 5 (some .int) [(0, 10, 13, 21), (0, 10, 17, 13), (0, 10, 21, 15)] :: wsA) D RL (CT cI cJ cZ cMic cSrc cSt cAI cAJ ++ [(cD, .double)]) := ⟨hx, hb, hts, hown, hK⟩
  have hl := lv_entry ([.ref (ad o), .int a0, .int a1, .ref ao]) (n := 5) (Nat.le_of_ble_eq_true rfl)
  rw [lg_entry_eq]
  generalize (lg_sl ([.ref (ad o), .int a0, .int a1, .ref ao]) ++ List.replicate (5 - (lg_sl ([.ref (ad o), .int a0, .int a1, .ref ao])).length) Slot.unset).toArray = ls at hl ⊢
  have hl : lv_has ls 5 [(0, .ref (ad o)), (1, .int a0), (2, .int a1), (3, .ref ao)] := hl
  refine lv_aload_n hx hb dL_pointBest_0 rfl (lv_at hl 3 rfl) ?_
  refine lv_iconst (v := 0) hx hb dL_pointBest_1 (by decide) ?_
  refine lv_aload_n hx hb dL_pointBest_2 rfl (lv_at hl 0 rfl) ?_
  refine lv_iload_n hx hb dL_pointBest_3 rfl (lv_at hl 1 rfl) ?_
  refine lv_iload_n hx hb dL_pointBest_4 rfl (lv_at hl 2 rfl) ?_
  refine t_bvi (As := [.int a0, .int a1]) (rest := [.int 0, .ref ao]) E G hA hX hX.2.2.2.1 hml (b_X11_pointBest l hst D cI cJ cZ cMic cSrc cSt cAI cAJ ad T o a0 a1 h hrc h_o) (cwV 2 hts (gaV qA_1109 qA_1110 qA_1111 qA_131 qA_906) rfl rfl rfl (by decide +kernel) ⟨Nat.le_of_ble_eq_true rfl, Nat.le_of_ble_eq_true rfl⟩) h_o (cc_o11 h_s) rfl rfl hl.1 rfl (lv_room (Nat.le_of_ble_eq_true rfl)) dL_pointBest_5 ⟨by show 0 + (T1.1 - T.1 + 1) ≤ T1.1 - T.1 + 1; omega, by show 0 + (sg T1 - sg T + 6) ≤ sg T1 - sg T + 6; omega⟩ ?_
  intro E9 ce q9 ad2 H locs hE had G hce hcv hcl
  rcases e1 with _ | _ | e1
  · have hE : E9 = xISE := hE
    subst hE
    refine vx_catch (name := xISE) hown [] { startPc := 0, endPc := 10, handlerPc := 13, catchType := 21 } [{ startPc := 0, endPc := 10, handlerPc := 17, catchType := 13 }, { startPc := 0, endPc := 10, handlerPc := 21, catchType := 15 }] htb (fun z hz => absurd hz List.not_mem_nil) (by decide) (by decide) (hts _ (.tail _ qA_952)) (hX.use (.castable xISE xISE) (by decide +kernel)) hce hcv hcl ?_
    refine lv_astore (lv' := [(4, .ref q9), (0, .ref (ad o)), (1, .int a0), (2, .int a1), (3, .ref ao)]) hx hb dL_pointBest_13 hl (by decide) rfl (fun ls hl => ?_)
    refine lv_iconst (v := 1) hx hb dL_pointBest_15 (by decide) ?_
    refine W.widen (k := T1.1 - T.1 + 1) (n := sg T1 - sg T + 6) (by omega) (by omega) ?_
    exact W.iret (v := 1) hx hb hr (fun t ht hW => ⟨⟨1, ad2, rfl, ⟨rfl, had⟩, ⟨by rw [ht]; exact G.1, va_K.moved hW.alike hK, G.2.1⟩⟩, G.2.2.F ht⟩) G.2.2.2.2 dL_pointBest_16
  · have hE : E9 = xIOB := hE
    subst hE
    refine vx_catch (name := xIOB) hown [{ startPc := 0, endPc := 10, handlerPc := 13, catchType := 21 }] { startPc := 0, endPc := 10, handlerPc := 17, catchType := 13 } [{ startPc := 0, endPc := 10, handlerPc := 21, catchType := 15 }] htb (List.forall_mem_cons.mpr ⟨Or.inr ⟨by decide, xISE, hts _ (.tail _ qA_952), hN.2.2.1⟩, fun z hz => absurd hz List.not_mem_nil⟩) (by decide) (by decide) (hts _ (.tail _ qA_946)) (hX.use (.castable xIOB xIOB) (by decide +kernel)) hce hcv hcl ?_
    refine lv_astore (lv' := [(4, .ref q9), (0, .ref (ad o)), (1, .int a0), (2, .int a1), (3, .ref ao)]) hx hb dL_pointBest_17 hl (by decide) rfl (fun ls hl => ?_)
    refine lv_iconst (v := 2) hx hb dL_pointBest_19 (by decide) ?_
    refine W.widen (k := T1.1 - T.1 + 1) (n := sg T1 - sg T + 6) (by omega) (by omega) ?_
    exact W.iret (v := 2) hx hb hr (fun t ht hW => ⟨⟨2, ad2, rfl, ⟨rfl, had⟩, ⟨by rw [ht]; exact G.1, va_K.moved hW.alike hK, G.2.1⟩⟩, G.2.2.F ht⟩) G.2.2.2.2 dL_pointBest_20
  · have hE : E9 = xIAE := hE
    subst hE
    refine vx_catch (name := xIAE) hown [{ startPc := 0, endPc := 10, handlerPc := 13, catchType := 21 }, { startPc := 0, endPc := 10, handlerPc := 17, catchType := 13 }] { startPc := 0, endPc := 10, handlerPc := 21, catchType := 15 } [] htb (List.forall_mem_cons.mpr ⟨Or.inr ⟨by decide, xISE, hts _ (.tail _ qA_952), hN.2.2.2⟩, List.forall_mem_cons.mpr ⟨Or.inr ⟨by decide, xIOB, hts _ (.tail _ qA_946), hN.1⟩, fun z hz => absurd hz List.not_mem_nil⟩⟩) (by decide) (by decide) (hts _ (.tail _ qA_947)) (hX.use (.castable xIAE xIAE) (by decide +kernel)) hce hcv hcl ?_
    refine lv_astore (lv' := [(4, .ref q9), (0, .ref (ad o)), (1, .int a0), (2, .int a1), (3, .ref ao)]) hx hb dL_pointBest_21 hl (by decide) rfl (fun ls hl => ?_)
    refine lv_iconst (v := 3) hx hb dL_pointBest_23 (by decide) ?_
    refine W.widen (k := T1.1 - T.1 + 1) (n := sg T1 - sg T + 6) (by omega) (by omega) ?_
    exact W.iret (v := 3) hx hb hr (fun t ht hW => ⟨⟨3, ad2, rfl, ⟨rfl, had⟩, ⟨by rw [ht]; exact G.1, va_K.moved hW.alike hK, G.2.1⟩⟩, G.2.2.F ht⟩) G.2.2.2.2 dL_pointBest_24
theorem v_pointBest (l : Launch) (hst : l.stackTraces = false) (D : va_G) {cI cJ cZ cMic cSrc cSt cAI cAJ cD : ClassId} (h0 : Nat) (ad : Nat → Nat) (T : AT) (o : Nat) (a0 a1 : Int32) (ao : Nat) (f : Nat → Int64) {k1 : Nat} {r1 : Int32} {T1 : AT} (h : g_X11_pointBest T o a0 a1 = some (k1, r1, T1)) (hrc : RC T) (h_o : o < T.1) (h_s : T.2.1 o = (11, 0)) : tWi l yL_pointBest (Cond.codeWith yL_pointBest cL_pointBest 5 (some .int) [(0, 10, 13, 21), (0, 10, 17, 13), (0, 10, 21, 15)] :: wsA) 9 171 cI cJ cZ cMic cSrc cSt cAI cAJ cD D h0 ad T (oJ ao cJ f) [.ref (ad o), .int a0, .int a1, .ref ao] (vck 1 2 3 k1) T1 (oJ ao cJ (vfJ k1 f r1.toInt64)) := by
  cases k1 with
  | zero => exact v_pointBest_n l hst D h0 ad T o a0 a1 ao f h hrc h_o h_s
  | succ e1 => exact v_pointBest_t l hst D h0 ad T o a0 a1 ao f h hrc h_o h_s
set_option maxHeartbeats 4000000 in
set_option maxRecDepth 100000 in
theorem v_pointPower_n (l : Launch) (hst : l.stackTraces = false) (D : va_G) {cI cJ cZ cMic cSrc cSt cAI cAJ cD : ClassId} (h0 : Nat) (ad : Nat → Nat) (T : AT) (o : Nat) (a0 a1 a2 : Int32) (ao : Nat) (f : Nat → Int64) {r1 : Int64} {T1 : AT} (h : g_X11_pointPower T o a0 a1 a2 = some (0, r1, T1)) (hrc : RC T) (h_o : o < T.1) (h_s : T.2.1 o = (11, 0)) : tWi l yL_pointPower (Cond.codeWith yL_pointPower cL_pointPower 6 (some .int) [(0, 11, 14, 21), (0, 11, 18, 13), (0, 11, 22, 15)] :: wsA) 9 171 cI cJ cZ cMic cSrc cSt cAI cAJ cD D h0 ad T (oJ ao cJ f) [.ref (ad o), .int a0, .int a1, .int a2, .ref ao] (vck 1 2 3 (0)) T1 (oJ ao cJ (vfJ (0) f r1)) := by
  intro sz
  refine va_MetW (cc := cL_pointPower) (maxL := 6) (ret := some .int) (by decide) rfl ?_
  intro p e s m args below meth c s₁ B hml hv
  obtain ⟨rfl, hsz, hP, hK, hD0, hX, hN, hA0, hTS⟩ := hv
  have hx := B.exec
  have hb := B.bytes
  have hr := B.returns
  have hts := atoms_spec (ws := (Cond.codeWith yL_pointPower cL_pointPower 6 (some .int) [(0, 11, 14, 21), (0, 11, 18, 13), (0, 11, 22, 15)] :: wsA)) B.pre
  have hown : s.vm.findClass RL = some m.cls := findClass_of_methodNamed B.named
  have hlocks := B.notSynchronized
  have htb := vx_table (x := yL_pointPower) B (hts _ (.head _))
  subst hsz
  have hD := hD0.self (sz := s.heap.size)
  generalize hAe : va_A (cW ad T.1 (cc cI cJ cZ cMic cSrc cSt cAI cAJ ad T) ++ [oJ ao cJ f]) s.heap.size = A at hD hX hA0 ⊢
  have hA : ∀ q : Nat, s.heap.size ≤ q → A q := fun q h => by rw [← hAe]; exact Or.inr h
  have G : gL cI cJ cZ cMic cSrc cSt cAI cAJ D ad A s.heap s.heap [] T [oJ ao cJ f] := ⟨hP, hD, va_S.rf⟩
  have E : cE p c cL_pointPower s m ([.ref (ad o), .int a0, .int a1, .int a2, .ref ao] : List Value).toArray (Cond.codeWith yL_pointPower cL_pointPower 6 (some .int) [(0, 11, 14, 21), (0, 11, 18, 13), (0, 11, 22, 15)] :: wsA) D RL (CT cI cJ cZ cMic cSrc cSt cAI cAJ ++ [(cD, .double)]) := ⟨hx, hb, hts, hown, hK⟩
  have hl := lv_entry ([.ref (ad o), .int a0, .int a1, .int a2, .ref ao]) (n := 6) (Nat.le_of_ble_eq_true rfl)
  rw [lg_entry_eq]
  generalize (lg_sl ([.ref (ad o), .int a0, .int a1, .int a2, .ref ao]) ++ List.replicate (6 - (lg_sl ([.ref (ad o), .int a0, .int a1, .int a2, .ref ao])).length) Slot.unset).toArray = ls at hl ⊢
  have hl : lv_has ls 6 [(0, .ref (ad o)), (1, .int a0), (2, .int a1), (3, .int a2), (4, .ref ao)] := hl
  refine lv_aload hx hb dL_pointPower_0 (lv_at hl 4 rfl) ?_
  refine lv_iconst (v := 0) hx hb dL_pointPower_2 (by decide) ?_
  refine lv_aload_n hx hb dL_pointPower_3 rfl (lv_at hl 0 rfl) ?_
  refine lv_iload_n hx hb dL_pointPower_4 rfl (lv_at hl 1 rfl) ?_
  refine lv_iload_n hx hb dL_pointPower_5 rfl (lv_at hl 2 rfl) ?_
  refine lv_iload_n hx hb dL_pointPower_6 rfl (lv_at hl 3 rfl) ?_
  refine t_avl (As := [.int a0, .int a1, .int a2]) (rest := [.int 0, .ref ao]) E G hA hX hX.2.2.2.1 hml (a_X11_pointPower l hst D cI cJ cZ cMic cSrc cSt cAI cAJ ad T o a0 a1 a2 h hrc h_o) (cwV 3 hts (gaV qA_1113 qA_1114 qA_1115 qA_131 qA_921) rfl rfl rfl (by decide +kernel) ⟨Nat.le_of_ble_eq_true rfl, Nat.le_of_ble_eq_true rfl⟩) h_o (cc_o11 h_s) rfl rfl hl.1 rfl (lv_room (Nat.le_of_ble_eq_true rfl)) dL_pointPower_7 ⟨by show 0 + (T1.1 - T.1) ≤ T1.1 - T.1 + 1; omega, by show 0 + (sg T1 - sg T) ≤ sg T1 - sg T + 6; omega⟩ ?_
  intro ad2 H locs had G
  refine t_last E G dL_pointPower_10 (fun H locs G => ?_)
  refine lv_goto (tgt := 26) hx hb dL_pointPower_11 (by decide) ?_
  refine lv_iconst (v := 0) hx hb dL_pointPower_26 (by decide) ?_
  refine W.widen (k := T1.1 - T.1 + 1) (n := sg T1 - sg T + 6) (by omega) (by omega) ?_
  exact W.iret (v := 0) hx hb hr (fun t ht hW => ⟨⟨0, ad2, rfl, ⟨rfl, had⟩, ⟨by rw [ht]; exact G.1, va_K.moved hW.alike hK, G.2.1⟩⟩, G.2.2.F ht⟩) G.2.2.2.2 dL_pointPower_27
set_option maxHeartbeats 4000000 in
set_option maxRecDepth 100000 in
theorem v_pointPower_t (l : Launch) (hst : l.stackTraces = false) (D : va_G) {cI cJ cZ cMic cSrc cSt cAI cAJ cD : ClassId} (h0 : Nat) (ad : Nat → Nat) (T : AT) (o : Nat) (a0 a1 a2 : Int32) (ao : Nat) (f : Nat → Int64) {e1 : Nat} {r1 : Int64} {T1 : AT} (h : g_X11_pointPower T o a0 a1 a2 = some (e1 + 1, r1, T1)) (hrc : RC T) (h_o : o < T.1) (h_s : T.2.1 o = (11, 0)) : tWi l yL_pointPower (Cond.codeWith yL_pointPower cL_pointPower 6 (some .int) [(0, 11, 14, 21), (0, 11, 18, 13), (0, 11, 22, 15)] :: wsA) 9 171 cI cJ cZ cMic cSrc cSt cAI cAJ cD D h0 ad T (oJ ao cJ f) [.ref (ad o), .int a0, .int a1, .int a2, .ref ao] (vck 1 2 3 (e1 + 1)) T1 (oJ ao cJ (vfJ (e1 + 1) f r1)) := by
  intro sz
  refine va_MetW (cc := cL_pointPower) (maxL := 6) (ret := some .int) (by decide) rfl ?_
  intro p e s m args below meth c s₁ B hml hv
  obtain ⟨rfl, hsz, hP, hK, hD0, hX, hN, hA0, hTS⟩ := hv
  have hx := B.exec
  have hb := B.bytes
  have hr := B.returns
  have hts := atoms_spec (ws := (Cond.codeWith yL_pointPower cL_pointPower 6 (some .int) [(0, 11, 14, 21), (0, 11, 18, 13), (0, 11, 22, 15)] :: wsA)) B.pre
  have hown : s.vm.findClass RL = some m.cls := findClass_of_methodNamed B.named
  have hlocks := B.notSynchronized
  have htb := vx_table (x := yL_pointPower) B (hts _ (.head _))
  subst hsz
  have hD := hD0.self (sz := s.heap.size)
  generalize hAe : va_A (cW ad T.1 (cc cI cJ cZ cMic cSrc cSt cAI cAJ ad T) ++ [oJ ao cJ f]) s.heap.size = A at hD hX hA0 ⊢
  have hA : ∀ q : Nat, s.heap.size ≤ q → A q := fun q h => by rw [← hAe]; exact Or.inr h
  have G : gL cI cJ cZ cMic cSrc cSt cAI cAJ D ad A s.heap s.heap [] T [oJ ao cJ f] := ⟨hP, hD, va_S.rf⟩
  have E : cE p c cL_pointPower s m ([.ref (ad o), .int a0, .int a1, .int a2, .ref ao] : List Value).toArray (Cond.codeWith yL_pointPower cL_pointPower 6 (some .int) [(0, 11, 14, 21), (0, 11, 18, 13), (0, 11, 22, 15)] :: wsA) D RL (CT cI cJ cZ cMic cSrc cSt cAI cAJ ++ [(cD, .double)]) := ⟨hx, hb, hts, hown, hK⟩
  have hl := lv_entry ([.ref (ad o), .int a0, .int a1, .int a2, .ref ao]) (n := 6) (Nat.le_of_ble_eq_true rfl)
  rw [lg_entry_eq]
  generalize (lg_sl ([.ref (ad o), .int a0, .int a1, .int a2, .ref ao]) ++ List.replicate (6 - (lg_sl ([.ref (ad o), .int a0, .int a1, .int a2, .ref ao])).length) Slot.unset).toArray = ls at hl ⊢
  have hl : lv_has ls 6 [(0, .ref (ad o)), (1, .int a0), (2, .int a1), (3, .int a2), (4, .ref ao)] := hl
  refine lv_aload hx hb dL_pointPower_0 (lv_at hl 4 rfl) ?_
  refine lv_iconst (v := 0) hx hb dL_pointPower_2 (by decide) ?_
  refine lv_aload_n hx hb dL_pointPower_3 rfl (lv_at hl 0 rfl) ?_
  refine lv_iload_n hx hb dL_pointPower_4 rfl (lv_at hl 1 rfl) ?_
  refine lv_iload_n hx hb dL_pointPower_5 rfl (lv_at hl 2 rfl) ?_
  refine lv_iload_n hx hb dL_pointPower_6 rfl (lv_at hl 3 rfl) ?_
  refine t_bvl (As := [.int a0, .int a1, .int a2]) (rest := [.int 0, .ref ao]) E G hA hX hX.2.2.2.1 hml (b_X11_pointPower l hst D cI cJ cZ cMic cSrc cSt cAI cAJ ad T o a0 a1 a2 h hrc h_o) (cwV 3 hts (gaV qA_1113 qA_1114 qA_1115 qA_131 qA_921) rfl rfl rfl (by decide +kernel) ⟨Nat.le_of_ble_eq_true rfl, Nat.le_of_ble_eq_true rfl⟩) h_o (cc_o11 h_s) rfl rfl hl.1 rfl (lv_room (Nat.le_of_ble_eq_true rfl)) dL_pointPower_7 ⟨by show 0 + (T1.1 - T.1 + 1) ≤ T1.1 - T.1 + 1; omega, by show 0 + (sg T1 - sg T + 6) ≤ sg T1 - sg T + 6; omega⟩ ?_
  intro E9 ce q9 ad2 H locs hE had G hce hcv hcl
  rcases e1 with _ | _ | e1
  · have hE : E9 = xISE := hE
    subst hE
    refine vx_catch (name := xISE) hown [] { startPc := 0, endPc := 11, handlerPc := 14, catchType := 21 } [{ startPc := 0, endPc := 11, handlerPc := 18, catchType := 13 }, { startPc := 0, endPc := 11, handlerPc := 22, catchType := 15 }] htb (fun z hz => absurd hz List.not_mem_nil) (by decide) (by decide) (hts _ (.tail _ qA_952)) (hX.use (.castable xISE xISE) (by decide +kernel)) hce hcv hcl ?_
    refine lv_astore (lv' := [(5, .ref q9), (0, .ref (ad o)), (1, .int a0), (2, .int a1), (3, .int a2), (4, .ref ao)]) hx hb dL_pointPower_14 hl (by decide) rfl (fun ls hl => ?_)
    refine lv_iconst (v := 1) hx hb dL_pointPower_16 (by decide) ?_
    refine W.widen (k := T1.1 - T.1 + 1) (n := sg T1 - sg T + 6) (by omega) (by omega) ?_
    exact W.iret (v := 1) hx hb hr (fun t ht hW => ⟨⟨1, ad2, rfl, ⟨rfl, had⟩, ⟨by rw [ht]; exact G.1, va_K.moved hW.alike hK, G.2.1⟩⟩, G.2.2.F ht⟩) G.2.2.2.2 dL_pointPower_17
  · have hE : E9 = xIOB := hE
    subst hE
    refine vx_catch (name := xIOB) hown [{ startPc := 0, endPc := 11, handlerPc := 14, catchType := 21 }] { startPc := 0, endPc := 11, handlerPc := 18, catchType := 13 } [{ startPc := 0, endPc := 11, handlerPc := 22, catchType := 15 }] htb (List.forall_mem_cons.mpr ⟨Or.inr ⟨by decide, xISE, hts _ (.tail _ qA_952), hN.2.2.1⟩, fun z hz => absurd hz List.not_mem_nil⟩) (by decide) (by decide) (hts _ (.tail _ qA_946)) (hX.use (.castable xIOB xIOB) (by decide +kernel)) hce hcv hcl ?_
    refine lv_astore (lv' := [(5, .ref q9), (0, .ref (ad o)), (1, .int a0), (2, .int a1), (3, .int a2), (4, .ref ao)]) hx hb dL_pointPower_18 hl (by decide) rfl (fun ls hl => ?_)
    refine lv_iconst (v := 2) hx hb dL_pointPower_20 (by decide) ?_
    refine W.widen (k := T1.1 - T.1 + 1) (n := sg T1 - sg T + 6) (by omega) (by omega) ?_
    exact W.iret (v := 2) hx hb hr (fun t ht hW => ⟨⟨2, ad2, rfl, ⟨rfl, had⟩, ⟨by rw [ht]; exact G.1, va_K.moved hW.alike hK, G.2.1⟩⟩, G.2.2.F ht⟩) G.2.2.2.2 dL_pointPower_21
  · have hE : E9 = xIAE := hE
    subst hE
    refine vx_catch (name := xIAE) hown [{ startPc := 0, endPc := 11, handlerPc := 14, catchType := 21 }, { startPc := 0, endPc := 11, handlerPc := 18, catchType := 13 }] { startPc := 0, endPc := 11, handlerPc := 22, catchType := 15 } [] htb (List.forall_mem_cons.mpr ⟨Or.inr ⟨by decide, xISE, hts _ (.tail _ qA_952), hN.2.2.2⟩, List.forall_mem_cons.mpr ⟨Or.inr ⟨by decide, xIOB, hts _ (.tail _ qA_946), hN.1⟩, fun z hz => absurd hz List.not_mem_nil⟩⟩) (by decide) (by decide) (hts _ (.tail _ qA_947)) (hX.use (.castable xIAE xIAE) (by decide +kernel)) hce hcv hcl ?_
    refine lv_astore (lv' := [(5, .ref q9), (0, .ref (ad o)), (1, .int a0), (2, .int a1), (3, .int a2), (4, .ref ao)]) hx hb dL_pointPower_22 hl (by decide) rfl (fun ls hl => ?_)
    refine lv_iconst (v := 3) hx hb dL_pointPower_24 (by decide) ?_
    refine W.widen (k := T1.1 - T.1 + 1) (n := sg T1 - sg T + 6) (by omega) (by omega) ?_
    exact W.iret (v := 3) hx hb hr (fun t ht hW => ⟨⟨3, ad2, rfl, ⟨rfl, had⟩, ⟨by rw [ht]; exact G.1, va_K.moved hW.alike hK, G.2.1⟩⟩, G.2.2.F ht⟩) G.2.2.2.2 dL_pointPower_25
theorem v_pointPower (l : Launch) (hst : l.stackTraces = false) (D : va_G) {cI cJ cZ cMic cSrc cSt cAI cAJ cD : ClassId} (h0 : Nat) (ad : Nat → Nat) (T : AT) (o : Nat) (a0 a1 a2 : Int32) (ao : Nat) (f : Nat → Int64) {k1 : Nat} {r1 : Int64} {T1 : AT} (h : g_X11_pointPower T o a0 a1 a2 = some (k1, r1, T1)) (hrc : RC T) (h_o : o < T.1) (h_s : T.2.1 o = (11, 0)) : tWi l yL_pointPower (Cond.codeWith yL_pointPower cL_pointPower 6 (some .int) [(0, 11, 14, 21), (0, 11, 18, 13), (0, 11, 22, 15)] :: wsA) 9 171 cI cJ cZ cMic cSrc cSt cAI cAJ cD D h0 ad T (oJ ao cJ f) [.ref (ad o), .int a0, .int a1, .int a2, .ref ao] (vck 1 2 3 k1) T1 (oJ ao cJ (vfJ k1 f r1)) := by
  cases k1 with
  | zero => exact v_pointPower_n l hst D h0 ad T o a0 a1 a2 ao f h hrc h_o h_s
  | succ e1 => exact v_pointPower_t l hst D h0 ad T o a0 a1 a2 ao f h hrc h_o h_s
end
