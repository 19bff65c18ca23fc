set_option maxHeartbeats 4000000 in
set_option maxRecDepth 100000 in
theorem v_bestWithout_n (l : Launch) (hst : l.stackTraces = false) (D : va_G) {cI cJ cZ cMic cSrc cSt cAI cAJ cD : ClassId} (h0 : Nat) (ad : Nat → Nat) (T : AT) (o : Nat) (a0 : Int32) (ao : Nat) (f : Nat → Int64) {r1 : Int32} {T1 : AT} (h : g_X11_bestWithout T o a0 = some (0, r1, T1)) (hrc : RC T) (h_o : o < T.1) (h_s : T.2.1 o = (11, 0)) : tWi l yL_bestWithout (Cond.codeWith yL_bestWithout cL_bestWithout 4 (some .int) [(0, 9, 12, 21), (0, 9, 15, 13)] :: wsA) 9 170 cI cJ cZ cMic cSrc cSt cAI cAJ cD D h0 ad T (oJ ao cJ f) [.ref (ad o), .int a0, .ref ao] (vck 1 2 0 (0)) T1 (oJ ao cJ (vfJ (0) f r1.toInt64)) := by
  intro sz
  refine pro_inW (cc := cL_bestWithout) (maxL := 4) (ret := some .int) (by exact pn_RL) rfl (by exact Nat.le_of_ble_eq_true rfl) (fun p e s m below meth c ls hx hb hr hts hown hlocks htb hml hv hl => ?_)
  obtain ⟨hsz, hP, hK, hD0, hX, hN, hA0, hTS⟩ := hv
  subst hsz
  have hD := hD0.self (sz := s.heap.size)
  generalize hAe : va_A (cW ad T.1 (cc cI cJ cZ cMic cSrc cSt cAI cAJ ad T) ++ [oJ ao cJ f]) s.heap.size = A at hD hX hA0 ⊢
  have hA : ∀ q : Nat, s.heap.size ≤ q → A q := fun q h => by rw [← hAe]; exact Or.inr h
  have G : gL cI cJ cZ cMic cSrc cSt cAI cAJ D ad A s.heap s.heap [] T [oJ ao cJ f] := ⟨hP, hD, va_S.rf⟩
  have E : cE p c cL_bestWithout s m ([.ref (ad o), .int a0, .ref ao] : List Value).toArray (Cond.codeWith yL_bestWithout cL_bestWithout 4 (some .int) [(0, 9, 12, 21), (0, 9, 15, 13)] :: wsA) D RL (CT cI cJ cZ cMic cSrc cSt cAI cAJ ++ [(cD, .double)]) := ⟨hx, hb, hts, hown, hK⟩
  have hl : lv_has ls 4 [(0, .ref (ad o)), (1, .int a0), (2, .ref ao)] := hl
  refine lv_aload_n hx hb dL_bestWithout_0 rfl (lv_at hl 2 rfl) ?_
  refine lv_iconst (v := 0) hx hb dL_bestWithout_1 (by decide) ?_
  refine lv_aload_n hx hb dL_bestWithout_2 rfl (lv_at hl 0 rfl) ?_
  refine lv_iload_n hx hb dL_bestWithout_3 rfl (lv_at hl 1 rfl) ?_
  refine t_avi (As := [.int a0]) (rest := [.int 0, .ref ao]) E G hA hX hX.2.2.2.1 hml (a_X11_bestWithout l hst D cI cJ cZ cMic cSrc cSt cAI cAJ ad T o a0 h hrc h_o) (cwV 1 hts (gaV qA_1117 qA_1118 qA_1119 qA_131 qA_922) rfl rfl rfl (by decide +kernel) ⟨Nat.le_of_ble_eq_true rfl, Nat.le_of_ble_eq_true rfl⟩) h_o (cc_o11 h_s) rfl rfl hl.1 rfl (lv_room (Nat.le_of_ble_eq_true rfl)) dL_bestWithout_4 ⟨by show 0 + (T1.1 - T.1) ≤ T1.1 - T.1 + 1; omega, by show 0 + (sg T1 - sg T) ≤ sg T1 - sg T + 6; omega⟩ ?_
  intro ad2 H locs had G
  refine lv_i2l (v := r1.toInt64) hx hb dL_bestWithout_7 rfl ?_
  refine t_last E G dL_bestWithout_8 (fun H locs G => ?_)
  refine lv_goto (tgt := 18) hx hb dL_bestWithout_9 (by decide) ?_
  refine lv_iconst (v := 0) hx hb dL_bestWithout_18 (by decide) ?_
  refine W.widen (k := T1.1 - T.1 + 1) (n := sg T1 - sg T + 6) (by omega) (by omega) ?_
  exact W.iret (v := 0) hx hb hr (fun t ht hW => ⟨⟨0, ad2, rfl, ⟨rfl, had⟩, ⟨by rw [ht]; exact G.1, va_K.moved hW.alike hK, G.2.1⟩⟩, G.2.2.F ht⟩) G.2.2.2.2 dL_bestWithout_19
set_option maxHeartbeats 4000000 in
set_option maxRecDepth 100000 in
theorem v_bestWithout_t (l : Launch) (hst : l.stackTraces = false) (D : va_G) {cI cJ cZ cMic cSrc cSt cAI cAJ cD : ClassId} (h0 : Nat) (ad : Nat → Nat) (T : AT) (o : Nat) (a0 : Int32) (ao : Nat) (f : Nat → Int64) {e1 : Nat} {r1 : Int32} {T1 : AT} (h : g_X11_bestWithout T o a0 = some (e1 + 1, r1, T1)) (hrc : RC T) (h_o : o < T.1) (h_s : T.2.1 o = (11, 0)) : tWi l yL_bestWithout (Cond.codeWith yL_bestWithout cL_bestWithout 4 (some .int) [(0, 9, 12, 21), (0, 9, 15, 13)] :: wsA) 9 170 cI cJ cZ cMic cSrc cSt cAI cAJ cD D h0 ad T (oJ ao cJ f) [.ref (ad o), .int a0, .ref ao] (vck 1 2 0 (e1 + 1)) T1 (oJ ao cJ (vfJ (e1 + 1) f r1.toInt64)) := by
  intro sz
  refine pro_inW (cc := cL_bestWithout) (maxL := 4) (ret := some .int) (by exact pn_RL) rfl (by exact Nat.le_of_ble_eq_true rfl) (fun p e s m below meth c ls hx hb hr hts hown hlocks htb hml hv hl => ?_)
  obtain ⟨hsz, hP, hK, hD0, hX, hN, hA0, hTS⟩ := hv
  subst hsz
  have hD := hD0.self (sz := s.heap.size)
  generalize hAe : va_A (cW ad T.1 (cc cI cJ cZ cMic cSrc cSt cAI cAJ ad T) ++ [oJ ao cJ f]) s.heap.size = A at hD hX hA0 ⊢
  have hA : ∀ q : Nat, s.heap.size ≤ q → A q := fun q h => by rw [← hAe]; exact Or.inr h
  have G : gL cI cJ cZ cMic cSrc cSt cAI cAJ D ad A s.heap s.heap [] T [oJ ao cJ f] := ⟨hP, hD, va_S.rf⟩
  have E : cE p c cL_bestWithout s m ([.ref (ad o), .int a0, .ref ao] : List Value).toArray (Cond.codeWith yL_bestWithout cL_bestWithout 4 (some .int) [(0, 9, 12, 21), (0, 9, 15, 13)] :: wsA) D RL (CT cI cJ cZ cMic cSrc cSt cAI cAJ ++ [(cD, .double)]) := ⟨hx, hb, hts, hown, hK⟩
  have hl : lv_has ls 4 [(0, .ref (ad o)), (1, .int a0), (2, .ref ao)] := hl
  refine lv_aload_n hx hb dL_bestWithout_0 rfl (lv_at hl 2 rfl) ?_
  refine lv_iconst (v := 0) hx hb dL_bestWithout_1 (by decide) ?_
  refine lv_aload_n hx hb dL_bestWithout_2 rfl (lv_at hl 0 rfl) ?_
  refine lv_iload_n hx hb dL_bestWithout_3 rfl (lv_at hl 1 rfl) ?_
  refine t_bvi (As := [.int a0]) (rest := [.int 0, .ref ao]) E G hA hX hX.2.2.2.1 hml (b_X11_bestWithout l hst D cI cJ cZ cMic cSrc cSt cAI cAJ ad T o a0 h hrc h_o) (cwV 1 hts (gaV qA_1117 qA_1118 qA_1119 qA_131 qA_922) rfl rfl rfl (by decide +kernel) ⟨Nat.le_of_ble_eq_true rfl, Nat.le_of_ble_eq_true rfl⟩) h_o (cc_o11 h_s) rfl rfl hl.1 rfl (lv_room (Nat.le_of_ble_eq_true rfl)) dL_bestWithout_4 ⟨by show 0 + (T1.1 - T.1 + 1) ≤ T1.1 - T.1 + 1; omega, by show 0 + (sg T1 - sg T + 6) ≤ sg T1 - sg T + 6; omega⟩ ?_
  intro E9 ce q9 ad2 H locs hE had G hce hcv hcl
  rcases e1 with _ | _ | e1
  · have hE : E9 = xISE := hE
    subst hE
    refine vx_catch (name := xISE) hown [] { startPc := 0, endPc := 9, handlerPc := 12, catchType := 21 } [{ startPc := 0, endPc := 9, handlerPc := 15, catchType := 13 }] htb (fun z hz => absurd hz List.not_mem_nil) (by decide) (by decide) (hts _ (.tail _ qA_952)) (hX.use (.castable xISE xISE) (by decide +kernel)) hce hcv hcl ?_
    refine lv_astore_n (lv' := [(3, .ref q9), (0, .ref (ad o)), (1, .int a0), (2, .ref ao)]) hx hb dL_bestWithout_12 rfl hl (by decide) rfl (fun ls hl => ?_)
    refine lv_iconst (v := 1) hx hb dL_bestWithout_13 (by decide) ?_
    refine W.widen (k := T1.1 - T.1 + 1) (n := sg T1 - sg T + 6) (by omega) (by omega) ?_
    exact W.iret (v := 1) hx hb hr (fun t ht hW => ⟨⟨1, ad2, rfl, ⟨rfl, had⟩, ⟨by rw [ht]; exact G.1, va_K.moved hW.alike hK, G.2.1⟩⟩, G.2.2.F ht⟩) G.2.2.2.2 dL_bestWithout_14
  · have hE : E9 = xIOB := hE
    subst hE
    refine vx_catch (name := xIOB) hown [{ startPc := 0, endPc := 9, handlerPc := 12, catchType := 21 }] { startPc := 0, endPc := 9, handlerPc := 15, catchType := 13 } [] htb (List.forall_mem_cons.mpr ⟨Or.inr ⟨by decide, xISE, hts _ (.tail _ qA_952), hN.2.2.1⟩, fun z hz => absurd hz List.not_mem_nil⟩) (by decide) (by decide) (hts _ (.tail _ qA_946)) (hX.use (.castable xIOB xIOB) (by decide +kernel)) hce hcv hcl ?_
    refine lv_astore_n (lv' := [(3, .ref q9), (0, .ref (ad o)), (1, .int a0), (2, .ref ao)]) hx hb dL_bestWithout_15 rfl hl (by decide) rfl (fun ls hl => ?_)
    refine lv_iconst (v := 2) hx hb dL_bestWithout_16 (by decide) ?_
    refine W.widen (k := T1.1 - T.1 + 1) (n := sg T1 - sg T + 6) (by omega) (by omega) ?_
    exact W.iret (v := 2) hx hb hr (fun t ht hW => ⟨⟨2, ad2, rfl, ⟨rfl, had⟩, ⟨by rw [ht]; exact G.1, va_K.moved hW.alike hK, G.2.1⟩⟩, G.2.2.F ht⟩) G.2.2.2.2 dL_bestWithout_17
  · have q := (cd_g_X11_bestWithout (S := [0, 1, 2]) (fun _ h => h) T o a0 _ _ _ h)
    simp only [List.mem_cons, List.not_mem_nil, or_false] at q
    omega
theorem v_bestWithout (l : Launch) (hst : l.stackTraces = false) (D : va_G) {cI cJ cZ cMic cSrc cSt cAI cAJ cD : ClassId} (h0 : Nat) (ad : Nat → Nat) (T : AT) (o : Nat) (a0 : Int32) (ao : Nat) (f : Nat → Int64) {k1 : Nat} {r1 : Int32} {T1 : AT} (h : g_X11_bestWithout T o a0 = some (k1, r1, T1)) (hrc : RC T) (h_o : o < T.1) (h_s : T.2.1 o = (11, 0)) : tWi l yL_bestWithout (Cond.codeWith yL_bestWithout cL_bestWithout 4 (some .int) [(0, 9, 12, 21), (0, 9, 15, 13)] :: wsA) 9 170 cI cJ cZ cMic cSrc cSt cAI cAJ cD D h0 ad T (oJ ao cJ f) [.ref (ad o), .int a0, .ref ao] (vck 1 2 0 k1) T1 (oJ ao cJ (vfJ k1 f r1.toInt64)) := by
  cases k1 with
  | zero => exact v_bestWithout_n l hst D h0 ad T o a0 ao f h hrc h_o h_s
  | succ e1 => exact v_bestWithout_t l hst D h0 ad T o a0 ao f h hrc h_o h_s
set_option maxHeartbeats 4000000 in
set_option maxRecDepth 100000 in
theorem v_bestIfOff_n (l : Launch) (hst : l.stackTraces = false) (D : va_G) {cI cJ cZ cMic cSrc cSt cAI cAJ cD : ClassId} (h0 : Nat) (ad : Nat → Nat) (T : AT) (o : Nat) (a0 : Int32) (ao : Nat) (f : Nat → Int64) {r1 : Int32} {T1 : AT} (h : g_X11_bestIfOff T o a0 = some (0, r1, T1)) (hrc : RC T) (h_o : o < T.1) (h_s : T.2.1 o = (11, 0)) : tWi l yL_bestIfOff (Cond.codeWith yL_bestIfOff cL_bestIfOff 4 (some .int) [(0, 9, 12, 21), (0, 9, 15, 13)] :: wsA) 9 170 cI cJ cZ cMic cSrc cSt cAI cAJ cD D h0 ad T (oJ ao cJ f) [.ref (ad o), .int a0, .ref ao] (vck 1 2 0 (0)) T1 (oJ ao cJ (vfJ (0) f r1.toInt64)) := by
  intro sz
  refine pro_inW (cc := cL_bestIfOff) (maxL := 4) (ret := some .int) (by exact pn_RL) rfl (by exact Nat.le_of_ble_eq_true rfl) (fun p e s m below meth c ls hx hb hr hts hown hlocks htb hml hv hl => ?_)
  obtain ⟨hsz, hP, hK, hD0, hX, hN, hA0, hTS⟩ := hv
  subst hsz
  have hD := hD0.self (sz := s.heap.size)
  generalize hAe : va_A (cW ad T.1 (cc cI cJ cZ cMic cSrc cSt cAI cAJ ad T) ++ [oJ ao cJ f]) s.heap.size = A at hD hX hA0 ⊢
  have hA : ∀ q : Nat, s.heap.size ≤ q → A q := fun q h => by rw [← hAe]; exact Or.inr h
  have G : gL cI cJ cZ cMic cSrc cSt cAI cAJ D ad A s.heap s.heap [] T [oJ ao cJ f] := ⟨hP, hD, va_S.rf⟩
  have E : cE p c cL_bestIfOff s m ([.ref (ad o), .int a0, .ref ao] : List Value).toArray (Cond.codeWith yL_bestIfOff cL_bestIfOff 4 (some .int) [(0, 9, 12, 21), (0, 9, 15, 13)] :: wsA) D RL (CT cI cJ cZ cMic cSrc cSt cAI cAJ ++ [(cD, .double)]) := ⟨hx, hb, hts, hown, hK⟩
  have hl : lv_has ls 4 [(0, .ref (ad o)), (1, .int a0), (2, .ref ao)] := hl
  refine lv_aload_n hx hb dL_bestIfOff_0 rfl (lv_at hl 2 rfl) ?_
  refine lv_iconst (v := 0) hx hb dL_bestIfOff_1 (by decide) ?_
  refine lv_aload_n hx hb dL_bestIfOff_2 rfl (lv_at hl 0 rfl) ?_
  refine lv_iload_n hx hb dL_bestIfOff_3 rfl (lv_at hl 1 rfl) ?_
  refine t_avi (As := [.int a0]) (rest := [.int 0, .ref ao]) E G hA hX hX.2.2.2.1 hml (a_X11_bestIfOff l hst D cI cJ cZ cMic cSrc cSt cAI cAJ ad T o a0 h hrc h_o) (cwV 1 hts (gaV qA_1121 qA_1122 qA_1123 qA_131 qA_923) rfl rfl rfl (by decide +kernel) ⟨Nat.le_of_ble_eq_true rfl, Nat.le_of_ble_eq_true rfl⟩) h_o (cc_o11 h_s) rfl rfl hl.1 rfl (lv_room (Nat.le_of_ble_eq_true rfl)) dL_bestIfOff_4 ⟨by show 0 + (T1.1 - T.1) ≤ T1.1 - T.1 + 1; omega, by show 0 + (sg T1 - sg T) ≤ sg T1 - sg T + 6; omega⟩ ?_
  intro ad2 H locs had G
  refine lv_i2l (v := r1.toInt64) hx hb dL_bestIfOff_7 rfl ?_
  refine t_last E G dL_bestIfOff_8 (fun H locs G => ?_)
  refine lv_goto (tgt := 18) hx hb dL_bestIfOff_9 (by decide) ?_
  refine lv_iconst (v := 0) hx hb dL_bestIfOff_18 (by decide) ?_
  refine W.widen (k := T1.1 - T.1 + 1) (n := sg T1 - sg T + 6) (by omega) (by omega) ?_
  exact W.iret (v := 0) hx hb hr (fun t ht hW => ⟨⟨0, ad2, rfl, ⟨rfl, had⟩, ⟨by rw [ht]; exact G.1, va_K.moved hW.alike hK, G.2.1⟩⟩, G.2.2.F ht⟩) G.2.2.2.2 dL_bestIfOff_19
set_option maxHeartbeats 4000000 in
set_option maxRecDepth 100000 in
theorem v_bestIfOff_t (l : Launch) (hst : l.stackTraces = false) (D : va_G) {cI cJ cZ cMic cSrc cSt cAI cAJ cD : ClassId} (h0 : Nat) (ad : Nat → Nat) (T : AT) (o : Nat) (a0 : Int32) (ao : Nat) (f : Nat → Int64) {e1 : Nat} {r1 : Int32} {T1 : AT} (h : g_X11_bestIfOff T o a0 = some (e1 + 1, r1, T1)) (hrc : RC T) (h_o : o < T.1) (h_s : T.2.1 o = (11, 0)) : tWi l yL_bestIfOff (Cond.codeWith yL_bestIfOff cL_bestIfOff 4 (some .int) [(0, 9, 12, 21), (0, 9, 15, 13)] :: wsA) 9 170 cI cJ cZ cMic cSrc cSt cAI cAJ cD D h0 ad T (oJ ao cJ f) [.ref (ad o), .int a0, .ref ao] (vck 1 2 0 (e1 + 1)) T1 (oJ ao cJ (vfJ (e1 + 1) f r1.toInt64)) := by
  intro sz
  refine pro_inW (cc := cL_bestIfOff) (maxL := 4) (ret := some .int) (by exact pn_RL) rfl (by exact Nat.le_of_ble_eq_true rfl) (fun p e s m below meth c ls hx hb hr hts hown hlocks htb hml hv hl => ?_)
  obtain ⟨hsz, hP, hK, hD0, hX, hN, hA0, hTS⟩ := hv
  subst hsz
  have hD := hD0.self (sz := s.heap.size)
  generalize hAe : va_A (cW ad T.1 (cc cI cJ cZ cMic cSrc cSt cAI cAJ ad T) ++ [oJ ao cJ f]) s.heap.size = A at hD hX hA0 ⊢
  have hA : ∀ q : Nat, s.heap.size ≤ q → A q := fun q h => by rw [← hAe]; exact Or.inr h
  have G : gL cI cJ cZ cMic cSrc cSt cAI cAJ D ad A s.heap s.heap [] T [oJ ao cJ f] := ⟨hP, hD, va_S.rf⟩
  have E : cE p c cL_bestIfOff s m ([.ref (ad o), .int a0, .ref ao] : List Value).toArray (Cond.codeWith yL_bestIfOff cL_bestIfOff 4 (some .int) [(0, 9, 12, 21), (0, 9, 15, 13)] :: wsA) D RL (CT cI cJ cZ cMic cSrc cSt cAI cAJ ++ [(cD, .double)]) := ⟨hx, hb, hts, hown, hK⟩
  have hl : lv_has ls 4 [(0, .ref (ad o)), (1, .int a0), (2, .ref ao)] := hl
  refine lv_aload_n hx hb dL_bestIfOff_0 rfl (lv_at hl 2 rfl) ?_
  refine lv_iconst (v := 0) hx hb dL_bestIfOff_1 (by decide) ?_
  refine lv_aload_n hx hb dL_bestIfOff_2 rfl (lv_at hl 0 rfl) ?_
  refine lv_iload_n hx hb dL_bestIfOff_3 rfl (lv_at hl 1 rfl) ?_
  refine t_bvi (As := [.int a0]) (rest := [.int 0, .ref ao]) E G hA hX hX.2.2.2.1 hml (b_X11_bestIfOff l hst D cI cJ cZ cMic cSrc cSt cAI cAJ ad T o a0 h hrc h_o) (cwV 1 hts (gaV qA_1121 qA_1122 qA_1123 qA_131 qA_923) rfl rfl rfl (by decide +kernel) ⟨Nat.le_of_ble_eq_true rfl, Nat.le_of_ble_eq_true rfl⟩) h_o (cc_o11 h_s) rfl rfl hl.1 rfl (lv_room (Nat.le_of_ble_eq_true rfl)) dL_bestIfOff_4 ⟨by show 0 + (T1.1 - T.1 + 1) ≤ T1.1 - T.1 + 1; omega, by show 0 + (sg T1 - sg T + 6) ≤ sg T1 - sg T + 6; omega⟩ ?_
  intro E9 ce q9 ad2 H locs hE had G hce hcv hcl
  rcases e1 with _ | _ | e1
  · have hE : E9 = xISE := hE
    subst hE
    refine vx_catch (name := xISE) hown [] { startPc := 0, endPc := 9, handlerPc := 12, catchType := 21 } [{ startPc := 0, endPc := 9, handlerPc := 15, catchType := 13 }] htb (fun z hz => absurd hz List.not_mem_nil) (by decide) (by decide) (hts _ (.tail _ qA_952)) (hX.use (.castable xISE xISE) (by decide +kernel)) hce hcv hcl ?_
    refine lv_astore_n (lv' := [(3, .ref q9), (0, .ref (ad o)), (1, .int a0), (2, .ref ao)]) hx hb dL_bestIfOff_12 rfl hl (by decide) rfl (fun ls hl => ?_)
    refine lv_iconst (v := 1) hx hb dL_bestIfOff_13 (by decide) ?_
    refine W.widen (k := T1.1 - T.1 + 1) (n := sg T1 - sg T + 6) (by omega) (by omega) ?_
    exact W.iret (v := 1) hx hb hr (fun t ht hW => ⟨⟨1, ad2, rfl, ⟨rfl, had⟩, ⟨by rw [ht]; exact G.1, va_K.moved hW.alike hK, G.2.1⟩⟩, G.2.2.F ht⟩) G.2.2.2.2 dL_bestIfOff_14
  · have hE : E9 = xIOB := hE
    subst hE
    refine vx_catch (name := xIOB) hown [{ startPc := 0, endPc := 9, handlerPc := 12, catchType := 21 }] { startPc := 0, endPc := 9, handlerPc := 15, catchType := 13 } [] htb (List.forall_mem_cons.mpr ⟨Or.inr ⟨by decide, xISE, hts _ (.tail _ qA_952), hN.2.2.1⟩, fun z hz => absurd hz List.not_mem_nil⟩) (by decide) (by decide) (hts _ (.tail _ qA_946)) (hX.use (.castable xIOB xIOB) (by decide +kernel)) hce hcv hcl ?_
    refine lv_astore_n (lv' := [(3, .ref q9), (0, .ref (ad o)), (1, .int a0), (2, .ref ao)]) hx hb dL_bestIfOff_15 rfl hl (by decide) rfl (fun ls hl => ?_)
    refine lv_iconst (v := 2) hx hb dL_bestIfOff_16 (by decide) ?_
    refine W.widen (k := T1.1 - T.1 + 1) (n := sg T1 - sg T + 6) (by omega) (by omega) ?_
    exact W.iret (v := 2) hx hb hr (fun t ht hW => ⟨⟨2, ad2, rfl, ⟨rfl, had⟩, ⟨by rw [ht]; exact G.1, va_K.moved hW.alike hK, G.2.1⟩⟩, G.2.2.F ht⟩) G.2.2.2.2 dL_bestIfOff_17
  · have q := (cd_g_X11_bestIfOff (S := [0, 1, 2]) (fun _ h => h) T o a0 _ _ _ h)
    simp only [List.mem_cons, List.not_mem_nil, or_false] at q
    omega
theorem v_bestIfOff (l : Launch) (hst : l.stackTraces = false) (D : va_G) {cI cJ cZ cMic cSrc cSt cAI cAJ cD : ClassId} (h0 : Nat) (ad : Nat → Nat) (T : AT) (o : Nat) (a0 : Int32) (ao : Nat) (f : Nat → Int64) {k1 : Nat} {r1 : Int32} {T1 : AT} (h : g_X11_bestIfOff T o a0 = some (k1, r1, T1)) (hrc : RC T) (h_o : o < T.1) (h_s : T.2.1 o = (11, 0)) : tWi l yL_bestIfOff (Cond.codeWith yL_bestIfOff cL_bestIfOff 4 (some .int) [(0, 9, 12, 21), (0, 9, 15, 13)] :: wsA) 9 170 cI cJ cZ cMic cSrc cSt cAI cAJ cD D h0 ad T (oJ ao cJ f) [.ref (ad o), .int a0, .ref ao] (vck 1 2 0 k1) T1 (oJ ao cJ (vfJ k1 f r1.toInt64)) := by
  cases k1 with
  | zero => exact v_bestIfOff_n l hst D h0 ad T o a0 ao f h hrc h_o h_s
  | succ e1 => exact v_bestIfOff_t l hst D h0 ad T o a0 ao f h hrc h_o h_s
set_option maxHeartbeats 4000000 in
set_option maxRecDepth 100000 in
theorem v_mute_n (l : Launch) (hst : l.stackTraces = false) (D : va_G) {cI cJ cZ cMic cSrc cSt cAI cAJ cD : ClassId} (h0 : Nat) (ad : Nat → Nat) (T : AT) (o : Nat) (a0 a1 : Int32) (ao : Nat) (f : Nat → Int64) {r1 : Int32} {T1 : AT} (h : g_X11_mute T o a0 a1 = some (0, r1, T1)) (hrc : RC T) (h_o : o < T.1) (h_s : T.2.1 o = (11, 0)) : tWi l yL_mute (Cond.codeWith yL_mute cL_mute 5 (some .int) [(0, 17, 20, 21), (0, 17, 24, 13)] :: wsA) 9 146 cI cJ cZ cMic cSrc cSt cAI cAJ cD D h0 ad T (oJ ao cJ f) [.ref (ad o), .int a0, .int a1, .ref ao] (vck 1 2 0 (0)) T1 (oJ ao cJ (vfJ (0) f (vzb r1))) := by
  intro sz
  refine pro_inW (cc := cL_mute) (maxL := 5) (ret := some .int) (by exact pn_RL) rfl (by exact Nat.le_of_ble_eq_true rfl) (fun p e s m below meth c ls hx hb hr hts hown hlocks htb hml hv hl => ?_)
  obtain ⟨hsz, hP, hK, hD0, hX, hN, hA0, hTS⟩ := hv
  subst hsz
  have hD := hD0.self (sz := s.heap.size)
  generalize hAe : va_A (cW ad T.1 (cc cI cJ cZ cMic cSrc cSt cAI cAJ ad T) ++ [oJ ao cJ f]) s.heap.size = A at hD hX hA0 ⊢
  have hA : ∀ q : Nat, s.heap.size ≤ q → A q := fun q h => by rw [← hAe]; exact Or.inr h
  have G : gL cI cJ cZ cMic cSrc cSt cAI cAJ D ad A s.heap s.heap [] T [oJ ao cJ f] := ⟨hP, hD, va_S.rf⟩
  have E : cE p c cL_mute s m ([.ref (ad o), .int a0, .int a1, .ref ao] : List Value).toArray (Cond.codeWith yL_mute cL_mute 5 (some .int) [(0, 17, 20, 21), (0, 17, 24, 13)] :: wsA) D RL (CT cI cJ cZ cMic cSrc cSt cAI cAJ ++ [(cD, .double)]) := ⟨hx, hb, hts, hown, hK⟩
  have hl : lv_has ls 5 [(0, .ref (ad o)), (1, .int a0), (2, .int a1), (3, .ref ao)] := hl
  refine lv_aload_n hx hb dL_mute_0 rfl (lv_at hl 3 rfl) ?_
  refine lv_iconst (v := 0) hx hb dL_mute_1 (by decide) ?_
  refine lv_aload_n hx hb dL_mute_2 rfl (lv_at hl 0 rfl) ?_
  refine lv_iload_n hx hb dL_mute_3 rfl (lv_at hl 1 rfl) ?_
  refine lv_iload_n hx hb dL_mute_4 rfl (lv_at hl 2 rfl) ?_
  refine t_avi (As := [.int a0, .int a1]) (rest := [.int 0, .ref ao]) E G hA hX hX.2.2.2.1 hml (a_X11_mute l hst D cI cJ cZ cMic cSrc cSt cAI cAJ ad T o a0 a1 h hrc h_o) (cwV 2 hts (gaV qA_1125 qA_1126 qA_1127 qA_131 qA_924) rfl rfl rfl (by decide +kernel) ⟨Nat.le_of_ble_eq_true rfl, Nat.le_of_ble_eq_true rfl⟩) h_o (cc_o11 h_s) rfl rfl hl.1 rfl (lv_room (Nat.le_of_ble_eq_true rfl)) dL_mute_5 ⟨by show 0 + (T1.1 - T.1) ≤ T1.1 - T.1 + 1; omega, by show 0 + (sg T1 - sg T) ≤ sg T1 - sg T + 6; omega⟩ ?_
  intro ad2 H locs had G
  refine lv_if_eq (tgt := 15) hx hb dL_mute_8 (by decide) (fun c1 => ?_) (fun c1 => ?_)
  · refine lv_lconst (v := vzb r1) hx hb dL_mute_15 (by rw [vzb, if_pos c1]; rfl) ?_
    refine t_last E G dL_mute_16 (fun H locs G => ?_)
    refine lv_goto (tgt := 28) hx hb dL_mute_17 (by decide) ?_
    refine lv_iconst (v := 0) hx hb dL_mute_28 (by decide) ?_
    refine W.widen (k := T1.1 - T.1 + 1) (n := sg T1 - sg T + 6) (by omega) (by omega) ?_
    exact W.iret (v := 0) hx hb hr (fun t ht hW => ⟨⟨0, ad2, rfl, ⟨rfl, had⟩, ⟨by rw [ht]; exact G.1, va_K.moved hW.alike hK, G.2.1⟩⟩, G.2.2.F ht⟩) G.2.2.2.2 dL_mute_29
  · refine lv_lconst (v := vzb r1) hx hb dL_mute_11 (by rw [vzb, if_neg c1]; rfl) ?_
    refine lv_goto (tgt := 16) hx hb dL_mute_12 (by decide) ?_
    refine t_last E G dL_mute_16 (fun H locs G => ?_)
    refine lv_goto (tgt := 28) hx hb dL_mute_17 (by decide) ?_
    refine lv_iconst (v := 0) hx hb dL_mute_28 (by decide) ?_
    refine W.widen (k := T1.1 - T.1 + 1) (n := sg T1 - sg T + 6) (by omega) (by omega) ?_
    exact W.iret (v := 0) hx hb hr (fun t ht hW => ⟨⟨0, ad2, rfl, ⟨rfl, had⟩, ⟨by rw [ht]; exact G.1, va_K.moved hW.alike hK, G.2.1⟩⟩, G.2.2.F ht⟩) G.2.2.2.2 dL_mute_29
set_option maxHeartbeats 4000000 in
set_option maxRecDepth 100000 in
theorem v_mute_t (l : Launch) (hst : l.stackTraces = false) (D : va_G) {cI cJ cZ cMic cSrc cSt cAI cAJ cD : ClassId} (h0 : Nat) (ad : Nat → Nat) (T : AT) (o : Nat) (a0 a1 : Int32) (ao : Nat) (f : Nat → Int64) {e1 : Nat} {r1 : Int32} {T1 : AT} (h : g_X11_mute T o a0 a1 = some (e1 + 1, r1, T1)) (hrc : RC T) (h_o : o < T.1) (h_s : T.2.1 o = (11, 0)) : tWi l yL_mute (Cond.codeWith yL_mute cL_mute 5 (some .int) [(0, 17, 20, 21), (0, 17, 24, 13)] :: wsA) 9 146 cI cJ cZ cMic cSrc cSt cAI cAJ cD D h0 ad T (oJ ao cJ f) [.ref (ad o), .int a0, .int a1, .ref ao] (vck 1 2 0 (e1 + 1)) T1 (oJ ao cJ (vfJ (e1 + 1) f (vzb r1))) := by
  intro sz
  refine pro_inW (cc := cL_mute) (maxL := 5) (ret := some .int) (by exact pn_RL) rfl (by exact Nat.le_of_ble_eq_true rfl) (fun p e s m below meth c ls hx hb hr hts hown hlocks htb hml hv hl => ?_)
  obtain ⟨hsz, hP, hK, hD0, hX, hN, hA0, hTS⟩ := hv
  subst hsz
  have hD := hD0.self (sz := s.heap.size)
  generalize hAe : va_A (cW ad T.1 (cc cI cJ cZ cMic cSrc cSt cAI cAJ ad T) ++ [oJ ao cJ f]) s.heap.size = A at hD hX hA0 ⊢
  have hA : ∀ q : Nat, s.heap.size ≤ q → A q := fun q h => by rw [← hAe]; exact Or.inr h
  have G : gL cI cJ cZ cMic cSrc cSt cAI cAJ D ad A s.heap s.heap [] T [oJ ao cJ f] := ⟨hP, hD, va_S.rf⟩
  have E : cE p c cL_mute s m ([.ref (ad o), .int a0, .int a1, .ref ao] : List Value).toArray (Cond.codeWith yL_mute cL_mute 5 (some .int) [(0, 17, 20, 21), (0, 17, 24, 13)] :: wsA) D RL (CT cI cJ cZ cMic cSrc cSt cAI cAJ ++ [(cD, .double)]) := ⟨hx, hb, hts, hown, hK⟩
  have hl : lv_has ls 5 [(0, .ref (ad o)), (1, .int a0), (2, .int a1), (3, .ref ao)] := hl
  refine lv_aload_n hx hb dL_mute_0 rfl (lv_at hl 3 rfl) ?_
  refine lv_iconst (v := 0) hx hb dL_mute_1 (by decide) ?_
  refine lv_aload_n hx hb dL_mute_2 rfl (lv_at hl 0 rfl) ?_
  refine lv_iload_n hx hb dL_mute_3 rfl (lv_at hl 1 rfl) ?_
  refine lv_iload_n hx hb dL_mute_4 rfl (lv_at hl 2 rfl) ?_
  refine t_bvi (As := [.int a0, .int a1]) (rest := [.int 0, .ref ao]) E G hA hX hX.2.2.2.1 hml (b_X11_mute l hst D cI cJ cZ cMic cSrc cSt cAI cAJ ad T o a0 a1 h hrc h_o) (cwV 2 hts (gaV qA_1125 qA_1126 qA_1127 qA_131 qA_924) rfl rfl rfl (by decide +kernel) ⟨Nat.le_of_ble_eq_true rfl, Nat.le_of_ble_eq_true rfl⟩) h_o (cc_o11 h_s) rfl rfl hl.1 rfl (lv_room (Nat.le_of_ble_eq_true rfl)) dL_mute_5 ⟨by show 0 + (T1.1 - T.1 + 1) ≤ T1.1 - T.1 + 1; omega, by show 0 + (sg T1 - sg T + 6) ≤ sg T1 - sg T + 6; omega⟩ ?_
  intro E9 ce q9 ad2 H locs hE had G hce hcv hcl
  rcases e1 with _ | _ | e1
  · have hE : E9 = xISE := hE
    subst hE
    refine vx_catch (name := xISE) hown [] { startPc := 0, endPc := 17, handlerPc := 20, catchType := 21 } [{ startPc := 0, endPc := 17, handlerPc := 24, catchType := 13 }] htb (fun z hz => absurd hz List.not_mem_nil) (by decide) (by decide) (hts _ (.tail _ qA_952)) (hX.use (.castable xISE xISE) (by decide +kernel)) hce hcv hcl ?_
    refine lv_astore (lv' := [(4, .ref q9), (0, .ref (ad o)), (1, .int a0), (2, .int a1), (3, .ref ao)]) hx hb dL_mute_20 hl (by decide) rfl (fun ls hl => ?_)
    refine lv_iconst (v := 1) hx hb dL_mute_22 (by decide) ?_
    refine W.widen (k := T1.1 - T.1 + 1) (n := sg T1 - sg T + 6) (by omega) (by omega) ?_
    exact W.iret (v := 1) hx hb hr (fun t ht hW => ⟨⟨1, ad2, rfl, ⟨rfl, had⟩, ⟨by rw [ht]; exact G.1, va_K.moved hW.alike hK, G.2.1⟩⟩, G.2.2.F ht⟩) G.2.2.2.2 dL_mute_23
  · have hE : E9 = xIOB := hE
    subst hE
    refine vx_catch (name := xIOB) hown [{ startPc := 0, endPc := 17, handlerPc := 20, catchType := 21 }] { startPc := 0, endPc := 17, handlerPc := 24, catchType := 13 } [] htb (List.forall_mem_cons.mpr ⟨Or.inr ⟨by decide, xISE, hts _ (.tail _ qA_952), hN.2.2.1⟩, fun z hz => absurd hz List.not_mem_nil⟩) (by decide) (by decide) (hts _ (.tail _ qA_946)) (hX.use (.castable xIOB xIOB) (by decide +kernel)) hce hcv hcl ?_
    refine lv_astore (lv' := [(4, .ref q9), (0, .ref (ad o)), (1, .int a0), (2, .int a1), (3, .ref ao)]) hx hb dL_mute_24 hl (by decide) rfl (fun ls hl => ?_)
    refine lv_iconst (v := 2) hx hb dL_mute_26 (by decide) ?_
    refine W.widen (k := T1.1 - T.1 + 1) (n := sg T1 - sg T + 6) (by omega) (by omega) ?_
    exact W.iret (v := 2) hx hb hr (fun t ht hW => ⟨⟨2, ad2, rfl, ⟨rfl, had⟩, ⟨by rw [ht]; exact G.1, va_K.moved hW.alike hK, G.2.1⟩⟩, G.2.2.F ht⟩) G.2.2.2.2 dL_mute_27
  · have q := (cd_g_X11_mute (S := [0, 1, 2]) (fun _ h => h) T o a0 a1 _ _ _ h)
    simp only [List.mem_cons, List.not_mem_nil, or_false] at q
    omega
theorem v_mute (l : Launch) (hst : l.stackTraces = false) (D : va_G) {cI cJ cZ cMic cSrc cSt cAI cAJ cD : ClassId} (h0 : Nat) (ad : Nat → Nat) (T : AT) (o : Nat) (a0 a1 : Int32) (ao : Nat) (f : Nat → Int64) {k1 : Nat} {r1 : Int32} {T1 : AT} (h : g_X11_mute T o a0 a1 = some (k1, r1, T1)) (hrc : RC T) (h_o : o < T.1) (h_s : T.2.1 o = (11, 0)) : tWi l yL_mute (Cond.codeWith yL_mute cL_mute 5 (some .int) [(0, 17, 20, 21), (0, 17, 24, 13)] :: wsA) 9 146 cI cJ cZ cMic cSrc cSt cAI cAJ cD D h0 ad T (oJ ao cJ f) [.ref (ad o), .int a0, .int a1, .ref ao] (vck 1 2 0 k1) T1 (oJ ao cJ (vfJ k1 f (vzb r1))) := by
  cases k1 with
  | zero => exact v_mute_n l hst D h0 ad T o a0 a1 ao f h hrc h_o h_s
  | succ e1 => exact v_mute_t l hst D h0 ad T o a0 a1 ao f h hrc h_o h_s
set_option maxHeartbeats 4000000 in
set_option maxRecDepth 100000 in
theorem v_setWeight_n (l : Launch) (hst : l.stackTraces = false) (D : va_G) {cI cJ cZ cMic cSrc cSt cAI cAJ cD : ClassId} (h0 : Nat) (ad : Nat → Nat) (T : AT) (o : Nat) (a0 a1 : Int32) (ao : Nat) (f : Nat → Int64) {r1 : Int32} {T1 : AT} (h : g_X11_setWeight T o a0 a1 = some (0, r1, T1)) (hrc : RC T) (h_o : o < T.1) (h_s : T.2.1 o = (11, 0)) : tWi l yL_setWeight (Cond.codeWith yL_setWeight cL_setWeight 5 (some .int) [(0, 10, 13, 21), (0, 10, 17, 13), (0, 10, 21, 15)] :: wsA) 9 146 cI cJ cZ cMic cSrc cSt cAI cAJ cD D h0 ad T (oJ ao cJ f) [.ref (ad o), .int a0, .int a1, .ref ao] (vck 1 2 3 (0)) T1 (oJ ao cJ (vfJ (0) f r1.toInt64)) := by
  intro sz
  refine pro_inW (cc := cL_setWeight) (maxL := 5) (ret := some .int) (by exact pn_RL) rfl (by exact Nat.le_of_ble_eq_true rfl) (fun p e s m below meth c ls hx hb hr hts hown hlocks htb hml hv hl => ?_)
  obtain ⟨hsz, hP, hK, hD0, hX, hN, hA0, hTS⟩ := hv
  subst hsz
  have hD := hD0.self (sz := s.heap.size)
  generalize hAe : va_A (cW ad T.1 (cc cI cJ cZ cMic cSrc cSt cAI cAJ ad T) ++ [oJ ao cJ f]) s.heap.size = A at hD hX hA0 ⊢
  have hA : ∀ q : Nat, s.heap.size ≤ q → A q := fun q h => by rw [← hAe]; exact Or.inr h
  have G : gL cI cJ cZ cMic cSrc cSt cAI cAJ D ad A s.heap s.heap [] T [oJ ao cJ f] := ⟨hP, hD, va_S.rf⟩
  have E : cE p c cL_setWeight s m ([.ref (ad o), .int a0, .int a1, .ref ao] : List Value).toArray (Cond.codeWith yL_setWeight cL_setWeight 5 (some .int) [(0, 10, 13, 21), (0, 10, 17, 13), (0, 10, 21, 15)] :: wsA) D RL (CT cI cJ cZ cMic cSrc cSt cAI cAJ ++ [(cD, .double)]) := ⟨hx, hb, hts, hown, hK⟩
  have hl : lv_has ls 5 [(0, .ref (ad o)), (1, .int a0), (2, .int a1), (3, .ref ao)] := hl
  refine lv_aload_n hx hb dL_setWeight_0 rfl (lv_at hl 3 rfl) ?_
  refine lv_iconst (v := 0) hx hb dL_setWeight_1 (by decide) ?_
  refine lv_aload_n hx hb dL_setWeight_2 rfl (lv_at hl 0 rfl) ?_
  refine lv_iload_n hx hb dL_setWeight_3 rfl (lv_at hl 1 rfl) ?_
  refine lv_iload_n hx hb dL_setWeight_4 rfl (lv_at hl 2 rfl) ?_
  refine t_avi (As := [.int a0, .int a1]) (rest := [.int 0, .ref ao]) E G hA hX hX.2.2.2.1 hml (a_X11_setWeight l hst D cI cJ cZ cMic cSrc cSt cAI cAJ ad T o a0 a1 h hrc h_o) (cwV 2 hts (gaV qA_1129 qA_1130 qA_1131 qA_131 qA_930) rfl rfl rfl (by decide +kernel) ⟨Nat.le_of_ble_eq_true rfl, Nat.le_of_ble_eq_true rfl⟩) h_o (cc_o11 h_s) rfl rfl hl.1 rfl (lv_room (Nat.le_of_ble_eq_true rfl)) dL_setWeight_5 ⟨by show 0 + (T1.1 - T.1) ≤ T1.1 - T.1 + 1; omega, by show 0 + (sg T1 - sg T) ≤ sg T1 - sg T + 6; omega⟩ ?_
  intro ad2 H locs had G
  refine lv_i2l (v := r1.toInt64) hx hb dL_setWeight_8 rfl ?_
  refine t_last E G dL_setWeight_9 (fun H locs G => ?_)
  refine lv_goto (tgt := 25) hx hb dL_setWeight_10 (by decide) ?_
  refine lv_iconst (v := 0) hx hb dL_setWeight_25 (by decide) ?_
  refine W.widen (k := T1.1 - T.1 + 1) (n := sg T1 - sg T + 6) (by omega) (by omega) ?_
  exact W.iret (v := 0) hx hb hr (fun t ht hW => ⟨⟨0, ad2, rfl, ⟨rfl, had⟩, ⟨by rw [ht]; exact G.1, va_K.moved hW.alike hK, G.2.1⟩⟩, G.2.2.F ht⟩) G.2.2.2.2 dL_setWeight_26
set_option maxHeartbeats 4000000 in
set_option maxRecDepth 100000 in
theorem v_setWeight_t (l : Launch) (hst : l.stackTraces = false) (D : va_G) {cI cJ cZ cMic cSrc cSt cAI cAJ cD : ClassId} (h0 : Nat) (ad : Nat → Nat) (T : AT) (o : Nat) (a0 a1 : Int32) (ao : Nat) (f : Nat → Int64) {e1 : Nat} {r1 : Int32} {T1 : AT} (h : g_X11_setWeight T o a0 a1 = some (e1 + 1, r1, T1)) (hrc : RC T) (h_o : o < T.1) (h_s : T.2.1 o = (11, 0)) : tWi l yL_setWeight (Cond.codeWith yL_setWeight cL_setWeight 5 (some .int) [(0, 10, 13, 21), (0, 10, 17, 13), (0, 10, 21, 15)] :: wsA) 9 146 cI cJ cZ cMic cSrc cSt cAI cAJ cD D h0 ad T (oJ ao cJ f) [.ref (ad o), .int a0, .int a1, .ref ao] (vck 1 2 3 (e1 + 1)) T1 (oJ ao cJ (vfJ (e1 + 1) f r1.toInt64)) := by
  intro sz
  refine pro_inW (cc := cL_setWeight) (maxL := 5) (ret := some .int) (by exact pn_RL) rfl (by exact Nat.le_of_ble_eq_true rfl) (fun p e s m below meth c ls hx hb hr hts hown hlocks htb hml hv hl => ?_)
  obtain ⟨hsz, hP, hK, hD0, hX, hN, hA0, hTS⟩ := hv
  subst hsz
  have hD := hD0.self (sz := s.heap.size)
  generalize hAe : va_A (cW ad T.1 (cc cI cJ cZ cMic cSrc cSt cAI cAJ ad T) ++ [oJ ao cJ f]) s.heap.size = A at hD hX hA0 ⊢
  have hA : ∀ q : Nat, s.heap.size ≤ q → A q := fun q h => by rw [← hAe]; exact Or.inr h
  have G : gL cI cJ cZ cMic cSrc cSt cAI cAJ D ad A s.heap s.heap [] T [oJ ao cJ f] := ⟨hP, hD, va_S.rf⟩
  have E : cE p c cL_setWeight s m ([.ref (ad o), .int a0, .int a1, .ref ao] : List Value).toArray (Cond.codeWith yL_setWeight cL_setWeight 5 (some .int) [(0, 10, 13, 21), (0, 10, 17, 13), (0, 10, 21, 15)] :: wsA) D RL (CT cI cJ cZ cMic cSrc cSt cAI cAJ ++ [(cD, .double)]) := ⟨hx, hb, hts, hown, hK⟩
  have hl : lv_has ls 5 [(0, .ref (ad o)), (1, .int a0), (2, .int a1), (3, .ref ao)] := hl
  refine lv_aload_n hx hb dL_setWeight_0 rfl (lv_at hl 3 rfl) ?_
  refine lv_iconst (v := 0) hx hb dL_setWeight_1 (by decide) ?_
  refine lv_aload_n hx hb dL_setWeight_2 rfl (lv_at hl 0 rfl) ?_
  refine lv_iload_n hx hb dL_setWeight_3 rfl (lv_at hl 1 rfl) ?_
  refine lv_iload_n hx hb dL_setWeight_4 rfl (lv_at hl 2 rfl) ?_
  refine t_bvi (As := [.int a0, .int a1]) (rest := [.int 0, .ref ao]) E G hA hX hX.2.2.2.1 hml (b_X11_setWeight l hst D cI cJ cZ cMic cSrc cSt cAI cAJ ad T o a0 a1 h hrc h_o) (cwV 2 hts (gaV qA_1129 qA_1130 qA_1131 qA_131 qA_930) rfl rfl rfl (by decide +kernel) ⟨Nat.le_of_ble_eq_true rfl, Nat.le_of_ble_eq_true rfl⟩) h_o (cc_o11 h_s) rfl rfl hl.1 rfl (lv_room (Nat.le_of_ble_eq_true rfl)) dL_setWeight_5 ⟨by show 0 + (T1.1 - T.1 + 1) ≤ T1.1 - T.1 + 1; omega, by show 0 + (sg T1 - sg T + 6) ≤ sg T1 - sg T + 6; omega⟩ ?_
  intro E9 ce q9 ad2 H locs hE had G hce hcv hcl
  rcases e1 with _ | _ | e1
  · have hE : E9 = xISE := hE
    subst hE
    refine vx_catch (name := xISE) hown [] { startPc := 0, endPc := 10, handlerPc := 13, catchType := 21 } [{ startPc := 0, endPc := 10, handlerPc := 17, catchType := 13 }, { startPc := 0, endPc := 10, handlerPc := 21, catchType := 15 }] htb (fun z hz => absurd hz List.not_mem_nil) (by decide) (by decide) (hts _ (.tail _ qA_952)) (hX.use (.castable xISE xISE) (by decide +kernel)) hce hcv hcl ?_
    refine lv_astore (lv' := [(4, .ref q9), (0, .ref (ad o)), (1, .int a0), (2, .int a1), (3, .ref ao)]) hx hb dL_setWeight_13 hl (by decide) rfl (fun ls hl => ?_)
    refine lv_iconst (v := 1) hx hb dL_setWeight_15 (by decide) ?_
    refine W.widen (k := T1.1 - T.1 + 1) (n := sg T1 - sg T + 6) (by omega) (by omega) ?_
    exact W.iret (v := 1) hx hb hr (fun t ht hW => ⟨⟨1, ad2, rfl, ⟨rfl, had⟩, ⟨by rw [ht]; exact G.1, va_K.moved hW.alike hK, G.2.1⟩⟩, G.2.2.F ht⟩) G.2.2.2.2 dL_setWeight_16
  · have hE : E9 = xIOB := hE
    subst hE
    refine vx_catch (name := xIOB) hown [{ startPc := 0, endPc := 10, handlerPc := 13, catchType := 21 }] { startPc := 0, endPc := 10, handlerPc := 17, catchType := 13 } [{ startPc := 0, endPc := 10, handlerPc := 21, catchType := 15 }] htb (List.forall_mem_cons.mpr ⟨Or.inr ⟨by decide, xISE, hts _ (.tail _ qA_952), hN.2.2.1⟩, fun z hz => absurd hz List.not_mem_nil⟩) (by decide) (by decide) (hts _ (.tail _ qA_946)) (hX.use (.castable xIOB xIOB) (by decide +kernel)) hce hcv hcl ?_
    refine lv_astore (lv' := [(4, .ref q9), (0, .ref (ad o)), (1, .int a0), (2, .int a1), (3, .ref ao)]) hx hb dL_setWeight_17 hl (by decide) rfl (fun ls hl => ?_)
    refine lv_iconst (v := 2) hx hb dL_setWeight_19 (by decide) ?_
    refine W.widen (k := T1.1 - T.1 + 1) (n := sg T1 - sg T + 6) (by omega) (by omega) ?_
    exact W.iret (v := 2) hx hb hr (fun t ht hW => ⟨⟨2, ad2, rfl, ⟨rfl, had⟩, ⟨by rw [ht]; exact G.1, va_K.moved hW.alike hK, G.2.1⟩⟩, G.2.2.F ht⟩) G.2.2.2.2 dL_setWeight_20
  · have hE : E9 = xIAE := hE
    subst hE
    refine vx_catch (name := xIAE) hown [{ startPc := 0, endPc := 10, handlerPc := 13, catchType := 21 }, { startPc := 0, endPc := 10, handlerPc := 17, catchType := 13 }] { startPc := 0, endPc := 10, handlerPc := 21, catchType := 15 } [] htb (List.forall_mem_cons.mpr ⟨Or.inr ⟨by decide, xISE, hts _ (.tail _ qA_952), hN.2.2.2⟩, List.forall_mem_cons.mpr ⟨Or.inr ⟨by decide, xIOB, hts _ (.tail _ qA_946), hN.1⟩, fun z hz => absurd hz List.not_mem_nil⟩⟩) (by decide) (by decide) (hts _ (.tail _ qA_947)) (hX.use (.castable xIAE xIAE) (by decide +kernel)) hce hcv hcl ?_
    refine lv_astore (lv' := [(4, .ref q9), (0, .ref (ad o)), (1, .int a0), (2, .int a1), (3, .ref ao)]) hx hb dL_setWeight_21 hl (by decide) rfl (fun ls hl => ?_)
    refine lv_iconst (v := 3) hx hb dL_setWeight_23 (by decide) ?_
    refine W.widen (k := T1.1 - T.1 + 1) (n := sg T1 - sg T + 6) (by omega) (by omega) ?_
    exact W.iret (v := 3) hx hb hr (fun t ht hW => ⟨⟨3, ad2, rfl, ⟨rfl, had⟩, ⟨by rw [ht]; exact G.1, va_K.moved hW.alike hK, G.2.1⟩⟩, G.2.2.F ht⟩) G.2.2.2.2 dL_setWeight_24
theorem v_setWeight (l : Launch) (hst : l.stackTraces = false) (D : va_G) {cI cJ cZ cMic cSrc cSt cAI cAJ cD : ClassId} (h0 : Nat) (ad : Nat → Nat) (T : AT) (o : Nat) (a0 a1 : Int32) (ao : Nat) (f : Nat → Int64) {k1 : Nat} {r1 : Int32} {T1 : AT} (h : g_X11_setWeight T o a0 a1 = some (k1, r1, T1)) (hrc : RC T) (h_o : o < T.1) (h_s : T.2.1 o = (11, 0)) : tWi l yL_setWeight (Cond.codeWith yL_setWeight cL_setWeight 5 (some .int) [(0, 10, 13, 21), (0, 10, 17, 13), (0, 10, 21, 15)] :: wsA) 9 146 cI cJ cZ cMic cSrc cSt cAI cAJ cD D h0 ad T (oJ ao cJ f) [.ref (ad o), .int a0, .int a1, .ref ao] (vck 1 2 3 k1) T1 (oJ ao cJ (vfJ k1 f r1.toInt64)) := by
  cases k1 with
  | zero => exact v_setWeight_n l hst D h0 ad T o a0 a1 ao f h hrc h_o h_s
  | succ e1 => exact v_setWeight_t l hst D h0 ad T o a0 a1 ao f h hrc h_o h_s
set_option maxHeartbeats 4000000 in
set_option maxRecDepth 100000 in
theorem v_setOn_n (l : Launch) (hst : l.stackTraces = false) (D : va_G) {cI cJ cZ cMic cSrc cSt cAI cAJ cD : ClassId} (h0 : Nat) (ad : Nat → Nat) (T : AT) (o : Nat) (a0 a1 : Int32) (ao : Nat) (f : Nat → Int64) {r1 : Int32} {T1 : AT} (h : g_X11_setOn T o a0 a1 = some (0, r1, T1)) (hrc : RC T) (h_o : o < T.1) (h_s : T.2.1 o = (11, 0)) : tWi l yL_setOn (Cond.codeWith yL_setOn cL_setOn 5 (some .int) [(0, 17, 20, 21), (0, 17, 24, 13)] :: wsA) 9 147 cI cJ cZ cMic cSrc cSt cAI cAJ cD D h0 ad T (oJ ao cJ f) [.ref (ad o), .int a0, .int a1, .ref ao] (vck 1 2 0 (0)) T1 (oJ ao cJ (vfJ (0) f (vzb r1))) := by
  intro sz
  refine pro_inW (cc := cL_setOn) (maxL := 5) (ret := some .int) (by exact pn_RL) rfl (by exact Nat.le_of_ble_eq_true rfl) (fun p e s m below meth c ls hx hb hr hts hown hlocks htb hml hv hl => ?_)
  obtain ⟨hsz, hP, hK, hD0, hX, hN, hA0, hTS⟩ := hv
  subst hsz
  have hD := hD0.self (sz := s.heap.size)
  generalize hAe : va_A (cW ad T.1 (cc cI cJ cZ cMic cSrc cSt cAI cAJ ad T) ++ [oJ ao cJ f]) s.heap.size = A at hD hX hA0 ⊢
  have hA : ∀ q : Nat, s.heap.size ≤ q → A q := fun q h => by rw [← hAe]; exact Or.inr h
  have G : gL cI cJ cZ cMic cSrc cSt cAI cAJ D ad A s.heap s.heap [] T [oJ ao cJ f] := ⟨hP, hD, va_S.rf⟩
  have E : cE p c cL_setOn s m ([.ref (ad o), .int a0, .int a1, .ref ao] : List Value).toArray (Cond.codeWith yL_setOn cL_setOn 5 (some .int) [(0, 17, 20, 21), (0, 17, 24, 13)] :: wsA) D RL (CT cI cJ cZ cMic cSrc cSt cAI cAJ ++ [(cD, .double)]) := ⟨hx, hb, hts, hown, hK⟩
  have hl : lv_has ls 5 [(0, .ref (ad o)), (1, .int a0), (2, .int a1), (3, .ref ao)] := hl
  refine lv_aload_n hx hb dL_setOn_0 rfl (lv_at hl 3 rfl) ?_
  refine lv_iconst (v := 0) hx hb dL_setOn_1 (by decide) ?_
  refine lv_aload_n hx hb dL_setOn_2 rfl (lv_at hl 0 rfl) ?_
  refine lv_iload_n hx hb dL_setOn_3 rfl (lv_at hl 1 rfl) ?_
  refine lv_iload_n hx hb dL_setOn_4 rfl (lv_at hl 2 rfl) ?_
  refine t_avi (As := [.int a0, .int a1]) (rest := [.int 0, .ref ao]) E G hA hX hX.2.2.2.1 hml (a_X11_setOn l hst D cI cJ cZ cMic cSrc cSt cAI cAJ ad T o a0 a1 h hrc h_o) (cwV 2 hts (gaV qA_1133 qA_1134 qA_1135 qA_131 qA_931) rfl rfl rfl (by decide +kernel) ⟨Nat.le_of_ble_eq_true rfl, Nat.le_of_ble_eq_true rfl⟩) h_o (cc_o11 h_s) rfl rfl hl.1 rfl (lv_room (Nat.le_of_ble_eq_true rfl)) dL_setOn_5 ⟨by show 0 + (T1.1 - T.1) ≤ T1.1 - T.1 + 1; omega, by show 0 + (sg T1 - sg T) ≤ sg T1 - sg T + 6; omega⟩ ?_
  intro ad2 H locs had G
  refine lv_if_eq (tgt := 15) hx hb dL_setOn_8 (by decide) (fun c1 => ?_) (fun c1 => ?_)
  · refine lv_lconst (v := vzb r1) hx hb dL_setOn_15 (by rw [vzb, if_pos c1]; rfl) ?_
    refine t_last E G dL_setOn_16 (fun H locs G => ?_)
    refine lv_goto (tgt := 28) hx hb dL_setOn_17 (by decide) ?_
    refine lv_iconst (v := 0) hx hb dL_setOn_28 (by decide) ?_
    refine W.widen (k := T1.1 - T.1 + 1) (n := sg T1 - sg T + 6) (by omega) (by omega) ?_
    exact W.iret (v := 0) hx hb hr (fun t ht hW => ⟨⟨0, ad2, rfl, ⟨rfl, had⟩, ⟨by rw [ht]; exact G.1, va_K.moved hW.alike hK, G.2.1⟩⟩, G.2.2.F ht⟩) G.2.2.2.2 dL_setOn_29
  · refine lv_lconst (v := vzb r1) hx hb dL_setOn_11 (by rw [vzb, if_neg c1]; rfl) ?_
    refine lv_goto (tgt := 16) hx hb dL_setOn_12 (by decide) ?_
    refine t_last E G dL_setOn_16 (fun H locs G => ?_)
    refine lv_goto (tgt := 28) hx hb dL_setOn_17 (by decide) ?_
    refine lv_iconst (v := 0) hx hb dL_setOn_28 (by decide) ?_
    refine W.widen (k := T1.1 - T.1 + 1) (n := sg T1 - sg T + 6) (by omega) (by omega) ?_
    exact W.iret (v := 0) hx hb hr (fun t ht hW => ⟨⟨0, ad2, rfl, ⟨rfl, had⟩, ⟨by rw [ht]; exact G.1, va_K.moved hW.alike hK, G.2.1⟩⟩, G.2.2.F ht⟩) G.2.2.2.2 dL_setOn_29
set_option maxHeartbeats 4000000 in
set_option maxRecDepth 100000 in
theorem v_setOn_t (l : Launch) (hst : l.stackTraces = false) (D : va_G) {cI cJ cZ cMic cSrc cSt cAI cAJ cD : ClassId} (h0 : Nat) (ad : Nat → Nat) (T : AT) (o : Nat) (a0 a1 : Int32) (ao : Nat) (f : Nat → Int64) {e1 : Nat} {r1 : Int32} {T1 : AT} (h : g_X11_setOn T o a0 a1 = some (e1 + 1, r1, T1)) (hrc : RC T) (h_o : o < T.1) (h_s : T.2.1 o = (11, 0)) : tWi l yL_setOn (Cond.codeWith yL_setOn cL_setOn 5 (some .int) [(0, 17, 20, 21), (0, 17, 24, 13)] :: wsA) 9 147 cI cJ cZ cMic cSrc cSt cAI cAJ cD D h0 ad T (oJ ao cJ f) [.ref (ad o), .int a0, .int a1, .ref ao] (vck 1 2 0 (e1 + 1)) T1 (oJ ao cJ (vfJ (e1 + 1) f (vzb r1))) := by
  intro sz
  refine pro_inW (cc := cL_setOn) (maxL := 5) (ret := some .int) (by exact pn_RL) rfl (by exact Nat.le_of_ble_eq_true rfl) (fun p e s m below meth c ls hx hb hr hts hown hlocks htb hml hv hl => ?_)
  obtain ⟨hsz, hP, hK, hD0, hX, hN, hA0, hTS⟩ := hv
  subst hsz
  have hD := hD0.self (sz := s.heap.size)
  generalize hAe : va_A (cW ad T.1 (cc cI cJ cZ cMic cSrc cSt cAI cAJ ad T) ++ [oJ ao cJ f]) s.heap.size = A at hD hX hA0 ⊢
  have hA : ∀ q : Nat, s.heap.size ≤ q → A q := fun q h => by rw [← hAe]; exact Or.inr h
  have G : gL cI cJ cZ cMic cSrc cSt cAI cAJ D ad A s.heap s.heap [] T [oJ ao cJ f] := ⟨hP, hD, va_S.rf⟩
  have E : cE p c cL_setOn s m ([.ref (ad o), .int a0, .int a1, .ref ao] : List Value).toArray (Cond.codeWith yL_setOn cL_setOn 5 (some .int) [(0, 17, 20, 21), (0, 17, 24, 13)] :: wsA) D RL (CT cI cJ cZ cMic cSrc cSt cAI cAJ ++ [(cD, .double)]) := ⟨hx, hb, hts, hown, hK⟩
  have hl : lv_has ls 5 [(0, .ref (ad o)), (1, .int a0), (2, .int a1), (3, .ref ao)] := hl
  refine lv_aload_n hx hb dL_setOn_0 rfl (lv_at hl 3 rfl) ?_
  refine lv_iconst (v := 0) hx hb dL_setOn_1 (by decide) ?_
  refine lv_aload_n hx hb dL_setOn_2 rfl (lv_at hl 0 rfl) ?_
  refine lv_iload_n hx hb dL_setOn_3 rfl (lv_at hl 1 rfl) ?_
  refine lv_iload_n hx hb dL_setOn_4 rfl (lv_at hl 2 rfl) ?_
  refine t_bvi (As := [.int a0, .int a1]) (rest := [.int 0, .ref ao]) E G hA hX hX.2.2.2.1 hml (b_X11_setOn l hst D cI cJ cZ cMic cSrc cSt cAI cAJ ad T o a0 a1 h hrc h_o) (cwV 2 hts (gaV qA_1133 qA_1134 qA_1135 qA_131 qA_931) rfl rfl rfl (by decide +kernel) ⟨Nat.le_of_ble_eq_true rfl, Nat.le_of_ble_eq_true rfl⟩) h_o (cc_o11 h_s) rfl rfl hl.1 rfl (lv_room (Nat.le_of_ble_eq_true rfl)) dL_setOn_5 ⟨by show 0 + (T1.1 - T.1 + 1) ≤ T1.1 - T.1 + 1; omega, by show 0 + (sg T1 - sg T + 6) ≤ sg T1 - sg T + 6; omega⟩ ?_
  intro E9 ce q9 ad2 H locs hE had G hce hcv hcl
  rcases e1 with _ | _ | e1
  · have hE : E9 = xISE := hE
    subst hE
    refine vx_catch (name := xISE) hown [] { startPc := 0, endPc := 17, handlerPc := 20, catchType := 21 } [{ startPc := 0, endPc := 17, handlerPc := 24, catchType := 13 }] htb (fun z hz => absurd hz List.not_mem_nil) (by decide) (by decide) (hts _ (.tail _ qA_952)) (hX.use (.castable xISE xISE) (by decide +kernel)) hce hcv hcl ?_
    refine lv_astore (lv' := [(4, .ref q9), (0, .ref (ad o)), (1, .int a0), (2, .int a1), (3, .ref ao)]) hx hb dL_setOn_20 hl (by decide) rfl (fun ls hl => ?_)
    refine lv_iconst (v := 1) hx hb dL_setOn_22 (by decide) ?_
    refine W.widen (k := T1.1 - T.1 + 1) (n := sg T1 - sg T + 6) (by omega) (by omega) ?_
    exact W.iret (v := 1) hx hb hr (fun t ht hW => ⟨⟨1, ad2, rfl, ⟨rfl, had⟩, ⟨by rw [ht]; exact G.1, va_K.moved hW.alike hK, G.2.1⟩⟩, G.2.2.F ht⟩) G.2.2.2.2 dL_setOn_23
  · have hE : E9 = xIOB := hE
    subst hE
    refine vx_catch (name := xIOB) hown [{ startPc := 0, endPc := 17, handlerPc := 20, catchType := 21 }] { startPc := 0, endPc := 17, handlerPc := 24, catchType := 13 } [] htb (List.forall_mem_cons.mpr ⟨Or.inr ⟨by decide, xISE, hts _ (.tail _ qA_952), hN.2.2.1⟩, fun z hz => absurd hz List.not_mem_nil⟩) (by decide) (by decide) (hts _ (.tail _ qA_946)) (hX.use (.castable xIOB xIOB) (by decide +kernel)) hce hcv hcl ?_
    refine lv_astore (lv' := [(4, .ref q9), (0, .ref (ad o)), (1, .int a0), (2, .int a1), (3, .ref ao)]) hx hb dL_setOn_24 hl (by decide) rfl (fun ls hl => ?_)
    refine lv_iconst (v := 2) hx hb dL_setOn_26 (by decide) ?_
    refine W.widen (k := T1.1 - T.1 + 1) (n := sg T1 - sg T + 6) (by omega) (by omega) ?_
    exact W.iret (v := 2) hx hb hr (fun t ht hW => ⟨⟨2, ad2, rfl, ⟨rfl, had⟩, ⟨by rw [ht]; exact G.1, va_K.moved hW.alike hK, G.2.1⟩⟩, G.2.2.F ht⟩) G.2.2.2.2 dL_setOn_27
  · have q := (cd_g_X11_setOn (S := [0, 1, 2]) (fun _ h => h) T o a0 a1 _ _ _ h)
    simp only [List.mem_cons, List.not_mem_nil, or_false] at q
    omega
theorem v_setOn (l : Launch) (hst : l.stackTraces = false) (D : va_G) {cI cJ cZ cMic cSrc cSt cAI cAJ cD : ClassId} (h0 : Nat) (ad : Nat → Nat) (T : AT) (o : Nat) (a0 a1 : Int32) (ao : Nat) (f : Nat → Int64) {k1 : Nat} {r1 : Int32} {T1 : AT} (h : g_X11_setOn T o a0 a1 = some (k1, r1, T1)) (hrc : RC T) (h_o : o < T.1) (h_s : T.2.1 o = (11, 0)) : tWi l yL_setOn (Cond.codeWith yL_setOn cL_setOn 5 (some .int) [(0, 17, 20, 21), (0, 17, 24, 13)] :: wsA) 9 147 cI cJ cZ cMic cSrc cSt cAI cAJ cD D h0 ad T (oJ ao cJ f) [.ref (ad o), .int a0, .int a1, .ref ao] (vck 1 2 0 k1) T1 (oJ ao cJ (vfJ k1 f (vzb r1))) := by
  cases k1 with
  | zero => exact v_setOn_n l hst D h0 ad T o a0 a1 ao f h hrc h_o h_s
  | succ e1 => exact v_setOn_t l hst D h0 ad T o a0 a1 ao f h hrc h_o h_s
set_option maxHeartbeats 4000000 in
set_option maxRecDepth 100000 in
theorem v_moveSource_n (l : Launch) (hst : l.stackTraces = false) (D : va_G) {cI cJ cZ cMic cSrc cSt cAI cAJ cD : ClassId} (h0 : Nat) (ad : Nat → Nat) (T : AT) (o : Nat) (a0 a1 a2 : Int32) (ao : Nat) (f : Nat → Int64) {r1 : Int32} {T1 : AT} (h : g_X11_moveSource T o a0 a1 a2 = some (0, r1, T1)) (hrc : RC T) (h_o : o < T.1) (h_s : T.2.1 o = (11, 0)) : tWi l yL_moveSource (Cond.codeWith yL_moveSource cL_moveSource 6 (some .int) [(0, 12, 15, 21), (0, 12, 19, 13), (0, 12, 23, 15)] :: wsA) 9 172 cI cJ cZ cMic cSrc cSt cAI cAJ cD D h0 ad T (oJ ao cJ f) [.ref (ad o), .int a0, .int a1, .int a2, .ref ao] (vck 1 2 3 (0)) T1 (oJ ao cJ (vfJ (0) f r1.toInt64)) := by
  intro sz
  refine pro_inW (cc := cL_moveSource) (maxL := 6) (ret := some .int) (by exact pn_RL) rfl (by exact Nat.le_of_ble_eq_true rfl) (fun p e s m below meth c ls hx hb hr hts hown hlocks htb hml hv hl => ?_)
  obtain ⟨hsz, hP, hK, hD0, hX, hN, hA0, hTS⟩ := hv
  subst hsz
  have hD := hD0.self (sz := s.heap.size)
  generalize hAe : va_A (cW ad T.1 (cc cI cJ cZ cMic cSrc cSt cAI cAJ ad T) ++ [oJ ao cJ f]) s.heap.size = A at hD hX hA0 ⊢
  have hA : ∀ q : Nat, s.heap.size ≤ q → A q := fun q h => by rw [← hAe]; exact Or.inr h
  have G : gL cI cJ cZ cMic cSrc cSt cAI cAJ D ad A s.heap s.heap [] T [oJ ao cJ f] := ⟨hP, hD, va_S.rf⟩
  have E : cE p c cL_moveSource s m ([.ref (ad o), .int a0, .int a1, .int a2, .ref ao] : List Value).toArray (Cond.codeWith yL_moveSource cL_moveSource 6 (some .int) [(0, 12, 15, 21), (0, 12, 19, 13), (0, 12, 23, 15)] :: wsA) D RL (CT cI cJ cZ cMic cSrc cSt cAI cAJ ++ [(cD, .double)]) := ⟨hx, hb, hts, hown, hK⟩
  have hl : lv_has ls 6 [(0, .ref (ad o)), (1, .int a0), (2, .int a1), (3, .int a2), (4, .ref ao)] := hl
  refine lv_aload hx hb dL_moveSource_0 (lv_at hl 4 rfl) ?_
  refine lv_iconst (v := 0) hx hb dL_moveSource_2 (by decide) ?_
  refine lv_aload_n hx hb dL_moveSource_3 rfl (lv_at hl 0 rfl) ?_
  refine lv_iload_n hx hb dL_moveSource_4 rfl (lv_at hl 1 rfl) ?_
  refine lv_iload_n hx hb dL_moveSource_5 rfl (lv_at hl 2 rfl) ?_
  refine lv_iload_n hx hb dL_moveSource_6 rfl (lv_at hl 3 rfl) ?_
  refine t_avi (As := [.int a0, .int a1, .int a2]) (rest := [.int 0, .ref ao]) E G hA hX hX.2.2.2.1 hml (a_X11_moveSource l hst D cI cJ cZ cMic cSrc cSt cAI cAJ ad T o a0 a1 a2 h hrc h_o) (cwV 3 hts (gaV qA_1137 qA_1138 qA_1139 qA_131 qA_932) rfl rfl rfl (by decide +kernel) ⟨Nat.le_of_ble_eq_true rfl, Nat.le_of_ble_eq_true rfl⟩) h_o (cc_o11 h_s) rfl rfl hl.1 rfl (lv_room (Nat.le_of_ble_eq_true rfl)) dL_moveSource_7 ⟨by show 0 + (T1.1 - T.1) ≤ T1.1 - T.1 + 1; omega, by show 0 + (sg T1 - sg T) ≤ sg T1 - sg T + 6; omega⟩ ?_
  intro ad2 H locs had G
  refine lv_i2l (v := r1.toInt64) hx hb dL_moveSource_10 rfl ?_
  refine t_last E G dL_moveSource_11 (fun H locs G => ?_)
  refine lv_goto (tgt := 27) hx hb dL_moveSource_12 (by decide) ?_
  refine lv_iconst (v := 0) hx hb dL_moveSource_27 (by decide) ?_
  refine W.widen (k := T1.1 - T.1 + 1) (n := sg T1 - sg T + 6) (by omega) (by omega) ?_
  exact W.iret (v := 0) hx hb hr (fun t ht hW => ⟨⟨0, ad2, rfl, ⟨rfl, had⟩, ⟨by rw [ht]; exact G.1, va_K.moved hW.alike hK, G.2.1⟩⟩, G.2.2.F ht⟩) G.2.2.2.2 dL_moveSource_28
set_option maxHeartbeats 4000000 in
set_option maxRecDepth 100000 in
theorem v_moveSource_t (l : Launch) (hst : l.stackTraces = false) (D : va_G) {cI cJ cZ cMic cSrc cSt cAI cAJ cD : ClassId} (h0 : Nat) (ad : Nat → Nat) (T : AT) (o : Nat) (a0 a1 a2 : Int32) (ao : Nat) (f : Nat → Int64) {e1 : Nat} {r1 : Int32} {T1 : AT} (h : g_X11_moveSource T o a0 a1 a2 = some (e1 + 1, r1, T1)) (hrc : RC T) (h_o : o < T.1) (h_s : T.2.1 o = (11, 0)) : tWi l yL_moveSource (Cond.codeWith yL_moveSource cL_moveSource 6 (some .int) [(0, 12, 15, 21), (0, 12, 19, 13), (0, 12, 23, 15)] :: wsA) 9 172 cI cJ cZ cMic cSrc cSt cAI cAJ cD D h0 ad T (oJ ao cJ f) [.ref (ad o), .int a0, .int a1, .int a2, .ref ao] (vck 1 2 3 (e1 + 1)) T1 (oJ ao cJ (vfJ (e1 + 1) f r1.toInt64)) := by
  intro sz
  refine pro_inW (cc := cL_moveSource) (maxL := 6) (ret := some .int) (by exact pn_RL) rfl (by exact Nat.le_of_ble_eq_true rfl) (fun p e s m below meth c ls hx hb hr hts hown hlocks htb hml hv hl => ?_)
  obtain ⟨hsz, hP, hK, hD0, hX, hN, hA0, hTS⟩ := hv
  subst hsz
  have hD := hD0.self (sz := s.heap.size)
  generalize hAe : va_A (cW ad T.1 (cc cI cJ cZ cMic cSrc cSt cAI cAJ ad T) ++ [oJ ao cJ f]) s.heap.size = A at hD hX hA0 ⊢
  have hA : ∀ q : Nat, s.heap.size ≤ q → A q := fun q h => by rw [← hAe]; exact Or.inr h
  have G : gL cI cJ cZ cMic cSrc cSt cAI cAJ D ad A s.heap s.heap [] T [oJ ao cJ f] := ⟨hP, hD, va_S.rf⟩
  have E : cE p c cL_moveSource s m ([.ref (ad o), .int a0, .int a1, .int a2, .ref ao] : List Value).toArray (Cond.codeWith yL_moveSource cL_moveSource 6 (some .int) [(0, 12, 15, 21), (0, 12, 19, 13), (0, 12, 23, 15)] :: wsA) D RL (CT cI cJ cZ cMic cSrc cSt cAI cAJ ++ [(cD, .double)]) := ⟨hx, hb, hts, hown, hK⟩
  have hl : lv_has ls 6 [(0, .ref (ad o)), (1, .int a0), (2, .int a1), (3, .int a2), (4, .ref ao)] := hl
  refine lv_aload hx hb dL_moveSource_0 (lv_at hl 4 rfl) ?_
  refine lv_iconst (v := 0) hx hb dL_moveSource_2 (by decide) ?_
  refine lv_aload_n hx hb dL_moveSource_3 rfl (lv_at hl 0 rfl) ?_
  refine lv_iload_n hx hb dL_moveSource_4 rfl (lv_at hl 1 rfl) ?_
  refine lv_iload_n hx hb dL_moveSource_5 rfl (lv_at hl 2 rfl) ?_
  refine lv_iload_n hx hb dL_moveSource_6 rfl (lv_at hl 3 rfl) ?_
  refine t_bvi (As := [.int a0, .int a1, .int a2]) (rest := [.int 0, .ref ao]) E G hA hX hX.2.2.2.1 hml (b_X11_moveSource l hst D cI cJ cZ cMic cSrc cSt cAI cAJ ad T o a0 a1 a2 h hrc h_o) (cwV 3 hts (gaV qA_1137 qA_1138 qA_1139 qA_131 qA_932) rfl rfl rfl (by decide +kernel) ⟨Nat.le_of_ble_eq_true rfl, Nat.le_of_ble_eq_true rfl⟩) h_o (cc_o11 h_s) rfl rfl hl.1 rfl (lv_room (Nat.le_of_ble_eq_true rfl)) dL_moveSource_7 ⟨by show 0 + (T1.1 - T.1 + 1) ≤ T1.1 - T.1 + 1; omega, by show 0 + (sg T1 - sg T + 6) ≤ sg T1 - sg T + 6; omega⟩ ?_
  intro E9 ce q9 ad2 H locs hE had G hce hcv hcl
  rcases e1 with _ | _ | e1
  · have hE : E9 = xISE := hE
    subst hE
    refine vx_catch (name := xISE) hown [] { startPc := 0, endPc := 12, handlerPc := 15, catchType := 21 } [{ startPc := 0, endPc := 12, handlerPc := 19, catchType := 13 }, { startPc := 0, endPc := 12, handlerPc := 23, catchType := 15 }] htb (fun z hz => absurd hz List.not_mem_nil) (by decide) (by decide) (hts _ (.tail _ qA_952)) (hX.use (.castable xISE xISE) (by decide +kernel)) hce hcv hcl ?_
    refine lv_astore (lv' := [(5, .ref q9), (0, .ref (ad o)), (1, .int a0), (2, .int a1), (3, .int a2), (4, .ref ao)]) hx hb dL_moveSource_15 hl (by decide) rfl (fun ls hl => ?_)
    refine lv_iconst (v := 1) hx hb dL_moveSource_17 (by decide) ?_
    refine W.widen (k := T1.1 - T.1 + 1) (n := sg T1 - sg T + 6) (by omega) (by omega) ?_
    exact W.iret (v := 1) hx hb hr (fun t ht hW => ⟨⟨1, ad2, rfl, ⟨rfl, had⟩, ⟨by rw [ht]; exact G.1, va_K.moved hW.alike hK, G.2.1⟩⟩, G.2.2.F ht⟩) G.2.2.2.2 dL_moveSource_18
  · have hE : E9 = xIOB := hE
    subst hE
    refine vx_catch (name := xIOB) hown [{ startPc := 0, endPc := 12, handlerPc := 15, catchType := 21 }] { startPc := 0, endPc := 12, handlerPc := 19, catchType := 13 } [{ startPc := 0, endPc := 12, handlerPc := 23, catchType := 15 }] htb (List.forall_mem_cons.mpr ⟨Or.inr ⟨by decide, xISE, hts _ (.tail _ qA_952), hN.2.2.1⟩, fun z hz => absurd hz List.not_mem_nil⟩) (by decide) (by decide) (hts _ (.tail _ qA_946)) (hX.use (.castable xIOB xIOB) (by decide +kernel)) hce hcv hcl ?_
    refine lv_astore (lv' := [(5, .ref q9), (0, .ref (ad o)), (1, .int a0), (2, .int a1), (3, .int a2), (4, .ref ao)]) hx hb dL_moveSource_19 hl (by decide) rfl (fun ls hl => ?_)
    refine lv_iconst (v := 2) hx hb dL_moveSource_21 (by decide) ?_
    refine W.widen (k := T1.1 - T.1 + 1) (n := sg T1 - sg T + 6) (by omega) (by omega) ?_
    exact W.iret (v := 2) hx hb hr (fun t ht hW => ⟨⟨2, ad2, rfl, ⟨rfl, had⟩, ⟨by rw [ht]; exact G.1, va_K.moved hW.alike hK, G.2.1⟩⟩, G.2.2.F ht⟩) G.2.2.2.2 dL_moveSource_22
  · have hE : E9 = xIAE := hE
    subst hE
    refine vx_catch (name := xIAE) hown [{ startPc := 0, endPc := 12, handlerPc := 15, catchType := 21 }, { startPc := 0, endPc := 12, handlerPc := 19, catchType := 13 }] { startPc := 0, endPc := 12, handlerPc := 23, catchType := 15 } [] htb (List.forall_mem_cons.mpr ⟨Or.inr ⟨by decide, xISE, hts _ (.tail _ qA_952), hN.2.2.2⟩, List.forall_mem_cons.mpr ⟨Or.inr ⟨by decide, xIOB, hts _ (.tail _ qA_946), hN.1⟩, fun z hz => absurd hz List.not_mem_nil⟩⟩) (by decide) (by decide) (hts _ (.tail _ qA_947)) (hX.use (.castable xIAE xIAE) (by decide +kernel)) hce hcv hcl ?_
    refine lv_astore (lv' := [(5, .ref q9), (0, .ref (ad o)), (1, .int a0), (2, .int a1), (3, .int a2), (4, .ref ao)]) hx hb dL_moveSource_23 hl (by decide) rfl (fun ls hl => ?_)
    refine lv_iconst (v := 3) hx hb dL_moveSource_25 (by decide) ?_
    refine W.widen (k := T1.1 - T.1 + 1) (n := sg T1 - sg T + 6) (by omega) (by omega) ?_
    exact W.iret (v := 3) hx hb hr (fun t ht hW => ⟨⟨3, ad2, rfl, ⟨rfl, had⟩, ⟨by rw [ht]; exact G.1, va_K.moved hW.alike hK, G.2.1⟩⟩, G.2.2.F ht⟩) G.2.2.2.2 dL_moveSource_26
theorem v_moveSource (l : Launch) (hst : l.stackTraces = false) (D : va_G) {cI cJ cZ cMic cSrc cSt cAI cAJ cD : ClassId} (h0 : Nat) (ad : Nat → Nat) (T : AT) (o : Nat) (a0 a1 a2 : Int32) (ao : Nat) (f : Nat → Int64) {k1 : Nat} {r1 : Int32} {T1 : AT} (h : g_X11_moveSource T o a0 a1 a2 = some (k1, r1, T1)) (hrc : RC T) (h_o : o < T.1) (h_s : T.2.1 o = (11, 0)) : tWi l yL_moveSource (Cond.codeWith yL_moveSource cL_moveSource 6 (some .int) [(0, 12, 15, 21), (0, 12, 19, 13), (0, 12, 23, 15)] :: wsA) 9 172 cI cJ cZ cMic cSrc cSt cAI cAJ cD D h0 ad T (oJ ao cJ f) [.ref (ad o), .int a0, .int a1, .int a2, .ref ao] (vck 1 2 3 k1) T1 (oJ ao cJ (vfJ k1 f r1.toInt64)) := by
  cases k1 with
  | zero => exact v_moveSource_n l hst D h0 ad T o a0 a1 a2 ao f h hrc h_o h_s
  | succ e1 => exact v_moveSource_t l hst D h0 ad T o a0 a1 a2 ao f h hrc h_o h_s
set_option maxHeartbeats 4000000 in
set_option maxRecDepth 100000 in
theorem v_setVelocity_n (l : Launch) (hst : l.stackTraces = false) (D : va_G) {cI cJ cZ cMic cSrc cSt cAI cAJ cD : ClassId} (h0 : Nat) (ad : Nat → Nat) (T : AT) (o : Nat) (a0 a1 a2 : Int32) (ao : Nat) (f : Nat → Int64) {r1 : Int32} {T1 : AT} (h : g_X11_setVelocity T o a0 a1 a2 = some (0, r1, T1)) (hrc : RC T) (h_o : o < T.1) (h_s : T.2.1 o = (11, 0)) : tWi l yL_setVelocity (Cond.codeWith yL_setVelocity cL_setVelocity 6 (some .int) [(0, 12, 15, 21), (0, 12, 19, 13), (0, 12, 23, 15)] :: wsA) 9 172 cI cJ cZ cMic cSrc cSt cAI cAJ cD D h0 ad T (oJ ao cJ f) [.ref (ad o), .int a0, .int a1, .int a2, .ref ao] (vck 1 2 3 (0)) T1 (oJ ao cJ (vfJ (0) f r1.toInt64)) := by
  intro sz
  refine pro_inW (cc := cL_setVelocity) (maxL := 6) (ret := some .int) (by exact pn_RL) rfl (by exact Nat.le_of_ble_eq_true rfl) (fun p e s m below meth c ls hx hb hr hts hown hlocks htb hml hv hl => ?_)
  obtain ⟨hsz, hP, hK, hD0, hX, hN, hA0, hTS⟩ := hv
  subst hsz
  have hD := hD0.self (sz := s.heap.size)
  generalize hAe : va_A (cW ad T.1 (cc cI cJ cZ cMic cSrc cSt cAI cAJ ad T) ++ [oJ ao cJ f]) s.heap.size = A at hD hX hA0 ⊢
  have hA : ∀ q : Nat, s.heap.size ≤ q → A q := fun q h => by rw [← hAe]; exact Or.inr h
  have G : gL cI cJ cZ cMic cSrc cSt cAI cAJ D ad A s.heap s.heap [] T [oJ ao cJ f] := ⟨hP, hD, va_S.rf⟩
  have E : cE p c cL_setVelocity s m ([.ref (ad o), .int a0, .int a1, .int a2, .ref ao] : List Value).toArray (Cond.codeWith yL_setVelocity cL_setVelocity 6 (some .int) [(0, 12, 15, 21), (0, 12, 19, 13), (0, 12, 23, 15)] :: wsA) D RL (CT cI cJ cZ cMic cSrc cSt cAI cAJ ++ [(cD, .double)]) := ⟨hx, hb, hts, hown, hK⟩
  have hl : lv_has ls 6 [(0, .ref (ad o)), (1, .int a0), (2, .int a1), (3, .int a2), (4, .ref ao)] := hl
  refine lv_aload hx hb dL_setVelocity_0 (lv_at hl 4 rfl) ?_
  refine lv_iconst (v := 0) hx hb dL_setVelocity_2 (by decide) ?_
  refine lv_aload_n hx hb dL_setVelocity_3 rfl (lv_at hl 0 rfl) ?_
  refine lv_iload_n hx hb dL_setVelocity_4 rfl (lv_at hl 1 rfl) ?_
  refine lv_iload_n hx hb dL_setVelocity_5 rfl (lv_at hl 2 rfl) ?_
  refine lv_iload_n hx hb dL_setVelocity_6 rfl (lv_at hl 3 rfl) ?_
  refine t_avi (As := [.int a0, .int a1, .int a2]) (rest := [.int 0, .ref ao]) E G hA hX hX.2.2.2.1 hml (a_X11_setVelocity l hst D cI cJ cZ cMic cSrc cSt cAI cAJ ad T o a0 a1 a2 h hrc h_o) (cwV 3 hts (gaV qA_1141 qA_1142 qA_1143 qA_131 qA_933) rfl rfl rfl (by decide +kernel) ⟨Nat.le_of_ble_eq_true rfl, Nat.le_of_ble_eq_true rfl⟩) h_o (cc_o11 h_s) rfl rfl hl.1 rfl (lv_room (Nat.le_of_ble_eq_true rfl)) dL_setVelocity_7 ⟨by show 0 + (T1.1 - T.1) ≤ T1.1 - T.1 + 1; omega, by show 0 + (sg T1 - sg T) ≤ sg T1 - sg T + 6; omega⟩ ?_
  intro ad2 H locs had G
  refine lv_i2l (v := r1.toInt64) hx hb dL_setVelocity_10 rfl ?_
  refine t_last E G dL_setVelocity_11 (fun H locs G => ?_)
  refine lv_goto (tgt := 27) hx hb dL_setVelocity_12 (by decide) ?_
  refine lv_iconst (v := 0) hx hb dL_setVelocity_27 (by decide) ?_
  refine W.widen (k := T1.1 - T.1 + 1) (n := sg T1 - sg T + 6) (by omega) (by omega) ?_
  exact W.iret (v := 0) hx hb hr (fun t ht hW => ⟨⟨0, ad2, rfl, ⟨rfl, had⟩, ⟨by rw [ht]; exact G.1, va_K.moved hW.alike hK, G.2.1⟩⟩, G.2.2.F ht⟩) G.2.2.2.2 dL_setVelocity_28
set_option maxHeartbeats 4000000 in
set_option maxRecDepth 100000 in
theorem v_setVelocity_t (l : Launch) (hst : l.stackTraces = false) (D : va_G) {cI cJ cZ cMic cSrc cSt cAI cAJ cD : ClassId} (h0 : Nat) (ad : Nat → Nat) (T : AT) (o : Nat) (a0 a1 a2 : Int32) (ao : Nat) (f : Nat → Int64) {e1 : Nat} {r1 : Int32} {T1 : AT} (h : g_X11_setVelocity T o a0 a1 a2 = some (e1 + 1, r1, T1)) (hrc : RC T) (h_o : o < T.1) (h_s : T.2.1 o = (11, 0)) : tWi l yL_setVelocity (Cond.codeWith yL_setVelocity cL_setVelocity 6 (some .int) [(0, 12, 15, 21), (0, 12, 19, 13), (0, 12, 23, 15)] :: wsA) 9 172 cI cJ cZ cMic cSrc cSt cAI cAJ cD D h0 ad T (oJ ao cJ f) [.ref (ad o), .int a0, .int a1, .int a2, .ref ao] (vck 1 2 3 (e1 + 1)) T1 (oJ ao cJ (vfJ (e1 + 1) f r1.toInt64)) := by
  intro sz
  refine pro_inW (cc := cL_setVelocity) (maxL := 6) (ret := some .int) (by exact pn_RL) rfl (by exact Nat.le_of_ble_eq_true rfl) (fun p e s m below meth c ls hx hb hr hts hown hlocks htb hml hv hl => ?_)
  obtain ⟨hsz, hP, hK, hD0, hX, hN, hA0, hTS⟩ := hv
  subst hsz
  have hD := hD0.self (sz := s.heap.size)
  generalize hAe : va_A (cW ad T.1 (cc cI cJ cZ cMic cSrc cSt cAI cAJ ad T) ++ [oJ ao cJ f]) s.heap.size = A at hD hX hA0 ⊢
  have hA : ∀ q : Nat, s.heap.size ≤ q → A q := fun q h => by rw [← hAe]; exact Or.inr h
  have G : gL cI cJ cZ cMic cSrc cSt cAI cAJ D ad A s.heap s.heap [] T [oJ ao cJ f] := ⟨hP, hD, va_S.rf⟩
  have E : cE p c cL_setVelocity s m ([.ref (ad o), .int a0, .int a1, .int a2, .ref ao] : List Value).toArray (Cond.codeWith yL_setVelocity cL_setVelocity 6 (some .int) [(0, 12, 15, 21), (0, 12, 19, 13), (0, 12, 23, 15)] :: wsA) D RL (CT cI cJ cZ cMic cSrc cSt cAI cAJ ++ [(cD, .double)]) := ⟨hx, hb, hts, hown, hK⟩
  have hl : lv_has ls 6 [(0, .ref (ad o)), (1, .int a0), (2, .int a1), (3, .int a2), (4, .ref ao)] := hl
  refine lv_aload hx hb dL_setVelocity_0 (lv_at hl 4 rfl) ?_
  refine lv_iconst (v := 0) hx hb dL_setVelocity_2 (by decide) ?_
  refine lv_aload_n hx hb dL_setVelocity_3 rfl (lv_at hl 0 rfl) ?_
  refine lv_iload_n hx hb dL_setVelocity_4 rfl (lv_at hl 1 rfl) ?_
  refine lv_iload_n hx hb dL_setVelocity_5 rfl (lv_at hl 2 rfl) ?_
  refine lv_iload_n hx hb dL_setVelocity_6 rfl (lv_at hl 3 rfl) ?_
  refine t_bvi (As := [.int a0, .int a1, .int a2]) (rest := [.int 0, .ref ao]) E G hA hX hX.2.2.2.1 hml (b_X11_setVelocity l hst D cI cJ cZ cMic cSrc cSt cAI cAJ ad T o a0 a1 a2 h hrc h_o) (cwV 3 hts (gaV qA_1141 qA_1142 qA_1143 qA_131 qA_933) rfl rfl rfl (by decide +kernel) ⟨Nat.le_of_ble_eq_true rfl, Nat.le_of_ble_eq_true rfl⟩) h_o (cc_o11 h_s) rfl rfl hl.1 rfl (lv_room (Nat.le_of_ble_eq_true rfl)) dL_setVelocity_7 ⟨by show 0 + (T1.1 - T.1 + 1) ≤ T1.1 - T.1 + 1; omega, by show 0 + (sg T1 - sg T + 6) ≤ sg T1 - sg T + 6; omega⟩ ?_
  intro E9 ce q9 ad2 H locs hE had G hce hcv hcl
  rcases e1 with _ | _ | e1
  · have hE : E9 = xISE := hE
    subst hE
    refine vx_catch (name := xISE) hown [] { startPc := 0, endPc := 12, handlerPc := 15, catchType := 21 } [{ startPc := 0, endPc := 12, handlerPc := 19, catchType := 13 }, { startPc := 0, endPc := 12, handlerPc := 23, catchType := 15 }] htb (fun z hz => absurd hz List.not_mem_nil) (by decide) (by decide) (hts _ (.tail _ qA_952)) (hX.use (.castable xISE xISE) (by decide +kernel)) hce hcv hcl ?_
    refine lv_astore (lv' := [(5, .ref q9), (0, .ref (ad o)), (1, .int a0), (2, .int a1), (3, .int a2), (4, .ref ao)]) hx hb dL_setVelocity_15 hl (by decide) rfl (fun ls hl => ?_)
    refine lv_iconst (v := 1) hx hb dL_setVelocity_17 (by decide) ?_
    refine W.widen (k := T1.1 - T.1 + 1) (n := sg T1 - sg T + 6) (by omega) (by omega) ?_
    exact W.iret (v := 1) hx hb hr (fun t ht hW => ⟨⟨1, ad2, rfl, ⟨rfl, had⟩, ⟨by rw [ht]; exact G.1, va_K.moved hW.alike hK, G.2.1⟩⟩, G.2.2.F ht⟩) G.2.2.2.2 dL_setVelocity_18
  · have hE : E9 = xIOB := hE
    subst hE
    refine vx_catch (name := xIOB) hown [{ startPc := 0, endPc := 12, handlerPc := 15, catchType := 21 }] { startPc := 0, endPc := 12, handlerPc := 19, catchType := 13 } [{ startPc := 0, endPc := 12, handlerPc := 23, catchType := 15 }] htb (List.forall_mem_cons.mpr ⟨Or.inr ⟨by decide, xISE, hts _ (.tail _ qA_952), hN.2.2.1⟩, fun z hz => absurd hz List.not_mem_nil⟩) (by decide) (by decide) (hts _ (.tail _ qA_946)) (hX.use (.castable xIOB xIOB) (by decide +kernel)) hce hcv hcl ?_
    refine lv_astore (lv' := [(5, .ref q9), (0, .ref (ad o)), (1, .int a0), (2, .int a1), (3, .int a2), (4, .ref ao)]) hx hb dL_setVelocity_19 hl (by decide) rfl (fun ls hl => ?_)
    refine lv_iconst (v := 2) hx hb dL_setVelocity_21 (by decide) ?_
    refine W.widen (k := T1.1 - T.1 + 1) (n := sg T1 - sg T + 6) (by omega) (by omega) ?_
    exact W.iret (v := 2) hx hb hr (fun t ht hW => ⟨⟨2, ad2, rfl, ⟨rfl, had⟩, ⟨by rw [ht]; exact G.1, va_K.moved hW.alike hK, G.2.1⟩⟩, G.2.2.F ht⟩) G.2.2.2.2 dL_setVelocity_22
  · have hE : E9 = xIAE := hE
    subst hE
    refine vx_catch (name := xIAE) hown [{ startPc := 0, endPc := 12, handlerPc := 15, catchType := 21 }, { startPc := 0, endPc := 12, handlerPc := 19, catchType := 13 }] { startPc := 0, endPc := 12, handlerPc := 23, catchType := 15 } [] htb (List.forall_mem_cons.mpr ⟨Or.inr ⟨by decide, xISE, hts _ (.tail _ qA_952), hN.2.2.2⟩, List.forall_mem_cons.mpr ⟨Or.inr ⟨by decide, xIOB, hts _ (.tail _ qA_946), hN.1⟩, fun z hz => absurd hz List.not_mem_nil⟩⟩) (by decide) (by decide) (hts _ (.tail _ qA_947)) (hX.use (.castable xIAE xIAE) (by decide +kernel)) hce hcv hcl ?_
    refine lv_astore (lv' := [(5, .ref q9), (0, .ref (ad o)), (1, .int a0), (2, .int a1), (3, .int a2), (4, .ref ao)]) hx hb dL_setVelocity_23 hl (by decide) rfl (fun ls hl => ?_)
    refine lv_iconst (v := 3) hx hb dL_setVelocity_25 (by decide) ?_
    refine W.widen (k := T1.1 - T.1 + 1) (n := sg T1 - sg T + 6) (by omega) (by omega) ?_
    exact W.iret (v := 3) hx hb hr (fun t ht hW => ⟨⟨3, ad2, rfl, ⟨rfl, had⟩, ⟨by rw [ht]; exact G.1, va_K.moved hW.alike hK, G.2.1⟩⟩, G.2.2.F ht⟩) G.2.2.2.2 dL_setVelocity_26
theorem v_setVelocity (l : Launch) (hst : l.stackTraces = false) (D : va_G) {cI cJ cZ cMic cSrc cSt cAI cAJ cD : ClassId} (h0 : Nat) (ad : Nat → Nat) (T : AT) (o : Nat) (a0 a1 a2 : Int32) (ao : Nat) (f : Nat → Int64) {k1 : Nat} {r1 : Int32} {T1 : AT} (h : g_X11_setVelocity T o a0 a1 a2 = some (k1, r1, T1)) (hrc : RC T) (h_o : o < T.1) (h_s : T.2.1 o = (11, 0)) : tWi l yL_setVelocity (Cond.codeWith yL_setVelocity cL_setVelocity 6 (some .int) [(0, 12, 15, 21), (0, 12, 19, 13), (0, 12, 23, 15)] :: wsA) 9 172 cI cJ cZ cMic cSrc cSt cAI cAJ cD D h0 ad T (oJ ao cJ f) [.ref (ad o), .int a0, .int a1, .int a2, .ref ao] (vck 1 2 3 k1) T1 (oJ ao cJ (vfJ k1 f r1.toInt64)) := by
  cases k1 with
  | zero => exact v_setVelocity_n l hst D h0 ad T o a0 a1 a2 ao f h hrc h_o h_s
  | succ e1 => exact v_setVelocity_t l hst D h0 ad T o a0 a1 a2 ao f h hrc h_o h_s
set_option maxHeartbeats 4000000 in
set_option maxRecDepth 100000 in
theorem v_clean_n (l : Launch) (hst : l.stackTraces = false) (D : va_G) {cI cJ cZ cMic cSrc cSt cAI cAJ cD : ClassId} (h0 : Nat) (ad : Nat → Nat) (T : AT) (o : Nat) (a0 : Int32) (ao : Nat) (f : Nat → Int64) {r1 : Int32} {T1 : AT} (h : g_X11_clean T o a0 = some (0, r1, T1)) (hrc : RC T) (h_o : o < T.1) (h_s : T.2.1 o = (11, 0)) : tWi l yL_clean (Cond.codeWith yL_clean cL_clean 4 (some .int) [(0, 9, 12, 21), (0, 9, 15, 15)] :: wsA) 8 171 cI cJ cZ cMic cSrc cSt cAI cAJ cD D h0 ad T (oJ ao cJ f) [.ref (ad o), .int a0, .ref ao] (vck 1 0 2 (0)) T1 (oJ ao cJ (vfJ (0) f r1.toInt64)) := by
  intro sz
  refine pro_inW (cc := cL_clean) (maxL := 4) (ret := some .int) (by exact pn_RL) rfl (by exact Nat.le_of_ble_eq_true rfl) (fun p e s m below meth c ls hx hb hr hts hown hlocks htb hml hv hl => ?_)
  obtain ⟨hsz, hP, hK, hD0, hX, hN, hA0, hTS⟩ := hv
  subst hsz
  have hD := hD0.self (sz := s.heap.size)
  generalize hAe : va_A (cW ad T.1 (cc cI cJ cZ cMic cSrc cSt cAI cAJ ad T) ++ [oJ ao cJ f]) s.heap.size = A at hD hX hA0 ⊢
  have hA : ∀ q : Nat, s.heap.size ≤ q → A q := fun q h => by rw [← hAe]; exact Or.inr h
  have G : gL cI cJ cZ cMic cSrc cSt cAI cAJ D ad A s.heap s.heap [] T [oJ ao cJ f] := ⟨hP, hD, va_S.rf⟩
  have E : cE p c cL_clean s m ([.ref (ad o), .int a0, .ref ao] : List Value).toArray (Cond.codeWith yL_clean cL_clean 4 (some .int) [(0, 9, 12, 21), (0, 9, 15, 15)] :: wsA) D RL (CT cI cJ cZ cMic cSrc cSt cAI cAJ ++ [(cD, .double)]) := ⟨hx, hb, hts, hown, hK⟩
  have hl : lv_has ls 4 [(0, .ref (ad o)), (1, .int a0), (2, .ref ao)] := hl
  refine lv_aload_n hx hb dL_clean_0 rfl (lv_at hl 2 rfl) ?_
  refine lv_iconst (v := 0) hx hb dL_clean_1 (by decide) ?_
  refine lv_aload_n hx hb dL_clean_2 rfl (lv_at hl 0 rfl) ?_
  refine lv_iload_n hx hb dL_clean_3 rfl (lv_at hl 1 rfl) ?_
  refine t_avi (As := [.int a0]) (rest := [.int 0, .ref ao]) E G hA hX hX.2.2.2.1 hml (a_X11_clean l hst D cI cJ cZ cMic cSrc cSt cAI cAJ ad T o a0 h hrc h_o) (cwV 1 hts (gaV qA_1145 qA_1146 qA_1147 qA_131 qA_934) rfl rfl rfl (by decide +kernel) ⟨Nat.le_of_ble_eq_true rfl, Nat.le_of_ble_eq_true rfl⟩) h_o (cc_o11 h_s) rfl rfl hl.1 rfl (lv_room (Nat.le_of_ble_eq_true rfl)) dL_clean_4 ⟨by show 0 + (T1.1 - T.1) ≤ T1.1 - T.1 + 1; omega, by show 0 + (sg T1 - sg T) ≤ sg T1 - sg T + 6; omega⟩ ?_
  intro ad2 H locs had G
  refine lv_i2l (v := r1.toInt64) hx hb dL_clean_7 rfl ?_
  refine t_last E G dL_clean_8 (fun H locs G => ?_)
  refine lv_goto (tgt := 18) hx hb dL_clean_9 (by decide) ?_
  refine lv_iconst (v := 0) hx hb dL_clean_18 (by decide) ?_
  refine W.widen (k := T1.1 - T.1 + 1) (n := sg T1 - sg T + 6) (by omega) (by omega) ?_
  exact W.iret (v := 0) hx hb hr (fun t ht hW => ⟨⟨0, ad2, rfl, ⟨rfl, had⟩, ⟨by rw [ht]; exact G.1, va_K.moved hW.alike hK, G.2.1⟩⟩, G.2.2.F ht⟩) G.2.2.2.2 dL_clean_19
set_option maxHeartbeats 4000000 in
set_option maxRecDepth 100000 in
theorem v_clean_t (l : Launch) (hst : l.stackTraces = false) (D : va_G) {cI cJ cZ cMic cSrc cSt cAI cAJ cD : ClassId} (h0 : Nat) (ad : Nat → Nat) (T : AT) (o : Nat) (a0 : Int32) (ao : Nat) (f : Nat → Int64) {e1 : Nat} {r1 : Int32} {T1 : AT} (h : g_X11_clean T o a0 = some (e1 + 1, r1, T1)) (hrc : RC T) (h_o : o < T.1) (h_s : T.2.1 o = (11, 0)) : tWi l yL_clean (Cond.codeWith yL_clean cL_clean 4 (some .int) [(0, 9, 12, 21), (0, 9, 15, 15)] :: wsA) 8 171 cI cJ cZ cMic cSrc cSt cAI cAJ cD D h0 ad T (oJ ao cJ f) [.ref (ad o), .int a0, .ref ao] (vck 1 0 2 (e1 + 1)) T1 (oJ ao cJ (vfJ (e1 + 1) f r1.toInt64)) := by
  intro sz
  refine pro_inW (cc := cL_clean) (maxL := 4) (ret := some .int) (by exact pn_RL) rfl (by exact Nat.le_of_ble_eq_true rfl) (fun p e s m below meth c ls hx hb hr hts hown hlocks htb hml hv hl => ?_)
  obtain ⟨hsz, hP, hK, hD0, hX, hN, hA0, hTS⟩ := hv
  subst hsz
  have hD := hD0.self (sz := s.heap.size)
  generalize hAe : va_A (cW ad T.1 (cc cI cJ cZ cMic cSrc cSt cAI cAJ ad T) ++ [oJ ao cJ f]) s.heap.size = A at hD hX hA0 ⊢
  have hA : ∀ q : Nat, s.heap.size ≤ q → A q := fun q h => by rw [← hAe]; exact Or.inr h
  have G : gL cI cJ cZ cMic cSrc cSt cAI cAJ D ad A s.heap s.heap [] T [oJ ao cJ f] := ⟨hP, hD, va_S.rf⟩
  have E : cE p c cL_clean s m ([.ref (ad o), .int a0, .ref ao] : List Value).toArray (Cond.codeWith yL_clean cL_clean 4 (some .int) [(0, 9, 12, 21), (0, 9, 15, 15)] :: wsA) D RL (CT cI cJ cZ cMic cSrc cSt cAI cAJ ++ [(cD, .double)]) := ⟨hx, hb, hts, hown, hK⟩
  have hl : lv_has ls 4 [(0, .ref (ad o)), (1, .int a0), (2, .ref ao)] := hl
  refine lv_aload_n hx hb dL_clean_0 rfl (lv_at hl 2 rfl) ?_
  refine lv_iconst (v := 0) hx hb dL_clean_1 (by decide) ?_
  refine lv_aload_n hx hb dL_clean_2 rfl (lv_at hl 0 rfl) ?_
  refine lv_iload_n hx hb dL_clean_3 rfl (lv_at hl 1 rfl) ?_
  refine t_bvi (As := [.int a0]) (rest := [.int 0, .ref ao]) E G hA hX hX.2.2.2.1 hml (b_X11_clean l hst D cI cJ cZ cMic cSrc cSt cAI cAJ ad T o a0 h hrc h_o) (cwV 1 hts (gaV qA_1145 qA_1146 qA_1147 qA_131 qA_934) rfl rfl rfl (by decide +kernel) ⟨Nat.le_of_ble_eq_true rfl, Nat.le_of_ble_eq_true rfl⟩) h_o (cc_o11 h_s) rfl rfl hl.1 rfl (lv_room (Nat.le_of_ble_eq_true rfl)) dL_clean_4 ⟨by show 0 + (T1.1 - T.1 + 1) ≤ T1.1 - T.1 + 1; omega, by show 0 + (sg T1 - sg T + 6) ≤ sg T1 - sg T + 6; omega⟩ ?_
  intro E9 ce q9 ad2 H locs hE had G hce hcv hcl
  rcases e1 with _ | _ | e1
  · have hE : E9 = xISE := hE
    subst hE
    refine vx_catch (name := xISE) hown [] { startPc := 0, endPc := 9, handlerPc := 12, catchType := 21 } [{ startPc := 0, endPc := 9, handlerPc := 15, catchType := 15 }] htb (fun z hz => absurd hz List.not_mem_nil) (by decide) (by decide) (hts _ (.tail _ qA_952)) (hX.use (.castable xISE xISE) (by decide +kernel)) hce hcv hcl ?_
    refine lv_astore_n (lv' := [(3, .ref q9), (0, .ref (ad o)), (1, .int a0), (2, .ref ao)]) hx hb dL_clean_12 rfl hl (by decide) rfl (fun ls hl => ?_)
    refine lv_iconst (v := 1) hx hb dL_clean_13 (by decide) ?_
    refine W.widen (k := T1.1 - T.1 + 1) (n := sg T1 - sg T + 6) (by omega) (by omega) ?_
    exact W.iret (v := 1) hx hb hr (fun t ht hW => ⟨⟨1, ad2, rfl, ⟨rfl, had⟩, ⟨by rw [ht]; exact G.1, va_K.moved hW.alike hK, G.2.1⟩⟩, G.2.2.F ht⟩) G.2.2.2.2 dL_clean_14
  · exact absurd (cd_g_X11_clean (S := [0, 1, 3]) (fun _ h => h) T o a0 _ _ _ h) (by decide)
  · have hE : E9 = xIAE := hE
    subst hE
    refine vx_catch (name := xIAE) hown [{ startPc := 0, endPc := 9, handlerPc := 12, catchType := 21 }] { startPc := 0, endPc := 9, handlerPc := 15, catchType := 15 } [] htb (List.forall_mem_cons.mpr ⟨Or.inr ⟨by decide, xISE, hts _ (.tail _ qA_952), hN.2.2.2⟩, fun z hz => absurd hz List.not_mem_nil⟩) (by decide) (by decide) (hts _ (.tail _ qA_947)) (hX.use (.castable xIAE xIAE) (by decide +kernel)) hce hcv hcl ?_
    refine lv_astore_n (lv' := [(3, .ref q9), (0, .ref (ad o)), (1, .int a0), (2, .ref ao)]) hx hb dL_clean_15 rfl hl (by decide) rfl (fun ls hl => ?_)
    refine lv_iconst (v := 2) hx hb dL_clean_16 (by decide) ?_
    refine W.widen (k := T1.1 - T.1 + 1) (n := sg T1 - sg T + 6) (by omega) (by omega) ?_
    exact W.iret (v := 2) hx hb hr (fun t ht hW => ⟨⟨2, ad2, rfl, ⟨rfl, had⟩, ⟨by rw [ht]; exact G.1, va_K.moved hW.alike hK, G.2.1⟩⟩, G.2.2.F ht⟩) G.2.2.2.2 dL_clean_17
theorem v_clean (l : Launch) (hst : l.stackTraces = false) (D : va_G) {cI cJ cZ cMic cSrc cSt cAI cAJ cD : ClassId} (h0 : Nat) (ad : Nat → Nat) (T : AT) (o : Nat) (a0 : Int32) (ao : Nat) (f : Nat → Int64) {k1 : Nat} {r1 : Int32} {T1 : AT} (h : g_X11_clean T o a0 = some (k1, r1, T1)) (hrc : RC T) (h_o : o < T.1) (h_s : T.2.1 o = (11, 0)) : tWi l yL_clean (Cond.codeWith yL_clean cL_clean 4 (some .int) [(0, 9, 12, 21), (0, 9, 15, 15)] :: wsA) 8 171 cI cJ cZ cMic cSrc cSt cAI cAJ cD D h0 ad T (oJ ao cJ f) [.ref (ad o), .int a0, .ref ao] (vck 1 0 2 k1) T1 (oJ ao cJ (vfJ k1 f r1.toInt64)) := by
  cases k1 with
  | zero => exact v_clean_n l hst D h0 ad T o a0 ao f h hrc h_o h_s
  | succ e1 => exact v_clean_t l hst D h0 ad T o a0 ao f h hrc h_o h_s
set_option maxHeartbeats 4000000 in
set_option maxRecDepth 100000 in
theorem v_cleaned_n (l : Launch) (hst : l.stackTraces = false) (D : va_G) {cI cJ cZ cMic cSrc cSt cAI cAJ cD : ClassId} (h0 : Nat) (ad : Nat → Nat) (T : AT) (o : Nat) (ao : Nat) (f : Nat → Int64) {r1 : Int32} {T1 : AT} (h : g_X11_cleaned T o = some (0, r1, T1)) (hrc : RC T) (h_o : o < T.1) (h_s : T.2.1 o = (11, 0)) : tWi l yL_cleaned (Cond.codeWith yL_cleaned cL_cleaned 3 (some .int) [(0, 8, 11, 21)] :: wsA) 8 121 cI cJ cZ cMic cSrc cSt cAI cAJ cD D h0 ad T (oJ ao cJ f) [.ref (ad o), .ref ao] (vck 1 0 0 (0)) T1 (oJ ao cJ (vfJ (0) f r1.toInt64)) := by
  intro sz
  refine pro_inW (cc := cL_cleaned) (maxL := 3) (ret := some .int) (by exact pn_RL) rfl (by exact Nat.le_of_ble_eq_true rfl) (fun p e s m below meth c ls hx hb hr hts hown hlocks htb hml hv hl => ?_)
  obtain ⟨hsz, hP, hK, hD0, hX, hN, hA0, hTS⟩ := hv
  subst hsz
  have hD := hD0.self (sz := s.heap.size)
  generalize hAe : va_A (cW ad T.1 (cc cI cJ cZ cMic cSrc cSt cAI cAJ ad T) ++ [oJ ao cJ f]) s.heap.size = A at hD hX hA0 ⊢
  have hA : ∀ q : Nat, s.heap.size ≤ q → A q := fun q h => by rw [← hAe]; exact Or.inr h
  have G : gL cI cJ cZ cMic cSrc cSt cAI cAJ D ad A s.heap s.heap [] T [oJ ao cJ f] := ⟨hP, hD, va_S.rf⟩
  have E : cE p c cL_cleaned s m ([.ref (ad o), .ref ao] : List Value).toArray (Cond.codeWith yL_cleaned cL_cleaned 3 (some .int) [(0, 8, 11, 21)] :: wsA) D RL (CT cI cJ cZ cMic cSrc cSt cAI cAJ ++ [(cD, .double)]) := ⟨hx, hb, hts, hown, hK⟩
  have hl : lv_has ls 3 [(0, .ref (ad o)), (1, .ref ao)] := hl
  refine lv_aload_n hx hb dL_cleaned_0 rfl (lv_at hl 1 rfl) ?_
  refine lv_iconst (v := 0) hx hb dL_cleaned_1 (by decide) ?_
  refine lv_aload_n hx hb dL_cleaned_2 rfl (lv_at hl 0 rfl) ?_
  refine t_cvi (As := []) (rest := [.int 0, .ref ao]) E G hA hX hX.2.2.2.1 hml (u_X11_cleaned l hst D cI cJ cZ cMic cSrc cSt cAI cAJ ad T o  h) (cwV 0 hts (gaV qA_1149 qA_1150 qA_1151 qA_131 qA_939) rfl rfl rfl (by decide +kernel) ⟨Nat.le_of_ble_eq_true rfl, Nat.le_of_ble_eq_true rfl⟩) h_o (cc_o11 h_s) rfl rfl hl.1 rfl (lv_room (Nat.le_of_ble_eq_true rfl)) dL_cleaned_3 ⟨by show 0 + (0) ≤ T1.1 - T.1 + 1; omega, by show 0 + (0) ≤ sg T1 - sg T + 6; omega⟩ ?_
  intro r9 S1 H locs hp G
  obtain ⟨hr9, hS1⟩ := hp
  rw [hS1] at G
  rw [hr9]
  have had : ∀ n, n < T.1 → ad n = ad n := fun _ _ => rfl
  refine lv_i2l (v := r1.toInt64) hx hb dL_cleaned_6 rfl ?_
  refine t_last E G dL_cleaned_7 (fun H locs G => ?_)
  refine lv_goto (tgt := 14) hx hb dL_cleaned_8 (by decide) ?_
  refine lv_iconst (v := 0) hx hb dL_cleaned_14 (by decide) ?_
  refine W.widen (k := T1.1 - T.1 + 1) (n := sg T1 - sg T + 6) (by omega) (by omega) ?_
  exact W.iret (v := 0) hx hb hr (fun t ht hW => ⟨⟨0, ad, rfl, ⟨rfl, had⟩, ⟨by rw [ht]; exact G.1, va_K.moved hW.alike hK, G.2.1⟩⟩, G.2.2.F ht⟩) G.2.2.2.2 dL_cleaned_15
set_option maxHeartbeats 4000000 in
set_option maxRecDepth 100000 in
theorem v_cleaned_t (l : Launch) (hst : l.stackTraces = false) (D : va_G) {cI cJ cZ cMic cSrc cSt cAI cAJ cD : ClassId} (h0 : Nat) (ad : Nat → Nat) (T : AT) (o : Nat) (ao : Nat) (f : Nat → Int64) {e1 : Nat} {r1 : Int32} {T1 : AT} (h : g_X11_cleaned T o = some (e1 + 1, r1, T1)) (hrc : RC T) (h_o : o < T.1) (h_s : T.2.1 o = (11, 0)) : tWi l yL_cleaned (Cond.codeWith yL_cleaned cL_cleaned 3 (some .int) [(0, 8, 11, 21)] :: wsA) 8 121 cI cJ cZ cMic cSrc cSt cAI cAJ cD D h0 ad T (oJ ao cJ f) [.ref (ad o), .ref ao] (vck 1 0 0 (e1 + 1)) T1 (oJ ao cJ (vfJ (e1 + 1) f r1.toInt64)) := by
  intro sz
  refine pro_inW (cc := cL_cleaned) (maxL := 3) (ret := some .int) (by exact pn_RL) rfl (by exact Nat.le_of_ble_eq_true rfl) (fun p e s m below meth c ls hx hb hr hts hown hlocks htb hml hv hl => ?_)
  obtain ⟨hsz, hP, hK, hD0, hX, hN, hA0, hTS⟩ := hv
  subst hsz
  have hD := hD0.self (sz := s.heap.size)
  generalize hAe : va_A (cW ad T.1 (cc cI cJ cZ cMic cSrc cSt cAI cAJ ad T) ++ [oJ ao cJ f]) s.heap.size = A at hD hX hA0 ⊢
  have hA : ∀ q : Nat, s.heap.size ≤ q → A q := fun q h => by rw [← hAe]; exact Or.inr h
  have G : gL cI cJ cZ cMic cSrc cSt cAI cAJ D ad A s.heap s.heap [] T [oJ ao cJ f] := ⟨hP, hD, va_S.rf⟩
  have E : cE p c cL_cleaned s m ([.ref (ad o), .ref ao] : List Value).toArray (Cond.codeWith yL_cleaned cL_cleaned 3 (some .int) [(0, 8, 11, 21)] :: wsA) D RL (CT cI cJ cZ cMic cSrc cSt cAI cAJ ++ [(cD, .double)]) := ⟨hx, hb, hts, hown, hK⟩
  have hl : lv_has ls 3 [(0, .ref (ad o)), (1, .ref ao)] := hl
  refine lv_aload_n hx hb dL_cleaned_0 rfl (lv_at hl 1 rfl) ?_
  refine lv_iconst (v := 0) hx hb dL_cleaned_1 (by decide) ?_
  refine lv_aload_n hx hb dL_cleaned_2 rfl (lv_at hl 0 rfl) ?_
  refine t_xvi (As := []) (rest := [.int 0, .ref ao]) E G hA hX hX.2.2.2.1 hml (x_X11_cleaned l hst D cI cJ cZ cMic cSrc cSt cAI cAJ ad T o  h) (cwV 0 hts (gaV qA_1149 qA_1150 qA_1151 qA_131 qA_939) rfl rfl rfl (by decide +kernel) ⟨Nat.le_of_ble_eq_true rfl, Nat.le_of_ble_eq_true rfl⟩) h_o (cc_o11 h_s) rfl rfl hl.1 rfl (lv_room (Nat.le_of_ble_eq_true rfl)) dL_cleaned_3 ⟨by show 0 + (1) ≤ T1.1 - T.1 + 1; omega, by show 0 + (6) ≤ sg T1 - sg T + 6; omega⟩ ?_
  intro E9 ce q9 S1 H locs hp G hce hcv hcl
  obtain ⟨hE, hS1⟩ := hp
  rw [hS1] at G
  have had : ∀ n, n < T.1 → ad n = ad n := fun _ _ => rfl
  rcases e1 with _ | _ | e1
  · have hE : E9 = xISE := hE
    subst hE
    refine vx_catch (name := xISE) hown [] { startPc := 0, endPc := 8, handlerPc := 11, catchType := 21 } [] htb (fun z hz => absurd hz List.not_mem_nil) (by decide) (by decide) (hts _ (.tail _ qA_952)) (hX.use (.castable xISE xISE) (by decide +kernel)) hce hcv hcl ?_
    refine lv_astore_n (lv' := [(2, .ref q9), (0, .ref (ad o)), (1, .ref ao)]) hx hb dL_cleaned_11 rfl hl (by decide) rfl (fun ls hl => ?_)
    refine lv_iconst (v := 1) hx hb dL_cleaned_12 (by decide) ?_
    refine W.widen (k := T1.1 - T.1 + 1) (n := sg T1 - sg T + 6) (by omega) (by omega) ?_
    exact W.iret (v := 1) hx hb hr (fun t ht hW => ⟨⟨1, ad, rfl, ⟨rfl, had⟩, ⟨by rw [ht]; exact G.1, va_K.moved hW.alike hK, G.2.1⟩⟩, G.2.2.F ht⟩) G.2.2.2.2 dL_cleaned_13
  · exact absurd (cd_g_X11_cleaned (S := [0, 1]) (fun _ h => h) T o _ _ _ h) (by decide)
  · have q := (cd_g_X11_cleaned (S := [0, 1]) (fun _ h => h) T o _ _ _ h)
    simp only [List.mem_cons, List.not_mem_nil, or_false] at q
    omega
theorem v_cleaned (l : Launch) (hst : l.stackTraces = false) (D : va_G) {cI cJ cZ cMic cSrc cSt cAI cAJ cD : ClassId} (h0 : Nat) (ad : Nat → Nat) (T : AT) (o : Nat) (ao : Nat) (f : Nat → Int64) {k1 : Nat} {r1 : Int32} {T1 : AT} (h : g_X11_cleaned T o = some (k1, r1, T1)) (hrc : RC T) (h_o : o < T.1) (h_s : T.2.1 o = (11, 0)) : tWi l yL_cleaned (Cond.codeWith yL_cleaned cL_cleaned 3 (some .int) [(0, 8, 11, 21)] :: wsA) 8 121 cI cJ cZ cMic cSrc cSt cAI cAJ cD D h0 ad T (oJ ao cJ f) [.ref (ad o), .ref ao] (vck 1 0 0 k1) T1 (oJ ao cJ (vfJ k1 f r1.toInt64)) := by
  cases k1 with
  | zero => exact v_cleaned_n l hst D h0 ad T o  ao f h hrc h_o h_s
  | succ e1 => exact v_cleaned_t l hst D h0 ad T o  ao f h hrc h_o h_s
set_option maxHeartbeats 4000000 in
set_option maxRecDepth 100000 in
theorem v_undo_n (l : Launch) (hst : l.stackTraces = false) (D : va_G) {cI cJ cZ cMic cSrc cSt cAI cAJ cD : ClassId} (h0 : Nat) (ad : Nat → Nat) (T : AT) (o : Nat) (ao : Nat) (f : Nat → Int64) {r1 : Int32} {T1 : AT} (h : g_X11_undo T o = some (0, r1, T1)) (hrc : RC T) (h_o : o < T.1) (h_s : T.2.1 o = (11, 0)) : tWi l yL_undo (Cond.codeWith yL_undo cL_undo 3 (some .int) [(0, 8, 11, 21)] :: wsA) 7 104 cI cJ cZ cMic cSrc cSt cAI cAJ cD D h0 ad T (oJ ao cJ f) [.ref (ad o), .ref ao] (vck 1 0 0 (0)) T1 (oJ ao cJ (vfJ (0) f r1.toInt64)) := by
  intro sz
  refine pro_inW (cc := cL_undo) (maxL := 3) (ret := some .int) (by exact pn_RL) rfl (by exact Nat.le_of_ble_eq_true rfl) (fun p e s m below meth c ls hx hb hr hts hown hlocks htb hml hv hl => ?_)
  obtain ⟨hsz, hP, hK, hD0, hX, hN, hA0, hTS⟩ := hv
  subst hsz
  have hD := hD0.self (sz := s.heap.size)
  generalize hAe : va_A (cW ad T.1 (cc cI cJ cZ cMic cSrc cSt cAI cAJ ad T) ++ [oJ ao cJ f]) s.heap.size = A at hD hX hA0 ⊢
  have hA : ∀ q : Nat, s.heap.size ≤ q → A q := fun q h => by rw [← hAe]; exact Or.inr h
  have G : gL cI cJ cZ cMic cSrc cSt cAI cAJ D ad A s.heap s.heap [] T [oJ ao cJ f] := ⟨hP, hD, va_S.rf⟩
  have E : cE p c cL_undo s m ([.ref (ad o), .ref ao] : List Value).toArray (Cond.codeWith yL_undo cL_undo 3 (some .int) [(0, 8, 11, 21)] :: wsA) D RL (CT cI cJ cZ cMic cSrc cSt cAI cAJ ++ [(cD, .double)]) := ⟨hx, hb, hts, hown, hK⟩
  have hl : lv_has ls 3 [(0, .ref (ad o)), (1, .ref ao)] := hl
  refine lv_aload_n hx hb dL_undo_0 rfl (lv_at hl 1 rfl) ?_
  refine lv_iconst (v := 0) hx hb dL_undo_1 (by decide) ?_
  refine lv_aload_n hx hb dL_undo_2 rfl (lv_at hl 0 rfl) ?_
  refine t_avi (As := []) (rest := [.int 0, .ref ao]) E G hA hX hX.2.2.2.1 hml (a_X11_undo l hst D cI cJ cZ cMic cSrc cSt cAI cAJ ad T o  h hrc h_o) (cwV 0 hts (gaV qA_1153 qA_1154 qA_1155 qA_131 qA_941) rfl rfl rfl (by decide +kernel) ⟨Nat.le_of_ble_eq_true rfl, Nat.le_of_ble_eq_true rfl⟩) h_o (cc_o11 h_s) rfl rfl hl.1 rfl (lv_room (Nat.le_of_ble_eq_true rfl)) dL_undo_3 ⟨by show 0 + (T1.1 - T.1) ≤ T1.1 - T.1 + 1; omega, by show 0 + (sg T1 - sg T) ≤ sg T1 - sg T + 6; omega⟩ ?_
  intro ad2 H locs had G
  refine lv_i2l (v := r1.toInt64) hx hb dL_undo_6 rfl ?_
  refine t_last E G dL_undo_7 (fun H locs G => ?_)
  refine lv_goto (tgt := 14) hx hb dL_undo_8 (by decide) ?_
  refine lv_iconst (v := 0) hx hb dL_undo_14 (by decide) ?_
  refine W.widen (k := T1.1 - T.1 + 1) (n := sg T1 - sg T + 6) (by omega) (by omega) ?_
  exact W.iret (v := 0) hx hb hr (fun t ht hW => ⟨⟨0, ad2, rfl, ⟨rfl, had⟩, ⟨by rw [ht]; exact G.1, va_K.moved hW.alike hK, G.2.1⟩⟩, G.2.2.F ht⟩) G.2.2.2.2 dL_undo_15
set_option maxHeartbeats 4000000 in
set_option maxRecDepth 100000 in
theorem v_undo_t (l : Launch) (hst : l.stackTraces = false) (D : va_G) {cI cJ cZ cMic cSrc cSt cAI cAJ cD : ClassId} (h0 : Nat) (ad : Nat → Nat) (T : AT) (o : Nat) (ao : Nat) (f : Nat → Int64) {e1 : Nat} {r1 : Int32} {T1 : AT} (h : g_X11_undo T o = some (e1 + 1, r1, T1)) (hrc : RC T) (h_o : o < T.1) (h_s : T.2.1 o = (11, 0)) : tWi l yL_undo (Cond.codeWith yL_undo cL_undo 3 (some .int) [(0, 8, 11, 21)] :: wsA) 7 104 cI cJ cZ cMic cSrc cSt cAI cAJ cD D h0 ad T (oJ ao cJ f) [.ref (ad o), .ref ao] (vck 1 0 0 (e1 + 1)) T1 (oJ ao cJ (vfJ (e1 + 1) f r1.toInt64)) := by
  intro sz
  refine pro_inW (cc := cL_undo) (maxL := 3) (ret := some .int) (by exact pn_RL) rfl (by exact Nat.le_of_ble_eq_true rfl) (fun p e s m below meth c ls hx hb hr hts hown hlocks htb hml hv hl => ?_)
  obtain ⟨hsz, hP, hK, hD0, hX, hN, hA0, hTS⟩ := hv
  subst hsz
  have hD := hD0.self (sz := s.heap.size)
  generalize hAe : va_A (cW ad T.1 (cc cI cJ cZ cMic cSrc cSt cAI cAJ ad T) ++ [oJ ao cJ f]) s.heap.size = A at hD hX hA0 ⊢
  have hA : ∀ q : Nat, s.heap.size ≤ q → A q := fun q h => by rw [← hAe]; exact Or.inr h
  have G : gL cI cJ cZ cMic cSrc cSt cAI cAJ D ad A s.heap s.heap [] T [oJ ao cJ f] := ⟨hP, hD, va_S.rf⟩
  have E : cE p c cL_undo s m ([.ref (ad o), .ref ao] : List Value).toArray (Cond.codeWith yL_undo cL_undo 3 (some .int) [(0, 8, 11, 21)] :: wsA) D RL (CT cI cJ cZ cMic cSrc cSt cAI cAJ ++ [(cD, .double)]) := ⟨hx, hb, hts, hown, hK⟩
  have hl : lv_has ls 3 [(0, .ref (ad o)), (1, .ref ao)] := hl
  refine lv_aload_n hx hb dL_undo_0 rfl (lv_at hl 1 rfl) ?_
  refine lv_iconst (v := 0) hx hb dL_undo_1 (by decide) ?_
  refine lv_aload_n hx hb dL_undo_2 rfl (lv_at hl 0 rfl) ?_
  refine t_bvi (As := []) (rest := [.int 0, .ref ao]) E G hA hX hX.2.2.2.1 hml (b_X11_undo l hst D cI cJ cZ cMic cSrc cSt cAI cAJ ad T o  h hrc h_o) (cwV 0 hts (gaV qA_1153 qA_1154 qA_1155 qA_131 qA_941) rfl rfl rfl (by decide +kernel) ⟨Nat.le_of_ble_eq_true rfl, Nat.le_of_ble_eq_true rfl⟩) h_o (cc_o11 h_s) rfl rfl hl.1 rfl (lv_room (Nat.le_of_ble_eq_true rfl)) dL_undo_3 ⟨by show 0 + (T1.1 - T.1 + 1) ≤ T1.1 - T.1 + 1; omega, by show 0 + (sg T1 - sg T + 6) ≤ sg T1 - sg T + 6; omega⟩ ?_
  intro E9 ce q9 ad2 H locs hE had G hce hcv hcl
  rcases e1 with _ | _ | e1
  · have hE : E9 = xISE := hE
    subst hE
    refine vx_catch (name := xISE) hown [] { startPc := 0, endPc := 8, handlerPc := 11, catchType := 21 } [] htb (fun z hz => absurd hz List.not_mem_nil) (by decide) (by decide) (hts _ (.tail _ qA_952)) (hX.use (.castable xISE xISE) (by decide +kernel)) hce hcv hcl ?_
    refine lv_astore_n (lv' := [(2, .ref q9), (0, .ref (ad o)), (1, .ref ao)]) hx hb dL_undo_11 rfl hl (by decide) rfl (fun ls hl => ?_)
    refine lv_iconst (v := 1) hx hb dL_undo_12 (by decide) ?_
    refine W.widen (k := T1.1 - T.1 + 1) (n := sg T1 - sg T + 6) (by omega) (by omega) ?_
    exact W.iret (v := 1) hx hb hr (fun t ht hW => ⟨⟨1, ad2, rfl, ⟨rfl, had⟩, ⟨by rw [ht]; exact G.1, va_K.moved hW.alike hK, G.2.1⟩⟩, G.2.2.F ht⟩) G.2.2.2.2 dL_undo_13
  · exact absurd (cd_g_X11_undo (S := [0, 1]) (fun _ h => h) T o _ _ _ h) (by decide)
  · have q := (cd_g_X11_undo (S := [0, 1]) (fun _ h => h) T o _ _ _ h)
    simp only [List.mem_cons, List.not_mem_nil, or_false] at q
    omega
theorem v_undo (l : Launch) (hst : l.stackTraces = false) (D : va_G) {cI cJ cZ cMic cSrc cSt cAI cAJ cD : ClassId} (h0 : Nat) (ad : Nat → Nat) (T : AT) (o : Nat) (ao : Nat) (f : Nat → Int64) {k1 : Nat} {r1 : Int32} {T1 : AT} (h : g_X11_undo T o = some (k1, r1, T1)) (hrc : RC T) (h_o : o < T.1) (h_s : T.2.1 o = (11, 0)) : tWi l yL_undo (Cond.codeWith yL_undo cL_undo 3 (some .int) [(0, 8, 11, 21)] :: wsA) 7 104 cI cJ cZ cMic cSrc cSt cAI cAJ cD D h0 ad T (oJ ao cJ f) [.ref (ad o), .ref ao] (vck 1 0 0 k1) T1 (oJ ao cJ (vfJ k1 f r1.toInt64)) := by
  cases k1 with
  | zero => exact v_undo_n l hst D h0 ad T o  ao f h hrc h_o h_s
  | succ e1 => exact v_undo_t l hst D h0 ad T o  ao f h hrc h_o h_s
set_option maxHeartbeats 4000000 in
set_option maxRecDepth 100000 in
theorem v_save_n (l : Launch) (hst : l.stackTraces = false) (D : va_G) {cI cJ cZ cMic cSrc cSt cAI cAJ cD : ClassId} (h0 : Nat) (ad : Nat → Nat) (T : AT) (o : Nat) (a0 : Int32) (ao : Nat) (f : Nat → Int64) {r1 : Int32} {T1 : AT} (h : g_X11_save T o a0 = some (0, r1, T1)) (hrc : RC T) (h_o : o < T.1) (h_s : T.2.1 o = (11, 0)) : tWi l yL_save (Cond.codeWith yL_save cL_save 4 (some .int) [(0, 9, 12, 21), (0, 9, 15, 13)] :: wsA) 8 170 cI cJ cZ cMic cSrc cSt cAI cAJ cD D h0 ad T (oJ ao cJ f) [.ref (ad o), .int a0, .ref ao] (vck 1 2 0 (0)) T1 (oJ ao cJ (vfJ (0) f r1.toInt64)) := by
  intro sz
  refine pro_inW (cc := cL_save) (maxL := 4) (ret := some .int) (by exact pn_RL) rfl (by exact Nat.le_of_ble_eq_true rfl) (fun p e s m below meth c ls hx hb hr hts hown hlocks htb hml hv hl => ?_)
  obtain ⟨hsz, hP, hK, hD0, hX, hN, hA0, hTS⟩ := hv
  subst hsz
  have hD := hD0.self (sz := s.heap.size)
  generalize hAe : va_A (cW ad T.1 (cc cI cJ cZ cMic cSrc cSt cAI cAJ ad T) ++ [oJ ao cJ f]) s.heap.size = A at hD hX hA0 ⊢
  have hA : ∀ q : Nat, s.heap.size ≤ q → A q := fun q h => by rw [← hAe]; exact Or.inr h
  have G : gL cI cJ cZ cMic cSrc cSt cAI cAJ D ad A s.heap s.heap [] T [oJ ao cJ f] := ⟨hP, hD, va_S.rf⟩
  have E : cE p c cL_save s m ([.ref (ad o), .int a0, .ref ao] : List Value).toArray (Cond.codeWith yL_save cL_save 4 (some .int) [(0, 9, 12, 21), (0, 9, 15, 13)] :: wsA) D RL (CT cI cJ cZ cMic cSrc cSt cAI cAJ ++ [(cD, .double)]) := ⟨hx, hb, hts, hown, hK⟩
  have hl : lv_has ls 4 [(0, .ref (ad o)), (1, .int a0), (2, .ref ao)] := hl
  refine lv_aload_n hx hb dL_save_0 rfl (lv_at hl 2 rfl) ?_
  refine lv_iconst (v := 0) hx hb dL_save_1 (by decide) ?_
  refine lv_aload_n hx hb dL_save_2 rfl (lv_at hl 0 rfl) ?_
  refine lv_iload_n hx hb dL_save_3 rfl (lv_at hl 1 rfl) ?_
  refine t_avi (As := [.int a0]) (rest := [.int 0, .ref ao]) E G hA hX hX.2.2.2.1 hml (a_X11_save l hst D cI cJ cZ cMic cSrc cSt cAI cAJ ad T o a0 h hrc h_o) (cwV 1 hts (gaV qA_1157 qA_1158 qA_1159 qA_131 qA_943) rfl rfl rfl (by decide +kernel) ⟨Nat.le_of_ble_eq_true rfl, Nat.le_of_ble_eq_true rfl⟩) h_o (cc_o11 h_s) rfl rfl hl.1 rfl (lv_room (Nat.le_of_ble_eq_true rfl)) dL_save_4 ⟨by show 0 + (T1.1 - T.1) ≤ T1.1 - T.1 + 1; omega, by show 0 + (sg T1 - sg T) ≤ sg T1 - sg T + 6; omega⟩ ?_
  intro ad2 H locs had G
  refine lv_i2l (v := r1.toInt64) hx hb dL_save_7 rfl ?_
  refine t_last E G dL_save_8 (fun H locs G => ?_)
  refine lv_goto (tgt := 18) hx hb dL_save_9 (by decide) ?_
  refine lv_iconst (v := 0) hx hb dL_save_18 (by decide) ?_
  refine W.widen (k := T1.1 - T.1 + 1) (n := sg T1 - sg T + 6) (by omega) (by omega) ?_
  exact W.iret (v := 0) hx hb hr (fun t ht hW => ⟨⟨0, ad2, rfl, ⟨rfl, had⟩, ⟨by rw [ht]; exact G.1, va_K.moved hW.alike hK, G.2.1⟩⟩, G.2.2.F ht⟩) G.2.2.2.2 dL_save_19
set_option maxHeartbeats 4000000 in
set_option maxRecDepth 100000 in
theorem v_save_t (l : Launch) (hst : l.stackTraces = false) (D : va_G) {cI cJ cZ cMic cSrc cSt cAI cAJ cD : ClassId} (h0 : Nat) (ad : Nat → Nat) (T : AT) (o : Nat) (a0 : Int32) (ao : Nat) (f : Nat → Int64) {e1 : Nat} {r1 : Int32} {T1 : AT} (h : g_X11_save T o a0 = some (e1 + 1, r1, T1)) (hrc : RC T) (h_o : o < T.1) (h_s : T.2.1 o = (11, 0)) : tWi l yL_save (Cond.codeWith yL_save cL_save 4 (some .int) [(0, 9, 12, 21), (0, 9, 15, 13)] :: wsA) 8 170 cI cJ cZ cMic cSrc cSt cAI cAJ cD D h0 ad T (oJ ao cJ f) [.ref (ad o), .int a0, .ref ao] (vck 1 2 0 (e1 + 1)) T1 (oJ ao cJ (vfJ (e1 + 1) f r1.toInt64)) := by
  intro sz
  refine pro_inW (cc := cL_save) (maxL := 4) (ret := some .int) (by exact pn_RL) rfl (by exact Nat.le_of_ble_eq_true rfl) (fun p e s m below meth c ls hx hb hr hts hown hlocks htb hml hv hl => ?_)
  obtain ⟨hsz, hP, hK, hD0, hX, hN, hA0, hTS⟩ := hv
  subst hsz
  have hD := hD0.self (sz := s.heap.size)
  generalize hAe : va_A (cW ad T.1 (cc cI cJ cZ cMic cSrc cSt cAI cAJ ad T) ++ [oJ ao cJ f]) s.heap.size = A at hD hX hA0 ⊢
  have hA : ∀ q : Nat, s.heap.size ≤ q → A q := fun q h => by rw [← hAe]; exact Or.inr h
  have G : gL cI cJ cZ cMic cSrc cSt cAI cAJ D ad A s.heap s.heap [] T [oJ ao cJ f] := ⟨hP, hD, va_S.rf⟩
  have E : cE p c cL_save s m ([.ref (ad o), .int a0, .ref ao] : List Value).toArray (Cond.codeWith yL_save cL_save 4 (some .int) [(0, 9, 12, 21), (0, 9, 15, 13)] :: wsA) D RL (CT cI cJ cZ cMic cSrc cSt cAI cAJ ++ [(cD, .double)]) := ⟨hx, hb, hts, hown, hK⟩
  have hl : lv_has ls 4 [(0, .ref (ad o)), (1, .int a0), (2, .ref ao)] := hl
  refine lv_aload_n hx hb dL_save_0 rfl (lv_at hl 2 rfl) ?_
  refine lv_iconst (v := 0) hx hb dL_save_1 (by decide) ?_
  refine lv_aload_n hx hb dL_save_2 rfl (lv_at hl 0 rfl) ?_
  refine lv_iload_n hx hb dL_save_3 rfl (lv_at hl 1 rfl) ?_
  refine t_bvi (As := [.int a0]) (rest := [.int 0, .ref ao]) E G hA hX hX.2.2.2.1 hml (b_X11_save l hst D cI cJ cZ cMic cSrc cSt cAI cAJ ad T o a0 h hrc h_o) (cwV 1 hts (gaV qA_1157 qA_1158 qA_1159 qA_131 qA_943) rfl rfl rfl (by decide +kernel) ⟨Nat.le_of_ble_eq_true rfl, Nat.le_of_ble_eq_true rfl⟩) h_o (cc_o11 h_s) rfl rfl hl.1 rfl (lv_room (Nat.le_of_ble_eq_true rfl)) dL_save_4 ⟨by show 0 + (T1.1 - T.1 + 1) ≤ T1.1 - T.1 + 1; omega, by show 0 + (sg T1 - sg T + 6) ≤ sg T1 - sg T + 6; omega⟩ ?_
  intro E9 ce q9 ad2 H locs hE had G hce hcv hcl
  rcases e1 with _ | _ | e1
  · have hE : E9 = xISE := hE
    subst hE
    refine vx_catch (name := xISE) hown [] { startPc := 0, endPc := 9, handlerPc := 12, catchType := 21 } [{ startPc := 0, endPc := 9, handlerPc := 15, catchType := 13 }] htb (fun z hz => absurd hz List.not_mem_nil) (by decide) (by decide) (hts _ (.tail _ qA_952)) (hX.use (.castable xISE xISE) (by decide +kernel)) hce hcv hcl ?_
    refine lv_astore_n (lv' := [(3, .ref q9), (0, .ref (ad o)), (1, .int a0), (2, .ref ao)]) hx hb dL_save_12 rfl hl (by decide) rfl (fun ls hl => ?_)
    refine lv_iconst (v := 1) hx hb dL_save_13 (by decide) ?_
    refine W.widen (k := T1.1 - T.1 + 1) (n := sg T1 - sg T + 6) (by omega) (by omega) ?_
    exact W.iret (v := 1) hx hb hr (fun t ht hW => ⟨⟨1, ad2, rfl, ⟨rfl, had⟩, ⟨by rw [ht]; exact G.1, va_K.moved hW.alike hK, G.2.1⟩⟩, G.2.2.F ht⟩) G.2.2.2.2 dL_save_14
  · have hE : E9 = xIOB := hE
    subst hE
    refine vx_catch (name := xIOB) hown [{ startPc := 0, endPc := 9, handlerPc := 12, catchType := 21 }] { startPc := 0, endPc := 9, handlerPc := 15, catchType := 13 } [] htb (List.forall_mem_cons.mpr ⟨Or.inr ⟨by decide, xISE, hts _ (.tail _ qA_952), hN.2.2.1⟩, fun z hz => absurd hz List.not_mem_nil⟩) (by decide) (by decide) (hts _ (.tail _ qA_946)) (hX.use (.castable xIOB xIOB) (by decide +kernel)) hce hcv hcl ?_
    refine lv_astore_n (lv' := [(3, .ref q9), (0, .ref (ad o)), (1, .int a0), (2, .ref ao)]) hx hb dL_save_15 rfl hl (by decide) rfl (fun ls hl => ?_)
    refine lv_iconst (v := 2) hx hb dL_save_16 (by decide) ?_
    refine W.widen (k := T1.1 - T.1 + 1) (n := sg T1 - sg T + 6) (by omega) (by omega) ?_
    exact W.iret (v := 2) hx hb hr (fun t ht hW => ⟨⟨2, ad2, rfl, ⟨rfl, had⟩, ⟨by rw [ht]; exact G.1, va_K.moved hW.alike hK, G.2.1⟩⟩, G.2.2.F ht⟩) G.2.2.2.2 dL_save_17
  · have q := (cd_g_X11_save (S := [0, 1, 2]) (fun _ h => h) T o a0 _ _ _ h)
    simp only [List.mem_cons, List.not_mem_nil, or_false] at q
    omega
theorem v_save (l : Launch) (hst : l.stackTraces = false) (D : va_G) {cI cJ cZ cMic cSrc cSt cAI cAJ cD : ClassId} (h0 : Nat) (ad : Nat → Nat) (T : AT) (o : Nat) (a0 : Int32) (ao : Nat) (f : Nat → Int64) {k1 : Nat} {r1 : Int32} {T1 : AT} (h : g_X11_save T o a0 = some (k1, r1, T1)) (hrc : RC T) (h_o : o < T.1) (h_s : T.2.1 o = (11, 0)) : tWi l yL_save (Cond.codeWith yL_save cL_save 4 (some .int) [(0, 9, 12, 21), (0, 9, 15, 13)] :: wsA) 8 170 cI cJ cZ cMic cSrc cSt cAI cAJ cD D h0 ad T (oJ ao cJ f) [.ref (ad o), .int a0, .ref ao] (vck 1 2 0 k1) T1 (oJ ao cJ (vfJ k1 f r1.toInt64)) := by
  cases k1 with
  | zero => exact v_save_n l hst D h0 ad T o a0 ao f h hrc h_o h_s
  | succ e1 => exact v_save_t l hst D h0 ad T o a0 ao f h hrc h_o h_s
set_option maxHeartbeats 4000000 in
set_option maxRecDepth 100000 in
theorem v_restore_n (l : Launch) (hst : l.stackTraces = false) (D : va_G) {cI cJ cZ cMic cSrc cSt cAI cAJ cD : ClassId} (h0 : Nat) (ad : Nat → Nat) (T : AT) (o : Nat) (a0 : Int32) (ao : Nat) (f : Nat → Int64) {r1 : Int32} {T1 : AT} (h : g_X11_restore T o a0 = some (0, r1, T1)) (hrc : RC T) (h_o : o < T.1) (h_s : T.2.1 o = (11, 0)) : tWi l yL_restore (Cond.codeWith yL_restore cL_restore 4 (some .int) [(0, 9, 12, 13), (0, 9, 15, 21)] :: wsA) 8 170 cI cJ cZ cMic cSrc cSt cAI cAJ cD D h0 ad T (oJ ao cJ f) [.ref (ad o), .int a0, .ref ao] (vck 2 1 0 (0)) T1 (oJ ao cJ (vfJ (0) f r1.toInt64)) := by
  intro sz
  refine pro_inW (cc := cL_restore) (maxL := 4) (ret := some .int) (by exact pn_RL) rfl (by exact Nat.le_of_ble_eq_true rfl) (fun p e s m below meth c ls hx hb hr hts hown hlocks htb hml hv hl => ?_)
  obtain ⟨hsz, hP, hK, hD0, hX, hN, hA0, hTS⟩ := hv
  subst hsz
  have hD := hD0.self (sz := s.heap.size)
  generalize hAe : va_A (cW ad T.1 (cc cI cJ cZ cMic cSrc cSt cAI cAJ ad T) ++ [oJ ao cJ f]) s.heap.size = A at hD hX hA0 ⊢
  have hA : ∀ q : Nat, s.heap.size ≤ q → A q := fun q h => by rw [← hAe]; exact Or.inr h
  have G : gL cI cJ cZ cMic cSrc cSt cAI cAJ D ad A s.heap s.heap [] T [oJ ao cJ f] := ⟨hP, hD, va_S.rf⟩
  have E : cE p c cL_restore s m ([.ref (ad o), .int a0, .ref ao] : List Value).toArray (Cond.codeWith yL_restore cL_restore 4 (some .int) [(0, 9, 12, 13), (0, 9, 15, 21)] :: wsA) D RL (CT cI cJ cZ cMic cSrc cSt cAI cAJ ++ [(cD, .double)]) := ⟨hx, hb, hts, hown, hK⟩
  have hl : lv_has ls 4 [(0, .ref (ad o)), (1, .int a0), (2, .ref ao)] := hl
  refine lv_aload_n hx hb dL_restore_0 rfl (lv_at hl 2 rfl) ?_
  refine lv_iconst (v := 0) hx hb dL_restore_1 (by decide) ?_
  refine lv_aload_n hx hb dL_restore_2 rfl (lv_at hl 0 rfl) ?_
  refine lv_iload_n hx hb dL_restore_3 rfl (lv_at hl 1 rfl) ?_
  refine t_avi (As := [.int a0]) (rest := [.int 0, .ref ao]) E G hA hX hX.2.2.2.1 hml (a_X11_restore l hst D cI cJ cZ cMic cSrc cSt cAI cAJ ad T o a0 h hrc h_o) (cwV 1 hts (gaV qA_1161 qA_1162 qA_1163 qA_131 qA_944) rfl rfl rfl (by decide +kernel) ⟨Nat.le_of_ble_eq_true rfl, Nat.le_of_ble_eq_true rfl⟩) h_o (cc_o11 h_s) rfl rfl hl.1 rfl (lv_room (Nat.le_of_ble_eq_true rfl)) dL_restore_4 ⟨by show 0 + (T1.1 - T.1) ≤ T1.1 - T.1 + 1; omega, by show 0 + (sg T1 - sg T) ≤ sg T1 - sg T + 6; omega⟩ ?_
  intro ad2 H locs had G
  refine lv_i2l (v := r1.toInt64) hx hb dL_restore_7 rfl ?_
  refine t_last E G dL_restore_8 (fun H locs G => ?_)
  refine lv_goto (tgt := 18) hx hb dL_restore_9 (by decide) ?_
  refine lv_iconst (v := 0) hx hb dL_restore_18 (by decide) ?_
  refine W.widen (k := T1.1 - T.1 + 1) (n := sg T1 - sg T + 6) (by omega) (by omega) ?_
  exact W.iret (v := 0) hx hb hr (fun t ht hW => ⟨⟨0, ad2, rfl, ⟨rfl, had⟩, ⟨by rw [ht]; exact G.1, va_K.moved hW.alike hK, G.2.1⟩⟩, G.2.2.F ht⟩) G.2.2.2.2 dL_restore_19
set_option maxHeartbeats 4000000 in
set_option maxRecDepth 100000 in
theorem v_restore_t (l : Launch) (hst : l.stackTraces = false) (D : va_G) {cI cJ cZ cMic cSrc cSt cAI cAJ cD : ClassId} (h0 : Nat) (ad : Nat → Nat) (T : AT) (o : Nat) (a0 : Int32) (ao : Nat) (f : Nat → Int64) {e1 : Nat} {r1 : Int32} {T1 : AT} (h : g_X11_restore T o a0 = some (e1 + 1, r1, T1)) (hrc : RC T) (h_o : o < T.1) (h_s : T.2.1 o = (11, 0)) : tWi l yL_restore (Cond.codeWith yL_restore cL_restore 4 (some .int) [(0, 9, 12, 13), (0, 9, 15, 21)] :: wsA) 8 170 cI cJ cZ cMic cSrc cSt cAI cAJ cD D h0 ad T (oJ ao cJ f) [.ref (ad o), .int a0, .ref ao] (vck 2 1 0 (e1 + 1)) T1 (oJ ao cJ (vfJ (e1 + 1) f r1.toInt64)) := by
  intro sz
  refine pro_inW (cc := cL_restore) (maxL := 4) (ret := some .int) (by exact pn_RL) rfl (by exact Nat.le_of_ble_eq_true rfl) (fun p e s m below meth c ls hx hb hr hts hown hlocks htb hml hv hl => ?_)
  obtain ⟨hsz, hP, hK, hD0, hX, hN, hA0, hTS⟩ := hv
  subst hsz
  have hD := hD0.self (sz := s.heap.size)
  generalize hAe : va_A (cW ad T.1 (cc cI cJ cZ cMic cSrc cSt cAI cAJ ad T) ++ [oJ ao cJ f]) s.heap.size = A at hD hX hA0 ⊢
  have hA : ∀ q : Nat, s.heap.size ≤ q → A q := fun q h => by rw [← hAe]; exact Or.inr h
  have G : gL cI cJ cZ cMic cSrc cSt cAI cAJ D ad A s.heap s.heap [] T [oJ ao cJ f] := ⟨hP, hD, va_S.rf⟩
  have E : cE p c cL_restore s m ([.ref (ad o), .int a0, .ref ao] : List Value).toArray (Cond.codeWith yL_restore cL_restore 4 (some .int) [(0, 9, 12, 13), (0, 9, 15, 21)] :: wsA) D RL (CT cI cJ cZ cMic cSrc cSt cAI cAJ ++ [(cD, .double)]) := ⟨hx, hb, hts, hown, hK⟩
  have hl : lv_has ls 4 [(0, .ref (ad o)), (1, .int a0), (2, .ref ao)] := hl
  refine lv_aload_n hx hb dL_restore_0 rfl (lv_at hl 2 rfl) ?_
  refine lv_iconst (v := 0) hx hb dL_restore_1 (by decide) ?_
  refine lv_aload_n hx hb dL_restore_2 rfl (lv_at hl 0 rfl) ?_
  refine lv_iload_n hx hb dL_restore_3 rfl (lv_at hl 1 rfl) ?_
  refine t_bvi (As := [.int a0]) (rest := [.int 0, .ref ao]) E G hA hX hX.2.2.2.1 hml (b_X11_restore l hst D cI cJ cZ cMic cSrc cSt cAI cAJ ad T o a0 h hrc h_o) (cwV 1 hts (gaV qA_1161 qA_1162 qA_1163 qA_131 qA_944) rfl rfl rfl (by decide +kernel) ⟨Nat.le_of_ble_eq_true rfl, Nat.le_of_ble_eq_true rfl⟩) h_o (cc_o11 h_s) rfl rfl hl.1 rfl (lv_room (Nat.le_of_ble_eq_true rfl)) dL_restore_4 ⟨by show 0 + (T1.1 - T.1 + 1) ≤ T1.1 - T.1 + 1; omega, by show 0 + (sg T1 - sg T + 6) ≤ sg T1 - sg T + 6; omega⟩ ?_
  intro E9 ce q9 ad2 H locs hE had G hce hcv hcl
  rcases e1 with _ | _ | e1
  · have hE : E9 = xISE := hE
    subst hE
    refine vx_catch (name := xISE) hown [{ startPc := 0, endPc := 9, handlerPc := 12, catchType := 13 }] { startPc := 0, endPc := 9, handlerPc := 15, catchType := 21 } [] htb (List.forall_mem_cons.mpr ⟨Or.inr ⟨by decide, xIOB, hts _ (.tail _ qA_946), hN.2.1⟩, fun z hz => absurd hz List.not_mem_nil⟩) (by decide) (by decide) (hts _ (.tail _ qA_952)) (hX.use (.castable xISE xISE) (by decide +kernel)) hce hcv hcl ?_
    refine lv_astore_n (lv' := [(3, .ref q9), (0, .ref (ad o)), (1, .int a0), (2, .ref ao)]) hx hb dL_restore_15 rfl hl (by decide) rfl (fun ls hl => ?_)
    refine lv_iconst (v := 2) hx hb dL_restore_16 (by decide) ?_
    refine W.widen (k := T1.1 - T.1 + 1) (n := sg T1 - sg T + 6) (by omega) (by omega) ?_
    exact W.iret (v := 2) hx hb hr (fun t ht hW => ⟨⟨2, ad2, rfl, ⟨rfl, had⟩, ⟨by rw [ht]; exact G.1, va_K.moved hW.alike hK, G.2.1⟩⟩, G.2.2.F ht⟩) G.2.2.2.2 dL_restore_17
  · have hE : E9 = xIOB := hE
    subst hE
    refine vx_catch (name := xIOB) hown [] { startPc := 0, endPc := 9, handlerPc := 12, catchType := 13 } [{ startPc := 0, endPc := 9, handlerPc := 15, catchType := 21 }] htb (fun z hz => absurd hz List.not_mem_nil) (by decide) (by decide) (hts _ (.tail _ qA_946)) (hX.use (.castable xIOB xIOB) (by decide +kernel)) hce hcv hcl ?_
    refine lv_astore_n (lv' := [(3, .ref q9), (0, .ref (ad o)), (1, .int a0), (2, .ref ao)]) hx hb dL_restore_12 rfl hl (by decide) rfl (fun ls hl => ?_)
    refine lv_iconst (v := 1) hx hb dL_restore_13 (by decide) ?_
    refine W.widen (k := T1.1 - T.1 + 1) (n := sg T1 - sg T + 6) (by omega) (by omega) ?_
    exact W.iret (v := 1) hx hb hr (fun t ht hW => ⟨⟨1, ad2, rfl, ⟨rfl, had⟩, ⟨by rw [ht]; exact G.1, va_K.moved hW.alike hK, G.2.1⟩⟩, G.2.2.F ht⟩) G.2.2.2.2 dL_restore_14
  · have q := (cd_g_X11_restore (S := [0, 1, 2]) (fun _ h => h) T o a0 _ _ _ h)
    simp only [List.mem_cons, List.not_mem_nil, or_false] at q
    omega
theorem v_restore (l : Launch) (hst : l.stackTraces = false) (D : va_G) {cI cJ cZ cMic cSrc cSt cAI cAJ cD : ClassId} (h0 : Nat) (ad : Nat → Nat) (T : AT) (o : Nat) (a0 : Int32) (ao : Nat) (f : Nat → Int64) {k1 : Nat} {r1 : Int32} {T1 : AT} (h : g_X11_restore T o a0 = some (k1, r1, T1)) (hrc : RC T) (h_o : o < T.1) (h_s : T.2.1 o = (11, 0)) : tWi l yL_restore (Cond.codeWith yL_restore cL_restore 4 (some .int) [(0, 9, 12, 13), (0, 9, 15, 21)] :: wsA) 8 170 cI cJ cZ cMic cSrc cSt cAI cAJ cD D h0 ad T (oJ ao cJ f) [.ref (ad o), .int a0, .ref ao] (vck 2 1 0 k1) T1 (oJ ao cJ (vfJ k1 f r1.toInt64)) := by
  cases k1 with
  | zero => exact v_restore_n l hst D h0 ad T o a0 ao f h hrc h_o h_s
  | succ e1 => exact v_restore_t l hst D h0 ad T o a0 ao f h hrc h_o h_s
