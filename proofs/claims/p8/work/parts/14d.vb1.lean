set_option maxHeartbeats 4000000 in
set_option maxRecDepth 100000 in
theorem v_powerAt_n (l : Launch) (hst : l.stackTraces = false) (D : va_G) {cI cJ cZ cMic cSrc cSt cAI cAJ cD : ClassId} (h0 : Nat) (ad : Nat → Nat) (T : AT) (o : Nat) (a0 a1 : Int32) (ao : Nat) (f : Nat → Int64) {r1 : Int64} {T1 : AT} (h : g_X11_powerAt T o a0 a1 = some (0, r1, T1)) (hrc : RC T) (h_o : o < T.1) (h_s : T.2.1 o = (11, 0)) : tWi l yL_powerAt (Cond.codeWith yL_powerAt cL_powerAt 5 (some .int) [(0, 9, 12, 21), (0, 9, 16, 15)] :: wsA) 8 150 cI cJ cZ cMic cSrc cSt cAI cAJ cD D h0 ad T (oJ ao cJ f) [.ref (ad o), .int a0, .int a1, .ref ao] (vck 1 0 2 (0)) T1 (oJ ao cJ (vfJ (0) f r1)) := by
  intro sz
  refine pro_inW (cc := cL_powerAt) (maxL := 5) (ret := some .int) (by exact pn_RL) rfl (by exact Nat.le_of_ble_eq_true rfl) (fun p e s m below meth c ls hx hb hr hts hown hlocks htb hml hv hl => ?_)
  obtain ⟨hsz, hP, hK, hD0, hX, hN, hA0, hTS⟩ := hv
  subst hsz
  have hD := hD0.self (sz := s.heap.size)
  generalize hAe : va_A (cW ad T.1 (cc cI cJ cZ cMic cSrc cSt cAI cAJ ad T) ++ [oJ ao cJ f]) s.heap.size = A at hD hX hA0 ⊢
  have hA : ∀ q : Nat, s.heap.size ≤ q → A q := fun q h => by rw [← hAe]; exact Or.inr h
  have G : gL cI cJ cZ cMic cSrc cSt cAI cAJ D ad A s.heap s.heap [] T [oJ ao cJ f] := ⟨hP, hD, va_S.rf⟩
  have E : cE p c cL_powerAt s m ([.ref (ad o), .int a0, .int a1, .ref ao] : List Value).toArray (Cond.codeWith yL_powerAt cL_powerAt 5 (some .int) [(0, 9, 12, 21), (0, 9, 16, 15)] :: wsA) D RL (CT cI cJ cZ cMic cSrc cSt cAI cAJ ++ [(cD, .double)]) := ⟨hx, hb, hts, hown, hK⟩
  have hl : lv_has ls 5 [(0, .ref (ad o)), (1, .int a0), (2, .int a1), (3, .ref ao)] := hl
  refine lv_aload_n hx hb dL_powerAt_0 rfl (lv_at hl 3 rfl) ?_
  refine lv_iconst (v := 0) hx hb dL_powerAt_1 (by decide) ?_
  refine lv_aload_n hx hb dL_powerAt_2 rfl (lv_at hl 0 rfl) ?_
  refine lv_iload_n hx hb dL_powerAt_3 rfl (lv_at hl 1 rfl) ?_
  refine lv_iload_n hx hb dL_powerAt_4 rfl (lv_at hl 2 rfl) ?_
  refine t_avl (As := [.int a0, .int a1]) (rest := [.int 0, .ref ao]) E G hA hX hX.2.2.2.1 hml (a_X11_powerAt l hst D cI cJ cZ cMic cSrc cSt cAI cAJ ad T o a0 a1 h hrc h_o) (cwV 2 hts (gaV qA_1005 qA_1006 qA_1007 qA_131 qA_806) rfl rfl rfl (by decide +kernel) ⟨Nat.le_of_ble_eq_true rfl, Nat.le_of_ble_eq_true rfl⟩) h_o (cc_o11 h_s) rfl rfl hl.1 rfl (lv_room (Nat.le_of_ble_eq_true rfl)) dL_powerAt_5 ⟨by show 0 + (T1.1 - T.1) ≤ T1.1 - T.1 + 1; omega, by show 0 + (sg T1 - sg T) ≤ sg T1 - sg T + 6; omega⟩ ?_
  intro ad2 H locs had G
  refine t_last E G dL_powerAt_8 (fun H locs G => ?_)
  refine lv_goto (tgt := 20) hx hb dL_powerAt_9 (by decide) ?_
  refine lv_iconst (v := 0) hx hb dL_powerAt_20 (by decide) ?_
  refine W.widen (k := T1.1 - T.1 + 1) (n := sg T1 - sg T + 6) (by omega) (by omega) ?_
  exact W.iret (v := 0) hx hb hr (fun t ht hW => ⟨⟨0, ad2, rfl, ⟨rfl, had⟩, ⟨by rw [ht]; exact G.1, va_K.moved hW.alike hK, G.2.1⟩⟩, G.2.2.F ht⟩) G.2.2.2.2 dL_powerAt_21
set_option maxHeartbeats 4000000 in
set_option maxRecDepth 100000 in
theorem v_powerAt_t (l : Launch) (hst : l.stackTraces = false) (D : va_G) {cI cJ cZ cMic cSrc cSt cAI cAJ cD : ClassId} (h0 : Nat) (ad : Nat → Nat) (T : AT) (o : Nat) (a0 a1 : Int32) (ao : Nat) (f : Nat → Int64) {e1 : Nat} {r1 : Int64} {T1 : AT} (h : g_X11_powerAt T o a0 a1 = some (e1 + 1, r1, T1)) (hrc : RC T) (h_o : o < T.1) (h_s : T.2.1 o = (11, 0)) : tWi l yL_powerAt (Cond.codeWith yL_powerAt cL_powerAt 5 (some .int) [(0, 9, 12, 21), (0, 9, 16, 15)] :: wsA) 8 150 cI cJ cZ cMic cSrc cSt cAI cAJ cD D h0 ad T (oJ ao cJ f) [.ref (ad o), .int a0, .int a1, .ref ao] (vck 1 0 2 (e1 + 1)) T1 (oJ ao cJ (vfJ (e1 + 1) f r1)) := by
  intro sz
  refine pro_inW (cc := cL_powerAt) (maxL := 5) (ret := some .int) (by exact pn_RL) rfl (by exact Nat.le_of_ble_eq_true rfl) (fun p e s m below meth c ls hx hb hr hts hown hlocks htb hml hv hl => ?_)
  obtain ⟨hsz, hP, hK, hD0, hX, hN, hA0, hTS⟩ := hv
  subst hsz
  have hD := hD0.self (sz := s.heap.size)
  generalize hAe : va_A (cW ad T.1 (cc cI cJ cZ cMic cSrc cSt cAI cAJ ad T) ++ [oJ ao cJ f]) s.heap.size = A at hD hX hA0 ⊢
  have hA : ∀ q : Nat, s.heap.size ≤ q → A q := fun q h => by rw [← hAe]; exact Or.inr h
  have G : gL cI cJ cZ cMic cSrc cSt cAI cAJ D ad A s.heap s.heap [] T [oJ ao cJ f] := ⟨hP, hD, va_S.rf⟩
  have E : cE p c cL_powerAt s m ([.ref (ad o), .int a0, .int a1, .ref ao] : List Value).toArray (Cond.codeWith yL_powerAt cL_powerAt 5 (some .int) [(0, 9, 12, 21), (0, 9, 16, 15)] :: wsA) D RL (CT cI cJ cZ cMic cSrc cSt cAI cAJ ++ [(cD, .double)]) := ⟨hx, hb, hts, hown, hK⟩
  have hl : lv_has ls 5 [(0, .ref (ad o)), (1, .int a0), (2, .int a1), (3, .ref ao)] := hl
  refine lv_aload_n hx hb dL_powerAt_0 rfl (lv_at hl 3 rfl) ?_
  refine lv_iconst (v := 0) hx hb dL_powerAt_1 (by decide) ?_
  refine lv_aload_n hx hb dL_powerAt_2 rfl (lv_at hl 0 rfl) ?_
  refine lv_iload_n hx hb dL_powerAt_3 rfl (lv_at hl 1 rfl) ?_
  refine lv_iload_n hx hb dL_powerAt_4 rfl (lv_at hl 2 rfl) ?_
  refine t_bvl (As := [.int a0, .int a1]) (rest := [.int 0, .ref ao]) E G hA hX hX.2.2.2.1 hml (b_X11_powerAt l hst D cI cJ cZ cMic cSrc cSt cAI cAJ ad T o a0 a1 h hrc h_o) (cwV 2 hts (gaV qA_1005 qA_1006 qA_1007 qA_131 qA_806) rfl rfl rfl (by decide +kernel) ⟨Nat.le_of_ble_eq_true rfl, Nat.le_of_ble_eq_true rfl⟩) h_o (cc_o11 h_s) rfl rfl hl.1 rfl (lv_room (Nat.le_of_ble_eq_true rfl)) dL_powerAt_5 ⟨by show 0 + (T1.1 - T.1 + 1) ≤ T1.1 - T.1 + 1; omega, by show 0 + (sg T1 - sg T + 6) ≤ sg T1 - sg T + 6; omega⟩ ?_
  intro E9 ce q9 ad2 H locs hE had G hce hcv hcl
  rcases e1 with _ | _ | e1
  · have hE : E9 = xISE := hE
    subst hE
    refine vx_catch (name := xISE) hown [] { startPc := 0, endPc := 9, handlerPc := 12, catchType := 21 } [{ startPc := 0, endPc := 9, handlerPc := 16, catchType := 15 }] htb (fun z hz => absurd hz List.not_mem_nil) (by decide) (by decide) (hts _ (.tail _ qA_952)) (hX.use (.castable xISE xISE) (by decide +kernel)) hce hcv hcl ?_
    refine lv_astore (lv' := [(4, .ref q9), (0, .ref (ad o)), (1, .int a0), (2, .int a1), (3, .ref ao)]) hx hb dL_powerAt_12 hl (by decide) rfl (fun ls hl => ?_)
    refine lv_iconst (v := 1) hx hb dL_powerAt_14 (by decide) ?_
    refine W.widen (k := T1.1 - T.1 + 1) (n := sg T1 - sg T + 6) (by omega) (by omega) ?_
    exact W.iret (v := 1) hx hb hr (fun t ht hW => ⟨⟨1, ad2, rfl, ⟨rfl, had⟩, ⟨by rw [ht]; exact G.1, va_K.moved hW.alike hK, G.2.1⟩⟩, G.2.2.F ht⟩) G.2.2.2.2 dL_powerAt_15
  · exact absurd (cd_g_X11_powerAt (S := [0, 1, 3]) (fun _ h => h) T o a0 a1 _ _ _ h) (by decide)
  · have hE : E9 = xIAE := hE
    subst hE
    refine vx_catch (name := xIAE) hown [{ startPc := 0, endPc := 9, handlerPc := 12, catchType := 21 }] { startPc := 0, endPc := 9, handlerPc := 16, catchType := 15 } [] htb (List.forall_mem_cons.mpr ⟨Or.inr ⟨by decide, xISE, hts _ (.tail _ qA_952), hN.2.2.2⟩, fun z hz => absurd hz List.not_mem_nil⟩) (by decide) (by decide) (hts _ (.tail _ qA_947)) (hX.use (.castable xIAE xIAE) (by decide +kernel)) hce hcv hcl ?_
    refine lv_astore (lv' := [(4, .ref q9), (0, .ref (ad o)), (1, .int a0), (2, .int a1), (3, .ref ao)]) hx hb dL_powerAt_16 hl (by decide) rfl (fun ls hl => ?_)
    refine lv_iconst (v := 2) hx hb dL_powerAt_18 (by decide) ?_
    refine W.widen (k := T1.1 - T.1 + 1) (n := sg T1 - sg T + 6) (by omega) (by omega) ?_
    exact W.iret (v := 2) hx hb hr (fun t ht hW => ⟨⟨2, ad2, rfl, ⟨rfl, had⟩, ⟨by rw [ht]; exact G.1, va_K.moved hW.alike hK, G.2.1⟩⟩, G.2.2.F ht⟩) G.2.2.2.2 dL_powerAt_19
theorem v_powerAt (l : Launch) (hst : l.stackTraces = false) (D : va_G) {cI cJ cZ cMic cSrc cSt cAI cAJ cD : ClassId} (h0 : Nat) (ad : Nat → Nat) (T : AT) (o : Nat) (a0 a1 : Int32) (ao : Nat) (f : Nat → Int64) {k1 : Nat} {r1 : Int64} {T1 : AT} (h : g_X11_powerAt T o a0 a1 = some (k1, r1, T1)) (hrc : RC T) (h_o : o < T.1) (h_s : T.2.1 o = (11, 0)) : tWi l yL_powerAt (Cond.codeWith yL_powerAt cL_powerAt 5 (some .int) [(0, 9, 12, 21), (0, 9, 16, 15)] :: wsA) 8 150 cI cJ cZ cMic cSrc cSt cAI cAJ cD D h0 ad T (oJ ao cJ f) [.ref (ad o), .int a0, .int a1, .ref ao] (vck 1 0 2 k1) T1 (oJ ao cJ (vfJ k1 f r1)) := by
  cases k1 with
  | zero => exact v_powerAt_n l hst D h0 ad T o a0 a1 ao f h hrc h_o h_s
  | succ e1 => exact v_powerAt_t l hst D h0 ad T o a0 a1 ao f h hrc h_o h_s
set_option maxHeartbeats 4000000 in
set_option maxRecDepth 100000 in
theorem v_best_n (l : Launch) (hst : l.stackTraces = false) (D : va_G) {cI cJ cZ cMic cSrc cSt cAI cAJ cD : ClassId} (h0 : Nat) (ad : Nat → Nat) (T : AT) (o : Nat) (ao : Nat) (f : Nat → Int64) {r1 : Int32} {T1 : AT} (h : g_X11_best T o = some (0, r1, T1)) (hrc : RC T) (h_o : o < T.1) (h_s : T.2.1 o = (11, 0)) : tWi l yL_best (Cond.codeWith yL_best cL_best 3 (some .int) [(0, 8, 11, 21)] :: wsA) 8 169 cI cJ cZ cMic cSrc cSt cAI cAJ cD D h0 ad T (oJ ao cJ f) [.ref (ad o), .ref ao] (vck 1 0 0 (0)) T1 (oJ ao cJ (vfJ (0) f r1.toInt64)) := by
  intro sz
  refine pro_inW (cc := cL_best) (maxL := 3) (ret := some .int) (by exact pn_RL) rfl (by exact Nat.le_of_ble_eq_true rfl) (fun p e s m below meth c ls hx hb hr hts hown hlocks htb hml hv hl => ?_)
  obtain ⟨hsz, hP, hK, hD0, hX, hN, hA0, hTS⟩ := hv
  subst hsz
  have hD := hD0.self (sz := s.heap.size)
  generalize hAe : va_A (cW ad T.1 (cc cI cJ cZ cMic cSrc cSt cAI cAJ ad T) ++ [oJ ao cJ f]) s.heap.size = A at hD hX hA0 ⊢
  have hA : ∀ q : Nat, s.heap.size ≤ q → A q := fun q h => by rw [← hAe]; exact Or.inr h
  have G : gL cI cJ cZ cMic cSrc cSt cAI cAJ D ad A s.heap s.heap [] T [oJ ao cJ f] := ⟨hP, hD, va_S.rf⟩
  have E : cE p c cL_best s m ([.ref (ad o), .ref ao] : List Value).toArray (Cond.codeWith yL_best cL_best 3 (some .int) [(0, 8, 11, 21)] :: wsA) D RL (CT cI cJ cZ cMic cSrc cSt cAI cAJ ++ [(cD, .double)]) := ⟨hx, hb, hts, hown, hK⟩
  have hl : lv_has ls 3 [(0, .ref (ad o)), (1, .ref ao)] := hl
  refine lv_aload_n hx hb dL_best_0 rfl (lv_at hl 1 rfl) ?_
  refine lv_iconst (v := 0) hx hb dL_best_1 (by decide) ?_
  refine lv_aload_n hx hb dL_best_2 rfl (lv_at hl 0 rfl) ?_
  refine t_avi (As := []) (rest := [.int 0, .ref ao]) E G hA hX hX.2.2.2.1 hml (a_X11_best l hst D cI cJ cZ cMic cSrc cSt cAI cAJ ad T o  h hrc h_o) (cwV 0 hts (gaV qA_1009 qA_1010 qA_1011 qA_131 qA_811) rfl rfl rfl (by decide +kernel) ⟨Nat.le_of_ble_eq_true rfl, Nat.le_of_ble_eq_true rfl⟩) h_o (cc_o11 h_s) rfl rfl hl.1 rfl (lv_room (Nat.le_of_ble_eq_true rfl)) dL_best_3 ⟨by show 0 + (T1.1 - T.1) ≤ T1.1 - T.1 + 1; omega, by show 0 + (sg T1 - sg T) ≤ sg T1 - sg T + 6; omega⟩ ?_
  intro ad2 H locs had G
  refine lv_i2l (v := r1.toInt64) hx hb dL_best_6 rfl ?_
  refine t_last E G dL_best_7 (fun H locs G => ?_)
  refine lv_goto (tgt := 14) hx hb dL_best_8 (by decide) ?_
  refine lv_iconst (v := 0) hx hb dL_best_14 (by decide) ?_
  refine W.widen (k := T1.1 - T.1 + 1) (n := sg T1 - sg T + 6) (by omega) (by omega) ?_
  exact W.iret (v := 0) hx hb hr (fun t ht hW => ⟨⟨0, ad2, rfl, ⟨rfl, had⟩, ⟨by rw [ht]; exact G.1, va_K.moved hW.alike hK, G.2.1⟩⟩, G.2.2.F ht⟩) G.2.2.2.2 dL_best_15
set_option maxHeartbeats 4000000 in
set_option maxRecDepth 100000 in
theorem v_best_t (l : Launch) (hst : l.stackTraces = false) (D : va_G) {cI cJ cZ cMic cSrc cSt cAI cAJ cD : ClassId} (h0 : Nat) (ad : Nat → Nat) (T : AT) (o : Nat) (ao : Nat) (f : Nat → Int64) {e1 : Nat} {r1 : Int32} {T1 : AT} (h : g_X11_best T o = some (e1 + 1, r1, T1)) (hrc : RC T) (h_o : o < T.1) (h_s : T.2.1 o = (11, 0)) : tWi l yL_best (Cond.codeWith yL_best cL_best 3 (some .int) [(0, 8, 11, 21)] :: wsA) 8 169 cI cJ cZ cMic cSrc cSt cAI cAJ cD D h0 ad T (oJ ao cJ f) [.ref (ad o), .ref ao] (vck 1 0 0 (e1 + 1)) T1 (oJ ao cJ (vfJ (e1 + 1) f r1.toInt64)) := by
  intro sz
  refine pro_inW (cc := cL_best) (maxL := 3) (ret := some .int) (by exact pn_RL) rfl (by exact Nat.le_of_ble_eq_true rfl) (fun p e s m below meth c ls hx hb hr hts hown hlocks htb hml hv hl => ?_)
  obtain ⟨hsz, hP, hK, hD0, hX, hN, hA0, hTS⟩ := hv
  subst hsz
  have hD := hD0.self (sz := s.heap.size)
  generalize hAe : va_A (cW ad T.1 (cc cI cJ cZ cMic cSrc cSt cAI cAJ ad T) ++ [oJ ao cJ f]) s.heap.size = A at hD hX hA0 ⊢
  have hA : ∀ q : Nat, s.heap.size ≤ q → A q := fun q h => by rw [← hAe]; exact Or.inr h
  have G : gL cI cJ cZ cMic cSrc cSt cAI cAJ D ad A s.heap s.heap [] T [oJ ao cJ f] := ⟨hP, hD, va_S.rf⟩
  have E : cE p c cL_best s m ([.ref (ad o), .ref ao] : List Value).toArray (Cond.codeWith yL_best cL_best 3 (some .int) [(0, 8, 11, 21)] :: wsA) D RL (CT cI cJ cZ cMic cSrc cSt cAI cAJ ++ [(cD, .double)]) := ⟨hx, hb, hts, hown, hK⟩
  have hl : lv_has ls 3 [(0, .ref (ad o)), (1, .ref ao)] := hl
  refine lv_aload_n hx hb dL_best_0 rfl (lv_at hl 1 rfl) ?_
  refine lv_iconst (v := 0) hx hb dL_best_1 (by decide) ?_
  refine lv_aload_n hx hb dL_best_2 rfl (lv_at hl 0 rfl) ?_
  refine t_bvi (As := []) (rest := [.int 0, .ref ao]) E G hA hX hX.2.2.2.1 hml (b_X11_best l hst D cI cJ cZ cMic cSrc cSt cAI cAJ ad T o  h hrc h_o) (cwV 0 hts (gaV qA_1009 qA_1010 qA_1011 qA_131 qA_811) rfl rfl rfl (by decide +kernel) ⟨Nat.le_of_ble_eq_true rfl, Nat.le_of_ble_eq_true rfl⟩) h_o (cc_o11 h_s) rfl rfl hl.1 rfl (lv_room (Nat.le_of_ble_eq_true rfl)) dL_best_3 ⟨by show 0 + (T1.1 - T.1 + 1) ≤ T1.1 - T.1 + 1; omega, by show 0 + (sg T1 - sg T + 6) ≤ sg T1 - sg T + 6; omega⟩ ?_
  intro E9 ce q9 ad2 H locs hE had G hce hcv hcl
  rcases e1 with _ | _ | e1
  · have hE : E9 = xISE := hE
    subst hE
    refine vx_catch (name := xISE) hown [] { startPc := 0, endPc := 8, handlerPc := 11, catchType := 21 } [] htb (fun z hz => absurd hz List.not_mem_nil) (by decide) (by decide) (hts _ (.tail _ qA_952)) (hX.use (.castable xISE xISE) (by decide +kernel)) hce hcv hcl ?_
    refine lv_astore_n (lv' := [(2, .ref q9), (0, .ref (ad o)), (1, .ref ao)]) hx hb dL_best_11 rfl hl (by decide) rfl (fun ls hl => ?_)
    refine lv_iconst (v := 1) hx hb dL_best_12 (by decide) ?_
    refine W.widen (k := T1.1 - T.1 + 1) (n := sg T1 - sg T + 6) (by omega) (by omega) ?_
    exact W.iret (v := 1) hx hb hr (fun t ht hW => ⟨⟨1, ad2, rfl, ⟨rfl, had⟩, ⟨by rw [ht]; exact G.1, va_K.moved hW.alike hK, G.2.1⟩⟩, G.2.2.F ht⟩) G.2.2.2.2 dL_best_13
  · exact absurd (cd_g_X11_best (S := [0, 1]) (fun _ h => h) T o _ _ _ h) (by decide)
  · have q := (cd_g_X11_best (S := [0, 1]) (fun _ h => h) T o _ _ _ h)
    simp only [List.mem_cons, List.not_mem_nil, or_false] at q
    omega
theorem v_best (l : Launch) (hst : l.stackTraces = false) (D : va_G) {cI cJ cZ cMic cSrc cSt cAI cAJ cD : ClassId} (h0 : Nat) (ad : Nat → Nat) (T : AT) (o : Nat) (ao : Nat) (f : Nat → Int64) {k1 : Nat} {r1 : Int32} {T1 : AT} (h : g_X11_best T o = some (k1, r1, T1)) (hrc : RC T) (h_o : o < T.1) (h_s : T.2.1 o = (11, 0)) : tWi l yL_best (Cond.codeWith yL_best cL_best 3 (some .int) [(0, 8, 11, 21)] :: wsA) 8 169 cI cJ cZ cMic cSrc cSt cAI cAJ cD D h0 ad T (oJ ao cJ f) [.ref (ad o), .ref ao] (vck 1 0 0 k1) T1 (oJ ao cJ (vfJ k1 f r1.toInt64)) := by
  cases k1 with
  | zero => exact v_best_n l hst D h0 ad T o  ao f h hrc h_o h_s
  | succ e1 => exact v_best_t l hst D h0 ad T o  ao f h hrc h_o h_s
set_option maxHeartbeats 4000000 in
set_option maxRecDepth 100000 in
theorem v_bestPower_n (l : Launch) (hst : l.stackTraces = false) (D : va_G) {cI cJ cZ cMic cSrc cSt cAI cAJ cD : ClassId} (h0 : Nat) (ad : Nat → Nat) (T : AT) (o : Nat) (ao : Nat) (f : Nat → Int64) {r1 : Int64} {T1 : AT} (h : g_X11_bestPower T o = some (0, r1, T1)) (hrc : RC T) (h_o : o < T.1) (h_s : T.2.1 o = (11, 0)) : tWi l yL_bestPower (Cond.codeWith yL_bestPower cL_bestPower 3 (some .int) [(0, 7, 10, 21)] :: wsA) 8 170 cI cJ cZ cMic cSrc cSt cAI cAJ cD D h0 ad T (oJ ao cJ f) [.ref (ad o), .ref ao] (vck 1 0 0 (0)) T1 (oJ ao cJ (vfJ (0) f r1)) := by
  intro sz
  refine pro_inW (cc := cL_bestPower) (maxL := 3) (ret := some .int) (by exact pn_RL) rfl (by exact Nat.le_of_ble_eq_true rfl) (fun p e s m below meth c ls hx hb hr hts hown hlocks htb hml hv hl => ?_)
  obtain ⟨hsz, hP, hK, hD0, hX, hN, hA0, hTS⟩ := hv
  subst hsz
  have hD := hD0.self (sz := s.heap.size)
  generalize hAe : va_A (cW ad T.1 (cc cI cJ cZ cMic cSrc cSt cAI cAJ ad T) ++ [oJ ao cJ f]) s.heap.size = A at hD hX hA0 ⊢
  have hA : ∀ q : Nat, s.heap.size ≤ q → A q := fun q h => by rw [← hAe]; exact Or.inr h
  have G : gL cI cJ cZ cMic cSrc cSt cAI cAJ D ad A s.heap s.heap [] T [oJ ao cJ f] := ⟨hP, hD, va_S.rf⟩
  have E : cE p c cL_bestPower s m ([.ref (ad o), .ref ao] : List Value).toArray (Cond.codeWith yL_bestPower cL_bestPower 3 (some .int) [(0, 7, 10, 21)] :: wsA) D RL (CT cI cJ cZ cMic cSrc cSt cAI cAJ ++ [(cD, .double)]) := ⟨hx, hb, hts, hown, hK⟩
  have hl : lv_has ls 3 [(0, .ref (ad o)), (1, .ref ao)] := hl
  refine lv_aload_n hx hb dL_bestPower_0 rfl (lv_at hl 1 rfl) ?_
  refine lv_iconst (v := 0) hx hb dL_bestPower_1 (by decide) ?_
  refine lv_aload_n hx hb dL_bestPower_2 rfl (lv_at hl 0 rfl) ?_
  refine t_avl (As := []) (rest := [.int 0, .ref ao]) E G hA hX hX.2.2.2.1 hml (a_X11_bestPower l hst D cI cJ cZ cMic cSrc cSt cAI cAJ ad T o  h hrc h_o) (cwV 0 hts (gaV qA_1013 qA_1014 qA_1015 qA_131 qA_813) rfl rfl rfl (by decide +kernel) ⟨Nat.le_of_ble_eq_true rfl, Nat.le_of_ble_eq_true rfl⟩) h_o (cc_o11 h_s) rfl rfl hl.1 rfl (lv_room (Nat.le_of_ble_eq_true rfl)) dL_bestPower_3 ⟨by show 0 + (T1.1 - T.1) ≤ T1.1 - T.1 + 1; omega, by show 0 + (sg T1 - sg T) ≤ sg T1 - sg T + 6; omega⟩ ?_
  intro ad2 H locs had G
  refine t_last E G dL_bestPower_6 (fun H locs G => ?_)
  refine lv_goto (tgt := 13) hx hb dL_bestPower_7 (by decide) ?_
  refine lv_iconst (v := 0) hx hb dL_bestPower_13 (by decide) ?_
  refine W.widen (k := T1.1 - T.1 + 1) (n := sg T1 - sg T + 6) (by omega) (by omega) ?_
  exact W.iret (v := 0) hx hb hr (fun t ht hW => ⟨⟨0, ad2, rfl, ⟨rfl, had⟩, ⟨by rw [ht]; exact G.1, va_K.moved hW.alike hK, G.2.1⟩⟩, G.2.2.F ht⟩) G.2.2.2.2 dL_bestPower_14
set_option maxHeartbeats 4000000 in
set_option maxRecDepth 100000 in
theorem v_bestPower_t (l : Launch) (hst : l.stackTraces = false) (D : va_G) {cI cJ cZ cMic cSrc cSt cAI cAJ cD : ClassId} (h0 : Nat) (ad : Nat → Nat) (T : AT) (o : Nat) (ao : Nat) (f : Nat → Int64) {e1 : Nat} {r1 : Int64} {T1 : AT} (h : g_X11_bestPower T o = some (e1 + 1, r1, T1)) (hrc : RC T) (h_o : o < T.1) (h_s : T.2.1 o = (11, 0)) : tWi l yL_bestPower (Cond.codeWith yL_bestPower cL_bestPower 3 (some .int) [(0, 7, 10, 21)] :: wsA) 8 170 cI cJ cZ cMic cSrc cSt cAI cAJ cD D h0 ad T (oJ ao cJ f) [.ref (ad o), .ref ao] (vck 1 0 0 (e1 + 1)) T1 (oJ ao cJ (vfJ (e1 + 1) f r1)) := by
  intro sz
  refine pro_inW (cc := cL_bestPower) (maxL := 3) (ret := some .int) (by exact pn_RL) rfl (by exact Nat.le_of_ble_eq_true rfl) (fun p e s m below meth c ls hx hb hr hts hown hlocks htb hml hv hl => ?_)
  obtain ⟨hsz, hP, hK, hD0, hX, hN, hA0, hTS⟩ := hv
  subst hsz
  have hD := hD0.self (sz := s.heap.size)
  generalize hAe : va_A (cW ad T.1 (cc cI cJ cZ cMic cSrc cSt cAI cAJ ad T) ++ [oJ ao cJ f]) s.heap.size = A at hD hX hA0 ⊢
  have hA : ∀ q : Nat, s.heap.size ≤ q → A q := fun q h => by rw [← hAe]; exact Or.inr h
  have G : gL cI cJ cZ cMic cSrc cSt cAI cAJ D ad A s.heap s.heap [] T [oJ ao cJ f] := ⟨hP, hD, va_S.rf⟩
  have E : cE p c cL_bestPower s m ([.ref (ad o), .ref ao] : List Value).toArray (Cond.codeWith yL_bestPower cL_bestPower 3 (some .int) [(0, 7, 10, 21)] :: wsA) D RL (CT cI cJ cZ cMic cSrc cSt cAI cAJ ++ [(cD, .double)]) := ⟨hx, hb, hts, hown, hK⟩
  have hl : lv_has ls 3 [(0, .ref (ad o)), (1, .ref ao)] := hl
  refine lv_aload_n hx hb dL_bestPower_0 rfl (lv_at hl 1 rfl) ?_
  refine lv_iconst (v := 0) hx hb dL_bestPower_1 (by decide) ?_
  refine lv_aload_n hx hb dL_bestPower_2 rfl (lv_at hl 0 rfl) ?_
  refine t_bvl (As := []) (rest := [.int 0, .ref ao]) E G hA hX hX.2.2.2.1 hml (b_X11_bestPower l hst D cI cJ cZ cMic cSrc cSt cAI cAJ ad T o  h hrc h_o) (cwV 0 hts (gaV qA_1013 qA_1014 qA_1015 qA_131 qA_813) rfl rfl rfl (by decide +kernel) ⟨Nat.le_of_ble_eq_true rfl, Nat.le_of_ble_eq_true rfl⟩) h_o (cc_o11 h_s) rfl rfl hl.1 rfl (lv_room (Nat.le_of_ble_eq_true rfl)) dL_bestPower_3 ⟨by show 0 + (T1.1 - T.1 + 1) ≤ T1.1 - T.1 + 1; omega, by show 0 + (sg T1 - sg T + 6) ≤ sg T1 - sg T + 6; omega⟩ ?_
  intro E9 ce q9 ad2 H locs hE had G hce hcv hcl
  rcases e1 with _ | _ | e1
  · have hE : E9 = xISE := hE
    subst hE
    refine vx_catch (name := xISE) hown [] { startPc := 0, endPc := 7, handlerPc := 10, catchType := 21 } [] htb (fun z hz => absurd hz List.not_mem_nil) (by decide) (by decide) (hts _ (.tail _ qA_952)) (hX.use (.castable xISE xISE) (by decide +kernel)) hce hcv hcl ?_
    refine lv_astore_n (lv' := [(2, .ref q9), (0, .ref (ad o)), (1, .ref ao)]) hx hb dL_bestPower_10 rfl hl (by decide) rfl (fun ls hl => ?_)
    refine lv_iconst (v := 1) hx hb dL_bestPower_11 (by decide) ?_
    refine W.widen (k := T1.1 - T.1 + 1) (n := sg T1 - sg T + 6) (by omega) (by omega) ?_
    exact W.iret (v := 1) hx hb hr (fun t ht hW => ⟨⟨1, ad2, rfl, ⟨rfl, had⟩, ⟨by rw [ht]; exact G.1, va_K.moved hW.alike hK, G.2.1⟩⟩, G.2.2.F ht⟩) G.2.2.2.2 dL_bestPower_12
  · exact absurd (cd_g_X11_bestPower (S := [0, 1]) (fun _ h => h) T o _ _ _ h) (by decide)
  · have q := (cd_g_X11_bestPower (S := [0, 1]) (fun _ h => h) T o _ _ _ h)
    simp only [List.mem_cons, List.not_mem_nil, or_false] at q
    omega
theorem v_bestPower (l : Launch) (hst : l.stackTraces = false) (D : va_G) {cI cJ cZ cMic cSrc cSt cAI cAJ cD : ClassId} (h0 : Nat) (ad : Nat → Nat) (T : AT) (o : Nat) (ao : Nat) (f : Nat → Int64) {k1 : Nat} {r1 : Int64} {T1 : AT} (h : g_X11_bestPower T o = some (k1, r1, T1)) (hrc : RC T) (h_o : o < T.1) (h_s : T.2.1 o = (11, 0)) : tWi l yL_bestPower (Cond.codeWith yL_bestPower cL_bestPower 3 (some .int) [(0, 7, 10, 21)] :: wsA) 8 170 cI cJ cZ cMic cSrc cSt cAI cAJ cD D h0 ad T (oJ ao cJ f) [.ref (ad o), .ref ao] (vck 1 0 0 k1) T1 (oJ ao cJ (vfJ k1 f r1)) := by
  cases k1 with
  | zero => exact v_bestPower_n l hst D h0 ad T o  ao f h hrc h_o h_s
  | succ e1 => exact v_bestPower_t l hst D h0 ad T o  ao f h hrc h_o h_s
set_option maxHeartbeats 4000000 in
set_option maxRecDepth 100000 in
theorem v_meanPower_n (l : Launch) (hst : l.stackTraces = false) (D : va_G) {cI cJ cZ cMic cSrc cSt cAI cAJ cD : ClassId} (h0 : Nat) (ad : Nat → Nat) (T : AT) (o : Nat) (ao : Nat) (f : Nat → Int64) {r1 : Int64} {T1 : AT} (h : g_X11_meanPower T o = some (0, r1, T1)) (hrc : RC T) (h_o : o < T.1) (h_s : T.2.1 o = (11, 0)) : tWi l yL_meanPower (Cond.codeWith yL_meanPower cL_meanPower 3 (some .int) [(0, 7, 10, 21)] :: wsA) 8 169 cI cJ cZ cMic cSrc cSt cAI cAJ cD D h0 ad T (oJ ao cJ f) [.ref (ad o), .ref ao] (vck 1 0 0 (0)) T1 (oJ ao cJ (vfJ (0) f r1)) := by
  intro sz
  refine pro_inW (cc := cL_meanPower) (maxL := 3) (ret := some .int) (by exact pn_RL) rfl (by exact Nat.le_of_ble_eq_true rfl) (fun p e s m below meth c ls hx hb hr hts hown hlocks htb hml hv hl => ?_)
  obtain ⟨hsz, hP, hK, hD0, hX, hN, hA0, hTS⟩ := hv
  subst hsz
  have hD := hD0.self (sz := s.heap.size)
  generalize hAe : va_A (cW ad T.1 (cc cI cJ cZ cMic cSrc cSt cAI cAJ ad T) ++ [oJ ao cJ f]) s.heap.size = A at hD hX hA0 ⊢
  have hA : ∀ q : Nat, s.heap.size ≤ q → A q := fun q h => by rw [← hAe]; exact Or.inr h
  have G : gL cI cJ cZ cMic cSrc cSt cAI cAJ D ad A s.heap s.heap [] T [oJ ao cJ f] := ⟨hP, hD, va_S.rf⟩
  have E : cE p c cL_meanPower s m ([.ref (ad o), .ref ao] : List Value).toArray (Cond.codeWith yL_meanPower cL_meanPower 3 (some .int) [(0, 7, 10, 21)] :: wsA) D RL (CT cI cJ cZ cMic cSrc cSt cAI cAJ ++ [(cD, .double)]) := ⟨hx, hb, hts, hown, hK⟩
  have hl : lv_has ls 3 [(0, .ref (ad o)), (1, .ref ao)] := hl
  refine lv_aload_n hx hb dL_meanPower_0 rfl (lv_at hl 1 rfl) ?_
  refine lv_iconst (v := 0) hx hb dL_meanPower_1 (by decide) ?_
  refine lv_aload_n hx hb dL_meanPower_2 rfl (lv_at hl 0 rfl) ?_
  refine t_avl (As := []) (rest := [.int 0, .ref ao]) E G hA hX hX.2.2.2.1 hml (a_X11_meanPower l hst D cI cJ cZ cMic cSrc cSt cAI cAJ ad T o  h hrc h_o) (cwV 0 hts (gaV qA_1017 qA_1018 qA_1019 qA_131 qA_814) rfl rfl rfl (by decide +kernel) ⟨Nat.le_of_ble_eq_true rfl, Nat.le_of_ble_eq_true rfl⟩) h_o (cc_o11 h_s) rfl rfl hl.1 rfl (lv_room (Nat.le_of_ble_eq_true rfl)) dL_meanPower_3 ⟨by show 0 + (T1.1 - T.1) ≤ T1.1 - T.1 + 1; omega, by show 0 + (sg T1 - sg T) ≤ sg T1 - sg T + 6; omega⟩ ?_
  intro ad2 H locs had G
  refine t_last E G dL_meanPower_6 (fun H locs G => ?_)
  refine lv_goto (tgt := 13) hx hb dL_meanPower_7 (by decide) ?_
  refine lv_iconst (v := 0) hx hb dL_meanPower_13 (by decide) ?_
  refine W.widen (k := T1.1 - T.1 + 1) (n := sg T1 - sg T + 6) (by omega) (by omega) ?_
  exact W.iret (v := 0) hx hb hr (fun t ht hW => ⟨⟨0, ad2, rfl, ⟨rfl, had⟩, ⟨by rw [ht]; exact G.1, va_K.moved hW.alike hK, G.2.1⟩⟩, G.2.2.F ht⟩) G.2.2.2.2 dL_meanPower_14
set_option maxHeartbeats 4000000 in
set_option maxRecDepth 100000 in
theorem v_meanPower_t (l : Launch) (hst : l.stackTraces = false) (D : va_G) {cI cJ cZ cMic cSrc cSt cAI cAJ cD : ClassId} (h0 : Nat) (ad : Nat → Nat) (T : AT) (o : Nat) (ao : Nat) (f : Nat → Int64) {e1 : Nat} {r1 : Int64} {T1 : AT} (h : g_X11_meanPower T o = some (e1 + 1, r1, T1)) (hrc : RC T) (h_o : o < T.1) (h_s : T.2.1 o = (11, 0)) : tWi l yL_meanPower (Cond.codeWith yL_meanPower cL_meanPower 3 (some .int) [(0, 7, 10, 21)] :: wsA) 8 169 cI cJ cZ cMic cSrc cSt cAI cAJ cD D h0 ad T (oJ ao cJ f) [.ref (ad o), .ref ao] (vck 1 0 0 (e1 + 1)) T1 (oJ ao cJ (vfJ (e1 + 1) f r1)) := by
  intro sz
  refine pro_inW (cc := cL_meanPower) (maxL := 3) (ret := some .int) (by exact pn_RL) rfl (by exact Nat.le_of_ble_eq_true rfl) (fun p e s m below meth c ls hx hb hr hts hown hlocks htb hml hv hl => ?_)
  obtain ⟨hsz, hP, hK, hD0, hX, hN, hA0, hTS⟩ := hv
  subst hsz
  have hD := hD0.self (sz := s.heap.size)
  generalize hAe : va_A (cW ad T.1 (cc cI cJ cZ cMic cSrc cSt cAI cAJ ad T) ++ [oJ ao cJ f]) s.heap.size = A at hD hX hA0 ⊢
  have hA : ∀ q : Nat, s.heap.size ≤ q → A q := fun q h => by rw [← hAe]; exact Or.inr h
  have G : gL cI cJ cZ cMic cSrc cSt cAI cAJ D ad A s.heap s.heap [] T [oJ ao cJ f] := ⟨hP, hD, va_S.rf⟩
  have E : cE p c cL_meanPower s m ([.ref (ad o), .ref ao] : List Value).toArray (Cond.codeWith yL_meanPower cL_meanPower 3 (some .int) [(0, 7, 10, 21)] :: wsA) D RL (CT cI cJ cZ cMic cSrc cSt cAI cAJ ++ [(cD, .double)]) := ⟨hx, hb, hts, hown, hK⟩
  have hl : lv_has ls 3 [(0, .ref (ad o)), (1, .ref ao)] := hl
  refine lv_aload_n hx hb dL_meanPower_0 rfl (lv_at hl 1 rfl) ?_
  refine lv_iconst (v := 0) hx hb dL_meanPower_1 (by decide) ?_
  refine lv_aload_n hx hb dL_meanPower_2 rfl (lv_at hl 0 rfl) ?_
  refine t_bvl (As := []) (rest := [.int 0, .ref ao]) E G hA hX hX.2.2.2.1 hml (b_X11_meanPower l hst D cI cJ cZ cMic cSrc cSt cAI cAJ ad T o  h hrc h_o) (cwV 0 hts (gaV qA_1017 qA_1018 qA_1019 qA_131 qA_814) rfl rfl rfl (by decide +kernel) ⟨Nat.le_of_ble_eq_true rfl, Nat.le_of_ble_eq_true rfl⟩) h_o (cc_o11 h_s) rfl rfl hl.1 rfl (lv_room (Nat.le_of_ble_eq_true rfl)) dL_meanPower_3 ⟨by show 0 + (T1.1 - T.1 + 1) ≤ T1.1 - T.1 + 1; omega, by show 0 + (sg T1 - sg T + 6) ≤ sg T1 - sg T + 6; omega⟩ ?_
  intro E9 ce q9 ad2 H locs hE had G hce hcv hcl
  rcases e1 with _ | _ | e1
  · have hE : E9 = xISE := hE
    subst hE
    refine vx_catch (name := xISE) hown [] { startPc := 0, endPc := 7, handlerPc := 10, catchType := 21 } [] htb (fun z hz => absurd hz List.not_mem_nil) (by decide) (by decide) (hts _ (.tail _ qA_952)) (hX.use (.castable xISE xISE) (by decide +kernel)) hce hcv hcl ?_
    refine lv_astore_n (lv' := [(2, .ref q9), (0, .ref (ad o)), (1, .ref ao)]) hx hb dL_meanPower_10 rfl hl (by decide) rfl (fun ls hl => ?_)
    refine lv_iconst (v := 1) hx hb dL_meanPower_11 (by decide) ?_
    refine W.widen (k := T1.1 - T.1 + 1) (n := sg T1 - sg T + 6) (by omega) (by omega) ?_
    exact W.iret (v := 1) hx hb hr (fun t ht hW => ⟨⟨1, ad2, rfl, ⟨rfl, had⟩, ⟨by rw [ht]; exact G.1, va_K.moved hW.alike hK, G.2.1⟩⟩, G.2.2.F ht⟩) G.2.2.2.2 dL_meanPower_12
  · exact absurd (cd_g_X11_meanPower (S := [0, 1]) (fun _ h => h) T o _ _ _ h) (by decide)
  · have q := (cd_g_X11_meanPower (S := [0, 1]) (fun _ h => h) T o _ _ _ h)
    simp only [List.mem_cons, List.not_mem_nil, or_false] at q
    omega
theorem v_meanPower (l : Launch) (hst : l.stackTraces = false) (D : va_G) {cI cJ cZ cMic cSrc cSt cAI cAJ cD : ClassId} (h0 : Nat) (ad : Nat → Nat) (T : AT) (o : Nat) (ao : Nat) (f : Nat → Int64) {k1 : Nat} {r1 : Int64} {T1 : AT} (h : g_X11_meanPower T o = some (k1, r1, T1)) (hrc : RC T) (h_o : o < T.1) (h_s : T.2.1 o = (11, 0)) : tWi l yL_meanPower (Cond.codeWith yL_meanPower cL_meanPower 3 (some .int) [(0, 7, 10, 21)] :: wsA) 8 169 cI cJ cZ cMic cSrc cSt cAI cAJ cD D h0 ad T (oJ ao cJ f) [.ref (ad o), .ref ao] (vck 1 0 0 k1) T1 (oJ ao cJ (vfJ k1 f r1)) := by
  cases k1 with
  | zero => exact v_meanPower_n l hst D h0 ad T o  ao f h hrc h_o h_s
  | succ e1 => exact v_meanPower_t l hst D h0 ad T o  ao f h hrc h_o h_s
set_option maxHeartbeats 4000000 in
set_option maxRecDepth 100000 in
theorem v_peaks_n (l : Launch) (hst : l.stackTraces = false) (D : va_G) {cI cJ cZ cMic cSrc cSt cAI cAJ cD : ClassId} (h0 : Nat) (ad : Nat → Nat) (T : AT) (o : Nat) (ao : Nat) (f : Nat → Int64) {r1 : Int32} {T1 : AT} (h : g_X11_peaks T o = some (0, r1, T1)) (hrc : RC T) (h_o : o < T.1) (h_s : T.2.1 o = (11, 0)) : tWi l yL_peaks (Cond.codeWith yL_peaks cL_peaks 3 (some .int) [(0, 8, 11, 21)] :: wsA) 8 169 cI cJ cZ cMic cSrc cSt cAI cAJ cD D h0 ad T (oJ ao cJ f) [.ref (ad o), .ref ao] (vck 1 0 0 (0)) T1 (oJ ao cJ (vfJ (0) f r1.toInt64)) := by
  intro sz
  refine pro_inW (cc := cL_peaks) (maxL := 3) (ret := some .int) (by exact pn_RL) rfl (by exact Nat.le_of_ble_eq_true rfl) (fun p e s m below meth c ls hx hb hr hts hown hlocks htb hml hv hl => ?_)
  obtain ⟨hsz, hP, hK, hD0, hX, hN, hA0, hTS⟩ := hv
  subst hsz
  have hD := hD0.self (sz := s.heap.size)
  generalize hAe : va_A (cW ad T.1 (cc cI cJ cZ cMic cSrc cSt cAI cAJ ad T) ++ [oJ ao cJ f]) s.heap.size = A at hD hX hA0 ⊢
  have hA : ∀ q : Nat, s.heap.size ≤ q → A q := fun q h => by rw [← hAe]; exact Or.inr h
  have G : gL cI cJ cZ cMic cSrc cSt cAI cAJ D ad A s.heap s.heap [] T [oJ ao cJ f] := ⟨hP, hD, va_S.rf⟩
  have E : cE p c cL_peaks s m ([.ref (ad o), .ref ao] : List Value).toArray (Cond.codeWith yL_peaks cL_peaks 3 (some .int) [(0, 8, 11, 21)] :: wsA) D RL (CT cI cJ cZ cMic cSrc cSt cAI cAJ ++ [(cD, .double)]) := ⟨hx, hb, hts, hown, hK⟩
  have hl : lv_has ls 3 [(0, .ref (ad o)), (1, .ref ao)] := hl
  refine lv_aload_n hx hb dL_peaks_0 rfl (lv_at hl 1 rfl) ?_
  refine lv_iconst (v := 0) hx hb dL_peaks_1 (by decide) ?_
  refine lv_aload_n hx hb dL_peaks_2 rfl (lv_at hl 0 rfl) ?_
  refine t_avi (As := []) (rest := [.int 0, .ref ao]) E G hA hX hX.2.2.2.1 hml (a_X11_peaks l hst D cI cJ cZ cMic cSrc cSt cAI cAJ ad T o  h hrc h_o) (cwV 0 hts (gaV qA_1021 qA_1022 qA_1023 qA_131 qA_820) rfl rfl rfl (by decide +kernel) ⟨Nat.le_of_ble_eq_true rfl, Nat.le_of_ble_eq_true rfl⟩) h_o (cc_o11 h_s) rfl rfl hl.1 rfl (lv_room (Nat.le_of_ble_eq_true rfl)) dL_peaks_3 ⟨by show 0 + (T1.1 - T.1) ≤ T1.1 - T.1 + 1; omega, by show 0 + (sg T1 - sg T) ≤ sg T1 - sg T + 6; omega⟩ ?_
  intro ad2 H locs had G
  refine lv_i2l (v := r1.toInt64) hx hb dL_peaks_6 rfl ?_
  refine t_last E G dL_peaks_7 (fun H locs G => ?_)
  refine lv_goto (tgt := 14) hx hb dL_peaks_8 (by decide) ?_
  refine lv_iconst (v := 0) hx hb dL_peaks_14 (by decide) ?_
  refine W.widen (k := T1.1 - T.1 + 1) (n := sg T1 - sg T + 6) (by omega) (by omega) ?_
  exact W.iret (v := 0) hx hb hr (fun t ht hW => ⟨⟨0, ad2, rfl, ⟨rfl, had⟩, ⟨by rw [ht]; exact G.1, va_K.moved hW.alike hK, G.2.1⟩⟩, G.2.2.F ht⟩) G.2.2.2.2 dL_peaks_15
set_option maxHeartbeats 4000000 in
set_option maxRecDepth 100000 in
theorem v_peaks_t (l : Launch) (hst : l.stackTraces = false) (D : va_G) {cI cJ cZ cMic cSrc cSt cAI cAJ cD : ClassId} (h0 : Nat) (ad : Nat → Nat) (T : AT) (o : Nat) (ao : Nat) (f : Nat → Int64) {e1 : Nat} {r1 : Int32} {T1 : AT} (h : g_X11_peaks T o = some (e1 + 1, r1, T1)) (hrc : RC T) (h_o : o < T.1) (h_s : T.2.1 o = (11, 0)) : tWi l yL_peaks (Cond.codeWith yL_peaks cL_peaks 3 (some .int) [(0, 8, 11, 21)] :: wsA) 8 169 cI cJ cZ cMic cSrc cSt cAI cAJ cD D h0 ad T (oJ ao cJ f) [.ref (ad o), .ref ao] (vck 1 0 0 (e1 + 1)) T1 (oJ ao cJ (vfJ (e1 + 1) f r1.toInt64)) := by
  intro sz
  refine pro_inW (cc := cL_peaks) (maxL := 3) (ret := some .int) (by exact pn_RL) rfl (by exact Nat.le_of_ble_eq_true rfl) (fun p e s m below meth c ls hx hb hr hts hown hlocks htb hml hv hl => ?_)
  obtain ⟨hsz, hP, hK, hD0, hX, hN, hA0, hTS⟩ := hv
  subst hsz
  have hD := hD0.self (sz := s.heap.size)
  generalize hAe : va_A (cW ad T.1 (cc cI cJ cZ cMic cSrc cSt cAI cAJ ad T) ++ [oJ ao cJ f]) s.heap.size = A at hD hX hA0 ⊢
  have hA : ∀ q : Nat, s.heap.size ≤ q → A q := fun q h => by rw [← hAe]; exact Or.inr h
  have G : gL cI cJ cZ cMic cSrc cSt cAI cAJ D ad A s.heap s.heap [] T [oJ ao cJ f] := ⟨hP, hD, va_S.rf⟩
  have E : cE p c cL_peaks s m ([.ref (ad o), .ref ao] : List Value).toArray (Cond.codeWith yL_peaks cL_peaks 3 (some .int) [(0, 8, 11, 21)] :: wsA) D RL (CT cI cJ cZ cMic cSrc cSt cAI cAJ ++ [(cD, .double)]) := ⟨hx, hb, hts, hown, hK⟩
  have hl : lv_has ls 3 [(0, .ref (ad o)), (1, .ref ao)] := hl
  refine lv_aload_n hx hb dL_peaks_0 rfl (lv_at hl 1 rfl) ?_
  refine lv_iconst (v := 0) hx hb dL_peaks_1 (by decide) ?_
  refine lv_aload_n hx hb dL_peaks_2 rfl (lv_at hl 0 rfl) ?_
  refine t_bvi (As := []) (rest := [.int 0, .ref ao]) E G hA hX hX.2.2.2.1 hml (b_X11_peaks l hst D cI cJ cZ cMic cSrc cSt cAI cAJ ad T o  h hrc h_o) (cwV 0 hts (gaV qA_1021 qA_1022 qA_1023 qA_131 qA_820) rfl rfl rfl (by decide +kernel) ⟨Nat.le_of_ble_eq_true rfl, Nat.le_of_ble_eq_true rfl⟩) h_o (cc_o11 h_s) rfl rfl hl.1 rfl (lv_room (Nat.le_of_ble_eq_true rfl)) dL_peaks_3 ⟨by show 0 + (T1.1 - T.1 + 1) ≤ T1.1 - T.1 + 1; omega, by show 0 + (sg T1 - sg T + 6) ≤ sg T1 - sg T + 6; omega⟩ ?_
  intro E9 ce q9 ad2 H locs hE had G hce hcv hcl
  rcases e1 with _ | _ | e1
  · have hE : E9 = xISE := hE
    subst hE
    refine vx_catch (name := xISE) hown [] { startPc := 0, endPc := 8, handlerPc := 11, catchType := 21 } [] htb (fun z hz => absurd hz List.not_mem_nil) (by decide) (by decide) (hts _ (.tail _ qA_952)) (hX.use (.castable xISE xISE) (by decide +kernel)) hce hcv hcl ?_
    refine lv_astore_n (lv' := [(2, .ref q9), (0, .ref (ad o)), (1, .ref ao)]) hx hb dL_peaks_11 rfl hl (by decide) rfl (fun ls hl => ?_)
    refine lv_iconst (v := 1) hx hb dL_peaks_12 (by decide) ?_
    refine W.widen (k := T1.1 - T.1 + 1) (n := sg T1 - sg T + 6) (by omega) (by omega) ?_
    exact W.iret (v := 1) hx hb hr (fun t ht hW => ⟨⟨1, ad2, rfl, ⟨rfl, had⟩, ⟨by rw [ht]; exact G.1, va_K.moved hW.alike hK, G.2.1⟩⟩, G.2.2.F ht⟩) G.2.2.2.2 dL_peaks_13
  · exact absurd (cd_g_X11_peaks (S := [0, 1]) (fun _ h => h) T o _ _ _ h) (by decide)
  · have q := (cd_g_X11_peaks (S := [0, 1]) (fun _ h => h) T o _ _ _ h)
    simp only [List.mem_cons, List.not_mem_nil, or_false] at q
    omega
theorem v_peaks (l : Launch) (hst : l.stackTraces = false) (D : va_G) {cI cJ cZ cMic cSrc cSt cAI cAJ cD : ClassId} (h0 : Nat) (ad : Nat → Nat) (T : AT) (o : Nat) (ao : Nat) (f : Nat → Int64) {k1 : Nat} {r1 : Int32} {T1 : AT} (h : g_X11_peaks T o = some (k1, r1, T1)) (hrc : RC T) (h_o : o < T.1) (h_s : T.2.1 o = (11, 0)) : tWi l yL_peaks (Cond.codeWith yL_peaks cL_peaks 3 (some .int) [(0, 8, 11, 21)] :: wsA) 8 169 cI cJ cZ cMic cSrc cSt cAI cAJ cD D h0 ad T (oJ ao cJ f) [.ref (ad o), .ref ao] (vck 1 0 0 k1) T1 (oJ ao cJ (vfJ k1 f r1.toInt64)) := by
  cases k1 with
  | zero => exact v_peaks_n l hst D h0 ad T o  ao f h hrc h_o h_s
  | succ e1 => exact v_peaks_t l hst D h0 ad T o  ao f h hrc h_o h_s
set_option maxHeartbeats 4000000 in
set_option maxRecDepth 100000 in
theorem v_peakAt_n (l : Launch) (hst : l.stackTraces = false) (D : va_G) {cI cJ cZ cMic cSrc cSt cAI cAJ cD : ClassId} (h0 : Nat) (ad : Nat → Nat) (T : AT) (o : Nat) (a0 : Int32) (ao : Nat) (f : Nat → Int64) {r1 : Int32} {T1 : AT} (h : g_X11_peakAt T o a0 = some (0, r1, T1)) (hrc : RC T) (h_o : o < T.1) (h_s : T.2.1 o = (11, 0)) : tWi l yL_peakAt (Cond.codeWith yL_peakAt cL_peakAt 4 (some .int) [(0, 9, 12, 21), (0, 9, 15, 13)] :: wsA) 8 171 cI cJ cZ cMic cSrc cSt cAI cAJ cD D h0 ad T (oJ ao cJ f) [.ref (ad o), .int a0, .ref ao] (vck 1 2 0 (0)) T1 (oJ ao cJ (vfJ (0) f r1.toInt64)) := by
  intro sz
  refine pro_inW (cc := cL_peakAt) (maxL := 4) (ret := some .int) (by exact pn_RL) rfl (by exact Nat.le_of_ble_eq_true rfl) (fun p e s m below meth c ls hx hb hr hts hown hlocks htb hml hv hl => ?_)
  obtain ⟨hsz, hP, hK, hD0, hX, hN, hA0, hTS⟩ := hv
  subst hsz
  have hD := hD0.self (sz := s.heap.size)
  generalize hAe : va_A (cW ad T.1 (cc cI cJ cZ cMic cSrc cSt cAI cAJ ad T) ++ [oJ ao cJ f]) s.heap.size = A at hD hX hA0 ⊢
  have hA : ∀ q : Nat, s.heap.size ≤ q → A q := fun q h => by rw [← hAe]; exact Or.inr h
  have G : gL cI cJ cZ cMic cSrc cSt cAI cAJ D ad A s.heap s.heap [] T [oJ ao cJ f] := ⟨hP, hD, va_S.rf⟩
  have E : cE p c cL_peakAt s m ([.ref (ad o), .int a0, .ref ao] : List Value).toArray (Cond.codeWith yL_peakAt cL_peakAt 4 (some .int) [(0, 9, 12, 21), (0, 9, 15, 13)] :: wsA) D RL (CT cI cJ cZ cMic cSrc cSt cAI cAJ ++ [(cD, .double)]) := ⟨hx, hb, hts, hown, hK⟩
  have hl : lv_has ls 4 [(0, .ref (ad o)), (1, .int a0), (2, .ref ao)] := hl
  refine lv_aload_n hx hb dL_peakAt_0 rfl (lv_at hl 2 rfl) ?_
  refine lv_iconst (v := 0) hx hb dL_peakAt_1 (by decide) ?_
  refine lv_aload_n hx hb dL_peakAt_2 rfl (lv_at hl 0 rfl) ?_
  refine lv_iload_n hx hb dL_peakAt_3 rfl (lv_at hl 1 rfl) ?_
  refine t_avi (As := [.int a0]) (rest := [.int 0, .ref ao]) E G hA hX hX.2.2.2.1 hml (a_X11_peakAt l hst D cI cJ cZ cMic cSrc cSt cAI cAJ ad T o a0 h hrc h_o) (cwV 1 hts (gaV qA_1025 qA_1026 qA_1027 qA_131 qA_822) rfl rfl rfl (by decide +kernel) ⟨Nat.le_of_ble_eq_true rfl, Nat.le_of_ble_eq_true rfl⟩) h_o (cc_o11 h_s) rfl rfl hl.1 rfl (lv_room (Nat.le_of_ble_eq_true rfl)) dL_peakAt_4 ⟨by show 0 + (T1.1 - T.1) ≤ T1.1 - T.1 + 1; omega, by show 0 + (sg T1 - sg T) ≤ sg T1 - sg T + 6; omega⟩ ?_
  intro ad2 H locs had G
  refine lv_i2l (v := r1.toInt64) hx hb dL_peakAt_7 rfl ?_
  refine t_last E G dL_peakAt_8 (fun H locs G => ?_)
  refine lv_goto (tgt := 18) hx hb dL_peakAt_9 (by decide) ?_
  refine lv_iconst (v := 0) hx hb dL_peakAt_18 (by decide) ?_
  refine W.widen (k := T1.1 - T.1 + 1) (n := sg T1 - sg T + 6) (by omega) (by omega) ?_
  exact W.iret (v := 0) hx hb hr (fun t ht hW => ⟨⟨0, ad2, rfl, ⟨rfl, had⟩, ⟨by rw [ht]; exact G.1, va_K.moved hW.alike hK, G.2.1⟩⟩, G.2.2.F ht⟩) G.2.2.2.2 dL_peakAt_19
set_option maxHeartbeats 4000000 in
set_option maxRecDepth 100000 in
theorem v_peakAt_t (l : Launch) (hst : l.stackTraces = false) (D : va_G) {cI cJ cZ cMic cSrc cSt cAI cAJ cD : ClassId} (h0 : Nat) (ad : Nat → Nat) (T : AT) (o : Nat) (a0 : Int32) (ao : Nat) (f : Nat → Int64) {e1 : Nat} {r1 : Int32} {T1 : AT} (h : g_X11_peakAt T o a0 = some (e1 + 1, r1, T1)) (hrc : RC T) (h_o : o < T.1) (h_s : T.2.1 o = (11, 0)) : tWi l yL_peakAt (Cond.codeWith yL_peakAt cL_peakAt 4 (some .int) [(0, 9, 12, 21), (0, 9, 15, 13)] :: wsA) 8 171 cI cJ cZ cMic cSrc cSt cAI cAJ cD D h0 ad T (oJ ao cJ f) [.ref (ad o), .int a0, .ref ao] (vck 1 2 0 (e1 + 1)) T1 (oJ ao cJ (vfJ (e1 + 1) f r1.toInt64)) := by
  intro sz
  refine pro_inW (cc := cL_peakAt) (maxL := 4) (ret := some .int) (by exact pn_RL) rfl (by exact Nat.le_of_ble_eq_true rfl) (fun p e s m below meth c ls hx hb hr hts hown hlocks htb hml hv hl => ?_)
  obtain ⟨hsz, hP, hK, hD0, hX, hN, hA0, hTS⟩ := hv
  subst hsz
  have hD := hD0.self (sz := s.heap.size)
  generalize hAe : va_A (cW ad T.1 (cc cI cJ cZ cMic cSrc cSt cAI cAJ ad T) ++ [oJ ao cJ f]) s.heap.size = A at hD hX hA0 ⊢
  have hA : ∀ q : Nat, s.heap.size ≤ q → A q := fun q h => by rw [← hAe]; exact Or.inr h
  have G : gL cI cJ cZ cMic cSrc cSt cAI cAJ D ad A s.heap s.heap [] T [oJ ao cJ f] := ⟨hP, hD, va_S.rf⟩
  have E : cE p c cL_peakAt s m ([.ref (ad o), .int a0, .ref ao] : List Value).toArray (Cond.codeWith yL_peakAt cL_peakAt 4 (some .int) [(0, 9, 12, 21), (0, 9, 15, 13)] :: wsA) D RL (CT cI cJ cZ cMic cSrc cSt cAI cAJ ++ [(cD, .double)]) := ⟨hx, hb, hts, hown, hK⟩
  have hl : lv_has ls 4 [(0, .ref (ad o)), (1, .int a0), (2, .ref ao)] := hl
  refine lv_aload_n hx hb dL_peakAt_0 rfl (lv_at hl 2 rfl) ?_
  refine lv_iconst (v := 0) hx hb dL_peakAt_1 (by decide) ?_
  refine lv_aload_n hx hb dL_peakAt_2 rfl (lv_at hl 0 rfl) ?_
  refine lv_iload_n hx hb dL_peakAt_3 rfl (lv_at hl 1 rfl) ?_
  refine t_bvi (As := [.int a0]) (rest := [.int 0, .ref ao]) E G hA hX hX.2.2.2.1 hml (b_X11_peakAt l hst D cI cJ cZ cMic cSrc cSt cAI cAJ ad T o a0 h hrc h_o) (cwV 1 hts (gaV qA_1025 qA_1026 qA_1027 qA_131 qA_822) rfl rfl rfl (by decide +kernel) ⟨Nat.le_of_ble_eq_true rfl, Nat.le_of_ble_eq_true rfl⟩) h_o (cc_o11 h_s) rfl rfl hl.1 rfl (lv_room (Nat.le_of_ble_eq_true rfl)) dL_peakAt_4 ⟨by show 0 + (T1.1 - T.1 + 1) ≤ T1.1 - T.1 + 1; omega, by show 0 + (sg T1 - sg T + 6) ≤ sg T1 - sg T + 6; omega⟩ ?_
  intro E9 ce q9 ad2 H locs hE had G hce hcv hcl
  rcases e1 with _ | _ | e1
  · have hE : E9 = xISE := hE
    subst hE
    refine vx_catch (name := xISE) hown [] { startPc := 0, endPc := 9, handlerPc := 12, catchType := 21 } [{ startPc := 0, endPc := 9, handlerPc := 15, catchType := 13 }] htb (fun z hz => absurd hz List.not_mem_nil) (by decide) (by decide) (hts _ (.tail _ qA_952)) (hX.use (.castable xISE xISE) (by decide +kernel)) hce hcv hcl ?_
    refine lv_astore_n (lv' := [(3, .ref q9), (0, .ref (ad o)), (1, .int a0), (2, .ref ao)]) hx hb dL_peakAt_12 rfl hl (by decide) rfl (fun ls hl => ?_)
    refine lv_iconst (v := 1) hx hb dL_peakAt_13 (by decide) ?_
    refine W.widen (k := T1.1 - T.1 + 1) (n := sg T1 - sg T + 6) (by omega) (by omega) ?_
    exact W.iret (v := 1) hx hb hr (fun t ht hW => ⟨⟨1, ad2, rfl, ⟨rfl, had⟩, ⟨by rw [ht]; exact G.1, va_K.moved hW.alike hK, G.2.1⟩⟩, G.2.2.F ht⟩) G.2.2.2.2 dL_peakAt_14
  · have hE : E9 = xIOB := hE
    subst hE
    refine vx_catch (name := xIOB) hown [{ startPc := 0, endPc := 9, handlerPc := 12, catchType := 21 }] { startPc := 0, endPc := 9, handlerPc := 15, catchType := 13 } [] htb (List.forall_mem_cons.mpr ⟨Or.inr ⟨by decide, xISE, hts _ (.tail _ qA_952), hN.2.2.1⟩, fun z hz => absurd hz List.not_mem_nil⟩) (by decide) (by decide) (hts _ (.tail _ qA_946)) (hX.use (.castable xIOB xIOB) (by decide +kernel)) hce hcv hcl ?_
    refine lv_astore_n (lv' := [(3, .ref q9), (0, .ref (ad o)), (1, .int a0), (2, .ref ao)]) hx hb dL_peakAt_15 rfl hl (by decide) rfl (fun ls hl => ?_)
    refine lv_iconst (v := 2) hx hb dL_peakAt_16 (by decide) ?_
    refine W.widen (k := T1.1 - T.1 + 1) (n := sg T1 - sg T + 6) (by omega) (by omega) ?_
    exact W.iret (v := 2) hx hb hr (fun t ht hW => ⟨⟨2, ad2, rfl, ⟨rfl, had⟩, ⟨by rw [ht]; exact G.1, va_K.moved hW.alike hK, G.2.1⟩⟩, G.2.2.F ht⟩) G.2.2.2.2 dL_peakAt_17
  · have q := (cd_g_X11_peakAt (S := [0, 1, 2]) (fun _ h => h) T o a0 _ _ _ h)
    simp only [List.mem_cons, List.not_mem_nil, or_false] at q
    omega
theorem v_peakAt (l : Launch) (hst : l.stackTraces = false) (D : va_G) {cI cJ cZ cMic cSrc cSt cAI cAJ cD : ClassId} (h0 : Nat) (ad : Nat → Nat) (T : AT) (o : Nat) (a0 : Int32) (ao : Nat) (f : Nat → Int64) {k1 : Nat} {r1 : Int32} {T1 : AT} (h : g_X11_peakAt T o a0 = some (k1, r1, T1)) (hrc : RC T) (h_o : o < T.1) (h_s : T.2.1 o = (11, 0)) : tWi l yL_peakAt (Cond.codeWith yL_peakAt cL_peakAt 4 (some .int) [(0, 9, 12, 21), (0, 9, 15, 13)] :: wsA) 8 171 cI cJ cZ cMic cSrc cSt cAI cAJ cD D h0 ad T (oJ ao cJ f) [.ref (ad o), .int a0, .ref ao] (vck 1 2 0 k1) T1 (oJ ao cJ (vfJ k1 f r1.toInt64)) := by
  cases k1 with
  | zero => exact v_peakAt_n l hst D h0 ad T o a0 ao f h hrc h_o h_s
  | succ e1 => exact v_peakAt_t l hst D h0 ad T o a0 ao f h hrc h_o h_s
set_option maxHeartbeats 4000000 in
set_option maxRecDepth 100000 in
theorem v_isPeak_n (l : Launch) (hst : l.stackTraces = false) (D : va_G) {cI cJ cZ cMic cSrc cSt cAI cAJ cD : ClassId} (h0 : Nat) (ad : Nat → Nat) (T : AT) (o : Nat) (a0 : Int32) (ao : Nat) (f : Nat → Int64) {r1 : Int32} {T1 : AT} (h : g_X11_isPeak T o a0 = some (0, r1, T1)) (hrc : RC T) (h_o : o < T.1) (h_s : T.2.1 o = (11, 0)) : tWi l yL_isPeak (Cond.codeWith yL_isPeak cL_isPeak 4 (some .int) [(0, 16, 19, 21), (0, 16, 22, 13)] :: wsA) 9 170 cI cJ cZ cMic cSrc cSt cAI cAJ cD D h0 ad T (oJ ao cJ f) [.ref (ad o), .int a0, .ref ao] (vck 1 2 0 (0)) T1 (oJ ao cJ (vfJ (0) f (vzb r1))) := by
  intro sz
  refine pro_inW (cc := cL_isPeak) (maxL := 4) (ret := some .int) (by exact pn_RL) rfl (by exact Nat.le_of_ble_eq_true rfl) (fun p e s m below meth c ls hx hb hr hts hown hlocks htb hml hv hl => ?_)
  obtain ⟨hsz, hP, hK, hD0, hX, hN, hA0, hTS⟩ := hv
  subst hsz
  have hD := hD0.self (sz := s.heap.size)
  generalize hAe : va_A (cW ad T.1 (cc cI cJ cZ cMic cSrc cSt cAI cAJ ad T) ++ [oJ ao cJ f]) s.heap.size = A at hD hX hA0 ⊢
  have hA : ∀ q : Nat, s.heap.size ≤ q → A q := fun q h => by rw [← hAe]; exact Or.inr h
  have G : gL cI cJ cZ cMic cSrc cSt cAI cAJ D ad A s.heap s.heap [] T [oJ ao cJ f] := ⟨hP, hD, va_S.rf⟩
  have E : cE p c cL_isPeak s m ([.ref (ad o), .int a0, .ref ao] : List Value).toArray (Cond.codeWith yL_isPeak cL_isPeak 4 (some .int) [(0, 16, 19, 21), (0, 16, 22, 13)] :: wsA) D RL (CT cI cJ cZ cMic cSrc cSt cAI cAJ ++ [(cD, .double)]) := ⟨hx, hb, hts, hown, hK⟩
  have hl : lv_has ls 4 [(0, .ref (ad o)), (1, .int a0), (2, .ref ao)] := hl
  refine lv_aload_n hx hb dL_isPeak_0 rfl (lv_at hl 2 rfl) ?_
  refine lv_iconst (v := 0) hx hb dL_isPeak_1 (by decide) ?_
  refine lv_aload_n hx hb dL_isPeak_2 rfl (lv_at hl 0 rfl) ?_
  refine lv_iload_n hx hb dL_isPeak_3 rfl (lv_at hl 1 rfl) ?_
  refine t_avi (As := [.int a0]) (rest := [.int 0, .ref ao]) E G hA hX hX.2.2.2.1 hml (a_X11_isPeak l hst D cI cJ cZ cMic cSrc cSt cAI cAJ ad T o a0 h hrc h_o) (cwV 1 hts (gaV qA_1029 qA_1030 qA_1031 qA_131 qA_826) rfl rfl rfl (by decide +kernel) ⟨Nat.le_of_ble_eq_true rfl, Nat.le_of_ble_eq_true rfl⟩) h_o (cc_o11 h_s) rfl rfl hl.1 rfl (lv_room (Nat.le_of_ble_eq_true rfl)) dL_isPeak_4 ⟨by show 0 + (T1.1 - T.1) ≤ T1.1 - T.1 + 1; omega, by show 0 + (sg T1 - sg T) ≤ sg T1 - sg T + 6; omega⟩ ?_
  intro ad2 H locs had G
  refine lv_if_eq (tgt := 14) hx hb dL_isPeak_7 (by decide) (fun c1 => ?_) (fun c1 => ?_)
  · refine lv_lconst (v := vzb r1) hx hb dL_isPeak_14 (by rw [vzb, if_pos c1]; rfl) ?_
    refine t_last E G dL_isPeak_15 (fun H locs G => ?_)
    refine lv_goto (tgt := 25) hx hb dL_isPeak_16 (by decide) ?_
    refine lv_iconst (v := 0) hx hb dL_isPeak_25 (by decide) ?_
    refine W.widen (k := T1.1 - T.1 + 1) (n := sg T1 - sg T + 6) (by omega) (by omega) ?_
    exact W.iret (v := 0) hx hb hr (fun t ht hW => ⟨⟨0, ad2, rfl, ⟨rfl, had⟩, ⟨by rw [ht]; exact G.1, va_K.moved hW.alike hK, G.2.1⟩⟩, G.2.2.F ht⟩) G.2.2.2.2 dL_isPeak_26
  · refine lv_lconst (v := vzb r1) hx hb dL_isPeak_10 (by rw [vzb, if_neg c1]; rfl) ?_
    refine lv_goto (tgt := 15) hx hb dL_isPeak_11 (by decide) ?_
    refine t_last E G dL_isPeak_15 (fun H locs G => ?_)
    refine lv_goto (tgt := 25) hx hb dL_isPeak_16 (by decide) ?_
    refine lv_iconst (v := 0) hx hb dL_isPeak_25 (by decide) ?_
    refine W.widen (k := T1.1 - T.1 + 1) (n := sg T1 - sg T + 6) (by omega) (by omega) ?_
    exact W.iret (v := 0) hx hb hr (fun t ht hW => ⟨⟨0, ad2, rfl, ⟨rfl, had⟩, ⟨by rw [ht]; exact G.1, va_K.moved hW.alike hK, G.2.1⟩⟩, G.2.2.F ht⟩) G.2.2.2.2 dL_isPeak_26
set_option maxHeartbeats 4000000 in
set_option maxRecDepth 100000 in
theorem v_isPeak_t (l : Launch) (hst : l.stackTraces = false) (D : va_G) {cI cJ cZ cMic cSrc cSt cAI cAJ cD : ClassId} (h0 : Nat) (ad : Nat → Nat) (T : AT) (o : Nat) (a0 : Int32) (ao : Nat) (f : Nat → Int64) {e1 : Nat} {r1 : Int32} {T1 : AT} (h : g_X11_isPeak T o a0 = some (e1 + 1, r1, T1)) (hrc : RC T) (h_o : o < T.1) (h_s : T.2.1 o = (11, 0)) : tWi l yL_isPeak (Cond.codeWith yL_isPeak cL_isPeak 4 (some .int) [(0, 16, 19, 21), (0, 16, 22, 13)] :: wsA) 9 170 cI cJ cZ cMic cSrc cSt cAI cAJ cD D h0 ad T (oJ ao cJ f) [.ref (ad o), .int a0, .ref ao] (vck 1 2 0 (e1 + 1)) T1 (oJ ao cJ (vfJ (e1 + 1) f (vzb r1))) := by
  intro sz
  refine pro_inW (cc := cL_isPeak) (maxL := 4) (ret := some .int) (by exact pn_RL) rfl (by exact Nat.le_of_ble_eq_true rfl) (fun p e s m below meth c ls hx hb hr hts hown hlocks htb hml hv hl => ?_)
  obtain ⟨hsz, hP, hK, hD0, hX, hN, hA0, hTS⟩ := hv
  subst hsz
  have hD := hD0.self (sz := s.heap.size)
  generalize hAe : va_A (cW ad T.1 (cc cI cJ cZ cMic cSrc cSt cAI cAJ ad T) ++ [oJ ao cJ f]) s.heap.size = A at hD hX hA0 ⊢
  have hA : ∀ q : Nat, s.heap.size ≤ q → A q := fun q h => by rw [← hAe]; exact Or.inr h
  have G : gL cI cJ cZ cMic cSrc cSt cAI cAJ D ad A s.heap s.heap [] T [oJ ao cJ f] := ⟨hP, hD, va_S.rf⟩
  have E : cE p c cL_isPeak s m ([.ref (ad o), .int a0, .ref ao] : List Value).toArray (Cond.codeWith yL_isPeak cL_isPeak 4 (some .int) [(0, 16, 19, 21), (0, 16, 22, 13)] :: wsA) D RL (CT cI cJ cZ cMic cSrc cSt cAI cAJ ++ [(cD, .double)]) := ⟨hx, hb, hts, hown, hK⟩
  have hl : lv_has ls 4 [(0, .ref (ad o)), (1, .int a0), (2, .ref ao)] := hl
  refine lv_aload_n hx hb dL_isPeak_0 rfl (lv_at hl 2 rfl) ?_
  refine lv_iconst (v := 0) hx hb dL_isPeak_1 (by decide) ?_
  refine lv_aload_n hx hb dL_isPeak_2 rfl (lv_at hl 0 rfl) ?_
  refine lv_iload_n hx hb dL_isPeak_3 rfl (lv_at hl 1 rfl) ?_
  refine t_bvi (As := [.int a0]) (rest := [.int 0, .ref ao]) E G hA hX hX.2.2.2.1 hml (b_X11_isPeak l hst D cI cJ cZ cMic cSrc cSt cAI cAJ ad T o a0 h hrc h_o) (cwV 1 hts (gaV qA_1029 qA_1030 qA_1031 qA_131 qA_826) rfl rfl rfl (by decide +kernel) ⟨Nat.le_of_ble_eq_true rfl, Nat.le_of_ble_eq_true rfl⟩) h_o (cc_o11 h_s) rfl rfl hl.1 rfl (lv_room (Nat.le_of_ble_eq_true rfl)) dL_isPeak_4 ⟨by show 0 + (T1.1 - T.1 + 1) ≤ T1.1 - T.1 + 1; omega, by show 0 + (sg T1 - sg T + 6) ≤ sg T1 - sg T + 6; omega⟩ ?_
  intro E9 ce q9 ad2 H locs hE had G hce hcv hcl
  rcases e1 with _ | _ | e1
  · have hE : E9 = xISE := hE
    subst hE
    refine vx_catch (name := xISE) hown [] { startPc := 0, endPc := 16, handlerPc := 19, catchType := 21 } [{ startPc := 0, endPc := 16, handlerPc := 22, catchType := 13 }] htb (fun z hz => absurd hz List.not_mem_nil) (by decide) (by decide) (hts _ (.tail _ qA_952)) (hX.use (.castable xISE xISE) (by decide +kernel)) hce hcv hcl ?_
    refine lv_astore_n (lv' := [(3, .ref q9), (0, .ref (ad o)), (1, .int a0), (2, .ref ao)]) hx hb dL_isPeak_19 rfl hl (by decide) rfl (fun ls hl => ?_)
    refine lv_iconst (v := 1) hx hb dL_isPeak_20 (by decide) ?_
    refine W.widen (k := T1.1 - T.1 + 1) (n := sg T1 - sg T + 6) (by omega) (by omega) ?_
    exact W.iret (v := 1) hx hb hr (fun t ht hW => ⟨⟨1, ad2, rfl, ⟨rfl, had⟩, ⟨by rw [ht]; exact G.1, va_K.moved hW.alike hK, G.2.1⟩⟩, G.2.2.F ht⟩) G.2.2.2.2 dL_isPeak_21
  · have hE : E9 = xIOB := hE
    subst hE
    refine vx_catch (name := xIOB) hown [{ startPc := 0, endPc := 16, handlerPc := 19, catchType := 21 }] { startPc := 0, endPc := 16, handlerPc := 22, catchType := 13 } [] htb (List.forall_mem_cons.mpr ⟨Or.inr ⟨by decide, xISE, hts _ (.tail _ qA_952), hN.2.2.1⟩, fun z hz => absurd hz List.not_mem_nil⟩) (by decide) (by decide) (hts _ (.tail _ qA_946)) (hX.use (.castable xIOB xIOB) (by decide +kernel)) hce hcv hcl ?_
    refine lv_astore_n (lv' := [(3, .ref q9), (0, .ref (ad o)), (1, .int a0), (2, .ref ao)]) hx hb dL_isPeak_22 rfl hl (by decide) rfl (fun ls hl => ?_)
    refine lv_iconst (v := 2) hx hb dL_isPeak_23 (by decide) ?_
    refine W.widen (k := T1.1 - T.1 + 1) (n := sg T1 - sg T + 6) (by omega) (by omega) ?_
    exact W.iret (v := 2) hx hb hr (fun t ht hW => ⟨⟨2, ad2, rfl, ⟨rfl, had⟩, ⟨by rw [ht]; exact G.1, va_K.moved hW.alike hK, G.2.1⟩⟩, G.2.2.F ht⟩) G.2.2.2.2 dL_isPeak_24
  · have q := (cd_g_X11_isPeak (S := [0, 1, 2]) (fun _ h => h) T o a0 _ _ _ h)
    simp only [List.mem_cons, List.not_mem_nil, or_false] at q
    omega
theorem v_isPeak (l : Launch) (hst : l.stackTraces = false) (D : va_G) {cI cJ cZ cMic cSrc cSt cAI cAJ cD : ClassId} (h0 : Nat) (ad : Nat → Nat) (T : AT) (o : Nat) (a0 : Int32) (ao : Nat) (f : Nat → Int64) {k1 : Nat} {r1 : Int32} {T1 : AT} (h : g_X11_isPeak T o a0 = some (k1, r1, T1)) (hrc : RC T) (h_o : o < T.1) (h_s : T.2.1 o = (11, 0)) : tWi l yL_isPeak (Cond.codeWith yL_isPeak cL_isPeak 4 (some .int) [(0, 16, 19, 21), (0, 16, 22, 13)] :: wsA) 9 170 cI cJ cZ cMic cSrc cSt cAI cAJ cD D h0 ad T (oJ ao cJ f) [.ref (ad o), .int a0, .ref ao] (vck 1 2 0 k1) T1 (oJ ao cJ (vfJ k1 f (vzb r1))) := by
  cases k1 with
  | zero => exact v_isPeak_n l hst D h0 ad T o a0 ao f h hrc h_o h_s
  | succ e1 => exact v_isPeak_t l hst D h0 ad T o a0 ao f h hrc h_o h_s
set_option maxHeartbeats 4000000 in
set_option maxRecDepth 100000 in
theorem v_zonePower_n (l : Launch) (hst : l.stackTraces = false) (D : va_G) {cI cJ cZ cMic cSrc cSt cAI cAJ cD : ClassId} (h0 : Nat) (ad : Nat → Nat) (T : AT) (o : Nat) (a0 : Int32) (ao : Nat) (f : Nat → Int64) {r1 : Int64} {T1 : AT} (h : g_X11_zonePower T o a0 = some (0, r1, T1)) (hrc : RC T) (h_o : o < T.1) (h_s : T.2.1 o = (11, 0)) : tWi l yL_zonePower (Cond.codeWith yL_zonePower cL_zonePower 4 (some .int) [(0, 8, 11, 21), (0, 8, 14, 13)] :: wsA) 8 170 cI cJ cZ cMic cSrc cSt cAI cAJ cD D h0 ad T (oJ ao cJ f) [.ref (ad o), .int a0, .ref ao] (vck 1 2 0 (0)) T1 (oJ ao cJ (vfJ (0) f r1)) := by
  intro sz
  refine pro_inW (cc := cL_zonePower) (maxL := 4) (ret := some .int) (by exact pn_RL) rfl (by exact Nat.le_of_ble_eq_true rfl) (fun p e s m below meth c ls hx hb hr hts hown hlocks htb hml hv hl => ?_)
  obtain ⟨hsz, hP, hK, hD0, hX, hN, hA0, hTS⟩ := hv
  subst hsz
  have hD := hD0.self (sz := s.heap.size)
  generalize hAe : va_A (cW ad T.1 (cc cI cJ cZ cMic cSrc cSt cAI cAJ ad T) ++ [oJ ao cJ f]) s.heap.size = A at hD hX hA0 ⊢
  have hA : ∀ q : Nat, s.heap.size ≤ q → A q := fun q h => by rw [← hAe]; exact Or.inr h
  have G : gL cI cJ cZ cMic cSrc cSt cAI cAJ D ad A s.heap s.heap [] T [oJ ao cJ f] := ⟨hP, hD, va_S.rf⟩
  have E : cE p c cL_zonePower s m ([.ref (ad o), .int a0, .ref ao] : List Value).toArray (Cond.codeWith yL_zonePower cL_zonePower 4 (some .int) [(0, 8, 11, 21), (0, 8, 14, 13)] :: wsA) D RL (CT cI cJ cZ cMic cSrc cSt cAI cAJ ++ [(cD, .double)]) := ⟨hx, hb, hts, hown, hK⟩
  have hl : lv_has ls 4 [(0, .ref (ad o)), (1, .int a0), (2, .ref ao)] := hl
  refine lv_aload_n hx hb dL_zonePower_0 rfl (lv_at hl 2 rfl) ?_
  refine lv_iconst (v := 0) hx hb dL_zonePower_1 (by decide) ?_
  refine lv_aload_n hx hb dL_zonePower_2 rfl (lv_at hl 0 rfl) ?_
  refine lv_iload_n hx hb dL_zonePower_3 rfl (lv_at hl 1 rfl) ?_
  refine t_avl (As := [.int a0]) (rest := [.int 0, .ref ao]) E G hA hX hX.2.2.2.1 hml (a_X11_zonePower l hst D cI cJ cZ cMic cSrc cSt cAI cAJ ad T o a0 h hrc h_o) (cwV 1 hts (gaV qA_1033 qA_1034 qA_1035 qA_131 qA_828) rfl rfl rfl (by decide +kernel) ⟨Nat.le_of_ble_eq_true rfl, Nat.le_of_ble_eq_true rfl⟩) h_o (cc_o11 h_s) rfl rfl hl.1 rfl (lv_room (Nat.le_of_ble_eq_true rfl)) dL_zonePower_4 ⟨by show 0 + (T1.1 - T.1) ≤ T1.1 - T.1 + 1; omega, by show 0 + (sg T1 - sg T) ≤ sg T1 - sg T + 6; omega⟩ ?_
  intro ad2 H locs had G
  refine t_last E G dL_zonePower_7 (fun H locs G => ?_)
  refine lv_goto (tgt := 17) hx hb dL_zonePower_8 (by decide) ?_
  refine lv_iconst (v := 0) hx hb dL_zonePower_17 (by decide) ?_
  refine W.widen (k := T1.1 - T.1 + 1) (n := sg T1 - sg T + 6) (by omega) (by omega) ?_
  exact W.iret (v := 0) hx hb hr (fun t ht hW => ⟨⟨0, ad2, rfl, ⟨rfl, had⟩, ⟨by rw [ht]; exact G.1, va_K.moved hW.alike hK, G.2.1⟩⟩, G.2.2.F ht⟩) G.2.2.2.2 dL_zonePower_18
set_option maxHeartbeats 4000000 in
set_option maxRecDepth 100000 in
theorem v_zonePower_t (l : Launch) (hst : l.stackTraces = false) (D : va_G) {cI cJ cZ cMic cSrc cSt cAI cAJ cD : ClassId} (h0 : Nat) (ad : Nat → Nat) (T : AT) (o : Nat) (a0 : Int32) (ao : Nat) (f : Nat → Int64) {e1 : Nat} {r1 : Int64} {T1 : AT} (h : g_X11_zonePower T o a0 = some (e1 + 1, r1, T1)) (hrc : RC T) (h_o : o < T.1) (h_s : T.2.1 o = (11, 0)) : tWi l yL_zonePower (Cond.codeWith yL_zonePower cL_zonePower 4 (some .int) [(0, 8, 11, 21), (0, 8, 14, 13)] :: wsA) 8 170 cI cJ cZ cMic cSrc cSt cAI cAJ cD D h0 ad T (oJ ao cJ f) [.ref (ad o), .int a0, .ref ao] (vck 1 2 0 (e1 + 1)) T1 (oJ ao cJ (vfJ (e1 + 1) f r1)) := by
  intro sz
  refine pro_inW (cc := cL_zonePower) (maxL := 4) (ret := some .int) (by exact pn_RL) rfl (by exact Nat.le_of_ble_eq_true rfl) (fun p e s m below meth c ls hx hb hr hts hown hlocks htb hml hv hl => ?_)
  obtain ⟨hsz, hP, hK, hD0, hX, hN, hA0, hTS⟩ := hv
  subst hsz
  have hD := hD0.self (sz := s.heap.size)
  generalize hAe : va_A (cW ad T.1 (cc cI cJ cZ cMic cSrc cSt cAI cAJ ad T) ++ [oJ ao cJ f]) s.heap.size = A at hD hX hA0 ⊢
  have hA : ∀ q : Nat, s.heap.size ≤ q → A q := fun q h => by rw [← hAe]; exact Or.inr h
  have G : gL cI cJ cZ cMic cSrc cSt cAI cAJ D ad A s.heap s.heap [] T [oJ ao cJ f] := ⟨hP, hD, va_S.rf⟩
  have E : cE p c cL_zonePower s m ([.ref (ad o), .int a0, .ref ao] : List Value).toArray (Cond.codeWith yL_zonePower cL_zonePower 4 (some .int) [(0, 8, 11, 21), (0, 8, 14, 13)] :: wsA) D RL (CT cI cJ cZ cMic cSrc cSt cAI cAJ ++ [(cD, .double)]) := ⟨hx, hb, hts, hown, hK⟩
  have hl : lv_has ls 4 [(0, .ref (ad o)), (1, .int a0), (2, .ref ao)] := hl
  refine lv_aload_n hx hb dL_zonePower_0 rfl (lv_at hl 2 rfl) ?_
  refine lv_iconst (v := 0) hx hb dL_zonePower_1 (by decide) ?_
  refine lv_aload_n hx hb dL_zonePower_2 rfl (lv_at hl 0 rfl) ?_
  refine lv_iload_n hx hb dL_zonePower_3 rfl (lv_at hl 1 rfl) ?_
  refine t_bvl (As := [.int a0]) (rest := [.int 0, .ref ao]) E G hA hX hX.2.2.2.1 hml (b_X11_zonePower l hst D cI cJ cZ cMic cSrc cSt cAI cAJ ad T o a0 h hrc h_o) (cwV 1 hts (gaV qA_1033 qA_1034 qA_1035 qA_131 qA_828) rfl rfl rfl (by decide +kernel) ⟨Nat.le_of_ble_eq_true rfl, Nat.le_of_ble_eq_true rfl⟩) h_o (cc_o11 h_s) rfl rfl hl.1 rfl (lv_room (Nat.le_of_ble_eq_true rfl)) dL_zonePower_4 ⟨by show 0 + (T1.1 - T.1 + 1) ≤ T1.1 - T.1 + 1; omega, by show 0 + (sg T1 - sg T + 6) ≤ sg T1 - sg T + 6; omega⟩ ?_
  intro E9 ce q9 ad2 H locs hE had G hce hcv hcl
  rcases e1 with _ | _ | e1
  · have hE : E9 = xISE := hE
    subst hE
    refine vx_catch (name := xISE) hown [] { startPc := 0, endPc := 8, handlerPc := 11, catchType := 21 } [{ startPc := 0, endPc := 8, handlerPc := 14, catchType := 13 }] htb (fun z hz => absurd hz List.not_mem_nil) (by decide) (by decide) (hts _ (.tail _ qA_952)) (hX.use (.castable xISE xISE) (by decide +kernel)) hce hcv hcl ?_
    refine lv_astore_n (lv' := [(3, .ref q9), (0, .ref (ad o)), (1, .int a0), (2, .ref ao)]) hx hb dL_zonePower_11 rfl hl (by decide) rfl (fun ls hl => ?_)
    refine lv_iconst (v := 1) hx hb dL_zonePower_12 (by decide) ?_
    refine W.widen (k := T1.1 - T.1 + 1) (n := sg T1 - sg T + 6) (by omega) (by omega) ?_
    exact W.iret (v := 1) hx hb hr (fun t ht hW => ⟨⟨1, ad2, rfl, ⟨rfl, had⟩, ⟨by rw [ht]; exact G.1, va_K.moved hW.alike hK, G.2.1⟩⟩, G.2.2.F ht⟩) G.2.2.2.2 dL_zonePower_13
  · have hE : E9 = xIOB := hE
    subst hE
    refine vx_catch (name := xIOB) hown [{ startPc := 0, endPc := 8, handlerPc := 11, catchType := 21 }] { startPc := 0, endPc := 8, handlerPc := 14, catchType := 13 } [] htb (List.forall_mem_cons.mpr ⟨Or.inr ⟨by decide, xISE, hts _ (.tail _ qA_952), hN.2.2.1⟩, fun z hz => absurd hz List.not_mem_nil⟩) (by decide) (by decide) (hts _ (.tail _ qA_946)) (hX.use (.castable xIOB xIOB) (by decide +kernel)) hce hcv hcl ?_
    refine lv_astore_n (lv' := [(3, .ref q9), (0, .ref (ad o)), (1, .int a0), (2, .ref ao)]) hx hb dL_zonePower_14 rfl hl (by decide) rfl (fun ls hl => ?_)
    refine lv_iconst (v := 2) hx hb dL_zonePower_15 (by decide) ?_
    refine W.widen (k := T1.1 - T.1 + 1) (n := sg T1 - sg T + 6) (by omega) (by omega) ?_
    exact W.iret (v := 2) hx hb hr (fun t ht hW => ⟨⟨2, ad2, rfl, ⟨rfl, had⟩, ⟨by rw [ht]; exact G.1, va_K.moved hW.alike hK, G.2.1⟩⟩, G.2.2.F ht⟩) G.2.2.2.2 dL_zonePower_16
  · have q := (cd_g_X11_zonePower (S := [0, 1, 2]) (fun _ h => h) T o a0 _ _ _ h)
    simp only [List.mem_cons, List.not_mem_nil, or_false] at q
    omega
theorem v_zonePower (l : Launch) (hst : l.stackTraces = false) (D : va_G) {cI cJ cZ cMic cSrc cSt cAI cAJ cD : ClassId} (h0 : Nat) (ad : Nat → Nat) (T : AT) (o : Nat) (a0 : Int32) (ao : Nat) (f : Nat → Int64) {k1 : Nat} {r1 : Int64} {T1 : AT} (h : g_X11_zonePower T o a0 = some (k1, r1, T1)) (hrc : RC T) (h_o : o < T.1) (h_s : T.2.1 o = (11, 0)) : tWi l yL_zonePower (Cond.codeWith yL_zonePower cL_zonePower 4 (some .int) [(0, 8, 11, 21), (0, 8, 14, 13)] :: wsA) 8 170 cI cJ cZ cMic cSrc cSt cAI cAJ cD D h0 ad T (oJ ao cJ f) [.ref (ad o), .int a0, .ref ao] (vck 1 2 0 k1) T1 (oJ ao cJ (vfJ k1 f r1)) := by
  cases k1 with
  | zero => exact v_zonePower_n l hst D h0 ad T o a0 ao f h hrc h_o h_s
  | succ e1 => exact v_zonePower_t l hst D h0 ad T o a0 ao f h hrc h_o h_s
set_option maxHeartbeats 4000000 in
set_option maxRecDepth 100000 in
theorem v_zoneBest_n (l : Launch) (hst : l.stackTraces = false) (D : va_G) {cI cJ cZ cMic cSrc cSt cAI cAJ cD : ClassId} (h0 : Nat) (ad : Nat → Nat) (T : AT) (o : Nat) (a0 : Int32) (ao : Nat) (f : Nat → Int64) {r1 : Int32} {T1 : AT} (h : g_X11_zoneBest T o a0 = some (0, r1, T1)) (hrc : RC T) (h_o : o < T.1) (h_s : T.2.1 o = (11, 0)) : tWi l yL_zoneBest (Cond.codeWith yL_zoneBest cL_zoneBest 4 (some .int) [(0, 9, 12, 21), (0, 9, 15, 13)] :: wsA) 8 170 cI cJ cZ cMic cSrc cSt cAI cAJ cD D h0 ad T (oJ ao cJ f) [.ref (ad o), .int a0, .ref ao] (vck 1 2 0 (0)) T1 (oJ ao cJ (vfJ (0) f r1.toInt64)) := by
  intro sz
  refine pro_inW (cc := cL_zoneBest) (maxL := 4) (ret := some .int) (by exact pn_RL) rfl (by exact Nat.le_of_ble_eq_true rfl) (fun p e s m below meth c ls hx hb hr hts hown hlocks htb hml hv hl => ?_)
  obtain ⟨hsz, hP, hK, hD0, hX, hN, hA0, hTS⟩ := hv
  subst hsz
  have hD := hD0.self (sz := s.heap.size)
  generalize hAe : va_A (cW ad T.1 (cc cI cJ cZ cMic cSrc cSt cAI cAJ ad T) ++ [oJ ao cJ f]) s.heap.size = A at hD hX hA0 ⊢
  have hA : ∀ q : Nat, s.heap.size ≤ q → A q := fun q h => by rw [← hAe]; exact Or.inr h
  have G : gL cI cJ cZ cMic cSrc cSt cAI cAJ D ad A s.heap s.heap [] T [oJ ao cJ f] := ⟨hP, hD, va_S.rf⟩
  have E : cE p c cL_zoneBest s m ([.ref (ad o), .int a0, .ref ao] : List Value).toArray (Cond.codeWith yL_zoneBest cL_zoneBest 4 (some .int) [(0, 9, 12, 21), (0, 9, 15, 13)] :: wsA) D RL (CT cI cJ cZ cMic cSrc cSt cAI cAJ ++ [(cD, .double)]) := ⟨hx, hb, hts, hown, hK⟩
  have hl : lv_has ls 4 [(0, .ref (ad o)), (1, .int a0), (2, .ref ao)] := hl
  refine lv_aload_n hx hb dL_zoneBest_0 rfl (lv_at hl 2 rfl) ?_
  refine lv_iconst (v := 0) hx hb dL_zoneBest_1 (by decide) ?_
  refine lv_aload_n hx hb dL_zoneBest_2 rfl (lv_at hl 0 rfl) ?_
  refine lv_iload_n hx hb dL_zoneBest_3 rfl (lv_at hl 1 rfl) ?_
  refine t_avi (As := [.int a0]) (rest := [.int 0, .ref ao]) E G hA hX hX.2.2.2.1 hml (a_X11_zoneBest l hst D cI cJ cZ cMic cSrc cSt cAI cAJ ad T o a0 h hrc h_o) (cwV 1 hts (gaV qA_1037 qA_1038 qA_1039 qA_131 qA_831) rfl rfl rfl (by decide +kernel) ⟨Nat.le_of_ble_eq_true rfl, Nat.le_of_ble_eq_true rfl⟩) h_o (cc_o11 h_s) rfl rfl hl.1 rfl (lv_room (Nat.le_of_ble_eq_true rfl)) dL_zoneBest_4 ⟨by show 0 + (T1.1 - T.1) ≤ T1.1 - T.1 + 1; omega, by show 0 + (sg T1 - sg T) ≤ sg T1 - sg T + 6; omega⟩ ?_
  intro ad2 H locs had G
  refine lv_i2l (v := r1.toInt64) hx hb dL_zoneBest_7 rfl ?_
  refine t_last E G dL_zoneBest_8 (fun H locs G => ?_)
  refine lv_goto (tgt := 18) hx hb dL_zoneBest_9 (by decide) ?_
  refine lv_iconst (v := 0) hx hb dL_zoneBest_18 (by decide) ?_
  refine W.widen (k := T1.1 - T.1 + 1) (n := sg T1 - sg T + 6) (by omega) (by omega) ?_
  exact W.iret (v := 0) hx hb hr (fun t ht hW => ⟨⟨0, ad2, rfl, ⟨rfl, had⟩, ⟨by rw [ht]; exact G.1, va_K.moved hW.alike hK, G.2.1⟩⟩, G.2.2.F ht⟩) G.2.2.2.2 dL_zoneBest_19
set_option maxHeartbeats 4000000 in
set_option maxRecDepth 100000 in
theorem v_zoneBest_t (l : Launch) (hst : l.stackTraces = false) (D : va_G) {cI cJ cZ cMic cSrc cSt cAI cAJ cD : ClassId} (h0 : Nat) (ad : Nat → Nat) (T : AT) (o : Nat) (a0 : Int32) (ao : Nat) (f : Nat → Int64) {e1 : Nat} {r1 : Int32} {T1 : AT} (h : g_X11_zoneBest T o a0 = some (e1 + 1, r1, T1)) (hrc : RC T) (h_o : o < T.1) (h_s : T.2.1 o = (11, 0)) : tWi l yL_zoneBest (Cond.codeWith yL_zoneBest cL_zoneBest 4 (some .int) [(0, 9, 12, 21), (0, 9, 15, 13)] :: wsA) 8 170 cI cJ cZ cMic cSrc cSt cAI cAJ cD D h0 ad T (oJ ao cJ f) [.ref (ad o), .int a0, .ref ao] (vck 1 2 0 (e1 + 1)) T1 (oJ ao cJ (vfJ (e1 + 1) f r1.toInt64)) := by
  intro sz
  refine pro_inW (cc := cL_zoneBest) (maxL := 4) (ret := some .int) (by exact pn_RL) rfl (by exact Nat.le_of_ble_eq_true rfl) (fun p e s m below meth c ls hx hb hr hts hown hlocks htb hml hv hl => ?_)
  obtain ⟨hsz, hP, hK, hD0, hX, hN, hA0, hTS⟩ := hv
  subst hsz
  have hD := hD0.self (sz := s.heap.size)
  generalize hAe : va_A (cW ad T.1 (cc cI cJ cZ cMic cSrc cSt cAI cAJ ad T) ++ [oJ ao cJ f]) s.heap.size = A at hD hX hA0 ⊢
  have hA : ∀ q : Nat, s.heap.size ≤ q → A q := fun q h => by rw [← hAe]; exact Or.inr h
  have G : gL cI cJ cZ cMic cSrc cSt cAI cAJ D ad A s.heap s.heap [] T [oJ ao cJ f] := ⟨hP, hD, va_S.rf⟩
  have E : cE p c cL_zoneBest s m ([.ref (ad o), .int a0, .ref ao] : List Value).toArray (Cond.codeWith yL_zoneBest cL_zoneBest 4 (some .int) [(0, 9, 12, 21), (0, 9, 15, 13)] :: wsA) D RL (CT cI cJ cZ cMic cSrc cSt cAI cAJ ++ [(cD, .double)]) := ⟨hx, hb, hts, hown, hK⟩
  have hl : lv_has ls 4 [(0, .ref (ad o)), (1, .int a0), (2, .ref ao)] := hl
  refine lv_aload_n hx hb dL_zoneBest_0 rfl (lv_at hl 2 rfl) ?_
  refine lv_iconst (v := 0) hx hb dL_zoneBest_1 (by decide) ?_
  refine lv_aload_n hx hb dL_zoneBest_2 rfl (lv_at hl 0 rfl) ?_
  refine lv_iload_n hx hb dL_zoneBest_3 rfl (lv_at hl 1 rfl) ?_
  refine t_bvi (As := [.int a0]) (rest := [.int 0, .ref ao]) E G hA hX hX.2.2.2.1 hml (b_X11_zoneBest l hst D cI cJ cZ cMic cSrc cSt cAI cAJ ad T o a0 h hrc h_o) (cwV 1 hts (gaV qA_1037 qA_1038 qA_1039 qA_131 qA_831) rfl rfl rfl (by decide +kernel) ⟨Nat.le_of_ble_eq_true rfl, Nat.le_of_ble_eq_true rfl⟩) h_o (cc_o11 h_s) rfl rfl hl.1 rfl (lv_room (Nat.le_of_ble_eq_true rfl)) dL_zoneBest_4 ⟨by show 0 + (T1.1 - T.1 + 1) ≤ T1.1 - T.1 + 1; omega, by show 0 + (sg T1 - sg T + 6) ≤ sg T1 - sg T + 6; omega⟩ ?_
  intro E9 ce q9 ad2 H locs hE had G hce hcv hcl
  rcases e1 with _ | _ | e1
  · have hE : E9 = xISE := hE
    subst hE
    refine vx_catch (name := xISE) hown [] { startPc := 0, endPc := 9, handlerPc := 12, catchType := 21 } [{ startPc := 0, endPc := 9, handlerPc := 15, catchType := 13 }] htb (fun z hz => absurd hz List.not_mem_nil) (by decide) (by decide) (hts _ (.tail _ qA_952)) (hX.use (.castable xISE xISE) (by decide +kernel)) hce hcv hcl ?_
    refine lv_astore_n (lv' := [(3, .ref q9), (0, .ref (ad o)), (1, .int a0), (2, .ref ao)]) hx hb dL_zoneBest_12 rfl hl (by decide) rfl (fun ls hl => ?_)
    refine lv_iconst (v := 1) hx hb dL_zoneBest_13 (by decide) ?_
    refine W.widen (k := T1.1 - T.1 + 1) (n := sg T1 - sg T + 6) (by omega) (by omega) ?_
    exact W.iret (v := 1) hx hb hr (fun t ht hW => ⟨⟨1, ad2, rfl, ⟨rfl, had⟩, ⟨by rw [ht]; exact G.1, va_K.moved hW.alike hK, G.2.1⟩⟩, G.2.2.F ht⟩) G.2.2.2.2 dL_zoneBest_14
  · have hE : E9 = xIOB := hE
    subst hE
    refine vx_catch (name := xIOB) hown [{ startPc := 0, endPc := 9, handlerPc := 12, catchType := 21 }] { startPc := 0, endPc := 9, handlerPc := 15, catchType := 13 } [] htb (List.forall_mem_cons.mpr ⟨Or.inr ⟨by decide, xISE, hts _ (.tail _ qA_952), hN.2.2.1⟩, fun z hz => absurd hz List.not_mem_nil⟩) (by decide) (by decide) (hts _ (.tail _ qA_946)) (hX.use (.castable xIOB xIOB) (by decide +kernel)) hce hcv hcl ?_
    refine lv_astore_n (lv' := [(3, .ref q9), (0, .ref (ad o)), (1, .int a0), (2, .ref ao)]) hx hb dL_zoneBest_15 rfl hl (by decide) rfl (fun ls hl => ?_)
    refine lv_iconst (v := 2) hx hb dL_zoneBest_16 (by decide) ?_
    refine W.widen (k := T1.1 - T.1 + 1) (n := sg T1 - sg T + 6) (by omega) (by omega) ?_
    exact W.iret (v := 2) hx hb hr (fun t ht hW => ⟨⟨2, ad2, rfl, ⟨rfl, had⟩, ⟨by rw [ht]; exact G.1, va_K.moved hW.alike hK, G.2.1⟩⟩, G.2.2.F ht⟩) G.2.2.2.2 dL_zoneBest_17
  · have q := (cd_g_X11_zoneBest (S := [0, 1, 2]) (fun _ h => h) T o a0 _ _ _ h)
    simp only [List.mem_cons, List.not_mem_nil, or_false] at q
    omega
theorem v_zoneBest (l : Launch) (hst : l.stackTraces = false) (D : va_G) {cI cJ cZ cMic cSrc cSt cAI cAJ cD : ClassId} (h0 : Nat) (ad : Nat → Nat) (T : AT) (o : Nat) (a0 : Int32) (ao : Nat) (f : Nat → Int64) {k1 : Nat} {r1 : Int32} {T1 : AT} (h : g_X11_zoneBest T o a0 = some (k1, r1, T1)) (hrc : RC T) (h_o : o < T.1) (h_s : T.2.1 o = (11, 0)) : tWi l yL_zoneBest (Cond.codeWith yL_zoneBest cL_zoneBest 4 (some .int) [(0, 9, 12, 21), (0, 9, 15, 13)] :: wsA) 8 170 cI cJ cZ cMic cSrc cSt cAI cAJ cD D h0 ad T (oJ ao cJ f) [.ref (ad o), .int a0, .ref ao] (vck 1 2 0 k1) T1 (oJ ao cJ (vfJ k1 f r1.toInt64)) := by
  cases k1 with
  | zero => exact v_zoneBest_n l hst D h0 ad T o a0 ao f h hrc h_o h_s
  | succ e1 => exact v_zoneBest_t l hst D h0 ad T o a0 ao f h hrc h_o h_s
set_option maxHeartbeats 4000000 in
set_option maxRecDepth 100000 in
theorem v_contrast_n (l : Launch) (hst : l.stackTraces = false) (D : va_G) {cI cJ cZ cMic cSrc cSt cAI cAJ cD : ClassId} (h0 : Nat) (ad : Nat → Nat) (T : AT) (o : Nat) (ao : Nat) (f : Nat → UInt64) {r1 : UInt32} {T1 : AT} (hnan : ∀ {r : UInt32} {T1 : AT}, g_X11_contrast T o = some (0, r, T1) → vf_n64 (FP.f2d r)) (h : g_X11_contrast T o = some (0, r1, T1)) (hrc : RC T) (h_o : o < T.1) (h_s : T.2.1 o = (11, 0)) : tWi l yL_contrast (Cond.codeWith yL_contrast cL_contrast 3 (some .int) [(0, 8, 11, 21)] :: wsA) 8 171 cI cJ cZ cMic cSrc cSt cAI cAJ cD D h0 ad T (oD ao cD f) [.ref (ad o), .ref ao] (vck 1 0 0 (0)) T1 (oD ao cD (vfD (0) f (FP.f2d r1))) := by
  intro sz
  refine pro_inW (cc := cL_contrast) (maxL := 3) (ret := some .int) (by exact pn_RL) rfl (by exact Nat.le_of_ble_eq_true rfl) (fun p e s m below meth c ls hx hb hr hts hown hlocks htb hml hv hl => ?_)
  obtain ⟨hsz, hP, hK, hD0, hX, hN, hA0, hTS⟩ := hv
  subst hsz
  have hD := hD0.self (sz := s.heap.size)
  generalize hAe : va_A (cW ad T.1 (cc cI cJ cZ cMic cSrc cSt cAI cAJ ad T) ++ [oD ao cD f]) s.heap.size = A at hD hX hA0 ⊢
  have hA : ∀ q : Nat, s.heap.size ≤ q → A q := fun q h => by rw [← hAe]; exact Or.inr h
  have G : gL cI cJ cZ cMic cSrc cSt cAI cAJ D ad A s.heap s.heap [] T [oD ao cD f] := ⟨hP, hD, va_S.rf⟩
  have E : cE p c cL_contrast s m ([.ref (ad o), .ref ao] : List Value).toArray (Cond.codeWith yL_contrast cL_contrast 3 (some .int) [(0, 8, 11, 21)] :: wsA) D RL (CT cI cJ cZ cMic cSrc cSt cAI cAJ ++ [(cD, .double)]) := ⟨hx, hb, hts, hown, hK⟩
  have hl : lv_has ls 3 [(0, .ref (ad o)), (1, .ref ao)] := hl
  refine lv_aload_n hx hb dL_contrast_0 rfl (lv_at hl 1 rfl) ?_
  refine lv_iconst (v := 0) hx hb dL_contrast_1 (by decide) ?_
  refine lv_aload_n hx hb dL_contrast_2 rfl (lv_at hl 0 rfl) ?_
  refine t_avf (As := []) (rest := [.int 0, .ref ao]) E G hA hX hX.2.2.2.1 hml (a_X11_contrast l hst D cI cJ cZ cMic cSrc cSt cAI cAJ ad T o  h hrc h_o) (cwV 0 hts (gaV qA_1041 qA_1042 qA_1043 qA_131 qA_833) rfl rfl rfl (by decide +kernel) ⟨Nat.le_of_ble_eq_true rfl, Nat.le_of_ble_eq_true rfl⟩) h_o (cc_o11 h_s) rfl rfl hl.1 rfl (lv_room (Nat.le_of_ble_eq_true rfl)) dL_contrast_3 ⟨by show 0 + (T1.1 - T.1) ≤ T1.1 - T.1 + 1; omega, by show 0 + (sg T1 - sg T) ≤ sg T1 - sg T + 6; omega⟩ ?_
  intro ad2 H locs had G
  refine lv_f2d hx hb dL_contrast_6 (hnan h) ?_
  refine t_dast E G dL_contrast_7 (fun H locs G => ?_)
  refine lv_goto (tgt := 14) hx hb dL_contrast_8 (by decide) ?_
  refine lv_iconst (v := 0) hx hb dL_contrast_14 (by decide) ?_
  refine W.widen (k := T1.1 - T.1 + 1) (n := sg T1 - sg T + 6) (by omega) (by omega) ?_
  exact W.iret (v := 0) hx hb hr (fun t ht hW => ⟨⟨0, ad2, rfl, ⟨rfl, had⟩, ⟨by rw [ht]; exact G.1, va_K.moved hW.alike hK, G.2.1⟩⟩, G.2.2.F ht⟩) G.2.2.2.2 dL_contrast_15
set_option maxHeartbeats 4000000 in
set_option maxRecDepth 100000 in
theorem v_contrast_t (l : Launch) (hst : l.stackTraces = false) (D : va_G) {cI cJ cZ cMic cSrc cSt cAI cAJ cD : ClassId} (h0 : Nat) (ad : Nat → Nat) (T : AT) (o : Nat) (ao : Nat) (f : Nat → UInt64) {e1 : Nat} {r1 : UInt32} {T1 : AT} (h : g_X11_contrast T o = some (e1 + 1, r1, T1)) (hrc : RC T) (h_o : o < T.1) (h_s : T.2.1 o = (11, 0)) : tWi l yL_contrast (Cond.codeWith yL_contrast cL_contrast 3 (some .int) [(0, 8, 11, 21)] :: wsA) 8 171 cI cJ cZ cMic cSrc cSt cAI cAJ cD D h0 ad T (oD ao cD f) [.ref (ad o), .ref ao] (vck 1 0 0 (e1 + 1)) T1 (oD ao cD (vfD (e1 + 1) f (FP.f2d r1))) := by
  intro sz
  refine pro_inW (cc := cL_contrast) (maxL := 3) (ret := some .int) (by exact pn_RL) rfl (by exact Nat.le_of_ble_eq_true rfl) (fun p e s m below meth c ls hx hb hr hts hown hlocks htb hml hv hl => ?_)
  obtain ⟨hsz, hP, hK, hD0, hX, hN, hA0, hTS⟩ := hv
  subst hsz
  have hD := hD0.self (sz := s.heap.size)
  generalize hAe : va_A (cW ad T.1 (cc cI cJ cZ cMic cSrc cSt cAI cAJ ad T) ++ [oD ao cD f]) s.heap.size = A at hD hX hA0 ⊢
  have hA : ∀ q : Nat, s.heap.size ≤ q → A q := fun q h => by rw [← hAe]; exact Or.inr h
  have G : gL cI cJ cZ cMic cSrc cSt cAI cAJ D ad A s.heap s.heap [] T [oD ao cD f] := ⟨hP, hD, va_S.rf⟩
  have E : cE p c cL_contrast s m ([.ref (ad o), .ref ao] : List Value).toArray (Cond.codeWith yL_contrast cL_contrast 3 (some .int) [(0, 8, 11, 21)] :: wsA) D RL (CT cI cJ cZ cMic cSrc cSt cAI cAJ ++ [(cD, .double)]) := ⟨hx, hb, hts, hown, hK⟩
  have hl : lv_has ls 3 [(0, .ref (ad o)), (1, .ref ao)] := hl
  refine lv_aload_n hx hb dL_contrast_0 rfl (lv_at hl 1 rfl) ?_
  refine lv_iconst (v := 0) hx hb dL_contrast_1 (by decide) ?_
  refine lv_aload_n hx hb dL_contrast_2 rfl (lv_at hl 0 rfl) ?_
  refine t_bvf (As := []) (rest := [.int 0, .ref ao]) E G hA hX hX.2.2.2.1 hml (b_X11_contrast l hst D cI cJ cZ cMic cSrc cSt cAI cAJ ad T o  h hrc h_o) (cwV 0 hts (gaV qA_1041 qA_1042 qA_1043 qA_131 qA_833) rfl rfl rfl (by decide +kernel) ⟨Nat.le_of_ble_eq_true rfl, Nat.le_of_ble_eq_true rfl⟩) h_o (cc_o11 h_s) rfl rfl hl.1 rfl (lv_room (Nat.le_of_ble_eq_true rfl)) dL_contrast_3 ⟨by show 0 + (T1.1 - T.1 + 1) ≤ T1.1 - T.1 + 1; omega, by show 0 + (sg T1 - sg T + 6) ≤ sg T1 - sg T + 6; omega⟩ ?_
  intro E9 ce q9 ad2 H locs hE had G hce hcv hcl
  rcases e1 with _ | _ | e1
  · have hE : E9 = xISE := hE
    subst hE
    refine vx_catch (name := xISE) hown [] { startPc := 0, endPc := 8, handlerPc := 11, catchType := 21 } [] htb (fun z hz => absurd hz List.not_mem_nil) (by decide) (by decide) (hts _ (.tail _ qA_952)) (hX.use (.castable xISE xISE) (by decide +kernel)) hce hcv hcl ?_
    refine lv_astore_n (lv' := [(2, .ref q9), (0, .ref (ad o)), (1, .ref ao)]) hx hb dL_contrast_11 rfl hl (by decide) rfl (fun ls hl => ?_)
    refine lv_iconst (v := 1) hx hb dL_contrast_12 (by decide) ?_
    refine W.widen (k := T1.1 - T.1 + 1) (n := sg T1 - sg T + 6) (by omega) (by omega) ?_
    exact W.iret (v := 1) hx hb hr (fun t ht hW => ⟨⟨1, ad2, rfl, ⟨rfl, had⟩, ⟨by rw [ht]; exact G.1, va_K.moved hW.alike hK, G.2.1⟩⟩, G.2.2.F ht⟩) G.2.2.2.2 dL_contrast_13
  · exact absurd (cd_g_X11_contrast (S := [0, 1]) (fun _ h => h) T o _ _ _ h) (by decide)
  · have q := (cd_g_X11_contrast (S := [0, 1]) (fun _ h => h) T o _ _ _ h)
    simp only [List.mem_cons, List.not_mem_nil, or_false] at q
    omega
theorem v_contrast (l : Launch) (hst : l.stackTraces = false) (D : va_G) {cI cJ cZ cMic cSrc cSt cAI cAJ cD : ClassId} (h0 : Nat) (ad : Nat → Nat) (T : AT) (o : Nat) (ao : Nat) (f : Nat → UInt64) {k1 : Nat} {r1 : UInt32} {T1 : AT} (hnan : ∀ {r : UInt32} {T1 : AT}, g_X11_contrast T o = some (0, r, T1) → vf_n64 (FP.f2d r)) (h : g_X11_contrast T o = some (k1, r1, T1)) (hrc : RC T) (h_o : o < T.1) (h_s : T.2.1 o = (11, 0)) : tWi l yL_contrast (Cond.codeWith yL_contrast cL_contrast 3 (some .int) [(0, 8, 11, 21)] :: wsA) 8 171 cI cJ cZ cMic cSrc cSt cAI cAJ cD D h0 ad T (oD ao cD f) [.ref (ad o), .ref ao] (vck 1 0 0 k1) T1 (oD ao cD (vfD k1 f (FP.f2d r1))) := by
  cases k1 with
  | zero => exact v_contrast_n l hst D h0 ad T o  ao f hnan h hrc h_o h_s
  | succ e1 => exact v_contrast_t l hst D h0 ad T o  ao f h hrc h_o h_s
set_option maxHeartbeats 4000000 in
set_option maxRecDepth 100000 in
theorem v_alias_n (l : Launch) (hst : l.stackTraces = false) (D : va_G) {cI cJ cZ cMic cSrc cSt cAI cAJ cD : ClassId} (h0 : Nat) (ad : Nat → Nat) (T : AT) (o : Nat) (a0 a1 a2 : Int32) (ao : Nat) (f : Nat → Int64) {r1 : Int32} {T1 : AT} (h : g_X11_alias T o a0 a1 a2 = some (0, r1, T1)) (hrc : RC T) (h_o : o < T.1) (h_s : T.2.1 o = (11, 0)) : tWi l yL_alias (Cond.codeWith yL_alias cL_alias 6 (some .int) [(0, 12, 15, 21), (0, 12, 19, 13), (0, 12, 23, 15)] :: wsA) 9 146 cI cJ cZ cMic cSrc cSt cAI cAJ cD D h0 ad T (oJ ao cJ f) [.ref (ad o), .int a0, .int a1, .int a2, .ref ao] (vck 1 2 3 (0)) T1 (oJ ao cJ (vfJ (0) f r1.toInt64)) := by
  intro sz
  refine pro_inW (cc := cL_alias) (maxL := 6) (ret := some .int) (by exact pn_RL) rfl (by exact Nat.le_of_ble_eq_true rfl) (fun p e s m below meth c ls hx hb hr hts hown hlocks htb hml hv hl => ?_)
  obtain ⟨hsz, hP, hK, hD0, hX, hN, hA0, hTS⟩ := hv
  subst hsz
  have hD := hD0.self (sz := s.heap.size)
  generalize hAe : va_A (cW ad T.1 (cc cI cJ cZ cMic cSrc cSt cAI cAJ ad T) ++ [oJ ao cJ f]) s.heap.size = A at hD hX hA0 ⊢
  have hA : ∀ q : Nat, s.heap.size ≤ q → A q := fun q h => by rw [← hAe]; exact Or.inr h
  have G : gL cI cJ cZ cMic cSrc cSt cAI cAJ D ad A s.heap s.heap [] T [oJ ao cJ f] := ⟨hP, hD, va_S.rf⟩
  have E : cE p c cL_alias s m ([.ref (ad o), .int a0, .int a1, .int a2, .ref ao] : List Value).toArray (Cond.codeWith yL_alias cL_alias 6 (some .int) [(0, 12, 15, 21), (0, 12, 19, 13), (0, 12, 23, 15)] :: wsA) D RL (CT cI cJ cZ cMic cSrc cSt cAI cAJ ++ [(cD, .double)]) := ⟨hx, hb, hts, hown, hK⟩
  have hl : lv_has ls 6 [(0, .ref (ad o)), (1, .int a0), (2, .int a1), (3, .int a2), (4, .ref ao)] := hl
  refine lv_aload hx hb dL_alias_0 (lv_at hl 4 rfl) ?_
  refine lv_iconst (v := 0) hx hb dL_alias_2 (by decide) ?_
  refine lv_aload_n hx hb dL_alias_3 rfl (lv_at hl 0 rfl) ?_
  refine lv_iload_n hx hb dL_alias_4 rfl (lv_at hl 1 rfl) ?_
  refine lv_iload_n hx hb dL_alias_5 rfl (lv_at hl 2 rfl) ?_
  refine lv_iload_n hx hb dL_alias_6 rfl (lv_at hl 3 rfl) ?_
  refine t_cvi (As := [.int a0, .int a1, .int a2]) (rest := [.int 0, .ref ao]) E G hA hX hX.2.2.2.1 hml (u_X11_alias l hst D cI cJ cZ cMic cSrc cSt cAI cAJ ad T o a0 a1 a2 h) (cwV 3 hts (gaV qA_1045 qA_1046 qA_1047 qA_131 qA_840) rfl rfl rfl (by decide +kernel) ⟨Nat.le_of_ble_eq_true rfl, Nat.le_of_ble_eq_true rfl⟩) h_o (cc_o11 h_s) rfl rfl hl.1 rfl (lv_room (Nat.le_of_ble_eq_true rfl)) dL_alias_7 ⟨by show 0 + (0) ≤ T1.1 - T.1 + 1; omega, by show 0 + (0) ≤ sg T1 - sg T + 6; omega⟩ ?_
  intro r9 S1 H locs hp G
  obtain ⟨hr9, hS1⟩ := hp
  rw [hS1] at G
  rw [hr9]
  have had : ∀ n, n < T.1 → ad n = ad n := fun _ _ => rfl
  refine lv_i2l (v := r1.toInt64) hx hb dL_alias_10 rfl ?_
  refine t_last E G dL_alias_11 (fun H locs G => ?_)
  refine lv_goto (tgt := 27) hx hb dL_alias_12 (by decide) ?_
  refine lv_iconst (v := 0) hx hb dL_alias_27 (by decide) ?_
  refine W.widen (k := T1.1 - T.1 + 1) (n := sg T1 - sg T + 6) (by omega) (by omega) ?_
  exact W.iret (v := 0) hx hb hr (fun t ht hW => ⟨⟨0, ad, rfl, ⟨rfl, had⟩, ⟨by rw [ht]; exact G.1, va_K.moved hW.alike hK, G.2.1⟩⟩, G.2.2.F ht⟩) G.2.2.2.2 dL_alias_28
set_option maxHeartbeats 4000000 in
set_option maxRecDepth 100000 in
theorem v_alias_t (l : Launch) (hst : l.stackTraces = false) (D : va_G) {cI cJ cZ cMic cSrc cSt cAI cAJ cD : ClassId} (h0 : Nat) (ad : Nat → Nat) (T : AT) (o : Nat) (a0 a1 a2 : Int32) (ao : Nat) (f : Nat → Int64) {e1 : Nat} {r1 : Int32} {T1 : AT} (h : g_X11_alias T o a0 a1 a2 = some (e1 + 1, r1, T1)) (hrc : RC T) (h_o : o < T.1) (h_s : T.2.1 o = (11, 0)) : tWi l yL_alias (Cond.codeWith yL_alias cL_alias 6 (some .int) [(0, 12, 15, 21), (0, 12, 19, 13), (0, 12, 23, 15)] :: wsA) 9 146 cI cJ cZ cMic cSrc cSt cAI cAJ cD D h0 ad T (oJ ao cJ f) [.ref (ad o), .int a0, .int a1, .int a2, .ref ao] (vck 1 2 3 (e1 + 1)) T1 (oJ ao cJ (vfJ (e1 + 1) f r1.toInt64)) := by
  intro sz
  refine pro_inW (cc := cL_alias) (maxL := 6) (ret := some .int) (by exact pn_RL) rfl (by exact Nat.le_of_ble_eq_true rfl) (fun p e s m below meth c ls hx hb hr hts hown hlocks htb hml hv hl => ?_)
  obtain ⟨hsz, hP, hK, hD0, hX, hN, hA0, hTS⟩ := hv
  subst hsz
  have hD := hD0.self (sz := s.heap.size)
  generalize hAe : va_A (cW ad T.1 (cc cI cJ cZ cMic cSrc cSt cAI cAJ ad T) ++ [oJ ao cJ f]) s.heap.size = A at hD hX hA0 ⊢
  have hA : ∀ q : Nat, s.heap.size ≤ q → A q := fun q h => by rw [← hAe]; exact Or.inr h
  have G : gL cI cJ cZ cMic cSrc cSt cAI cAJ D ad A s.heap s.heap [] T [oJ ao cJ f] := ⟨hP, hD, va_S.rf⟩
  have E : cE p c cL_alias s m ([.ref (ad o), .int a0, .int a1, .int a2, .ref ao] : List Value).toArray (Cond.codeWith yL_alias cL_alias 6 (some .int) [(0, 12, 15, 21), (0, 12, 19, 13), (0, 12, 23, 15)] :: wsA) D RL (CT cI cJ cZ cMic cSrc cSt cAI cAJ ++ [(cD, .double)]) := ⟨hx, hb, hts, hown, hK⟩
  have hl : lv_has ls 6 [(0, .ref (ad o)), (1, .int a0), (2, .int a1), (3, .int a2), (4, .ref ao)] := hl
  refine lv_aload hx hb dL_alias_0 (lv_at hl 4 rfl) ?_
  refine lv_iconst (v := 0) hx hb dL_alias_2 (by decide) ?_
  refine lv_aload_n hx hb dL_alias_3 rfl (lv_at hl 0 rfl) ?_
  refine lv_iload_n hx hb dL_alias_4 rfl (lv_at hl 1 rfl) ?_
  refine lv_iload_n hx hb dL_alias_5 rfl (lv_at hl 2 rfl) ?_
  refine lv_iload_n hx hb dL_alias_6 rfl (lv_at hl 3 rfl) ?_
  refine t_xvi (As := [.int a0, .int a1, .int a2]) (rest := [.int 0, .ref ao]) E G hA hX hX.2.2.2.1 hml (x_X11_alias l hst D cI cJ cZ cMic cSrc cSt cAI cAJ ad T o a0 a1 a2 h) (cwV 3 hts (gaV qA_1045 qA_1046 qA_1047 qA_131 qA_840) rfl rfl rfl (by decide +kernel) ⟨Nat.le_of_ble_eq_true rfl, Nat.le_of_ble_eq_true rfl⟩) h_o (cc_o11 h_s) rfl rfl hl.1 rfl (lv_room (Nat.le_of_ble_eq_true rfl)) dL_alias_7 ⟨by show 0 + (1) ≤ T1.1 - T.1 + 1; omega, by show 0 + (6) ≤ sg T1 - sg T + 6; omega⟩ ?_
  intro E9 ce q9 S1 H locs hp G hce hcv hcl
  obtain ⟨hE, hS1⟩ := hp
  rw [hS1] at G
  have had : ∀ n, n < T.1 → ad n = ad n := fun _ _ => rfl
  rcases e1 with _ | _ | e1
  · have hE : E9 = xISE := hE
    subst hE
    refine vx_catch (name := xISE) hown [] { startPc := 0, endPc := 12, handlerPc := 15, catchType := 21 } [{ startPc := 0, endPc := 12, handlerPc := 19, catchType := 13 }, { startPc := 0, endPc := 12, handlerPc := 23, catchType := 15 }] htb (fun z hz => absurd hz List.not_mem_nil) (by decide) (by decide) (hts _ (.tail _ qA_952)) (hX.use (.castable xISE xISE) (by decide +kernel)) hce hcv hcl ?_
    refine lv_astore (lv' := [(5, .ref q9), (0, .ref (ad o)), (1, .int a0), (2, .int a1), (3, .int a2), (4, .ref ao)]) hx hb dL_alias_15 hl (by decide) rfl (fun ls hl => ?_)
    refine lv_iconst (v := 1) hx hb dL_alias_17 (by decide) ?_
    refine W.widen (k := T1.1 - T.1 + 1) (n := sg T1 - sg T + 6) (by omega) (by omega) ?_
    exact W.iret (v := 1) hx hb hr (fun t ht hW => ⟨⟨1, ad, rfl, ⟨rfl, had⟩, ⟨by rw [ht]; exact G.1, va_K.moved hW.alike hK, G.2.1⟩⟩, G.2.2.F ht⟩) G.2.2.2.2 dL_alias_18
  · have hE : E9 = xIOB := hE
    subst hE
    refine vx_catch (name := xIOB) hown [{ startPc := 0, endPc := 12, handlerPc := 15, catchType := 21 }] { startPc := 0, endPc := 12, handlerPc := 19, catchType := 13 } [{ startPc := 0, endPc := 12, handlerPc := 23, catchType := 15 }] htb (List.forall_mem_cons.mpr ⟨Or.inr ⟨by decide, xISE, hts _ (.tail _ qA_952), hN.2.2.1⟩, fun z hz => absurd hz List.not_mem_nil⟩) (by decide) (by decide) (hts _ (.tail _ qA_946)) (hX.use (.castable xIOB xIOB) (by decide +kernel)) hce hcv hcl ?_
    refine lv_astore (lv' := [(5, .ref q9), (0, .ref (ad o)), (1, .int a0), (2, .int a1), (3, .int a2), (4, .ref ao)]) hx hb dL_alias_19 hl (by decide) rfl (fun ls hl => ?_)
    refine lv_iconst (v := 2) hx hb dL_alias_21 (by decide) ?_
    refine W.widen (k := T1.1 - T.1 + 1) (n := sg T1 - sg T + 6) (by omega) (by omega) ?_
    exact W.iret (v := 2) hx hb hr (fun t ht hW => ⟨⟨2, ad, rfl, ⟨rfl, had⟩, ⟨by rw [ht]; exact G.1, va_K.moved hW.alike hK, G.2.1⟩⟩, G.2.2.F ht⟩) G.2.2.2.2 dL_alias_22
  · have hE : E9 = xIAE := hE
    subst hE
    refine vx_catch (name := xIAE) hown [{ startPc := 0, endPc := 12, handlerPc := 15, catchType := 21 }, { startPc := 0, endPc := 12, handlerPc := 19, catchType := 13 }] { startPc := 0, endPc := 12, handlerPc := 23, catchType := 15 } [] htb (List.forall_mem_cons.mpr ⟨Or.inr ⟨by decide, xISE, hts _ (.tail _ qA_952), hN.2.2.2⟩, List.forall_mem_cons.mpr ⟨Or.inr ⟨by decide, xIOB, hts _ (.tail _ qA_946), hN.1⟩, fun z hz => absurd hz List.not_mem_nil⟩⟩) (by decide) (by decide) (hts _ (.tail _ qA_947)) (hX.use (.castable xIAE xIAE) (by decide +kernel)) hce hcv hcl ?_
    refine lv_astore (lv' := [(5, .ref q9), (0, .ref (ad o)), (1, .int a0), (2, .int a1), (3, .int a2), (4, .ref ao)]) hx hb dL_alias_23 hl (by decide) rfl (fun ls hl => ?_)
    refine lv_iconst (v := 3) hx hb dL_alias_25 (by decide) ?_
    refine W.widen (k := T1.1 - T.1 + 1) (n := sg T1 - sg T + 6) (by omega) (by omega) ?_
    exact W.iret (v := 3) hx hb hr (fun t ht hW => ⟨⟨3, ad, rfl, ⟨rfl, had⟩, ⟨by rw [ht]; exact G.1, va_K.moved hW.alike hK, G.2.1⟩⟩, G.2.2.F ht⟩) G.2.2.2.2 dL_alias_26
theorem v_alias (l : Launch) (hst : l.stackTraces = false) (D : va_G) {cI cJ cZ cMic cSrc cSt cAI cAJ cD : ClassId} (h0 : Nat) (ad : Nat → Nat) (T : AT) (o : Nat) (a0 a1 a2 : Int32) (ao : Nat) (f : Nat → Int64) {k1 : Nat} {r1 : Int32} {T1 : AT} (h : g_X11_alias T o a0 a1 a2 = some (k1, r1, T1)) (hrc : RC T) (h_o : o < T.1) (h_s : T.2.1 o = (11, 0)) : tWi l yL_alias (Cond.codeWith yL_alias cL_alias 6 (some .int) [(0, 12, 15, 21), (0, 12, 19, 13), (0, 12, 23, 15)] :: wsA) 9 146 cI cJ cZ cMic cSrc cSt cAI cAJ cD D h0 ad T (oJ ao cJ f) [.ref (ad o), .int a0, .int a1, .int a2, .ref ao] (vck 1 2 3 k1) T1 (oJ ao cJ (vfJ k1 f r1.toInt64)) := by
  cases k1 with
  | zero => exact v_alias_n l hst D h0 ad T o a0 a1 a2 ao f h hrc h_o h_s
  | succ e1 => exact v_alias_t l hst D h0 ad T o a0 a1 a2 ao f h hrc h_o h_s
set_option maxHeartbeats 4000000 in
set_option maxRecDepth 100000 in
theorem v_isAlias_n (l : Launch) (hst : l.stackTraces = false) (D : va_G) {cI cJ cZ cMic cSrc cSt cAI cAJ cD : ClassId} (h0 : Nat) (ad : Nat → Nat) (T : AT) (o : Nat) (a0 a1 a2 : Int32) (ao : Nat) (f : Nat → Int64) {r1 : Int32} {T1 : AT} (h : g_X11_isAlias T o a0 a1 a2 = some (0, r1, T1)) (hrc : RC T) (h_o : o < T.1) (h_s : T.2.1 o = (11, 0)) : tWi l yL_isAlias (Cond.codeWith yL_isAlias cL_isAlias 6 (some .int) [(0, 19, 22, 21), (0, 19, 26, 13), (0, 19, 30, 15)] :: wsA) 9 172 cI cJ cZ cMic cSrc cSt cAI cAJ cD D h0 ad T (oJ ao cJ f) [.ref (ad o), .int a0, .int a1, .int a2, .ref ao] (vck 1 2 3 (0)) T1 (oJ ao cJ (vfJ (0) f (vzb r1))) := by
  intro sz
  refine pro_inW (cc := cL_isAlias) (maxL := 6) (ret := some .int) (by exact pn_RL) rfl (by exact Nat.le_of_ble_eq_true rfl) (fun p e s m below meth c ls hx hb hr hts hown hlocks htb hml hv hl => ?_)
  obtain ⟨hsz, hP, hK, hD0, hX, hN, hA0, hTS⟩ := hv
  subst hsz
  have hD := hD0.self (sz := s.heap.size)
  generalize hAe : va_A (cW ad T.1 (cc cI cJ cZ cMic cSrc cSt cAI cAJ ad T) ++ [oJ ao cJ f]) s.heap.size = A at hD hX hA0 ⊢
  have hA : ∀ q : Nat, s.heap.size ≤ q → A q := fun q h => by rw [← hAe]; exact Or.inr h
  have G : gL cI cJ cZ cMic cSrc cSt cAI cAJ D ad A s.heap s.heap [] T [oJ ao cJ f] := ⟨hP, hD, va_S.rf⟩
  have E : cE p c cL_isAlias s m ([.ref (ad o), .int a0, .int a1, .int a2, .ref ao] : List Value).toArray (Cond.codeWith yL_isAlias cL_isAlias 6 (some .int) [(0, 19, 22, 21), (0, 19, 26, 13), (0, 19, 30, 15)] :: wsA) D RL (CT cI cJ cZ cMic cSrc cSt cAI cAJ ++ [(cD, .double)]) := ⟨hx, hb, hts, hown, hK⟩
  have hl : lv_has ls 6 [(0, .ref (ad o)), (1, .int a0), (2, .int a1), (3, .int a2), (4, .ref ao)] := hl
  refine lv_aload hx hb dL_isAlias_0 (lv_at hl 4 rfl) ?_
  refine lv_iconst (v := 0) hx hb dL_isAlias_2 (by decide) ?_
  refine lv_aload_n hx hb dL_isAlias_3 rfl (lv_at hl 0 rfl) ?_
  refine lv_iload_n hx hb dL_isAlias_4 rfl (lv_at hl 1 rfl) ?_
  refine lv_iload_n hx hb dL_isAlias_5 rfl (lv_at hl 2 rfl) ?_
  refine lv_iload_n hx hb dL_isAlias_6 rfl (lv_at hl 3 rfl) ?_
  refine t_avi (As := [.int a0, .int a1, .int a2]) (rest := [.int 0, .ref ao]) E G hA hX hX.2.2.2.1 hml (a_X11_isAlias l hst D cI cJ cZ cMic cSrc cSt cAI cAJ ad T o a0 a1 a2 h hrc h_o) (cwV 3 hts (gaV qA_1049 qA_1050 qA_1051 qA_131 qA_847) rfl rfl rfl (by decide +kernel) ⟨Nat.le_of_ble_eq_true rfl, Nat.le_of_ble_eq_true rfl⟩) h_o (cc_o11 h_s) rfl rfl hl.1 rfl (lv_room (Nat.le_of_ble_eq_true rfl)) dL_isAlias_7 ⟨by show 0 + (T1.1 - T.1) ≤ T1.1 - T.1 + 1; omega, by show 0 + (sg T1 - sg T) ≤ sg T1 - sg T + 6; omega⟩ ?_
  intro ad2 H locs had G
  refine lv_if_eq (tgt := 17) hx hb dL_isAlias_10 (by decide) (fun c1 => ?_) (fun c1 => ?_)
  · refine lv_lconst (v := vzb r1) hx hb dL_isAlias_17 (by rw [vzb, if_pos c1]; rfl) ?_
    refine t_last E G dL_isAlias_18 (fun H locs G => ?_)
    refine lv_goto (tgt := 34) hx hb dL_isAlias_19 (by decide) ?_
    refine lv_iconst (v := 0) hx hb dL_isAlias_34 (by decide) ?_
    refine W.widen (k := T1.1 - T.1 + 1) (n := sg T1 - sg T + 6) (by omega) (by omega) ?_
    exact W.iret (v := 0) hx hb hr (fun t ht hW => ⟨⟨0, ad2, rfl, ⟨rfl, had⟩, ⟨by rw [ht]; exact G.1, va_K.moved hW.alike hK, G.2.1⟩⟩, G.2.2.F ht⟩) G.2.2.2.2 dL_isAlias_35
  · refine lv_lconst (v := vzb r1) hx hb dL_isAlias_13 (by rw [vzb, if_neg c1]; rfl) ?_
    refine lv_goto (tgt := 18) hx hb dL_isAlias_14 (by decide) ?_
    refine t_last E G dL_isAlias_18 (fun H locs G => ?_)
    refine lv_goto (tgt := 34) hx hb dL_isAlias_19 (by decide) ?_
    refine lv_iconst (v := 0) hx hb dL_isAlias_34 (by decide) ?_
    refine W.widen (k := T1.1 - T.1 + 1) (n := sg T1 - sg T + 6) (by omega) (by omega) ?_
    exact W.iret (v := 0) hx hb hr (fun t ht hW => ⟨⟨0, ad2, rfl, ⟨rfl, had⟩, ⟨by rw [ht]; exact G.1, va_K.moved hW.alike hK, G.2.1⟩⟩, G.2.2.F ht⟩) G.2.2.2.2 dL_isAlias_35
set_option maxHeartbeats 4000000 in
set_option maxRecDepth 100000 in
theorem v_isAlias_t (l : Launch) (hst : l.stackTraces = false) (D : va_G) {cI cJ cZ cMic cSrc cSt cAI cAJ cD : ClassId} (h0 : Nat) (ad : Nat → Nat) (T : AT) (o : Nat) (a0 a1 a2 : Int32) (ao : Nat) (f : Nat → Int64) {e1 : Nat} {r1 : Int32} {T1 : AT} (h : g_X11_isAlias T o a0 a1 a2 = some (e1 + 1, r1, T1)) (hrc : RC T) (h_o : o < T.1) (h_s : T.2.1 o = (11, 0)) : tWi l yL_isAlias (Cond.codeWith yL_isAlias cL_isAlias 6 (some .int) [(0, 19, 22, 21), (0, 19, 26, 13), (0, 19, 30, 15)] :: wsA) 9 172 cI cJ cZ cMic cSrc cSt cAI cAJ cD D h0 ad T (oJ ao cJ f) [.ref (ad o), .int a0, .int a1, .int a2, .ref ao] (vck 1 2 3 (e1 + 1)) T1 (oJ ao cJ (vfJ (e1 + 1) f (vzb r1))) := by
  intro sz
  refine pro_inW (cc := cL_isAlias) (maxL := 6) (ret := some .int) (by exact pn_RL) rfl (by exact Nat.le_of_ble_eq_true rfl) (fun p e s m below meth c ls hx hb hr hts hown hlocks htb hml hv hl => ?_)
  obtain ⟨hsz, hP, hK, hD0, hX, hN, hA0, hTS⟩ := hv
  subst hsz
  have hD := hD0.self (sz := s.heap.size)
  generalize hAe : va_A (cW ad T.1 (cc cI cJ cZ cMic cSrc cSt cAI cAJ ad T) ++ [oJ ao cJ f]) s.heap.size = A at hD hX hA0 ⊢
  have hA : ∀ q : Nat, s.heap.size ≤ q → A q := fun q h => by rw [← hAe]; exact Or.inr h
  have G : gL cI cJ cZ cMic cSrc cSt cAI cAJ D ad A s.heap s.heap [] T [oJ ao cJ f] := ⟨hP, hD, va_S.rf⟩
  have E : cE p c cL_isAlias s m ([.ref (ad o), .int a0, .int a1, .int a2, .ref ao] : List Value).toArray (Cond.codeWith yL_isAlias cL_isAlias 6 (some .int) [(0, 19, 22, 21), (0, 19, 26, 13), (0, 19, 30, 15)] :: wsA) D RL (CT cI cJ cZ cMic cSrc cSt cAI cAJ ++ [(cD, .double)]) := ⟨hx, hb, hts, hown, hK⟩
  have hl : lv_has ls 6 [(0, .ref (ad o)), (1, .int a0), (2, .int a1), (3, .int a2), (4, .ref ao)] := hl
  refine lv_aload hx hb dL_isAlias_0 (lv_at hl 4 rfl) ?_
  refine lv_iconst (v := 0) hx hb dL_isAlias_2 (by decide) ?_
  refine lv_aload_n hx hb dL_isAlias_3 rfl (lv_at hl 0 rfl) ?_
  refine lv_iload_n hx hb dL_isAlias_4 rfl (lv_at hl 1 rfl) ?_
  refine lv_iload_n hx hb dL_isAlias_5 rfl (lv_at hl 2 rfl) ?_
  refine lv_iload_n hx hb dL_isAlias_6 rfl (lv_at hl 3 rfl) ?_
  refine t_bvi (As := [.int a0, .int a1, .int a2]) (rest := [.int 0, .ref ao]) E G hA hX hX.2.2.2.1 hml (b_X11_isAlias l hst D cI cJ cZ cMic cSrc cSt cAI cAJ ad T o a0 a1 a2 h hrc h_o) (cwV 3 hts (gaV qA_1049 qA_1050 qA_1051 qA_131 qA_847) rfl rfl rfl (by decide +kernel) ⟨Nat.le_of_ble_eq_true rfl, Nat.le_of_ble_eq_true rfl⟩) h_o (cc_o11 h_s) rfl rfl hl.1 rfl (lv_room (Nat.le_of_ble_eq_true rfl)) dL_isAlias_7 ⟨by show 0 + (T1.1 - T.1 + 1) ≤ T1.1 - T.1 + 1; omega, by show 0 + (sg T1 - sg T + 6) ≤ sg T1 - sg T + 6; omega⟩ ?_
  intro E9 ce q9 ad2 H locs hE had G hce hcv hcl
  rcases e1 with _ | _ | e1
  · have hE : E9 = xISE := hE
    subst hE
    refine vx_catch (name := xISE) hown [] { startPc := 0, endPc := 19, handlerPc := 22, catchType := 21 } [{ startPc := 0, endPc := 19, handlerPc := 26, catchType := 13 }, { startPc := 0, endPc := 19, handlerPc := 30, catchType := 15 }] htb (fun z hz => absurd hz List.not_mem_nil) (by decide) (by decide) (hts _ (.tail _ qA_952)) (hX.use (.castable xISE xISE) (by decide +kernel)) hce hcv hcl ?_
    refine lv_astore (lv' := [(5, .ref q9), (0, .ref (ad o)), (1, .int a0), (2, .int a1), (3, .int a2), (4, .ref ao)]) hx hb dL_isAlias_22 hl (by decide) rfl (fun ls hl => ?_)
    refine lv_iconst (v := 1) hx hb dL_isAlias_24 (by decide) ?_
    refine W.widen (k := T1.1 - T.1 + 1) (n := sg T1 - sg T + 6) (by omega) (by omega) ?_
    exact W.iret (v := 1) hx hb hr (fun t ht hW => ⟨⟨1, ad2, rfl, ⟨rfl, had⟩, ⟨by rw [ht]; exact G.1, va_K.moved hW.alike hK, G.2.1⟩⟩, G.2.2.F ht⟩) G.2.2.2.2 dL_isAlias_25
  · have hE : E9 = xIOB := hE
    subst hE
    refine vx_catch (name := xIOB) hown [{ startPc := 0, endPc := 19, handlerPc := 22, catchType := 21 }] { startPc := 0, endPc := 19, handlerPc := 26, catchType := 13 } [{ startPc := 0, endPc := 19, handlerPc := 30, catchType := 15 }] htb (List.forall_mem_cons.mpr ⟨Or.inr ⟨by decide, xISE, hts _ (.tail _ qA_952), hN.2.2.1⟩, fun z hz => absurd hz List.not_mem_nil⟩) (by decide) (by decide) (hts _ (.tail _ qA_946)) (hX.use (.castable xIOB xIOB) (by decide +kernel)) hce hcv hcl ?_
    refine lv_astore (lv' := [(5, .ref q9), (0, .ref (ad o)), (1, .int a0), (2, .int a1), (3, .int a2), (4, .ref ao)]) hx hb dL_isAlias_26 hl (by decide) rfl (fun ls hl => ?_)
    refine lv_iconst (v := 2) hx hb dL_isAlias_28 (by decide) ?_
    refine W.widen (k := T1.1 - T.1 + 1) (n := sg T1 - sg T + 6) (by omega) (by omega) ?_
    exact W.iret (v := 2) hx hb hr (fun t ht hW => ⟨⟨2, ad2, rfl, ⟨rfl, had⟩, ⟨by rw [ht]; exact G.1, va_K.moved hW.alike hK, G.2.1⟩⟩, G.2.2.F ht⟩) G.2.2.2.2 dL_isAlias_29
  · have hE : E9 = xIAE := hE
    subst hE
    refine vx_catch (name := xIAE) hown [{ startPc := 0, endPc := 19, handlerPc := 22, catchType := 21 }, { startPc := 0, endPc := 19, handlerPc := 26, catchType := 13 }] { startPc := 0, endPc := 19, handlerPc := 30, catchType := 15 } [] htb (List.forall_mem_cons.mpr ⟨Or.inr ⟨by decide, xISE, hts _ (.tail _ qA_952), hN.2.2.2⟩, List.forall_mem_cons.mpr ⟨Or.inr ⟨by decide, xIOB, hts _ (.tail _ qA_946), hN.1⟩, fun z hz => absurd hz List.not_mem_nil⟩⟩) (by decide) (by decide) (hts _ (.tail _ qA_947)) (hX.use (.castable xIAE xIAE) (by decide +kernel)) hce hcv hcl ?_
    refine lv_astore (lv' := [(5, .ref q9), (0, .ref (ad o)), (1, .int a0), (2, .int a1), (3, .int a2), (4, .ref ao)]) hx hb dL_isAlias_30 hl (by decide) rfl (fun ls hl => ?_)
    refine lv_iconst (v := 3) hx hb dL_isAlias_32 (by decide) ?_
    refine W.widen (k := T1.1 - T.1 + 1) (n := sg T1 - sg T + 6) (by omega) (by omega) ?_
    exact W.iret (v := 3) hx hb hr (fun t ht hW => ⟨⟨3, ad2, rfl, ⟨rfl, had⟩, ⟨by rw [ht]; exact G.1, va_K.moved hW.alike hK, G.2.1⟩⟩, G.2.2.F ht⟩) G.2.2.2.2 dL_isAlias_33
theorem v_isAlias (l : Launch) (hst : l.stackTraces = false) (D : va_G) {cI cJ cZ cMic cSrc cSt cAI cAJ cD : ClassId} (h0 : Nat) (ad : Nat → Nat) (T : AT) (o : Nat) (a0 a1 a2 : Int32) (ao : Nat) (f : Nat → Int64) {k1 : Nat} {r1 : Int32} {T1 : AT} (h : g_X11_isAlias T o a0 a1 a2 = some (k1, r1, T1)) (hrc : RC T) (h_o : o < T.1) (h_s : T.2.1 o = (11, 0)) : tWi l yL_isAlias (Cond.codeWith yL_isAlias cL_isAlias 6 (some .int) [(0, 19, 22, 21), (0, 19, 26, 13), (0, 19, 30, 15)] :: wsA) 9 172 cI cJ cZ cMic cSrc cSt cAI cAJ cD D h0 ad T (oJ ao cJ f) [.ref (ad o), .int a0, .int a1, .int a2, .ref ao] (vck 1 2 3 k1) T1 (oJ ao cJ (vfJ k1 f (vzb r1))) := by
  cases k1 with
  | zero => exact v_isAlias_n l hst D h0 ad T o a0 a1 a2 ao f h hrc h_o h_s
  | succ e1 => exact v_isAlias_t l hst D h0 ad T o a0 a1 a2 ao f h hrc h_o h_s
set_option maxHeartbeats 4000000 in
set_option maxRecDepth 100000 in
theorem v_aliases_n (l : Launch) (hst : l.stackTraces = false) (D : va_G) {cI cJ cZ cMic cSrc cSt cAI cAJ cD : ClassId} (h0 : Nat) (ad : Nat → Nat) (T : AT) (o : Nat) (a0 a1 : Int32) (ao : Nat) (f : Nat → Int64) {r1 : Int32} {T1 : AT} (h : g_X11_aliases T o a0 a1 = some (0, r1, T1)) (hrc : RC T) (h_o : o < T.1) (h_s : T.2.1 o = (11, 0)) : tWi l yL_aliases (Cond.codeWith yL_aliases cL_aliases 5 (some .int) [(0, 10, 13, 21), (0, 10, 17, 15)] :: wsA) 8 174 cI cJ cZ cMic cSrc cSt cAI cAJ cD D h0 ad T (oJ ao cJ f) [.ref (ad o), .int a0, .int a1, .ref ao] (vck 1 0 2 (0)) T1 (oJ ao cJ (vfJ (0) f r1.toInt64)) := by
  intro sz
  refine pro_inW (cc := cL_aliases) (maxL := 5) (ret := some .int) (by exact pn_RL) rfl (by exact Nat.le_of_ble_eq_true rfl) (fun p e s m below meth c ls hx hb hr hts hown hlocks htb hml hv hl => ?_)
  obtain ⟨hsz, hP, hK, hD0, hX, hN, hA0, hTS⟩ := hv
  subst hsz
  have hD := hD0.self (sz := s.heap.size)
  generalize hAe : va_A (cW ad T.1 (cc cI cJ cZ cMic cSrc cSt cAI cAJ ad T) ++ [oJ ao cJ f]) s.heap.size = A at hD hX hA0 ⊢
  have hA : ∀ q : Nat, s.heap.size ≤ q → A q := fun q h => by rw [← hAe]; exact Or.inr h
  have G : gL cI cJ cZ cMic cSrc cSt cAI cAJ D ad A s.heap s.heap [] T [oJ ao cJ f] := ⟨hP, hD, va_S.rf⟩
  have E : cE p c cL_aliases s m ([.ref (ad o), .int a0, .int a1, .ref ao] : List Value).toArray (Cond.codeWith yL_aliases cL_aliases 5 (some .int) [(0, 10, 13, 21), (0, 10, 17, 15)] :: wsA) D RL (CT cI cJ cZ cMic cSrc cSt cAI cAJ ++ [(cD, .double)]) := ⟨hx, hb, hts, hown, hK⟩
  have hl : lv_has ls 5 [(0, .ref (ad o)), (1, .int a0), (2, .int a1), (3, .ref ao)] := hl
  refine lv_aload_n hx hb dL_aliases_0 rfl (lv_at hl 3 rfl) ?_
  refine lv_iconst (v := 0) hx hb dL_aliases_1 (by decide) ?_
  refine lv_aload_n hx hb dL_aliases_2 rfl (lv_at hl 0 rfl) ?_
  refine lv_iload_n hx hb dL_aliases_3 rfl (lv_at hl 1 rfl) ?_
  refine lv_iload_n hx hb dL_aliases_4 rfl (lv_at hl 2 rfl) ?_
  refine t_avi (As := [.int a0, .int a1]) (rest := [.int 0, .ref ao]) E G hA hX hX.2.2.2.1 hml (a_X11_aliases l hst D cI cJ cZ cMic cSrc cSt cAI cAJ ad T o a0 a1 h hrc h_o) (cwV 2 hts (gaV qA_1053 qA_1054 qA_1055 qA_131 qA_855) rfl rfl rfl (by decide +kernel) ⟨Nat.le_of_ble_eq_true rfl, Nat.le_of_ble_eq_true rfl⟩) h_o (cc_o11 h_s) rfl rfl hl.1 rfl (lv_room (Nat.le_of_ble_eq_true rfl)) dL_aliases_5 ⟨by show 0 + (T1.1 - T.1) ≤ T1.1 - T.1 + 1; omega, by show 0 + (sg T1 - sg T) ≤ sg T1 - sg T + 6; omega⟩ ?_
  intro ad2 H locs had G
  refine lv_i2l (v := r1.toInt64) hx hb dL_aliases_8 rfl ?_
  refine t_last E G dL_aliases_9 (fun H locs G => ?_)
  refine lv_goto (tgt := 21) hx hb dL_aliases_10 (by decide) ?_
  refine lv_iconst (v := 0) hx hb dL_aliases_21 (by decide) ?_
  refine W.widen (k := T1.1 - T.1 + 1) (n := sg T1 - sg T + 6) (by omega) (by omega) ?_
  exact W.iret (v := 0) hx hb hr (fun t ht hW => ⟨⟨0, ad2, rfl, ⟨rfl, had⟩, ⟨by rw [ht]; exact G.1, va_K.moved hW.alike hK, G.2.1⟩⟩, G.2.2.F ht⟩) G.2.2.2.2 dL_aliases_22
set_option maxHeartbeats 4000000 in
set_option maxRecDepth 100000 in
theorem v_aliases_t (l : Launch) (hst : l.stackTraces = false) (D : va_G) {cI cJ cZ cMic cSrc cSt cAI cAJ cD : ClassId} (h0 : Nat) (ad : Nat → Nat) (T : AT) (o : Nat) (a0 a1 : Int32) (ao : Nat) (f : Nat → Int64) {e1 : Nat} {r1 : Int32} {T1 : AT} (h : g_X11_aliases T o a0 a1 = some (e1 + 1, r1, T1)) (hrc : RC T) (h_o : o < T.1) (h_s : T.2.1 o = (11, 0)) : tWi l yL_aliases (Cond.codeWith yL_aliases cL_aliases 5 (some .int) [(0, 10, 13, 21), (0, 10, 17, 15)] :: wsA) 8 174 cI cJ cZ cMic cSrc cSt cAI cAJ cD D h0 ad T (oJ ao cJ f) [.ref (ad o), .int a0, .int a1, .ref ao] (vck 1 0 2 (e1 + 1)) T1 (oJ ao cJ (vfJ (e1 + 1) f r1.toInt64)) := by
  intro sz
  refine pro_inW (cc := cL_aliases) (maxL := 5) (ret := some .int) (by exact pn_RL) rfl (by exact Nat.le_of_ble_eq_true rfl) (fun p e s m below meth c ls hx hb hr hts hown hlocks htb hml hv hl => ?_)
  obtain ⟨hsz, hP, hK, hD0, hX, hN, hA0, hTS⟩ := hv
  subst hsz
  have hD := hD0.self (sz := s.heap.size)
  generalize hAe : va_A (cW ad T.1 (cc cI cJ cZ cMic cSrc cSt cAI cAJ ad T) ++ [oJ ao cJ f]) s.heap.size = A at hD hX hA0 ⊢
  have hA : ∀ q : Nat, s.heap.size ≤ q → A q := fun q h => by rw [← hAe]; exact Or.inr h
  have G : gL cI cJ cZ cMic cSrc cSt cAI cAJ D ad A s.heap s.heap [] T [oJ ao cJ f] := ⟨hP, hD, va_S.rf⟩
  have E : cE p c cL_aliases s m ([.ref (ad o), .int a0, .int a1, .ref ao] : List Value).toArray (Cond.codeWith yL_aliases cL_aliases 5 (some .int) [(0, 10, 13, 21), (0, 10, 17, 15)] :: wsA) D RL (CT cI cJ cZ cMic cSrc cSt cAI cAJ ++ [(cD, .double)]) := ⟨hx, hb, hts, hown, hK⟩
  have hl : lv_has ls 5 [(0, .ref (ad o)), (1, .int a0), (2, .int a1), (3, .ref ao)] := hl
  refine lv_aload_n hx hb dL_aliases_0 rfl (lv_at hl 3 rfl) ?_
  refine lv_iconst (v := 0) hx hb dL_aliases_1 (by decide) ?_
  refine lv_aload_n hx hb dL_aliases_2 rfl (lv_at hl 0 rfl) ?_
  refine lv_iload_n hx hb dL_aliases_3 rfl (lv_at hl 1 rfl) ?_
  refine lv_iload_n hx hb dL_aliases_4 rfl (lv_at hl 2 rfl) ?_
  refine t_bvi (As := [.int a0, .int a1]) (rest := [.int 0, .ref ao]) E G hA hX hX.2.2.2.1 hml (b_X11_aliases l hst D cI cJ cZ cMic cSrc cSt cAI cAJ ad T o a0 a1 h hrc h_o) (cwV 2 hts (gaV qA_1053 qA_1054 qA_1055 qA_131 qA_855) rfl rfl rfl (by decide +kernel) ⟨Nat.le_of_ble_eq_true rfl, Nat.le_of_ble_eq_true rfl⟩) h_o (cc_o11 h_s) rfl rfl hl.1 rfl (lv_room (Nat.le_of_ble_eq_true rfl)) dL_aliases_5 ⟨by show 0 + (T1.1 - T.1 + 1) ≤ T1.1 - T.1 + 1; omega, by show 0 + (sg T1 - sg T + 6) ≤ sg T1 - sg T + 6; omega⟩ ?_
  intro E9 ce q9 ad2 H locs hE had G hce hcv hcl
  rcases e1 with _ | _ | e1
  · have hE : E9 = xISE := hE
    subst hE
    refine vx_catch (name := xISE) hown [] { startPc := 0, endPc := 10, handlerPc := 13, catchType := 21 } [{ startPc := 0, endPc := 10, handlerPc := 17, catchType := 15 }] htb (fun z hz => absurd hz List.not_mem_nil) (by decide) (by decide) (hts _ (.tail _ qA_952)) (hX.use (.castable xISE xISE) (by decide +kernel)) hce hcv hcl ?_
    refine lv_astore (lv' := [(4, .ref q9), (0, .ref (ad o)), (1, .int a0), (2, .int a1), (3, .ref ao)]) hx hb dL_aliases_13 hl (by decide) rfl (fun ls hl => ?_)
    refine lv_iconst (v := 1) hx hb dL_aliases_15 (by decide) ?_
    refine W.widen (k := T1.1 - T.1 + 1) (n := sg T1 - sg T + 6) (by omega) (by omega) ?_
    exact W.iret (v := 1) hx hb hr (fun t ht hW => ⟨⟨1, ad2, rfl, ⟨rfl, had⟩, ⟨by rw [ht]; exact G.1, va_K.moved hW.alike hK, G.2.1⟩⟩, G.2.2.F ht⟩) G.2.2.2.2 dL_aliases_16
  · exact absurd (cd_g_X11_aliases (S := [0, 1, 3]) (fun _ h => h) T o a0 a1 _ _ _ h) (by decide)
  · have hE : E9 = xIAE := hE
    subst hE
    refine vx_catch (name := xIAE) hown [{ startPc := 0, endPc := 10, handlerPc := 13, catchType := 21 }] { startPc := 0, endPc := 10, handlerPc := 17, catchType := 15 } [] htb (List.forall_mem_cons.mpr ⟨Or.inr ⟨by decide, xISE, hts _ (.tail _ qA_952), hN.2.2.2⟩, fun z hz => absurd hz List.not_mem_nil⟩) (by decide) (by decide) (hts _ (.tail _ qA_947)) (hX.use (.castable xIAE xIAE) (by decide +kernel)) hce hcv hcl ?_
    refine lv_astore (lv' := [(4, .ref q9), (0, .ref (ad o)), (1, .int a0), (2, .int a1), (3, .ref ao)]) hx hb dL_aliases_17 hl (by decide) rfl (fun ls hl => ?_)
    refine lv_iconst (v := 2) hx hb dL_aliases_19 (by decide) ?_
    refine W.widen (k := T1.1 - T.1 + 1) (n := sg T1 - sg T + 6) (by omega) (by omega) ?_
    exact W.iret (v := 2) hx hb hr (fun t ht hW => ⟨⟨2, ad2, rfl, ⟨rfl, had⟩, ⟨by rw [ht]; exact G.1, va_K.moved hW.alike hK, G.2.1⟩⟩, G.2.2.F ht⟩) G.2.2.2.2 dL_aliases_20
theorem v_aliases (l : Launch) (hst : l.stackTraces = false) (D : va_G) {cI cJ cZ cMic cSrc cSt cAI cAJ cD : ClassId} (h0 : Nat) (ad : Nat → Nat) (T : AT) (o : Nat) (a0 a1 : Int32) (ao : Nat) (f : Nat → Int64) {k1 : Nat} {r1 : Int32} {T1 : AT} (h : g_X11_aliases T o a0 a1 = some (k1, r1, T1)) (hrc : RC T) (h_o : o < T.1) (h_s : T.2.1 o = (11, 0)) : tWi l yL_aliases (Cond.codeWith yL_aliases cL_aliases 5 (some .int) [(0, 10, 13, 21), (0, 10, 17, 15)] :: wsA) 8 174 cI cJ cZ cMic cSrc cSt cAI cAJ cD D h0 ad T (oJ ao cJ f) [.ref (ad o), .int a0, .int a1, .ref ao] (vck 1 0 2 k1) T1 (oJ ao cJ (vfJ k1 f r1.toInt64)) := by
  cases k1 with
  | zero => exact v_aliases_n l hst D h0 ad T o a0 a1 ao f h hrc h_o h_s
  | succ e1 => exact v_aliases_t l hst D h0 ad T o a0 a1 ao f h hrc h_o h_s
set_option maxHeartbeats 4000000 in
set_option maxRecDepth 100000 in
theorem v_blockPower_n (l : Launch) (hst : l.stackTraces = false) (D : va_G) {cI cJ cZ cMic cSrc cSt cAI cAJ cD : ClassId} (h0 : Nat) (ad : Nat → Nat) (T : AT) (o : Nat) (a0 a1 a2 : Int32) (ao : Nat) (f : Nat → Int64) {r1 : Int64} {T1 : AT} (h : g_X11_blockPower T o a0 a1 a2 = some (0, r1, T1)) (hrc : RC T) (h_o : o < T.1) (h_s : T.2.1 o = (11, 0)) : tWi l yL_blockPower (Cond.codeWith yL_blockPower cL_blockPower 6 (some .int) [(0, 11, 14, 21), (0, 11, 18, 13), (0, 11, 22, 15)] :: wsA) 9 146 cI cJ cZ cMic cSrc cSt cAI cAJ cD D h0 ad T (oJ ao cJ f) [.ref (ad o), .int a0, .int a1, .int a2, .ref ao] (vck 1 2 3 (0)) T1 (oJ ao cJ (vfJ (0) f r1)) := by
  intro sz
  refine pro_inW (cc := cL_blockPower) (maxL := 6) (ret := some .int) (by exact pn_RL) rfl (by exact Nat.le_of_ble_eq_true rfl) (fun p e s m below meth c ls hx hb hr hts hown hlocks htb hml hv hl => ?_)
  obtain ⟨hsz, hP, hK, hD0, hX, hN, hA0, hTS⟩ := hv
  subst hsz
  have hD := hD0.self (sz := s.heap.size)
  generalize hAe : va_A (cW ad T.1 (cc cI cJ cZ cMic cSrc cSt cAI cAJ ad T) ++ [oJ ao cJ f]) s.heap.size = A at hD hX hA0 ⊢
  have hA : ∀ q : Nat, s.heap.size ≤ q → A q := fun q h => by rw [← hAe]; exact Or.inr h
  have G : gL cI cJ cZ cMic cSrc cSt cAI cAJ D ad A s.heap s.heap [] T [oJ ao cJ f] := ⟨hP, hD, va_S.rf⟩
  have E : cE p c cL_blockPower s m ([.ref (ad o), .int a0, .int a1, .int a2, .ref ao] : List Value).toArray (Cond.codeWith yL_blockPower cL_blockPower 6 (some .int) [(0, 11, 14, 21), (0, 11, 18, 13), (0, 11, 22, 15)] :: wsA) D RL (CT cI cJ cZ cMic cSrc cSt cAI cAJ ++ [(cD, .double)]) := ⟨hx, hb, hts, hown, hK⟩
  have hl : lv_has ls 6 [(0, .ref (ad o)), (1, .int a0), (2, .int a1), (3, .int a2), (4, .ref ao)] := hl
  refine lv_aload hx hb dL_blockPower_0 (lv_at hl 4 rfl) ?_
  refine lv_iconst (v := 0) hx hb dL_blockPower_2 (by decide) ?_
  refine lv_aload_n hx hb dL_blockPower_3 rfl (lv_at hl 0 rfl) ?_
  refine lv_iload_n hx hb dL_blockPower_4 rfl (lv_at hl 1 rfl) ?_
  refine lv_iload_n hx hb dL_blockPower_5 rfl (lv_at hl 2 rfl) ?_
  refine lv_iload_n hx hb dL_blockPower_6 rfl (lv_at hl 3 rfl) ?_
  refine t_avl (As := [.int a0, .int a1, .int a2]) (rest := [.int 0, .ref ao]) E G hA hX hX.2.2.2.1 hml (a_X11_blockPower l hst D cI cJ cZ cMic cSrc cSt cAI cAJ ad T o a0 a1 a2 h hrc h_o) (cwV 3 hts (gaV qA_1057 qA_1058 qA_1059 qA_131 qA_856) rfl rfl rfl (by decide +kernel) ⟨Nat.le_of_ble_eq_true rfl, Nat.le_of_ble_eq_true rfl⟩) h_o (cc_o11 h_s) rfl rfl hl.1 rfl (lv_room (Nat.le_of_ble_eq_true rfl)) dL_blockPower_7 ⟨by show 0 + (T1.1 - T.1) ≤ T1.1 - T.1 + 1; omega, by show 0 + (sg T1 - sg T) ≤ sg T1 - sg T + 6; omega⟩ ?_
  intro ad2 H locs had G
  refine t_last E G dL_blockPower_10 (fun H locs G => ?_)
  refine lv_goto (tgt := 26) hx hb dL_blockPower_11 (by decide) ?_
  refine lv_iconst (v := 0) hx hb dL_blockPower_26 (by decide) ?_
  refine W.widen (k := T1.1 - T.1 + 1) (n := sg T1 - sg T + 6) (by omega) (by omega) ?_
  exact W.iret (v := 0) hx hb hr (fun t ht hW => ⟨⟨0, ad2, rfl, ⟨rfl, had⟩, ⟨by rw [ht]; exact G.1, va_K.moved hW.alike hK, G.2.1⟩⟩, G.2.2.F ht⟩) G.2.2.2.2 dL_blockPower_27
set_option maxHeartbeats 4000000 in
set_option maxRecDepth 100000 in
theorem v_blockPower_t (l : Launch) (hst : l.stackTraces = false) (D : va_G) {cI cJ cZ cMic cSrc cSt cAI cAJ cD : ClassId} (h0 : Nat) (ad : Nat → Nat) (T : AT) (o : Nat) (a0 a1 a2 : Int32) (ao : Nat) (f : Nat → Int64) {e1 : Nat} {r1 : Int64} {T1 : AT} (h : g_X11_blockPower T o a0 a1 a2 = some (e1 + 1, r1, T1)) (hrc : RC T) (h_o : o < T.1) (h_s : T.2.1 o = (11, 0)) : tWi l yL_blockPower (Cond.codeWith yL_blockPower cL_blockPower 6 (some .int) [(0, 11, 14, 21), (0, 11, 18, 13), (0, 11, 22, 15)] :: wsA) 9 146 cI cJ cZ cMic cSrc cSt cAI cAJ cD D h0 ad T (oJ ao cJ f) [.ref (ad o), .int a0, .int a1, .int a2, .ref ao] (vck 1 2 3 (e1 + 1)) T1 (oJ ao cJ (vfJ (e1 + 1) f r1)) := by
  intro sz
  refine pro_inW (cc := cL_blockPower) (maxL := 6) (ret := some .int) (by exact pn_RL) rfl (by exact Nat.le_of_ble_eq_true rfl) (fun p e s m below meth c ls hx hb hr hts hown hlocks htb hml hv hl => ?_)
  obtain ⟨hsz, hP, hK, hD0, hX, hN, hA0, hTS⟩ := hv
  subst hsz
  have hD := hD0.self (sz := s.heap.size)
  generalize hAe : va_A (cW ad T.1 (cc cI cJ cZ cMic cSrc cSt cAI cAJ ad T) ++ [oJ ao cJ f]) s.heap.size = A at hD hX hA0 ⊢
  have hA : ∀ q : Nat, s.heap.size ≤ q → A q := fun q h => by rw [← hAe]; exact Or.inr h
  have G : gL cI cJ cZ cMic cSrc cSt cAI cAJ D ad A s.heap s.heap [] T [oJ ao cJ f] := ⟨hP, hD, va_S.rf⟩
  have E : cE p c cL_blockPower s m ([.ref (ad o), .int a0, .int a1, .int a2, .ref ao] : List Value).toArray (Cond.codeWith yL_blockPower cL_blockPower 6 (some .int) [(0, 11, 14, 21), (0, 11, 18, 13), (0, 11, 22, 15)] :: wsA) D RL (CT cI cJ cZ cMic cSrc cSt cAI cAJ ++ [(cD, .double)]) := ⟨hx, hb, hts, hown, hK⟩
  have hl : lv_has ls 6 [(0, .ref (ad o)), (1, .int a0), (2, .int a1), (3, .int a2), (4, .ref ao)] := hl
  refine lv_aload hx hb dL_blockPower_0 (lv_at hl 4 rfl) ?_
  refine lv_iconst (v := 0) hx hb dL_blockPower_2 (by decide) ?_
  refine lv_aload_n hx hb dL_blockPower_3 rfl (lv_at hl 0 rfl) ?_
  refine lv_iload_n hx hb dL_blockPower_4 rfl (lv_at hl 1 rfl) ?_
  refine lv_iload_n hx hb dL_blockPower_5 rfl (lv_at hl 2 rfl) ?_
  refine lv_iload_n hx hb dL_blockPower_6 rfl (lv_at hl 3 rfl) ?_
  refine t_bvl (As := [.int a0, .int a1, .int a2]) (rest := [.int 0, .ref ao]) E G hA hX hX.2.2.2.1 hml (b_X11_blockPower l hst D cI cJ cZ cMic cSrc cSt cAI cAJ ad T o a0 a1 a2 h hrc h_o) (cwV 3 hts (gaV qA_1057 qA_1058 qA_1059 qA_131 qA_856) rfl rfl rfl (by decide +kernel) ⟨Nat.le_of_ble_eq_true rfl, Nat.le_of_ble_eq_true rfl⟩) h_o (cc_o11 h_s) rfl rfl hl.1 rfl (lv_room (Nat.le_of_ble_eq_true rfl)) dL_blockPower_7 ⟨by show 0 + (T1.1 - T.1 + 1) ≤ T1.1 - T.1 + 1; omega, by show 0 + (sg T1 - sg T + 6) ≤ sg T1 - sg T + 6; omega⟩ ?_
  intro E9 ce q9 ad2 H locs hE had G hce hcv hcl
  rcases e1 with _ | _ | e1
  · have hE : E9 = xISE := hE
    subst hE
    refine vx_catch (name := xISE) hown [] { startPc := 0, endPc := 11, handlerPc := 14, catchType := 21 } [{ startPc := 0, endPc := 11, handlerPc := 18, catchType := 13 }, { startPc := 0, endPc := 11, handlerPc := 22, catchType := 15 }] htb (fun z hz => absurd hz List.not_mem_nil) (by decide) (by decide) (hts _ (.tail _ qA_952)) (hX.use (.castable xISE xISE) (by decide +kernel)) hce hcv hcl ?_
    refine lv_astore (lv' := [(5, .ref q9), (0, .ref (ad o)), (1, .int a0), (2, .int a1), (3, .int a2), (4, .ref ao)]) hx hb dL_blockPower_14 hl (by decide) rfl (fun ls hl => ?_)
    refine lv_iconst (v := 1) hx hb dL_blockPower_16 (by decide) ?_
    refine W.widen (k := T1.1 - T.1 + 1) (n := sg T1 - sg T + 6) (by omega) (by omega) ?_
    exact W.iret (v := 1) hx hb hr (fun t ht hW => ⟨⟨1, ad2, rfl, ⟨rfl, had⟩, ⟨by rw [ht]; exact G.1, va_K.moved hW.alike hK, G.2.1⟩⟩, G.2.2.F ht⟩) G.2.2.2.2 dL_blockPower_17
  · have hE : E9 = xIOB := hE
    subst hE
    refine vx_catch (name := xIOB) hown [{ startPc := 0, endPc := 11, handlerPc := 14, catchType := 21 }] { startPc := 0, endPc := 11, handlerPc := 18, catchType := 13 } [{ startPc := 0, endPc := 11, handlerPc := 22, catchType := 15 }] htb (List.forall_mem_cons.mpr ⟨Or.inr ⟨by decide, xISE, hts _ (.tail _ qA_952), hN.2.2.1⟩, fun z hz => absurd hz List.not_mem_nil⟩) (by decide) (by decide) (hts _ (.tail _ qA_946)) (hX.use (.castable xIOB xIOB) (by decide +kernel)) hce hcv hcl ?_
    refine lv_astore (lv' := [(5, .ref q9), (0, .ref (ad o)), (1, .int a0), (2, .int a1), (3, .int a2), (4, .ref ao)]) hx hb dL_blockPower_18 hl (by decide) rfl (fun ls hl => ?_)
    refine lv_iconst (v := 2) hx hb dL_blockPower_20 (by decide) ?_
    refine W.widen (k := T1.1 - T.1 + 1) (n := sg T1 - sg T + 6) (by omega) (by omega) ?_
    exact W.iret (v := 2) hx hb hr (fun t ht hW => ⟨⟨2, ad2, rfl, ⟨rfl, had⟩, ⟨by rw [ht]; exact G.1, va_K.moved hW.alike hK, G.2.1⟩⟩, G.2.2.F ht⟩) G.2.2.2.2 dL_blockPower_21
  · have hE : E9 = xIAE := hE
    subst hE
    refine vx_catch (name := xIAE) hown [{ startPc := 0, endPc := 11, handlerPc := 14, catchType := 21 }, { startPc := 0, endPc := 11, handlerPc := 18, catchType := 13 }] { startPc := 0, endPc := 11, handlerPc := 22, catchType := 15 } [] htb (List.forall_mem_cons.mpr ⟨Or.inr ⟨by decide, xISE, hts _ (.tail _ qA_952), hN.2.2.2⟩, List.forall_mem_cons.mpr ⟨Or.inr ⟨by decide, xIOB, hts _ (.tail _ qA_946), hN.1⟩, fun z hz => absurd hz List.not_mem_nil⟩⟩) (by decide) (by decide) (hts _ (.tail _ qA_947)) (hX.use (.castable xIAE xIAE) (by decide +kernel)) hce hcv hcl ?_
    refine lv_astore (lv' := [(5, .ref q9), (0, .ref (ad o)), (1, .int a0), (2, .int a1), (3, .int a2), (4, .ref ao)]) hx hb dL_blockPower_22 hl (by decide) rfl (fun ls hl => ?_)
    refine lv_iconst (v := 3) hx hb dL_blockPower_24 (by decide) ?_
    refine W.widen (k := T1.1 - T.1 + 1) (n := sg T1 - sg T + 6) (by omega) (by omega) ?_
    exact W.iret (v := 3) hx hb hr (fun t ht hW => ⟨⟨3, ad2, rfl, ⟨rfl, had⟩, ⟨by rw [ht]; exact G.1, va_K.moved hW.alike hK, G.2.1⟩⟩, G.2.2.F ht⟩) G.2.2.2.2 dL_blockPower_25
theorem v_blockPower (l : Launch) (hst : l.stackTraces = false) (D : va_G) {cI cJ cZ cMic cSrc cSt cAI cAJ cD : ClassId} (h0 : Nat) (ad : Nat → Nat) (T : AT) (o : Nat) (a0 a1 a2 : Int32) (ao : Nat) (f : Nat → Int64) {k1 : Nat} {r1 : Int64} {T1 : AT} (h : g_X11_blockPower T o a0 a1 a2 = some (k1, r1, T1)) (hrc : RC T) (h_o : o < T.1) (h_s : T.2.1 o = (11, 0)) : tWi l yL_blockPower (Cond.codeWith yL_blockPower cL_blockPower 6 (some .int) [(0, 11, 14, 21), (0, 11, 18, 13), (0, 11, 22, 15)] :: wsA) 9 146 cI cJ cZ cMic cSrc cSt cAI cAJ cD D h0 ad T (oJ ao cJ f) [.ref (ad o), .int a0, .int a1, .int a2, .ref ao] (vck 1 2 3 k1) T1 (oJ ao cJ (vfJ k1 f r1)) := by
  cases k1 with
  | zero => exact v_blockPower_n l hst D h0 ad T o a0 a1 a2 ao f h hrc h_o h_s
  | succ e1 => exact v_blockPower_t l hst D h0 ad T o a0 a1 a2 ao f h hrc h_o h_s
