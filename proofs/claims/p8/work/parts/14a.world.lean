/-! the law's world: the class's cells, then others -/
def gL (cI cJ cZ cMic cSrc cSt cAI cAJ : ClassId) (D : va_G) (ad : Nat → Nat) (A : Nat → Prop) (H0 H : Heap) (locs : List Loc) (T : AT) (W2 : va_W) : Prop := va_P D vwCl (cW ad T.1 (cc cI cJ cZ cMic cSrc cSt cAI cAJ ad T) ++ W2) H ∧ va_D A (cW ad T.1 (cc cI cJ cZ cMic cSrc cSt cAI cAJ ad T) ++ W2) ∧ va_S A H0 H locs
theorem x_allC (w1 w2 : va_W) : (List.range w1.length).map (fun i => (w1 ++ w2)[i]?) = w1.map some := by
  refine List.ext_getElem? (fun i => ?_)
  rw [List.getElem?_map, List.getElem?_map]
  by_cases h : i < w1.length
  · rw [List.getElem?_range h]
    show some ((w1 ++ w2)[i]?) = (w1[i]?).map some
    rw [List.getElem?_append_left h, List.getElem?_eq_getElem h]
    rfl
  · rw [List.getElem?_eq_none (by rw [List.length_range]; exact Nat.not_lt.mp h), List.getElem?_eq_none (Nat.not_lt.mp h)]
    rfl
theorem x_allM (w1 w2 : va_W) : ((List.range w2.length).map (fun j => w1.length + j)).map (fun i => (w1 ++ w2)[i]?) = w2.map some := by
  refine List.ext_getElem? (fun i => ?_)
  rw [List.map_map, List.getElem?_map, List.getElem?_map]
  by_cases h : i < w2.length
  · rw [List.getElem?_range h]
    show some ((w1 ++ w2)[w1.length + i]?) = (w2[i]?).map some
    rw [List.getElem?_append_right (Nat.le_add_right _ _), Nat.add_sub_cancel_left, List.getElem?_eq_getElem h]
    rfl
  · rw [List.getElem?_eq_none (by rw [List.length_range]; exact Nat.not_lt.mp h), List.getElem?_eq_none (Nat.not_lt.mp h)]
    rfl
theorem tW_at (ad : Nat → Nat) (N : Nat) (S : Nat → va_E) (o : Nat × va_E) (w : va_W) : (cW ad N S ++ o :: w)[N]? = some o := by
  rw [List.getElem?_append_right (by rw [cW_len]; exact Nat.le_refl _), cW_len, Nat.sub_self]
  rfl
theorem tW_set (ad : Nat → Nat) (N : Nat) (S : Nat → va_E) (o o1 : Nat × va_E) (w : va_W) : (cW ad N S ++ o :: w).set N o1 = cW ad N S ++ o1 :: w := by
  rw [List.set_append_right _ _ (by rw [cW_len]; exact Nat.le_refl _), cW_len, Nat.sub_self]
  rfl
theorem t_cvi {p : Program} {l : Launch} {e : Env} {R : Room} {s : State} {m : MethodId} {args : Array Value} {below : List Frame} {meth : Method} {c : Code} {H : Heap} {locs : List Loc} {cells slots : Nat} {Q : State → Prop} {cc0 : ByteArray} {pc : Nat} {ls : Array Slot} {rest : List Value} {D : va_G} {A : Nat → Prop} {Ts : List Cond} {own : String} {cI cJ cZ cMic cSrc cSt cAI cAJ : ClassId} {cD : ClassId} {ad : Nat → Nat} {T : AT} {W2 : va_W} {y : MethodName} {bytes : ByteArray} {maxL nL n index fr lo : Nat} {ret : Option FieldType} {ws : List Cond} {As : List Value} {C : String} {TT : u_T} {nf ci q : Nat} {fs : List Value} {post : Int32 → AT → Prop} (E : cE p c cc0 s m args Ts D own (CT cI cJ cZ cMic cSrc cSt cAI cAJ ++ [(cD, .double)])) (G : gL cI cJ cZ cMic cSrc cSt cAI cAJ D ad A s.heap H locs T W2) (hA : ∀ q, s.heap.size ≤ q → A q) (hX : xT A s) (hN : nX s) (hml : c.maxLocals = nL) (hM : kCi l y ws fr lo cI cJ cZ cMic cSrc cSt cAI cAJ D ad T (.ref (ad q) :: As) post) (cw : CallW R s args own C index y bytes maxL ret ws { frames := fr, cells := 0, slots := 0, locals := lo } 0 0 n) (hq : q < T.1) (hSq : cc cI cJ cZ cMic cSrc cSt cAI cAJ ad T q = .inr (ci, fs)) (hc : vwCl[ci]? = some (C, TT, nf)) (hn : As.length = n) (hsz : ls.size = nL) {st : List Value} (hst : st = As.reverse ++ .ref (ad q) :: rest) (hW : 2 * (F0 m pc ls st).monitorRoom + (rest.map fun v => v.category).sum ≤ 8) (hdg : decode cc0 pc = .ok (.invokevirtual index, 3)) (hf : cells + 0 ≤ R.cells ∧ slots + 0 ≤ R.slots) (kk : ∀ (r : Int32) (T1 : AT) (H1 : Heap) (locs1 : List Loc), post r T1 → gL cI cJ cZ cMic cSrc cSt cAI cAJ D ad A s.heap H1 locs1 T1 W2 → W p l e R s m args below meth c H1 locs1 (cells + 0) (slots + 0) Q (F0 m (pc + 3) ls (.int r :: rest))) : W p l e R s m args below meth c H locs cells slots Q (F0 m pc ls st) := by
  obtain ⟨hx, hb, hts, hown, hK⟩ := E
  obtain ⟨hP, hD, hS⟩ := G
  have hC := l_allC ad T.1 (cc cI cJ cZ cMic cSrc cSt cAI cAJ ad T) W2
  have hR := l_allM ad T.1 (cc cI cJ cZ cMic cSrc cSt cAI cAJ ad T) W2
  have hFc := va_free (wc := cW ad T.1 (cc cI cJ cZ cMic cSrc cSt cAI cAJ ad T)) hD hS hA (List.range T.1) hC
  have hPc := hP.sub (List.range T.1) (l_fm hC)
  have hDc := hD.sub (List.range T.1) (va_nd_range T.1) hC
  have hKc : va_K D vwCl (CT cI cJ cZ cMic cSrc cSt cAI cAJ) s := hK.sub [0, 1, 2, 3, 4, 5, 6, 7] rfl
  refine va_calli (va_runV (As := As) (rest := rest) ⟨hx, hb, hml, hown, hts⟩ (hM H.size) cw ⟨fun a U g mk q => by obtain ⟨q0, q1, qP, qK, qD, qX, qN⟩ := q; exact ⟨q0, q1, qP, va_K.moved (u := U) (U := U.calling g mk a) (Vm.Alike.refl U.vm) qK, qD, qX.blind, nX.moved U (U.calling g mk a) (State.WarmedH.refl U) qN⟩, va_recv hKc hPc (ci := ci) (q0 := q) hc (cW_e hq hSq), fun U hU hW => ⟨rfl, by rw [hU], by rw [hU]; exact hPc, va_K.moved hW.alike hKc, hDc.weaken (fun _ _ _ _ => trivial), hX.go hW hU hS hFc, nX.moved s U hW hN⟩⟩ rfl hn hsz hst hW hdg hf) hS (fun q _ h => hFc q h) hFc (fun r u t H1 locs1 ht hvm hw hB hz1 hk1 hS => ?_)
  obtain ⟨hP1, hK1, hD1⟩ := hB
  rw [ht] at hP1
  obtain ⟨hP2, hD2⟩ := va_join (wr := W2) (w1 := cW ad u.1 (cc cI cJ cZ cMic cSrc cSt cAI cAJ ad u)) hP hD (List.range T.1) _ hC hR (l_ndM T.1 _) l_disM hk1 hFc hP1 hD1
  exact kk r u H1 locs1 hw ⟨va_P.swap (a := []) hP2, va_D.swap (a := []) hD2, hS⟩
theorem t_xvi {p : Program} {l : Launch} {e : Env} {R : Room} {s : State} {m : MethodId} {args : Array Value} {below : List Frame} {meth : Method} {c : Code} {H : Heap} {locs : List Loc} {cells slots : Nat} {Q : State → Prop} {cc0 : ByteArray} {pc : Nat} {ls : Array Slot} {rest : List Value} {D : va_G} {A : Nat → Prop} {Ts : List Cond} {own : String} {cI cJ cZ cMic cSrc cSt cAI cAJ : ClassId} {cD : ClassId} {ad : Nat → Nat} {T : AT} {W2 : va_W} {y : MethodName} {bytes : ByteArray} {maxL nL n index fr lo : Nat} {ret : Option FieldType} {ws : List Cond} {As : List Value} {C : String} {TT : u_T} {nf ci q : Nat} {fs : List Value} {e1 : Nat} {T1 : AT} (E : cE p c cc0 s m args Ts D own (CT cI cJ cZ cMic cSrc cSt cAI cAJ ++ [(cD, .double)])) (G : gL cI cJ cZ cMic cSrc cSt cAI cAJ D ad A s.heap H locs T W2) (hA : ∀ q, s.heap.size ≤ q → A q) (hX : xT A s) (hN : nX s) (hml : c.maxLocals = nL) (hM : kXi l y ws fr lo cI cJ cZ cMic cSrc cSt cAI cAJ D ad T (.ref (ad q) :: As) e1 T1) (cw : CallW R s args own C index y bytes maxL ret ws { frames := fr, cells := 1, slots := 6, locals := lo } 1 6 n) (hq : q < T.1) (hSq : cc cI cJ cZ cMic cSrc cSt cAI cAJ ad T q = .inr (ci, fs)) (hc : vwCl[ci]? = some (C, TT, nf)) (hn : As.length = n) (hsz : ls.size = nL) {st : List Value} (hst : st = As.reverse ++ .ref (ad q) :: rest) (hW : 2 * (F0 m pc ls st).monitorRoom + (rest.map fun v => v.category).sum ≤ 8) (hdg : decode cc0 pc = .ok (.invokevirtual index, 3)) (hf : cells + 1 ≤ R.cells ∧ slots + 6 ≤ R.slots) (kx : ∀ (E9 : String) (ce : Cell) (q9 : Addr) (T9 : AT) (H1 : Heap) (locs1 : List Loc), E9 = exn e1 ∧ T9 = T1 → gL cI cJ cZ cMic cSrc cSt cAI cAJ D ad A s.heap H1 locs1 T9 W2 → H1[q9]? = some ce → ce.vm = .none → s.vm.findClass E9 = some ce.cls → vx_W p l e R s m args below meth c H1 locs1 (cells + 1) (slots + 6) Q (F0 m pc ls rest) q9) : W p l e R s m args below meth c H locs cells slots Q (F0 m pc ls st) := by
  obtain ⟨hx, hb, hts, hown, hK⟩ := E
  obtain ⟨hP, hD, hS⟩ := G
  have hC := l_allC ad T.1 (cc cI cJ cZ cMic cSrc cSt cAI cAJ ad T) W2
  have hR := l_allM ad T.1 (cc cI cJ cZ cMic cSrc cSt cAI cAJ ad T) W2
  have hFc := va_free (wc := cW ad T.1 (cc cI cJ cZ cMic cSrc cSt cAI cAJ ad T)) hD hS hA (List.range T.1) hC
  have hPc := hP.sub (List.range T.1) (l_fm hC)
  have hDc := hD.sub (List.range T.1) (va_nd_range T.1) hC
  have hKc : va_K D vwCl (CT cI cJ cZ cMic cSrc cSt cAI cAJ) s := hK.sub [0, 1, 2, 3, 4, 5, 6, 7] rfl
  refine vx_calli (vx_runV (As := As) (rest := rest) ⟨hx, hb, hml, hown, hts⟩ (hM H.size) cw ⟨fun a U g mk q => by obtain ⟨q0, q1, qP, qK, qD, qX, qN⟩ := q; exact ⟨q0, q1, qP, va_K.moved (u := U) (U := U.calling g mk a) (Vm.Alike.refl U.vm) qK, qD, qX.blind, nX.moved U (U.calling g mk a) (State.WarmedH.refl U) qN⟩, va_recv hKc hPc (ci := ci) (q0 := q) hc (cW_e hq hSq), fun U hU hW => ⟨rfl, by rw [hU], by rw [hU]; exact hPc, va_K.moved hW.alike hKc, hDc.weaken (fun _ _ _ _ => trivial), hX.go hW hU hS hFc, nX.moved s U hW hN⟩⟩ rfl hn hsz hst hW hdg hf) hS (fun q _ h => hFc q h) hFc (fun q _ h => hFc q h) (fun E9 ce q9 u t H1 locs1 ht hvm _ hB hz1 hk1 hS hce hcv hcl => ?_) (fun r u t H1 locs1 ht hvm hw hB hz1 hk1 hS => hw.elim)
  obtain ⟨hpx, hP1, hK1, hD1⟩ := hB
  rw [ht] at hP1
  obtain ⟨hP2, hD2⟩ := va_join (wr := W2) (w1 := cW ad u.1 (cc cI cJ cZ cMic cSrc cSt cAI cAJ ad u)) hP hD (List.range T.1) _ hC hR (l_ndM T.1 _) l_disM hk1 hFc hP1 hD1
  exact kx E9 ce q9 u H1 locs1 hpx ⟨va_P.swap (a := []) hP2, va_D.swap (a := []) hD2, hS⟩ hce hcv hcl
theorem t_avi {p : Program} {l : Launch} {e : Env} {R : Room} {s : State} {m : MethodId} {args : Array Value} {below : List Frame} {meth : Method} {c : Code} {H : Heap} {locs : List Loc} {cells slots : Nat} {Q : State → Prop} {cc0 : ByteArray} {pc : Nat} {ls : Array Slot} {rest : List Value} {D : va_G} {A : Nat → Prop} {Ts : List Cond} {own : String} {cI cJ cZ cMic cSrc cSt cAI cAJ : ClassId} {cD : ClassId} {ad : Nat → Nat} {T : AT} {W2 : va_W} {y : MethodName} {bytes : ByteArray} {maxL nL n index fr lo : Nat} {ret : Option FieldType} {ws : List Cond} {As : List Value} {C : String} {TT : u_T} {nf ci q : Nat} {fs : List Value} {r1 : Int32} {T1 : AT} (E : cE p c cc0 s m args Ts D own (CT cI cJ cZ cMic cSrc cSt cAI cAJ ++ [(cD, .double)])) (G : gL cI cJ cZ cMic cSrc cSt cAI cAJ D ad A s.heap H locs T W2) (hA : ∀ q, s.heap.size ≤ q → A q) (hX : xT A s) (hN : nX s) (hml : c.maxLocals = nL) (hM : kAi l y ws fr lo cI cJ cZ cMic cSrc cSt cAI cAJ D ad T (.ref (ad q) :: As) r1 T1) (cw : CallW R s args own C index y bytes maxL ret ws { frames := fr, cells := T1.1 - T.1, slots := sg T1 - sg T, locals := lo } (T1.1 - T.1) (sg T1 - sg T) n) (hq : q < T.1) (hSq : cc cI cJ cZ cMic cSrc cSt cAI cAJ ad T q = .inr (ci, fs)) (hc : vwCl[ci]? = some (C, TT, nf)) (hn : As.length = n) (hsz : ls.size = nL) {st : List Value} (hst : st = As.reverse ++ .ref (ad q) :: rest) (hW : 2 * (F0 m pc ls st).monitorRoom + (rest.map fun v => v.category).sum ≤ 8) (hdg : decode cc0 pc = .ok (.invokevirtual index, 3)) (hf : cells + (T1.1 - T.1) ≤ R.cells ∧ slots + (sg T1 - sg T) ≤ R.slots) (kk : ∀ (ad2 : Nat → Nat) (H1 : Heap) (locs1 : List Loc), (∀ n, n < T.1 → ad2 n = ad n) → gL cI cJ cZ cMic cSrc cSt cAI cAJ D ad2 A s.heap H1 locs1 T1 W2 → W p l e R s m args below meth c H1 locs1 (cells + (T1.1 - T.1)) (slots + (sg T1 - sg T)) Q (F0 m (pc + 3) ls (.int r1 :: rest))) : W p l e R s m args below meth c H locs cells slots Q (F0 m pc ls st) := by
  obtain ⟨hx, hb, hts, hown, hK⟩ := E
  obtain ⟨hP, hD, hS⟩ := G
  have hC := l_allC ad T.1 (cc cI cJ cZ cMic cSrc cSt cAI cAJ ad T) W2
  have hR := l_allM ad T.1 (cc cI cJ cZ cMic cSrc cSt cAI cAJ ad T) W2
  have hFc := va_free (wc := cW ad T.1 (cc cI cJ cZ cMic cSrc cSt cAI cAJ ad T)) hD hS hA (List.range T.1) hC
  have hPc := hP.sub (List.range T.1) (l_fm hC)
  have hDc := hD.sub (List.range T.1) (va_nd_range T.1) hC
  have hKc : va_K D vwCl (CT cI cJ cZ cMic cSrc cSt cAI cAJ) s := hK.sub [0, 1, 2, 3, 4, 5, 6, 7] rfl
  refine va_calli (va_runV (As := As) (rest := rest) ⟨hx, hb, hml, hown, hts⟩ (hM H.size) cw ⟨fun a U g mk q => by obtain ⟨q0, q1, qP, qK, qD, qX, qN⟩ := q; exact ⟨q0, q1, qP, va_K.moved (u := U) (U := U.calling g mk a) (Vm.Alike.refl U.vm) qK, qD, qX.blind, nX.moved U (U.calling g mk a) (State.WarmedH.refl U) qN⟩, va_recv hKc hPc (ci := ci) (q0 := q) hc (cW_e hq hSq), fun U hU hW => ⟨rfl, by rw [hU], by rw [hU]; exact hPc, va_K.moved hW.alike hKc, hDc.weaken (fun _ _ _ _ => trivial), hX.go hW hU hS hFc, nX.moved s U hW hN⟩⟩ rfl hn hsz hst hW hdg hf) hS (fun q _ h => hFc q h) hFc (fun r u t H1 locs1 ht hvm hw hB hz1 hk1 hS => ?_)
  obtain ⟨u1, u2⟩ := u
  obtain ⟨hw1, hw2, hw3⟩ := hw
  have hw2 : u1 = T1 := hw2
  obtain ⟨hP1, hK1, hD1⟩ := hB
  rw [ht] at hP1
  obtain ⟨hP2, hD2⟩ := va_join (wr := W2) (w1 := cW u2 u1.1 (cc cI cJ cZ cMic cSrc cSt cAI cAJ u2 u1)) hP hD (List.range T.1) _ hC hR (l_ndM T.1 _) l_disM hk1 hFc hP1 hD1
  rw [hw1]
  rw [hw2] at hP2 hD2
  exact kk u2 H1 locs1 hw3 ⟨va_P.swap (a := []) hP2, va_D.swap (a := []) hD2, hS⟩
theorem t_bvi {p : Program} {l : Launch} {e : Env} {R : Room} {s : State} {m : MethodId} {args : Array Value} {below : List Frame} {meth : Method} {c : Code} {H : Heap} {locs : List Loc} {cells slots : Nat} {Q : State → Prop} {cc0 : ByteArray} {pc : Nat} {ls : Array Slot} {rest : List Value} {D : va_G} {A : Nat → Prop} {Ts : List Cond} {own : String} {cI cJ cZ cMic cSrc cSt cAI cAJ : ClassId} {cD : ClassId} {ad : Nat → Nat} {T : AT} {W2 : va_W} {y : MethodName} {bytes : ByteArray} {maxL nL n index fr lo : Nat} {ret : Option FieldType} {ws : List Cond} {As : List Value} {C : String} {TT : u_T} {nf ci q : Nat} {fs : List Value} {e1 : Nat} {T1 : AT} (E : cE p c cc0 s m args Ts D own (CT cI cJ cZ cMic cSrc cSt cAI cAJ ++ [(cD, .double)])) (G : gL cI cJ cZ cMic cSrc cSt cAI cAJ D ad A s.heap H locs T W2) (hA : ∀ q, s.heap.size ≤ q → A q) (hX : xT A s) (hN : nX s) (hml : c.maxLocals = nL) (hM : kAXi l y ws fr lo cI cJ cZ cMic cSrc cSt cAI cAJ D ad T (.ref (ad q) :: As) e1 T1) (cw : CallW R s args own C index y bytes maxL ret ws { frames := fr, cells := T1.1 - T.1 + 1, slots := sg T1 - sg T + 6, locals := lo } (T1.1 - T.1 + 1) (sg T1 - sg T + 6) n) (hq : q < T.1) (hSq : cc cI cJ cZ cMic cSrc cSt cAI cAJ ad T q = .inr (ci, fs)) (hc : vwCl[ci]? = some (C, TT, nf)) (hn : As.length = n) (hsz : ls.size = nL) {st : List Value} (hst : st = As.reverse ++ .ref (ad q) :: rest) (hW : 2 * (F0 m pc ls st).monitorRoom + (rest.map fun v => v.category).sum ≤ 8) (hdg : decode cc0 pc = .ok (.invokevirtual index, 3)) (hf : cells + (T1.1 - T.1 + 1) ≤ R.cells ∧ slots + (sg T1 - sg T + 6) ≤ R.slots) (kx : ∀ (E9 : String) (ce : Cell) (q9 : Addr) (ad2 : Nat → Nat) (H1 : Heap) (locs1 : List Loc), E9 = exn e1 → (∀ n, n < T.1 → ad2 n = ad n) → gL cI cJ cZ cMic cSrc cSt cAI cAJ D ad2 A s.heap H1 locs1 T1 W2 → H1[q9]? = some ce → ce.vm = .none → s.vm.findClass E9 = some ce.cls → vx_W p l e R s m args below meth c H1 locs1 (cells + (T1.1 - T.1 + 1)) (slots + (sg T1 - sg T + 6)) Q (F0 m pc ls rest) q9) : W p l e R s m args below meth c H locs cells slots Q (F0 m pc ls st) := by
  obtain ⟨hx, hb, hts, hown, hK⟩ := E
  obtain ⟨hP, hD, hS⟩ := G
  have hC := l_allC ad T.1 (cc cI cJ cZ cMic cSrc cSt cAI cAJ ad T) W2
  have hR := l_allM ad T.1 (cc cI cJ cZ cMic cSrc cSt cAI cAJ ad T) W2
  have hFc := va_free (wc := cW ad T.1 (cc cI cJ cZ cMic cSrc cSt cAI cAJ ad T)) hD hS hA (List.range T.1) hC
  have hPc := hP.sub (List.range T.1) (l_fm hC)
  have hDc := hD.sub (List.range T.1) (va_nd_range T.1) hC
  have hKc : va_K D vwCl (CT cI cJ cZ cMic cSrc cSt cAI cAJ) s := hK.sub [0, 1, 2, 3, 4, 5, 6, 7] rfl
  refine vx_calli (vx_runV (As := As) (rest := rest) ⟨hx, hb, hml, hown, hts⟩ (hM H.size) cw ⟨fun a U g mk q => by obtain ⟨q0, q1, qP, qK, qD, qX, qN⟩ := q; exact ⟨q0, q1, qP, va_K.moved (u := U) (U := U.calling g mk a) (Vm.Alike.refl U.vm) qK, qD, qX.blind, nX.moved U (U.calling g mk a) (State.WarmedH.refl U) qN⟩, va_recv hKc hPc (ci := ci) (q0 := q) hc (cW_e hq hSq), fun U hU hW => ⟨rfl, by rw [hU], by rw [hU]; exact hPc, va_K.moved hW.alike hKc, hDc.weaken (fun _ _ _ _ => trivial), hX.go hW hU hS hFc, nX.moved s U hW hN⟩⟩ rfl hn hsz hst hW hdg hf) hS (fun q _ h => hFc q h) hFc (fun q _ h => hFc q h) (fun E9 ce q9 u t H1 locs1 ht hvm _ hB hz1 hk1 hS hce hcv hcl => ?_) (fun r u t H1 locs1 ht hvm hw hB hz1 hk1 hS => hw.elim)
  obtain ⟨u1, u2⟩ := u
  obtain ⟨⟨hpx, hw2, hw3⟩, hP1, hK1, hD1⟩ := hB
  have hw2 : u1 = T1 := hw2
  rw [ht] at hP1
  obtain ⟨hP2, hD2⟩ := va_join (wr := W2) (w1 := cW u2 u1.1 (cc cI cJ cZ cMic cSrc cSt cAI cAJ u2 u1)) hP hD (List.range T.1) _ hC hR (l_ndM T.1 _) l_disM hk1 hFc hP1 hD1
  rw [hw2] at hP2 hD2
  exact kx E9 ce q9 u2 H1 locs1 hpx hw3 ⟨va_P.swap (a := []) hP2, va_D.swap (a := []) hD2, hS⟩ hce hcv hcl
theorem t_avl {p : Program} {l : Launch} {e : Env} {R : Room} {s : State} {m : MethodId} {args : Array Value} {below : List Frame} {meth : Method} {c : Code} {H : Heap} {locs : List Loc} {cells slots : Nat} {Q : State → Prop} {cc0 : ByteArray} {pc : Nat} {ls : Array Slot} {rest : List Value} {D : va_G} {A : Nat → Prop} {Ts : List Cond} {own : String} {cI cJ cZ cMic cSrc cSt cAI cAJ : ClassId} {cD : ClassId} {ad : Nat → Nat} {T : AT} {W2 : va_W} {y : MethodName} {bytes : ByteArray} {maxL nL n index fr lo : Nat} {ret : Option FieldType} {ws : List Cond} {As : List Value} {C : String} {TT : u_T} {nf ci q : Nat} {fs : List Value} {r1 : Int64} {T1 : AT} (E : cE p c cc0 s m args Ts D own (CT cI cJ cZ cMic cSrc cSt cAI cAJ ++ [(cD, .double)])) (G : gL cI cJ cZ cMic cSrc cSt cAI cAJ D ad A s.heap H locs T W2) (hA : ∀ q, s.heap.size ≤ q → A q) (hX : xT A s) (hN : nX s) (hml : c.maxLocals = nL) (hM : kAl l y ws fr lo cI cJ cZ cMic cSrc cSt cAI cAJ D ad T (.ref (ad q) :: As) r1 T1) (cw : CallW R s args own C index y bytes maxL ret ws { frames := fr, cells := T1.1 - T.1, slots := sg T1 - sg T, locals := lo } (T1.1 - T.1) (sg T1 - sg T) n) (hq : q < T.1) (hSq : cc cI cJ cZ cMic cSrc cSt cAI cAJ ad T q = .inr (ci, fs)) (hc : vwCl[ci]? = some (C, TT, nf)) (hn : As.length = n) (hsz : ls.size = nL) {st : List Value} (hst : st = As.reverse ++ .ref (ad q) :: rest) (hW : 2 * (F0 m pc ls st).monitorRoom + (rest.map fun v => v.category).sum ≤ 8) (hdg : decode cc0 pc = .ok (.invokevirtual index, 3)) (hf : cells + (T1.1 - T.1) ≤ R.cells ∧ slots + (sg T1 - sg T) ≤ R.slots) (kk : ∀ (ad2 : Nat → Nat) (H1 : Heap) (locs1 : List Loc), (∀ n, n < T.1 → ad2 n = ad n) → gL cI cJ cZ cMic cSrc cSt cAI cAJ D ad2 A s.heap H1 locs1 T1 W2 → W p l e R s m args below meth c H1 locs1 (cells + (T1.1 - T.1)) (slots + (sg T1 - sg T)) Q (F0 m (pc + 3) ls (.long r1 :: rest))) : W p l e R s m args below meth c H locs cells slots Q (F0 m pc ls st) := by
  obtain ⟨hx, hb, hts, hown, hK⟩ := E
  obtain ⟨hP, hD, hS⟩ := G
  have hC := l_allC ad T.1 (cc cI cJ cZ cMic cSrc cSt cAI cAJ ad T) W2
  have hR := l_allM ad T.1 (cc cI cJ cZ cMic cSrc cSt cAI cAJ ad T) W2
  have hFc := va_free (wc := cW ad T.1 (cc cI cJ cZ cMic cSrc cSt cAI cAJ ad T)) hD hS hA (List.range T.1) hC
  have hPc := hP.sub (List.range T.1) (l_fm hC)
  have hDc := hD.sub (List.range T.1) (va_nd_range T.1) hC
  have hKc : va_K D vwCl (CT cI cJ cZ cMic cSrc cSt cAI cAJ) s := hK.sub [0, 1, 2, 3, 4, 5, 6, 7] rfl
  refine va_calll (va_runV (As := As) (rest := rest) ⟨hx, hb, hml, hown, hts⟩ (hM H.size) cw ⟨fun a U g mk q => by obtain ⟨q0, q1, qP, qK, qD, qX, qN⟩ := q; exact ⟨q0, q1, qP, va_K.moved (u := U) (U := U.calling g mk a) (Vm.Alike.refl U.vm) qK, qD, qX.blind, nX.moved U (U.calling g mk a) (State.WarmedH.refl U) qN⟩, va_recv hKc hPc (ci := ci) (q0 := q) hc (cW_e hq hSq), fun U hU hW => ⟨rfl, by rw [hU], by rw [hU]; exact hPc, va_K.moved hW.alike hKc, hDc.weaken (fun _ _ _ _ => trivial), hX.go hW hU hS hFc, nX.moved s U hW hN⟩⟩ rfl hn hsz hst hW hdg hf) hS (fun q _ h => hFc q h) hFc (fun r u t H1 locs1 ht hvm hw hB hz1 hk1 hS => ?_)
  obtain ⟨u1, u2⟩ := u
  obtain ⟨hw1, hw2, hw3⟩ := hw
  have hw2 : u1 = T1 := hw2
  obtain ⟨hP1, hK1, hD1⟩ := hB
  rw [ht] at hP1
  obtain ⟨hP2, hD2⟩ := va_join (wr := W2) (w1 := cW u2 u1.1 (cc cI cJ cZ cMic cSrc cSt cAI cAJ u2 u1)) hP hD (List.range T.1) _ hC hR (l_ndM T.1 _) l_disM hk1 hFc hP1 hD1
  rw [hw1]
  rw [hw2] at hP2 hD2
  exact kk u2 H1 locs1 hw3 ⟨va_P.swap (a := []) hP2, va_D.swap (a := []) hD2, hS⟩
theorem t_bvl {p : Program} {l : Launch} {e : Env} {R : Room} {s : State} {m : MethodId} {args : Array Value} {below : List Frame} {meth : Method} {c : Code} {H : Heap} {locs : List Loc} {cells slots : Nat} {Q : State → Prop} {cc0 : ByteArray} {pc : Nat} {ls : Array Slot} {rest : List Value} {D : va_G} {A : Nat → Prop} {Ts : List Cond} {own : String} {cI cJ cZ cMic cSrc cSt cAI cAJ : ClassId} {cD : ClassId} {ad : Nat → Nat} {T : AT} {W2 : va_W} {y : MethodName} {bytes : ByteArray} {maxL nL n index fr lo : Nat} {ret : Option FieldType} {ws : List Cond} {As : List Value} {C : String} {TT : u_T} {nf ci q : Nat} {fs : List Value} {e1 : Nat} {T1 : AT} (E : cE p c cc0 s m args Ts D own (CT cI cJ cZ cMic cSrc cSt cAI cAJ ++ [(cD, .double)])) (G : gL cI cJ cZ cMic cSrc cSt cAI cAJ D ad A s.heap H locs T W2) (hA : ∀ q, s.heap.size ≤ q → A q) (hX : xT A s) (hN : nX s) (hml : c.maxLocals = nL) (hM : kAXl l y ws fr lo cI cJ cZ cMic cSrc cSt cAI cAJ D ad T (.ref (ad q) :: As) e1 T1) (cw : CallW R s args own C index y bytes maxL ret ws { frames := fr, cells := T1.1 - T.1 + 1, slots := sg T1 - sg T + 6, locals := lo } (T1.1 - T.1 + 1) (sg T1 - sg T + 6) n) (hq : q < T.1) (hSq : cc cI cJ cZ cMic cSrc cSt cAI cAJ ad T q = .inr (ci, fs)) (hc : vwCl[ci]? = some (C, TT, nf)) (hn : As.length = n) (hsz : ls.size = nL) {st : List Value} (hst : st = As.reverse ++ .ref (ad q) :: rest) (hW : 2 * (F0 m pc ls st).monitorRoom + (rest.map fun v => v.category).sum ≤ 8) (hdg : decode cc0 pc = .ok (.invokevirtual index, 3)) (hf : cells + (T1.1 - T.1 + 1) ≤ R.cells ∧ slots + (sg T1 - sg T + 6) ≤ R.slots) (kx : ∀ (E9 : String) (ce : Cell) (q9 : Addr) (ad2 : Nat → Nat) (H1 : Heap) (locs1 : List Loc), E9 = exn e1 → (∀ n, n < T.1 → ad2 n = ad n) → gL cI cJ cZ cMic cSrc cSt cAI cAJ D ad2 A s.heap H1 locs1 T1 W2 → H1[q9]? = some ce → ce.vm = .none → s.vm.findClass E9 = some ce.cls → vx_W p l e R s m args below meth c H1 locs1 (cells + (T1.1 - T.1 + 1)) (slots + (sg T1 - sg T + 6)) Q (F0 m pc ls rest) q9) : W p l e R s m args below meth c H locs cells slots Q (F0 m pc ls st) := by
  obtain ⟨hx, hb, hts, hown, hK⟩ := E
  obtain ⟨hP, hD, hS⟩ := G
  have hC := l_allC ad T.1 (cc cI cJ cZ cMic cSrc cSt cAI cAJ ad T) W2
  have hR := l_allM ad T.1 (cc cI cJ cZ cMic cSrc cSt cAI cAJ ad T) W2
  have hFc := va_free (wc := cW ad T.1 (cc cI cJ cZ cMic cSrc cSt cAI cAJ ad T)) hD hS hA (List.range T.1) hC
  have hPc := hP.sub (List.range T.1) (l_fm hC)
  have hDc := hD.sub (List.range T.1) (va_nd_range T.1) hC
  have hKc : va_K D vwCl (CT cI cJ cZ cMic cSrc cSt cAI cAJ) s := hK.sub [0, 1, 2, 3, 4, 5, 6, 7] rfl
  refine vx_calll (vx_runV (As := As) (rest := rest) ⟨hx, hb, hml, hown, hts⟩ (hM H.size) cw ⟨fun a U g mk q => by obtain ⟨q0, q1, qP, qK, qD, qX, qN⟩ := q; exact ⟨q0, q1, qP, va_K.moved (u := U) (U := U.calling g mk a) (Vm.Alike.refl U.vm) qK, qD, qX.blind, nX.moved U (U.calling g mk a) (State.WarmedH.refl U) qN⟩, va_recv hKc hPc (ci := ci) (q0 := q) hc (cW_e hq hSq), fun U hU hW => ⟨rfl, by rw [hU], by rw [hU]; exact hPc, va_K.moved hW.alike hKc, hDc.weaken (fun _ _ _ _ => trivial), hX.go hW hU hS hFc, nX.moved s U hW hN⟩⟩ rfl hn hsz hst hW hdg hf) hS (fun q _ h => hFc q h) hFc (fun q _ h => hFc q h) (fun E9 ce q9 u t H1 locs1 ht hvm _ hB hz1 hk1 hS hce hcv hcl => ?_) (fun r u t H1 locs1 ht hvm hw hB hz1 hk1 hS => hw.elim)
  obtain ⟨u1, u2⟩ := u
  obtain ⟨⟨hpx, hw2, hw3⟩, hP1, hK1, hD1⟩ := hB
  have hw2 : u1 = T1 := hw2
  rw [ht] at hP1
  obtain ⟨hP2, hD2⟩ := va_join (wr := W2) (w1 := cW u2 u1.1 (cc cI cJ cZ cMic cSrc cSt cAI cAJ u2 u1)) hP hD (List.range T.1) _ hC hR (l_ndM T.1 _) l_disM hk1 hFc hP1 hD1
  rw [hw2] at hP2 hD2
  exact kx E9 ce q9 u2 H1 locs1 hpx hw3 ⟨va_P.swap (a := []) hP2, va_D.swap (a := []) hD2, hS⟩ hce hcv hcl
theorem t_avf {p : Program} {l : Launch} {e : Env} {R : Room} {s : State} {m : MethodId} {args : Array Value} {below : List Frame} {meth : Method} {c : Code} {H : Heap} {locs : List Loc} {cells slots : Nat} {Q : State → Prop} {cc0 : ByteArray} {pc : Nat} {ls : Array Slot} {rest : List Value} {D : va_G} {A : Nat → Prop} {Ts : List Cond} {own : String} {cI cJ cZ cMic cSrc cSt cAI cAJ : ClassId} {cD : ClassId} {ad : Nat → Nat} {T : AT} {W2 : va_W} {y : MethodName} {bytes : ByteArray} {maxL nL n index fr lo : Nat} {ret : Option FieldType} {ws : List Cond} {As : List Value} {C : String} {TT : u_T} {nf ci q : Nat} {fs : List Value} {r1 : UInt32} {T1 : AT} (E : cE p c cc0 s m args Ts D own (CT cI cJ cZ cMic cSrc cSt cAI cAJ ++ [(cD, .double)])) (G : gL cI cJ cZ cMic cSrc cSt cAI cAJ D ad A s.heap H locs T W2) (hA : ∀ q, s.heap.size ≤ q → A q) (hX : xT A s) (hN : nX s) (hml : c.maxLocals = nL) (hM : kAf l y ws fr lo cI cJ cZ cMic cSrc cSt cAI cAJ D ad T (.ref (ad q) :: As) r1 T1) (cw : CallW R s args own C index y bytes maxL ret ws { frames := fr, cells := T1.1 - T.1, slots := sg T1 - sg T, locals := lo } (T1.1 - T.1) (sg T1 - sg T) n) (hq : q < T.1) (hSq : cc cI cJ cZ cMic cSrc cSt cAI cAJ ad T q = .inr (ci, fs)) (hc : vwCl[ci]? = some (C, TT, nf)) (hn : As.length = n) (hsz : ls.size = nL) {st : List Value} (hst : st = As.reverse ++ .ref (ad q) :: rest) (hW : 2 * (F0 m pc ls st).monitorRoom + (rest.map fun v => v.category).sum ≤ 8) (hdg : decode cc0 pc = .ok (.invokevirtual index, 3)) (hf : cells + (T1.1 - T.1) ≤ R.cells ∧ slots + (sg T1 - sg T) ≤ R.slots) (kk : ∀ (ad2 : Nat → Nat) (H1 : Heap) (locs1 : List Loc), (∀ n, n < T.1 → ad2 n = ad n) → gL cI cJ cZ cMic cSrc cSt cAI cAJ D ad2 A s.heap H1 locs1 T1 W2 → W p l e R s m args below meth c H1 locs1 (cells + (T1.1 - T.1)) (slots + (sg T1 - sg T)) Q (F0 m (pc + 3) ls (.float r1 :: rest))) : W p l e R s m args below meth c H locs cells slots Q (F0 m pc ls st) := by
  obtain ⟨hx, hb, hts, hown, hK⟩ := E
  obtain ⟨hP, hD, hS⟩ := G
  have hC := l_allC ad T.1 (cc cI cJ cZ cMic cSrc cSt cAI cAJ ad T) W2
  have hR := l_allM ad T.1 (cc cI cJ cZ cMic cSrc cSt cAI cAJ ad T) W2
  have hFc := va_free (wc := cW ad T.1 (cc cI cJ cZ cMic cSrc cSt cAI cAJ ad T)) hD hS hA (List.range T.1) hC
  have hPc := hP.sub (List.range T.1) (l_fm hC)
  have hDc := hD.sub (List.range T.1) (va_nd_range T.1) hC
  have hKc : va_K D vwCl (CT cI cJ cZ cMic cSrc cSt cAI cAJ) s := hK.sub [0, 1, 2, 3, 4, 5, 6, 7] rfl
  refine va_callf (va_runV (As := As) (rest := rest) ⟨hx, hb, hml, hown, hts⟩ (hM H.size) cw ⟨fun a U g mk q => by obtain ⟨q0, q1, qP, qK, qD, qX, qN⟩ := q; exact ⟨q0, q1, qP, va_K.moved (u := U) (U := U.calling g mk a) (Vm.Alike.refl U.vm) qK, qD, qX.blind, nX.moved U (U.calling g mk a) (State.WarmedH.refl U) qN⟩, va_recv hKc hPc (ci := ci) (q0 := q) hc (cW_e hq hSq), fun U hU hW => ⟨rfl, by rw [hU], by rw [hU]; exact hPc, va_K.moved hW.alike hKc, hDc.weaken (fun _ _ _ _ => trivial), hX.go hW hU hS hFc, nX.moved s U hW hN⟩⟩ rfl hn hsz hst hW hdg hf) hS (fun q _ h => hFc q h) hFc (fun r u t H1 locs1 ht hvm hw hB hz1 hk1 hS => ?_)
  obtain ⟨u1, u2⟩ := u
  obtain ⟨hw1, hw2, hw3⟩ := hw
  have hw2 : u1 = T1 := hw2
  obtain ⟨hP1, hK1, hD1⟩ := hB
  rw [ht] at hP1
  obtain ⟨hP2, hD2⟩ := va_join (wr := W2) (w1 := cW u2 u1.1 (cc cI cJ cZ cMic cSrc cSt cAI cAJ u2 u1)) hP hD (List.range T.1) _ hC hR (l_ndM T.1 _) l_disM hk1 hFc hP1 hD1
  rw [hw1]
  rw [hw2] at hP2 hD2
  exact kk u2 H1 locs1 hw3 ⟨va_P.swap (a := []) hP2, va_D.swap (a := []) hD2, hS⟩
theorem t_bvf {p : Program} {l : Launch} {e : Env} {R : Room} {s : State} {m : MethodId} {args : Array Value} {below : List Frame} {meth : Method} {c : Code} {H : Heap} {locs : List Loc} {cells slots : Nat} {Q : State → Prop} {cc0 : ByteArray} {pc : Nat} {ls : Array Slot} {rest : List Value} {D : va_G} {A : Nat → Prop} {Ts : List Cond} {own : String} {cI cJ cZ cMic cSrc cSt cAI cAJ : ClassId} {cD : ClassId} {ad : Nat → Nat} {T : AT} {W2 : va_W} {y : MethodName} {bytes : ByteArray} {maxL nL n index fr lo : Nat} {ret : Option FieldType} {ws : List Cond} {As : List Value} {C : String} {TT : u_T} {nf ci q : Nat} {fs : List Value} {e1 : Nat} {T1 : AT} (E : cE p c cc0 s m args Ts D own (CT cI cJ cZ cMic cSrc cSt cAI cAJ ++ [(cD, .double)])) (G : gL cI cJ cZ cMic cSrc cSt cAI cAJ D ad A s.heap H locs T W2) (hA : ∀ q, s.heap.size ≤ q → A q) (hX : xT A s) (hN : nX s) (hml : c.maxLocals = nL) (hM : kAXf l y ws fr lo cI cJ cZ cMic cSrc cSt cAI cAJ D ad T (.ref (ad q) :: As) e1 T1) (cw : CallW R s args own C index y bytes maxL ret ws { frames := fr, cells := T1.1 - T.1 + 1, slots := sg T1 - sg T + 6, locals := lo } (T1.1 - T.1 + 1) (sg T1 - sg T + 6) n) (hq : q < T.1) (hSq : cc cI cJ cZ cMic cSrc cSt cAI cAJ ad T q = .inr (ci, fs)) (hc : vwCl[ci]? = some (C, TT, nf)) (hn : As.length = n) (hsz : ls.size = nL) {st : List Value} (hst : st = As.reverse ++ .ref (ad q) :: rest) (hW : 2 * (F0 m pc ls st).monitorRoom + (rest.map fun v => v.category).sum ≤ 8) (hdg : decode cc0 pc = .ok (.invokevirtual index, 3)) (hf : cells + (T1.1 - T.1 + 1) ≤ R.cells ∧ slots + (sg T1 - sg T + 6) ≤ R.slots) (kx : ∀ (E9 : String) (ce : Cell) (q9 : Addr) (ad2 : Nat → Nat) (H1 : Heap) (locs1 : List Loc), E9 = exn e1 → (∀ n, n < T.1 → ad2 n = ad n) → gL cI cJ cZ cMic cSrc cSt cAI cAJ D ad2 A s.heap H1 locs1 T1 W2 → H1[q9]? = some ce → ce.vm = .none → s.vm.findClass E9 = some ce.cls → vx_W p l e R s m args below meth c H1 locs1 (cells + (T1.1 - T.1 + 1)) (slots + (sg T1 - sg T + 6)) Q (F0 m pc ls rest) q9) : W p l e R s m args below meth c H locs cells slots Q (F0 m pc ls st) := by
  obtain ⟨hx, hb, hts, hown, hK⟩ := E
  obtain ⟨hP, hD, hS⟩ := G
  have hC := l_allC ad T.1 (cc cI cJ cZ cMic cSrc cSt cAI cAJ ad T) W2
  have hR := l_allM ad T.1 (cc cI cJ cZ cMic cSrc cSt cAI cAJ ad T) W2
  have hFc := va_free (wc := cW ad T.1 (cc cI cJ cZ cMic cSrc cSt cAI cAJ ad T)) hD hS hA (List.range T.1) hC
  have hPc := hP.sub (List.range T.1) (l_fm hC)
  have hDc := hD.sub (List.range T.1) (va_nd_range T.1) hC
  have hKc : va_K D vwCl (CT cI cJ cZ cMic cSrc cSt cAI cAJ) s := hK.sub [0, 1, 2, 3, 4, 5, 6, 7] rfl
  refine vx_callf (vx_runV (As := As) (rest := rest) ⟨hx, hb, hml, hown, hts⟩ (hM H.size) cw ⟨fun a U g mk q => by obtain ⟨q0, q1, qP, qK, qD, qX, qN⟩ := q; exact ⟨q0, q1, qP, va_K.moved (u := U) (U := U.calling g mk a) (Vm.Alike.refl U.vm) qK, qD, qX.blind, nX.moved U (U.calling g mk a) (State.WarmedH.refl U) qN⟩, va_recv hKc hPc (ci := ci) (q0 := q) hc (cW_e hq hSq), fun U hU hW => ⟨rfl, by rw [hU], by rw [hU]; exact hPc, va_K.moved hW.alike hKc, hDc.weaken (fun _ _ _ _ => trivial), hX.go hW hU hS hFc, nX.moved s U hW hN⟩⟩ rfl hn hsz hst hW hdg hf) hS (fun q _ h => hFc q h) hFc (fun q _ h => hFc q h) (fun E9 ce q9 u t H1 locs1 ht hvm _ hB hz1 hk1 hS hce hcv hcl => ?_) (fun r u t H1 locs1 ht hvm hw hB hz1 hk1 hS => hw.elim)
  obtain ⟨u1, u2⟩ := u
  obtain ⟨⟨hpx, hw2, hw3⟩, hP1, hK1, hD1⟩ := hB
  have hw2 : u1 = T1 := hw2
  rw [ht] at hP1
  obtain ⟨hP2, hD2⟩ := va_join (wr := W2) (w1 := cW u2 u1.1 (cc cI cJ cZ cMic cSrc cSt cAI cAJ u2 u1)) hP hD (List.range T.1) _ hC hR (l_ndM T.1 _) l_disM hk1 hFc hP1 hD1
  rw [hw2] at hP2 hD2
  exact kx E9 ce q9 u2 H1 locs1 hpx hw3 ⟨va_P.swap (a := []) hP2, va_D.swap (a := []) hD2, hS⟩ hce hcv hcl
theorem t_aviS {p : Program} {l : Launch} {e : Env} {R : Room} {s : State} {m : MethodId} {args : Array Value} {below : List Frame} {meth : Method} {c : Code} {H : Heap} {locs : List Loc} {cells slots : Nat} {Q : State → Prop} {cc0 : ByteArray} {pc : Nat} {ls : Array Slot} {rest : List Value} {D : va_G} {A : Nat → Prop} {Ts : List Cond} {own : String} {cI cJ cZ cMic cSrc cSt cAI cAJ : ClassId} {cD : ClassId} {ad : Nat → Nat} {T : AT} {W2 : va_W} {y : MethodName} {bytes : ByteArray} {maxL nL n index fr lo : Nat} {ret : Option FieldType} {ws : List Cond} {As : List Value} {C : String} {TT : u_T} {nf ci q : Nat} {fs : List Value} {r1 : Int32} {T1 : AT} (E : cE p c cc0 s m args Ts D own (CT cI cJ cZ cMic cSrc cSt cAI cAJ ++ [(cD, .double)])) (G : gL cI cJ cZ cMic cSrc cSt cAI cAJ D ad A s.heap H locs T W2) (hA : ∀ q, s.heap.size ≤ q → A q) (hX : xT A s) (hN : nX s) (hml : c.maxLocals = nL) {h0 : Nat} (hA0 : ∀ a : Nat, A a → h0 ≤ a) (hTS : sAll h0 s) (hM : kAiS l y ws fr lo cI cJ cZ cMic cSrc cSt cAI cAJ D ad T (.ref (ad q) :: As) (yT0 cI cJ cZ cMic cSrc cSt cAI cAJ h0 ad T) r1 T1) (cw : CallW R s args own C index y bytes maxL ret ws { frames := fr, cells := T1.1 - T.1, slots := sg T1 - sg T, locals := lo } (T1.1 - T.1) (sg T1 - sg T) n) (hq : q < T.1) (hSq : cc cI cJ cZ cMic cSrc cSt cAI cAJ ad T q = .inr (ci, fs)) (hc : vwCl[ci]? = some (C, TT, nf)) (hn : As.length = n) (hsz : ls.size = nL) {st : List Value} (hst : st = As.reverse ++ .ref (ad q) :: rest) (hW : 2 * (F0 m pc ls st).monitorRoom + (rest.map fun v => v.category).sum ≤ 8) (hdg : decode cc0 pc = .ok (.invokevirtual index, 3)) (hf : cells + (T1.1 - T.1) ≤ R.cells ∧ slots + (sg T1 - sg T) ≤ R.slots) (kk : ∀ (ad2 : Nat → Nat) (H1 : Heap) (locs1 : List Loc), (∀ n, n < T.1 → ad2 n = ad n) → gL cI cJ cZ cMic cSrc cSt cAI cAJ D ad2 A s.heap H1 locs1 T1 W2 → W p l e R s m args below meth c H1 locs1 (cells + (T1.1 - T.1)) (slots + (sg T1 - sg T)) Q (F0 m (pc + 3) ls (.int r1 :: rest))) : W p l e R s m args below meth c H locs cells slots Q (F0 m pc ls st) := by
  obtain ⟨hx, hb, hts, hown, hK⟩ := E
  obtain ⟨hP, hD, hS⟩ := G
  have hC := l_allC ad T.1 (cc cI cJ cZ cMic cSrc cSt cAI cAJ ad T) W2
  have hR := l_allM ad T.1 (cc cI cJ cZ cMic cSrc cSt cAI cAJ ad T) W2
  have hFc := va_free (wc := cW ad T.1 (cc cI cJ cZ cMic cSrc cSt cAI cAJ ad T)) hD hS hA (List.range T.1) hC
  have hPc := hP.sub (List.range T.1) (l_fm hC)
  have hDc := hD.sub (List.range T.1) (va_nd_range T.1) hC
  have hKc : va_K D vwCl (CT cI cJ cZ cMic cSrc cSt cAI cAJ) s := hK.sub [0, 1, 2, 3, 4, 5, 6, 7] rfl
  refine va_calli (va_runV (As := As) (rest := rest) ⟨hx, hb, hml, hown, hts⟩ (hM H.size) cw ⟨fun a U g mk q => by obtain ⟨q0, ⟨q1, qP, qK, qD, qX, qN⟩, qY⟩ := q; exact ⟨q0, ⟨q1, qP, va_K.moved (u := U) (U := U.calling g mk a) (Vm.Alike.refl U.vm) qK, qD, qX.blind, nX.moved U (U.calling g mk a) (State.WarmedH.refl U) qN⟩, yT0.blind _ _ _ _ _ qY⟩, va_recv hKc hPc (ci := ci) (q0 := q) hc (cW_e hq hSq), fun U hU hW => ⟨rfl, ⟨by rw [hU], by rw [hU]; exact hPc, va_K.moved hW.alike hKc, hDc.weaken (fun _ _ _ _ => trivial), hX.go hW hU hS hFc, nX.moved s U hW hN⟩, ⟨fun a h => hA0 a (hFc a h), hTS.moved hA0 hS hU hW⟩⟩⟩ rfl hn hsz hst hW hdg hf) hS (fun q _ h => hFc q h) hFc (fun r u t H1 locs1 ht hvm hw hB hz1 hk1 hS => ?_)
  obtain ⟨u1, u2⟩ := u
  obtain ⟨hw1, hw2, hw3⟩ := hw
  have hw2 : u1 = T1 := hw2
  obtain ⟨hP1, hK1, hD1⟩ := hB
  rw [ht] at hP1
  obtain ⟨hP2, hD2⟩ := va_join (wr := W2) (w1 := cW u2 u1.1 (cc cI cJ cZ cMic cSrc cSt cAI cAJ u2 u1)) hP hD (List.range T.1) _ hC hR (l_ndM T.1 _) l_disM hk1 hFc hP1 hD1
  rw [hw1]
  rw [hw2] at hP2 hD2
  exact kk u2 H1 locs1 hw3 ⟨va_P.swap (a := []) hP2, va_D.swap (a := []) hD2, hS⟩
theorem t_bviS {p : Program} {l : Launch} {e : Env} {R : Room} {s : State} {m : MethodId} {args : Array Value} {below : List Frame} {meth : Method} {c : Code} {H : Heap} {locs : List Loc} {cells slots : Nat} {Q : State → Prop} {cc0 : ByteArray} {pc : Nat} {ls : Array Slot} {rest : List Value} {D : va_G} {A : Nat → Prop} {Ts : List Cond} {own : String} {cI cJ cZ cMic cSrc cSt cAI cAJ : ClassId} {cD : ClassId} {ad : Nat → Nat} {T : AT} {W2 : va_W} {y : MethodName} {bytes : ByteArray} {maxL nL n index fr lo : Nat} {ret : Option FieldType} {ws : List Cond} {As : List Value} {C : String} {TT : u_T} {nf ci q : Nat} {fs : List Value} {e1 : Nat} {T1 : AT} (E : cE p c cc0 s m args Ts D own (CT cI cJ cZ cMic cSrc cSt cAI cAJ ++ [(cD, .double)])) (G : gL cI cJ cZ cMic cSrc cSt cAI cAJ D ad A s.heap H locs T W2) (hA : ∀ q, s.heap.size ≤ q → A q) (hX : xT A s) (hN : nX s) (hml : c.maxLocals = nL) {h0 : Nat} (hA0 : ∀ a : Nat, A a → h0 ≤ a) (hTS : sAll h0 s) (hM : kAXiS l y ws fr lo cI cJ cZ cMic cSrc cSt cAI cAJ D ad T (.ref (ad q) :: As) (yT0 cI cJ cZ cMic cSrc cSt cAI cAJ h0 ad T) e1 T1) (cw : CallW R s args own C index y bytes maxL ret ws { frames := fr, cells := T1.1 - T.1 + 1, slots := sg T1 - sg T + 6, locals := lo } (T1.1 - T.1 + 1) (sg T1 - sg T + 6) n) (hq : q < T.1) (hSq : cc cI cJ cZ cMic cSrc cSt cAI cAJ ad T q = .inr (ci, fs)) (hc : vwCl[ci]? = some (C, TT, nf)) (hn : As.length = n) (hsz : ls.size = nL) {st : List Value} (hst : st = As.reverse ++ .ref (ad q) :: rest) (hW : 2 * (F0 m pc ls st).monitorRoom + (rest.map fun v => v.category).sum ≤ 8) (hdg : decode cc0 pc = .ok (.invokevirtual index, 3)) (hf : cells + (T1.1 - T.1 + 1) ≤ R.cells ∧ slots + (sg T1 - sg T + 6) ≤ R.slots) (kx : ∀ (E9 : String) (ce : Cell) (q9 : Addr) (ad2 : Nat → Nat) (H1 : Heap) (locs1 : List Loc), E9 = exn e1 → (∀ n, n < T.1 → ad2 n = ad n) → gL cI cJ cZ cMic cSrc cSt cAI cAJ D ad2 A s.heap H1 locs1 T1 W2 → H1[q9]? = some ce → ce.vm = .none → s.vm.findClass E9 = some ce.cls → vx_W p l e R s m args below meth c H1 locs1 (cells + (T1.1 - T.1 + 1)) (slots + (sg T1 - sg T + 6)) Q (F0 m pc ls rest) q9) : W p l e R s m args below meth c H locs cells slots Q (F0 m pc ls st) := by
  obtain ⟨hx, hb, hts, hown, hK⟩ := E
  obtain ⟨hP, hD, hS⟩ := G
  have hC := l_allC ad T.1 (cc cI cJ cZ cMic cSrc cSt cAI cAJ ad T) W2
  have hR := l_allM ad T.1 (cc cI cJ cZ cMic cSrc cSt cAI cAJ ad T) W2
  have hFc := va_free (wc := cW ad T.1 (cc cI cJ cZ cMic cSrc cSt cAI cAJ ad T)) hD hS hA (List.range T.1) hC
  have hPc := hP.sub (List.range T.1) (l_fm hC)
  have hDc := hD.sub (List.range T.1) (va_nd_range T.1) hC
  have hKc : va_K D vwCl (CT cI cJ cZ cMic cSrc cSt cAI cAJ) s := hK.sub [0, 1, 2, 3, 4, 5, 6, 7] rfl
  refine vx_calli (vx_runV (As := As) (rest := rest) ⟨hx, hb, hml, hown, hts⟩ (hM H.size) cw ⟨fun a U g mk q => by obtain ⟨q0, ⟨q1, qP, qK, qD, qX, qN⟩, qY⟩ := q; exact ⟨q0, ⟨q1, qP, va_K.moved (u := U) (U := U.calling g mk a) (Vm.Alike.refl U.vm) qK, qD, qX.blind, nX.moved U (U.calling g mk a) (State.WarmedH.refl U) qN⟩, yT0.blind _ _ _ _ _ qY⟩, va_recv hKc hPc (ci := ci) (q0 := q) hc (cW_e hq hSq), fun U hU hW => ⟨rfl, ⟨by rw [hU], by rw [hU]; exact hPc, va_K.moved hW.alike hKc, hDc.weaken (fun _ _ _ _ => trivial), hX.go hW hU hS hFc, nX.moved s U hW hN⟩, ⟨fun a h => hA0 a (hFc a h), hTS.moved hA0 hS hU hW⟩⟩⟩ rfl hn hsz hst hW hdg hf) hS (fun q _ h => hFc q h) hFc (fun q _ h => hFc q h) (fun E9 ce q9 u t H1 locs1 ht hvm _ hB hz1 hk1 hS hce hcv hcl => ?_) (fun r u t H1 locs1 ht hvm hw hB hz1 hk1 hS => hw.elim)
  obtain ⟨u1, u2⟩ := u
  obtain ⟨⟨hpx, hw2, hw3⟩, hP1, hK1, hD1⟩ := hB
  have hw2 : u1 = T1 := hw2
  rw [ht] at hP1
  obtain ⟨hP2, hD2⟩ := va_join (wr := W2) (w1 := cW u2 u1.1 (cc cI cJ cZ cMic cSrc cSt cAI cAJ u2 u1)) hP hD (List.range T.1) _ hC hR (l_ndM T.1 _) l_disM hk1 hFc hP1 hD1
  rw [hw2] at hP2 hD2
  exact kx E9 ce q9 u2 H1 locs1 hpx hw3 ⟨va_P.swap (a := []) hP2, va_D.swap (a := []) hD2, hS⟩ hce hcv hcl
/-- which exceptions aren't one another's -/
def nC (U : State) : Prop := va_Nc xIAE xIOB U ∧ va_Nc xISE xIOB U ∧ va_Nc xIOB xISE U ∧ va_Nc xIAE xISE U
theorem nC.moved {u U : State} (h : nC u) (hvm : u.vm.Alike U.vm) : nC U := ⟨h.1.moved hvm, h.2.1.moved hvm, h.2.2.1.moved hvm, h.2.2.2.moved hvm⟩
def oJ (ao : Nat) (cJ : ClassId) (f : Nat → Int64) : Nat × va_E := (ao, .inl (cJ, 1, .inr (.inl f)))
def oD (ao : Nat) (cD : ClassId) (f : Nat → UInt64) : Nat × va_E := (ao, .inl (cD, 1, .inr (.inr (.inr (.inl f)))))
/-- the law's code for a code of the class's -/
def vck (p0 p1 p2 : Int32) (k : Nat) : Int32 := match k with
  | 0 => 0
  | 1 => p0
  | 2 => p1
  | _ + 3 => p2
def vfJ (k : Nat) (f : Nat → Int64) (v : Int64) : Nat → Int64 := match k with
  | 0 => vp_updL f 0 v
  | _ + 1 => f
def vfD (k : Nat) (f : Nat → UInt64) (v : UInt64) : Nat → UInt64 := match k with
  | 0 => vf_upd f 0 v
  | _ + 1 => f
def vzb (r : Int32) : Int64 := if r = 0 then 0 else 1
/-- what a try block of the law needs: the class's cells and the array that it writes its answer into -/
abbrev tB (cI cJ cZ cMic cSrc cSt cAI cAJ cD : ClassId) (D : va_G) (h0 : Nat) (ad : Nat → Nat) (T : AT) (o : Nat × va_E) (sz : Nat) : State → Prop := fun U => U.heap.size = sz ∧ va_P D vwCl (cW ad T.1 (cc cI cJ cZ cMic cSrc cSt cAI cAJ ad T) ++ [o]) U.heap ∧ va_K D vwCl (CT cI cJ cZ cMic cSrc cSt cAI cAJ ++ [(cD, .double)]) U ∧ va_D (fun _ => True) (cW ad T.1 (cc cI cJ cZ cMic cSrc cSt cAI cAJ ad T) ++ [o]) ∧ xT (va_A (cW ad T.1 (cc cI cJ cZ cMic cSrc cSt cAI cAJ ad T) ++ [o]) sz) U ∧ nC U ∧ (∀ a, va_A (cW ad T.1 (cc cI cJ cZ cMic cSrc cSt cAI cAJ ad T) ++ [o]) sz a → h0 ≤ a) ∧ sAll h0 U
abbrev tAt (cI cJ cZ cMic cSrc cSt cAI cAJ cD : ClassId) (D : va_G) (ad : Nat → Nat) (A : Nat → Prop) (T : AT) (o : Nat × va_E) (t : State) : Prop := va_P D vwCl (cW ad T.1 (cc cI cJ cZ cMic cSrc cSt cAI cAJ ad T) ++ [o]) t.heap ∧ va_K D vwCl (CT cI cJ cZ cMic cSrc cSt cAI cAJ ++ [(cD, .double)]) t ∧ va_D A (cW ad T.1 (cc cI cJ cZ cMic cSrc cSt cAI cAJ ad T) ++ [o])
abbrev tWi (l : Launch) (y : MethodName) (ws : List Cond) (fr lo : Nat) (cI cJ cZ cMic cSrc cSt cAI cAJ cD : ClassId) (D : va_G) (h0 : Nat) (ad : Nat → Nat) (T : AT) (o : Nat × va_E) (As : List Value) (k1 : Int32) (T1 : AT) (o1 : Nat × va_E) : Prop := ∀ sz : Nat, Met l y ws { frames := fr, cells := T1.1 - T.1 + 1, slots := sg T1 - sg T + 6, locals := lo } (va_Pc As (tB cI cJ cZ cMic cSrc cSt cAI cAJ cD D h0 ad T o sz)) (va_Qi (fun r (u : Nat → Nat) => r = k1 ∧ ∀ n, n < T.1 → u n = ad n) (fun (u : Nat → Nat) t => tAt cI cJ cZ cMic cSrc cSt cAI cAJ cD D u (va_A (cW ad T.1 (cc cI cJ cZ cMic cSrc cSt cAI cAJ ad T) ++ [o]) sz) T1 o1 t) (va_A (cW ad T.1 (cc cI cJ cZ cMic cSrc cSt cAI cAJ ad T) ++ [o]) sz)) (T1.1 - T.1 + 1) (sg T1 - sg T + 6) (va_A (cW ad T.1 (cc cI cJ cZ cMic cSrc cSt cAI cAJ ad T) ++ [o]) sz)
/-- the law calls one of its own try blocks -/
theorem l_v {p : Program} {l : Launch} {e : Env} {R : Room} {s : State} {m : MethodId} {args : Array Value} {below : List Frame} {meth : Method} {c : Code} {H : Heap} {locs : List Loc} {cells slots : Nat} {Q : State → Prop} {cc0 : ByteArray} {pc : Nat} {ls : Array Slot} {rest : List Value} {D : va_G} {A : Nat → Prop} {Ts : List Cond} {own : String} {cI cJ cZ cMic cSrc cSt cAI cAJ cD : ClassId} {ad : Nat → Nat} {T : AT} {W3 : va_W} {y : MethodName} {bytes : ByteArray} {maxL nL n index fr lo h0 : Nat} {ret : Option FieldType} {hh : List (Nat × Nat × Nat × Nat)} {ws : List Cond} {As : List Value} {o o1 : Nat × va_E} {k1 : Int32} {T1 : AT} (E : cE p c cc0 s m args Ts D own (CT cI cJ cZ cMic cSrc cSt cAI cAJ ++ [(cD, .double)])) (G : gL cI cJ cZ cMic cSrc cSt cAI cAJ D ad A s.heap H locs T (o :: W3)) (hA : ∀ q, s.heap.size ≤ q → A q) (hX : xT A s) (hN : nC s) (hA0 : ∀ a : Nat, A a → h0 ≤ a) (hTS : sAll h0 s) (hml : c.maxLocals = nL) (hM : tWi l y ws fr lo cI cJ cZ cMic cSrc cSt cAI cAJ cD D h0 ad T o As k1 T1 o1) (cw : vx_CSW R s args own index y bytes maxL ret hh ws { frames := fr, cells := T1.1 - T.1 + 1, slots := sg T1 - sg T + 6, locals := lo } (T1.1 - T.1 + 1) (sg T1 - sg T + 6) n) (hn : As.length = n) (hsz : ls.size = nL) {st : List Value} (hst : st = As.reverse ++ rest) (hW : 2 * (F0 m pc ls st).monitorRoom + (rest.map fun v => v.category).sum ≤ 8) (hdg : decode cc0 pc = .ok (.invokestatic index, 3)) (hf : cells + (T1.1 - T.1 + 1) ≤ R.cells ∧ slots + (sg T1 - sg T + 6) ≤ R.slots) (kk : ∀ (ad2 : Nat → Nat) (H1 : Heap) (locs1 : List Loc), (∀ n, n < T.1 → ad2 n = ad n) → gL cI cJ cZ cMic cSrc cSt cAI cAJ D ad2 A s.heap H1 locs1 T1 (o1 :: W3) → W p l e R s m args below meth c H1 locs1 (cells + (T1.1 - T.1 + 1)) (slots + (sg T1 - sg T + 6)) Q (F0 m (pc + 3) ls (.int k1 :: rest))) : W p l e R s m args below meth c H locs cells slots Q (F0 m pc ls st) := by
  obtain ⟨hx, hb, hts, hown, hK⟩ := E
  obtain ⟨hP, hD, hS⟩ := G
  rw [List.append_cons] at hP hD
  have hC := x_allC (cW ad T.1 (cc cI cJ cZ cMic cSrc cSt cAI cAJ ad T) ++ [o]) W3
  have hR := x_allM (cW ad T.1 (cc cI cJ cZ cMic cSrc cSt cAI cAJ ad T) ++ [o]) W3
  have hFc := va_free (wc := cW ad T.1 (cc cI cJ cZ cMic cSrc cSt cAI cAJ ad T) ++ [o]) hD hS hA _ hC
  have hPc := hP.sub _ (l_fm hC)
  have hDc := hD.sub _ (va_nd_range _) hC
  refine va_calli (vx_runSW (As := As) (rest := rest) ⟨hx, hb, hml, hown, hts⟩ (hM H.size) cw ⟨fun a U g mk q => by obtain ⟨q0, q1, qP, qK, qD, qX, q8, q10, q11⟩ := q; exact ⟨q0, q1, qP, va_K.moved (u := U) (U := U.calling g mk a) (Vm.Alike.refl U.vm) qK, qD, qX.blind, nC.moved (u := U) (U := U.calling g mk a) q8 (Vm.Alike.refl U.vm), q10, q11.blind⟩, fun U hU hW => ⟨rfl, by rw [hU], by rw [hU]; exact hPc, va_K.moved hW.alike hK, hDc.weaken (fun _ _ _ _ => trivial), hX.go hW hU hS hFc, hN.moved hW.alike, fun a h => hA0 a (hFc a h), hTS.moved hA0 hS hU hW⟩⟩ rfl hn hsz hst hW hdg hf) hS (fun q _ h => hFc q h) hFc (fun r u t H1 locs1 ht hvm hw hB hz1 hk1 hS => ?_)
  obtain ⟨hw1, hw3⟩ := hw
  obtain ⟨hP1, hK1, hD1⟩ := hB
  rw [ht] at hP1
  obtain ⟨hP2, hD2⟩ := va_join (wr := W3) (w1 := cW u T1.1 (cc cI cJ cZ cMic cSrc cSt cAI cAJ u T1) ++ [o1]) hP hD _ _ hC hR (l_ndM _ _) l_disM hk1 hFc hP1 hD1
  rw [hw1]
  refine kk u H1 locs1 hw3 ?_
  unfold gL
  rw [List.append_cons]
  exact ⟨va_P.swap (a := []) hP2, va_D.swap (a := []) hD2, hS⟩
/-- the law calls the reference -/
theorem y_mi {p : Program} {l : Launch} {e : Env} {R : Room} {s : State} {m : MethodId} {args : Array Value} {below : List Frame} {meth : Method} {c : Code} {H : Heap} {locs : List Loc} {cells slots : Nat} {Q : State → Prop} {cc0 : ByteArray} {pc : Nat} {ls : Array Slot} {rest : List Value} {D : va_G} {A : Nat → Prop} {Ts : List Cond} {own : String} {cI cJ cZ cMic cSrc cSt cAI cAJ cD : ClassId} {ad : Nat → Nat} {am : Nat → Nat} {Sm : MS} {T : AT} {o1 o2 : Nat × va_E} {y : MethodName} {bytes : ByteArray} {maxL nL n index fr lo : Nat} {ret : Option FieldType} {ws : List Cond} {As : List Value} {r1 : Int32} {S1 : MS} (E : cE p c cc0 s m args Ts D own (CT cI cJ cZ cMic cSrc cSt cAI cAJ ++ [(cD, .double)])) (G : gL cI cJ cZ cMic cSrc cSt cAI cAJ D ad A s.heap H locs T (o1 :: o2 :: MW cI cJ cZ am Sm)) (hA : ∀ q, s.heap.size ≤ q → A q) (hRs : sR s) (hml : c.maxLocals = nL) (hM : mCi l y ws fr lo D cI cJ cZ am Sm As (fun r S2 => r = r1 ∧ S2 = S1)) (cw : CallW R s args own RX12 index y bytes maxL ret ws { frames := fr, cells := 0, slots := 0, locals := lo } 0 0 n) (hn : As.length = n) (hsz : ls.size = nL) {st : List Value} (hst : st = As.reverse ++ .ref (am 0) :: rest) (hW : 2 * (F0 m pc ls st).monitorRoom + (rest.map fun v => v.category).sum ≤ 8) (hdg : decode cc0 pc = .ok (.invokevirtual index, 3)) (hf : cells + 0 ≤ R.cells ∧ slots + 0 ≤ R.slots) (kk : ∀ (H1 : Heap) (locs1 : List Loc), gL cI cJ cZ cMic cSrc cSt cAI cAJ D ad A s.heap H1 locs1 T (o1 :: o2 :: MW cI cJ cZ am S1) → W p l e R s m args below meth c H1 locs1 cells slots Q (F0 m (pc + 3) ls (.int r1 :: rest))) : W p l e R s m args below meth c H locs cells slots Q (F0 m pc ls st) := by
  obtain ⟨hx, hb, hts, hown, hK⟩ := E
  obtain ⟨hP, hD, hS⟩ := G
  rw [List.append_cons, List.append_cons] at hP hD
  have hKm : va_K D vwCl (MT cI cJ cZ) s := hK.sub [0, 1, 2] rfl
  have hR := x_allC (cW ad T.1 (cc cI cJ cZ cMic cSrc cSt cAI cAJ ad T) ++ [o1] ++ [o2]) (MW cI cJ cZ am Sm)
  have hC := x_allM (cW ad T.1 (cc cI cJ cZ cMic cSrc cSt cAI cAJ ad T) ++ [o1] ++ [o2]) (MW cI cJ cZ am Sm)
  have hFc := va_free (wc := MW cI cJ cZ am Sm) hD hS hA _ hC
  have hPc : va_P D vwCl (MW cI cJ cZ am Sm) H := hP.sub _ (l_fm hC)
  have hDc : va_D A (MW cI cJ cZ am Sm) := hD.sub _ (l_ndM _ _) hC
  refine va_calli (va_runV (As := As) (rest := rest) ⟨hx, hb, hml, hown, hts⟩ (hM H.size) cw ⟨fun a U g mk q => by obtain ⟨q0, q1, qP, qK, qD, qR⟩ := q; exact ⟨q0, q1, qP, va_K.moved (u := U) (U := U.calling g mk a) (Vm.Alike.refl U.vm) qK, qD, qR.blind⟩, va_recv hKm hPc (ci := 12) (q0 := 0) rfl rfl, fun U hU hW => ⟨rfl, by rw [hU], by rw [hU]; exact hPc, va_K.moved hW.alike hKm, hDc.weaken (fun _ _ _ _ => trivial), hRs.warm hW⟩⟩ rfl hn hsz hst hW hdg hf) hS (fun q _ h => hFc q h) hFc (fun r u t H1 locs1 ht hvm hw hB hz1 hk1 hS => ?_)
  obtain ⟨hw1, hw2⟩ := hw
  obtain ⟨hP1, hK1, hD1⟩ := hB
  rw [ht] at hP1
  obtain ⟨hP2, hD2⟩ := va_join (wr := cW ad T.1 (cc cI cJ cZ cMic cSrc cSt cAI cAJ ad T) ++ [o1] ++ [o2]) (w1 := MW cI cJ cZ am u) hP hD _ _ hC hR (va_nd_range _) l_disC hk1 hFc hP1 hD1
  rw [hw1]
  rw [hw2] at hP2 hD2
  refine kk H1 locs1 ?_
  unfold gL
  rw [List.append_cons, List.append_cons]
  exact ⟨hP2, hD2, hS⟩
/-- the law calls the reference -/
theorem y_ml {p : Program} {l : Launch} {e : Env} {R : Room} {s : State} {m : MethodId} {args : Array Value} {below : List Frame} {meth : Method} {c : Code} {H : Heap} {locs : List Loc} {cells slots : Nat} {Q : State → Prop} {cc0 : ByteArray} {pc : Nat} {ls : Array Slot} {rest : List Value} {D : va_G} {A : Nat → Prop} {Ts : List Cond} {own : String} {cI cJ cZ cMic cSrc cSt cAI cAJ cD : ClassId} {ad : Nat → Nat} {am : Nat → Nat} {Sm : MS} {T : AT} {o1 o2 : Nat × va_E} {y : MethodName} {bytes : ByteArray} {maxL nL n index fr lo : Nat} {ret : Option FieldType} {ws : List Cond} {As : List Value} {r1 : Int64} {S1 : MS} (E : cE p c cc0 s m args Ts D own (CT cI cJ cZ cMic cSrc cSt cAI cAJ ++ [(cD, .double)])) (G : gL cI cJ cZ cMic cSrc cSt cAI cAJ D ad A s.heap H locs T (o1 :: o2 :: MW cI cJ cZ am Sm)) (hA : ∀ q, s.heap.size ≤ q → A q) (hRs : sR s) (hml : c.maxLocals = nL) (hM : mCl l y ws fr lo D cI cJ cZ am Sm As (fun r S2 => r = r1 ∧ S2 = S1)) (cw : CallW R s args own RX12 index y bytes maxL ret ws { frames := fr, cells := 0, slots := 0, locals := lo } 0 0 n) (hn : As.length = n) (hsz : ls.size = nL) {st : List Value} (hst : st = As.reverse ++ .ref (am 0) :: rest) (hW : 2 * (F0 m pc ls st).monitorRoom + (rest.map fun v => v.category).sum ≤ 8) (hdg : decode cc0 pc = .ok (.invokevirtual index, 3)) (hf : cells + 0 ≤ R.cells ∧ slots + 0 ≤ R.slots) (kk : ∀ (H1 : Heap) (locs1 : List Loc), gL cI cJ cZ cMic cSrc cSt cAI cAJ D ad A s.heap H1 locs1 T (o1 :: o2 :: MW cI cJ cZ am S1) → W p l e R s m args below meth c H1 locs1 cells slots Q (F0 m (pc + 3) ls (.long r1 :: rest))) : W p l e R s m args below meth c H locs cells slots Q (F0 m pc ls st) := by
  obtain ⟨hx, hb, hts, hown, hK⟩ := E
  obtain ⟨hP, hD, hS⟩ := G
  rw [List.append_cons, List.append_cons] at hP hD
  have hKm : va_K D vwCl (MT cI cJ cZ) s := hK.sub [0, 1, 2] rfl
  have hR := x_allC (cW ad T.1 (cc cI cJ cZ cMic cSrc cSt cAI cAJ ad T) ++ [o1] ++ [o2]) (MW cI cJ cZ am Sm)
  have hC := x_allM (cW ad T.1 (cc cI cJ cZ cMic cSrc cSt cAI cAJ ad T) ++ [o1] ++ [o2]) (MW cI cJ cZ am Sm)
  have hFc := va_free (wc := MW cI cJ cZ am Sm) hD hS hA _ hC
  have hPc : va_P D vwCl (MW cI cJ cZ am Sm) H := hP.sub _ (l_fm hC)
  have hDc : va_D A (MW cI cJ cZ am Sm) := hD.sub _ (l_ndM _ _) hC
  refine va_calll (va_runV (As := As) (rest := rest) ⟨hx, hb, hml, hown, hts⟩ (hM H.size) cw ⟨fun a U g mk q => by obtain ⟨q0, q1, qP, qK, qD, qR⟩ := q; exact ⟨q0, q1, qP, va_K.moved (u := U) (U := U.calling g mk a) (Vm.Alike.refl U.vm) qK, qD, qR.blind⟩, va_recv hKm hPc (ci := 12) (q0 := 0) rfl rfl, fun U hU hW => ⟨rfl, by rw [hU], by rw [hU]; exact hPc, va_K.moved hW.alike hKm, hDc.weaken (fun _ _ _ _ => trivial), hRs.warm hW⟩⟩ rfl hn hsz hst hW hdg hf) hS (fun q _ h => hFc q h) hFc (fun r u t H1 locs1 ht hvm hw hB hz1 hk1 hS => ?_)
  obtain ⟨hw1, hw2⟩ := hw
  obtain ⟨hP1, hK1, hD1⟩ := hB
  rw [ht] at hP1
  obtain ⟨hP2, hD2⟩ := va_join (wr := cW ad T.1 (cc cI cJ cZ cMic cSrc cSt cAI cAJ ad T) ++ [o1] ++ [o2]) (w1 := MW cI cJ cZ am u) hP hD _ _ hC hR (va_nd_range _) l_disC hk1 hFc hP1 hD1
  rw [hw1]
  rw [hw2] at hP2 hD2
  refine kk H1 locs1 ?_
  unfold gL
  rw [List.append_cons, List.append_cons]
  exact ⟨hP2, hD2, hS⟩
/-- the law calls the reference -/
theorem y_mf {p : Program} {l : Launch} {e : Env} {R : Room} {s : State} {m : MethodId} {args : Array Value} {below : List Frame} {meth : Method} {c : Code} {H : Heap} {locs : List Loc} {cells slots : Nat} {Q : State → Prop} {cc0 : ByteArray} {pc : Nat} {ls : Array Slot} {rest : List Value} {D : va_G} {A : Nat → Prop} {Ts : List Cond} {own : String} {cI cJ cZ cMic cSrc cSt cAI cAJ cD : ClassId} {ad : Nat → Nat} {am : Nat → Nat} {Sm : MS} {T : AT} {o1 o2 : Nat × va_E} {y : MethodName} {bytes : ByteArray} {maxL nL n index fr lo : Nat} {ret : Option FieldType} {ws : List Cond} {As : List Value} {r1 : UInt32} {S1 : MS} (E : cE p c cc0 s m args Ts D own (CT cI cJ cZ cMic cSrc cSt cAI cAJ ++ [(cD, .double)])) (G : gL cI cJ cZ cMic cSrc cSt cAI cAJ D ad A s.heap H locs T (o1 :: o2 :: MW cI cJ cZ am Sm)) (hA : ∀ q, s.heap.size ≤ q → A q) (hRs : sR s) (hml : c.maxLocals = nL) (hM : mCf l y ws fr lo D cI cJ cZ am Sm As (fun r S2 => r = r1 ∧ S2 = S1)) (cw : CallW R s args own RX12 index y bytes maxL ret ws { frames := fr, cells := 0, slots := 0, locals := lo } 0 0 n) (hn : As.length = n) (hsz : ls.size = nL) {st : List Value} (hst : st = As.reverse ++ .ref (am 0) :: rest) (hW : 2 * (F0 m pc ls st).monitorRoom + (rest.map fun v => v.category).sum ≤ 8) (hdg : decode cc0 pc = .ok (.invokevirtual index, 3)) (hf : cells + 0 ≤ R.cells ∧ slots + 0 ≤ R.slots) (kk : ∀ (H1 : Heap) (locs1 : List Loc), gL cI cJ cZ cMic cSrc cSt cAI cAJ D ad A s.heap H1 locs1 T (o1 :: o2 :: MW cI cJ cZ am S1) → W p l e R s m args below meth c H1 locs1 cells slots Q (F0 m (pc + 3) ls (.float r1 :: rest))) : W p l e R s m args below meth c H locs cells slots Q (F0 m pc ls st) := by
  obtain ⟨hx, hb, hts, hown, hK⟩ := E
  obtain ⟨hP, hD, hS⟩ := G
  rw [List.append_cons, List.append_cons] at hP hD
  have hKm : va_K D vwCl (MT cI cJ cZ) s := hK.sub [0, 1, 2] rfl
  have hR := x_allC (cW ad T.1 (cc cI cJ cZ cMic cSrc cSt cAI cAJ ad T) ++ [o1] ++ [o2]) (MW cI cJ cZ am Sm)
  have hC := x_allM (cW ad T.1 (cc cI cJ cZ cMic cSrc cSt cAI cAJ ad T) ++ [o1] ++ [o2]) (MW cI cJ cZ am Sm)
  have hFc := va_free (wc := MW cI cJ cZ am Sm) hD hS hA _ hC
  have hPc : va_P D vwCl (MW cI cJ cZ am Sm) H := hP.sub _ (l_fm hC)
  have hDc : va_D A (MW cI cJ cZ am Sm) := hD.sub _ (l_ndM _ _) hC
  refine va_callf (va_runV (As := As) (rest := rest) ⟨hx, hb, hml, hown, hts⟩ (hM H.size) cw ⟨fun a U g mk q => by obtain ⟨q0, q1, qP, qK, qD, qR⟩ := q; exact ⟨q0, q1, qP, va_K.moved (u := U) (U := U.calling g mk a) (Vm.Alike.refl U.vm) qK, qD, qR.blind⟩, va_recv hKm hPc (ci := 12) (q0 := 0) rfl rfl, fun U hU hW => ⟨rfl, by rw [hU], by rw [hU]; exact hPc, va_K.moved hW.alike hKm, hDc.weaken (fun _ _ _ _ => trivial), hRs.warm hW⟩⟩ rfl hn hsz hst hW hdg hf) hS (fun q _ h => hFc q h) hFc (fun r u t H1 locs1 ht hvm hw hB hz1 hk1 hS => ?_)
  obtain ⟨hw1, hw2⟩ := hw
  obtain ⟨hP1, hK1, hD1⟩ := hB
  rw [ht] at hP1
  obtain ⟨hP2, hD2⟩ := va_join (wr := cW ad T.1 (cc cI cJ cZ cMic cSrc cSt cAI cAJ ad T) ++ [o1] ++ [o2]) (w1 := MW cI cJ cZ am u) hP hD _ _ hC hR (va_nd_range _) l_disC hk1 hFc hP1 hD1
  rw [hw1]
  rw [hw2] at hP2 hD2
  refine kk H1 locs1 ?_
  unfold gL
  rw [List.append_cons, List.append_cons]
  exact ⟨hP2, hD2, hS⟩
/-- the law calls the reference -/
theorem y_miX {p : Program} {l : Launch} {e : Env} {R : Room} {s : State} {m : MethodId} {args : Array Value} {below : List Frame} {meth : Method} {c : Code} {H : Heap} {locs : List Loc} {cells slots : Nat} {Q : State → Prop} {cc0 : ByteArray} {pc : Nat} {ls : Array Slot} {rest : List Value} {D : va_G} {A : Nat → Prop} {Ts : List Cond} {own : String} {cI cJ cZ cMic cSrc cSt cAI cAJ cD : ClassId} {ad : Nat → Nat} {am : Nat → Nat} {Sm : MS} {T : AT} {o1 o2 : Nat × va_E} {y : MethodName} {bytes : ByteArray} {maxL nL n index fr lo h0 : Nat} {ret : Option FieldType} {ws : List Cond} {As : List Value} {r1 : Int32} {S1 : MS} (E : cE p c cc0 s m args Ts D own (CT cI cJ cZ cMic cSrc cSt cAI cAJ ++ [(cD, .double)])) (G : gL cI cJ cZ cMic cSrc cSt cAI cAJ D ad A s.heap H locs T (o1 :: o2 :: MW cI cJ cZ am Sm)) (hA : ∀ q, s.heap.size ≤ q → A q) (hA0 : ∀ a : Nat, A a → h0 ≤ a) (hTS : sAll h0 s) (hRs : sR s) (hml : c.maxLocals = nL) (hM : mCiX l y ws fr lo D cI cJ cZ am Sm As (xT0 cI cJ cZ h0 am Sm) (fun r S2 => r = r1 ∧ S2 = S1)) (cw : CallW R s args own RX12 index y bytes maxL ret ws { frames := fr, cells := 0, slots := 0, locals := lo } 0 0 n) (hn : As.length = n) (hsz : ls.size = nL) {st : List Value} (hst : st = As.reverse ++ .ref (am 0) :: rest) (hW : 2 * (F0 m pc ls st).monitorRoom + (rest.map fun v => v.category).sum ≤ 8) (hdg : decode cc0 pc = .ok (.invokevirtual index, 3)) (hf : cells + 0 ≤ R.cells ∧ slots + 0 ≤ R.slots) (kk : ∀ (H1 : Heap) (locs1 : List Loc), gL cI cJ cZ cMic cSrc cSt cAI cAJ D ad A s.heap H1 locs1 T (o1 :: o2 :: MW cI cJ cZ am S1) → W p l e R s m args below meth c H1 locs1 cells slots Q (F0 m (pc + 3) ls (.int r1 :: rest))) : W p l e R s m args below meth c H locs cells slots Q (F0 m pc ls st) := by
  obtain ⟨hx, hb, hts, hown, hK⟩ := E
  obtain ⟨hP, hD, hS⟩ := G
  rw [List.append_cons, List.append_cons] at hP hD
  have hKm : va_K D vwCl (MT cI cJ cZ) s := hK.sub [0, 1, 2] rfl
  have hR := x_allC (cW ad T.1 (cc cI cJ cZ cMic cSrc cSt cAI cAJ ad T) ++ [o1] ++ [o2]) (MW cI cJ cZ am Sm)
  have hC := x_allM (cW ad T.1 (cc cI cJ cZ cMic cSrc cSt cAI cAJ ad T) ++ [o1] ++ [o2]) (MW cI cJ cZ am Sm)
  have hFc := va_free (wc := MW cI cJ cZ am Sm) hD hS hA _ hC
  have hPc : va_P D vwCl (MW cI cJ cZ am Sm) H := hP.sub _ (l_fm hC)
  have hDc : va_D A (MW cI cJ cZ am Sm) := hD.sub _ (l_ndM _ _) hC
  refine va_calli (va_runV (As := As) (rest := rest) ⟨hx, hb, hml, hown, hts⟩ (hM H.size) cw ⟨fun a U g mk q => by obtain ⟨q0, ⟨q1, qP, qK, qD, qR⟩, qY⟩ := q; exact ⟨q0, ⟨q1, qP, va_K.moved (u := U) (U := U.calling g mk a) (Vm.Alike.refl U.vm) qK, qD, qR.blind⟩, xT0.blind _ _ _ _ _ qY⟩, va_recv hKm hPc (ci := 12) (q0 := 0) rfl rfl, fun U hU hW => ⟨rfl, ⟨by rw [hU], by rw [hU]; exact hPc, va_K.moved hW.alike hKm, hDc.weaken (fun _ _ _ _ => trivial), hRs.warm hW⟩, ⟨fun a h => hA0 a (hFc a h), hTS.moved hA0 hS hU hW⟩⟩⟩ rfl hn hsz hst hW hdg hf) hS (fun q _ h => hFc q h) hFc (fun r u t H1 locs1 ht hvm hw hB hz1 hk1 hS => ?_)
  obtain ⟨hw1, hw2⟩ := hw
  obtain ⟨hP1, hK1, hD1⟩ := hB
  rw [ht] at hP1
  obtain ⟨hP2, hD2⟩ := va_join (wr := cW ad T.1 (cc cI cJ cZ cMic cSrc cSt cAI cAJ ad T) ++ [o1] ++ [o2]) (w1 := MW cI cJ cZ am u) hP hD _ _ hC hR (va_nd_range _) l_disC hk1 hFc hP1 hD1
  rw [hw1]
  rw [hw2] at hP2 hD2
  refine kk H1 locs1 ?_
  unfold gL
  rw [List.append_cons, List.append_cons]
  exact ⟨hP2, hD2, hS⟩
/-- the two arrays of answers change places -/
theorem gL_swap {D : va_G} {A : Nat → Prop} {H0 H : Heap} {locs : List Loc} {cI cJ cZ cMic cSrc cSt cAI cAJ : ClassId} {ad : Nat → Nat} {T : AT} {o1 o2 : Nat × va_E} {W2 : va_W} (G : gL cI cJ cZ cMic cSrc cSt cAI cAJ D ad A H0 H locs T (o1 :: o2 :: W2)) : gL cI cJ cZ cMic cSrc cSt cAI cAJ D ad A H0 H locs T (o2 :: o1 :: W2) := by
  have hp : (cW ad T.1 (cc cI cJ cZ cMic cSrc cSt cAI cAJ ad T) ++ o1 :: o2 :: W2).Perm (cW ad T.1 (cc cI cJ cZ cMic cSrc cSt cAI cAJ ad T) ++ o2 :: o1 :: W2) := List.Perm.append_left _ (List.Perm.swap _ _ _)
  exact ⟨va_P_perm hp G.1, va_D_perm hp G.2.1, G.2.2⟩
theorem t_last {p : Program} {l : Launch} {e : Env} {R : Room} {s : State} {m : MethodId} {args : Array Value} {below : List Frame} {meth : Method} {c : Code} {H : Heap} {locs : List Loc} {cells slots : Nat} {Q : State → Prop} {cc0 : ByteArray} {pc : Nat} {ls : Array Slot} {rest : List Value} {D : va_G} {A : Nat → Prop} {Ts : List Cond} {own : String} {cI cJ cZ cMic cSrc cSt cAI cAJ cD : ClassId} {ad : Nat → Nat} {T : AT} {W2 : va_W} {ao : Nat} {f : Nat → Int64} {x : Int64} (E : cE p c cc0 s m args Ts D own (CT cI cJ cZ cMic cSrc cSt cAI cAJ ++ [(cD, .double)])) (G : gL cI cJ cZ cMic cSrc cSt cAI cAJ D ad A s.heap H locs T (oJ ao cJ f :: W2)) (hdg : decode cc0 pc = .ok (.lastore, 1)) (kk : ∀ (H1 : Heap) (locs1 : List Loc), gL cI cJ cZ cMic cSrc cSt cAI cAJ D ad A s.heap H1 locs1 T (oJ ao cJ (vp_updL f 0 x) :: W2) → W p l e R s m args below meth c H1 locs1 cells slots Q (F0 m (pc + 1) ls rest)) : W p l e R s m args below meth c H locs cells slots Q (F0 m pc ls (.long x :: .int 0 :: .ref ao :: rest)) := by
  obtain ⟨hP, hD, hS⟩ := G
  refine va_last E.1 E.2.1 E.2.2.2.2 hP hD hS T.1 1 (tW_at _ _ _ _ _) rfl (vp_in_nI (n := 0) (N := 1) (by decide) (by decide)) hdg (fun H1 locs1 h1 h2 h3 => kk H1 locs1 ?_)
  rw [show (0 : Int32).toNatClampNeg = 0 from by decide, tW_set] at h1 h2
  exact ⟨h1, h2, h3⟩
theorem t_dast {p : Program} {l : Launch} {e : Env} {R : Room} {s : State} {m : MethodId} {args : Array Value} {below : List Frame} {meth : Method} {c : Code} {H : Heap} {locs : List Loc} {cells slots : Nat} {Q : State → Prop} {cc0 : ByteArray} {pc : Nat} {ls : Array Slot} {rest : List Value} {D : va_G} {A : Nat → Prop} {Ts : List Cond} {own : String} {cI cJ cZ cMic cSrc cSt cAI cAJ cD : ClassId} {ad : Nat → Nat} {T : AT} {W2 : va_W} {ao : Nat} {f : Nat → UInt64} {x : UInt64} (E : cE p c cc0 s m args Ts D own (CT cI cJ cZ cMic cSrc cSt cAI cAJ ++ [(cD, .double)])) (G : gL cI cJ cZ cMic cSrc cSt cAI cAJ D ad A s.heap H locs T (oD ao cD f :: W2)) (hdg : decode cc0 pc = .ok (.dastore, 1)) (kk : ∀ (H1 : Heap) (locs1 : List Loc), gL cI cJ cZ cMic cSrc cSt cAI cAJ D ad A s.heap H1 locs1 T (oD ao cD (vf_upd f 0 x) :: W2) → W p l e R s m args below meth c H1 locs1 cells slots Q (F0 m (pc + 1) ls rest)) : W p l e R s m args below meth c H locs cells slots Q (F0 m pc ls (.double x :: .int 0 :: .ref ao :: rest)) := by
  obtain ⟨hP, hD, hS⟩ := G
  refine va_dast E.1 E.2.1 E.2.2.2.2 hP hD hS T.1 8 (tW_at _ _ _ _ _) rfl (vp_in_nI (n := 0) (N := 1) (by decide) (by decide)) hdg (fun H1 locs1 h1 h2 h3 => kk H1 locs1 ?_)
  rw [show (0 : Int32).toNatClampNeg = 0 from by decide, tW_set] at h1 h2
  exact ⟨h1, h2, h3⟩
