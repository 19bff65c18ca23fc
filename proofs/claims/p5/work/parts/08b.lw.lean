theorem glA {cw : Cond} {L : List Cond} (hL : ∀ w ∈ L, w ∈ lw_tbl ∧ goodWord w = true) (hc : cw ∈ lw_tbl ∧ goodWord cw = true) : GoodIn lw_tbl (L ++ (cw :: wsA)) := by
  intro w hw
  have hm : w ∈ lw_tbl ∧ goodWord w = true := by
    rcases List.mem_append.mp hw with h | h
    · exact hL w h
    · rcases List.mem_cons.mp h with rfl | h
      · exact hc
      · exact ⟨tA w h, gA w h⟩
  exact ⟨hm.1, good_of_word hm.2⟩
theorem glM {cw : Cond} {L : List Cond} (hL : ∀ w ∈ L, w ∈ lw_tbl ∧ goodWord w = true) (hc : cw ∈ lw_tbl ∧ goodWord cw = true) : GoodIn lw_tbl (L ++ (cw :: wsM)) := by
  intro w hw
  have hm : w ∈ lw_tbl ∧ goodWord w = true := by
    rcases List.mem_append.mp hw with h | h
    · exact hL w h
    · rcases List.mem_cons.mp h with rfl | h
      · exact hc
      · exact ⟨tM w h, gM w h⟩
  exact ⟨hm.1, good_of_word hm.2⟩
/-- the law's world at a point of its walk -/
def lG (D : va_G) (ad : Nat → Nat) (N : Nat) (cI cJ cZ : ClassId) (am : Nat → Nat) (A : Nat → Prop) (H0 H : Heap) (locs : List Loc) (S : Nat → va_E) (Sm : MS) : Prop := va_P D vwCl (cW ad N S ++ MW cI cJ cZ am Sm) H ∧ va_D A (cW ad N S ++ MW cI cJ cZ am Sm) ∧ va_S A H0 H locs
theorem l_allC (ad : Nat → Nat) (N : Nat) (S : Nat → va_E) (w2 : va_W) : (List.range N).map (fun i => (cW ad N S ++ w2)[i]?) = (cW ad N S).map some := by
  rw [← cW_all ad N S]
  refine List.map_congr_left (fun i hi => ?_)
  exact List.getElem?_append_left (by rw [cW_len]; exact List.mem_range.mp hi)
theorem l_allM (ad : Nat → Nat) (N : Nat) (S : Nat → va_E) (w2 : va_W) : ((List.range w2.length).map (fun j => N + j)).map (fun i => (cW ad N S ++ w2)[i]?) = w2.map some := by
  refine List.ext_getElem? (fun i => ?_)
  rw [List.map_map, List.getElem?_map, List.getElem?_map]
  by_cases h : i < w2.length
  · rw [List.getElem?_range h]
    show some ((cW ad N S ++ w2)[N + i]?) = (w2[i]?).map some
    rw [List.getElem?_append_right (by rw [cW_len]; exact Nat.le_add_right _ _), cW_len, Nat.add_sub_cancel_left, List.getElem?_eq_getElem h]
    rfl
  · rw [List.getElem?_eq_none (by rw [List.length_range]; exact Nat.not_lt.mp h), List.getElem?_eq_none (Nat.not_lt.mp h)]
    rfl
theorem l_ndM (N K : Nat) : va_nd ((List.range K).map (fun j => N + j)) = true := va_nd_of _ (List.pairwise_map.mpr (List.Pairwise.imp (fun h e => h (Nat.add_left_cancel e)) List.nodup_range))
theorem l_disM {N K : Nat} : ∀ i ∈ (List.range K).map (fun j => N + j), i ∉ List.range N := by
  intro i hi hn
  obtain ⟨j, -, rfl⟩ := List.mem_map.mp hi
  exact absurd (List.mem_range.mp hn) (by omega)
theorem l_disC {N K : Nat} : ∀ i ∈ List.range N, i ∉ (List.range K).map (fun j => N + j) := by
  intro i hi hn
  obtain ⟨j, -, rfl⟩ := List.mem_map.mp hn
  exact absurd (List.mem_range.mp hi) (by omega)
theorem l_fm {l ws : List (Nat × va_E)} {is : List Nat} (h : is.map (fun i => l[i]?) = ws.map some) : is.filterMap (fun i => l[i]?) = ws := by
  have h1 : is.filterMap (fun i => l[i]?) = (is.map (fun i => l[i]?)).filterMap id := by rw [List.filterMap_map]; rfl
  rw [h1, h, List.filterMap_map]
  exact List.filterMap_some
section LWR
variable {p : Program} {l : Launch} {e : Env} {R : Room} {s : State} {m : MethodId} {args : Array Value} {below : List Frame} {meth : Method} {c : Code} {H : Heap} {locs : List Loc} {cells slots : Nat} {Q : State → Prop}
variable {cc : ByteArray} {pc : Nat} {ls : Array Slot} {rest : List Value} {D : va_G} {A : Nat → Prop} {H0 : Heap} {Ts : List Cond} {tys : List (ClassId × FieldType)} {ad am : Nat → Nat} {N : Nat} {S : Nat → va_E} {Sm : MS} {cI cJ cZ : ClassId} {own : String}
/-- one of the law's own try blocks -/
theorem l_w {y : MethodName} {bytes : ByteArray} {maxL nL n index fr lo : Nat} {ret : Option FieldType} {hh : List (Nat × Nat × Nat × Nat)} {ws : List Cond} {As : List Value} {post : Int32 → (Nat → va_E) → Prop} (E : cE p c cc s m args Ts D own tys) (G : lG D ad N cI cJ cZ am A H0 H locs S Sm) (hA : ∀ q, H0.size ≤ q → A q) (hX : xT A s) (hN1 : va_Nc xIAE xIOB s) (hN2 : va_Nc xISE xIOB s) (hNm : ∀ u U : State, u.vm.Alike U.vm → ∀ C T, va_Nc C T u → va_Nc C T U) (hH0 : H0 = s.heap) (hml : c.maxLocals = nL) (hM : cWi l y ws fr lo D tys ad N S As post) (cw : vx_CSW R s args own index y bytes maxL ret hh ws { frames := fr, cells := 1, slots := 6, locals := lo } 1 6 n) (hn : As.length = n) (hsz : ls.size = nL) {st : List Value} (hst : st = As.reverse ++ rest) (hW : 2 * (F0 m pc ls st).monitorRoom + (rest.map fun v => v.category).sum ≤ 8) (hdg : decode cc pc = .ok (.invokestatic index, 3)) (hf : cells + 1 ≤ R.cells ∧ slots + 6 ≤ R.slots) (kk : ∀ (r : Int32) (S1 : Nat → va_E) (H1 : Heap) (locs1 : List Loc), post r S1 → lG D ad N cI cJ cZ am A H0 H1 locs1 S1 Sm → W p l e R s m args below meth c H1 locs1 (cells + 1) (slots + 6) Q (F0 m (pc + 3) ls (.int r :: rest))) : W p l e R s m args below meth c H locs cells slots Q (F0 m pc ls st) := by
  obtain ⟨hx, hb, hts, hown, hK⟩ := E
  obtain ⟨hP, hD, hS⟩ := G
  have hC := l_allC ad N S (MW cI cJ cZ am Sm)
  have hR := l_allM ad N S (MW cI cJ cZ am Sm)
  have hFc := va_free (wc := cW ad N S) hD hS hA (List.range N) hC
  have hPc : va_P D vwCl (cW ad N S) H := hP.sub (List.range N) (l_fm hC)
  have hDc : va_D A (cW ad N S) := hD.sub (List.range N) (va_nd_range N) hC
  refine va_calli (vx_runSW (As := As) (rest := rest) ⟨hx, hb, hml, hown, hts⟩ (hM H.size) cw ⟨fun a U g mk q => by obtain ⟨q0, q1, qP, qK, qD, qX, q8, q9⟩ := q; exact ⟨q0, q1, qP, va_K.moved (u := U) (U := U.calling g mk a) (Vm.Alike.refl U.vm) qK, qD, qX.blind, hNm U (U.calling g mk a) (Vm.Alike.refl U.vm) _ _ q8, hNm U (U.calling g mk a) (Vm.Alike.refl U.vm) _ _ q9⟩, fun U hU hW => ⟨rfl, by rw [hU], by rw [hU]; exact hPc, va_K.moved hW.alike hK, hDc.weaken (fun _ _ _ _ => trivial), hX.go hW hU (by rw [← hH0]; exact hS) hFc, hNm s U hW.alike _ _ hN1, hNm s U hW.alike _ _ hN2⟩⟩ rfl hn hsz hst hW hdg hf) hS (fun q _ h => hFc q h) hFc (fun r u t H1 locs1 ht hvm hw hB hz1 hk1 hS => ?_)
  obtain ⟨hP1, hK1, hD1⟩ := hB
  rw [ht] at hP1
  obtain ⟨hP2, hD2⟩ := va_join (wr := MW cI cJ cZ am Sm) (w1 := cW ad N u) hP hD (List.range N) _ hC hR (l_ndM N _) l_disM hk1 hFc hP1 hD1
  exact kk r u H1 locs1 hw ⟨va_P.swap (a := []) hP2, va_D.swap (a := []) hD2, hS⟩
/-- the law calls the reference -/
theorem l_mi {y : MethodName} {bytes : ByteArray} {maxL nL n index fr lo : Nat} {ret : Option FieldType} {ws : List Cond} {As : List Value} {post : Int32 → MS → Prop} (E : cE p c cc s m args Ts D own tys) (G : lG D ad N cI cJ cZ am A H0 H locs S Sm) (hA : ∀ q, H0.size ≤ q → A q) (hKm : va_K D vwCl (MT cI cJ cZ) s) (hKb : ∀ t : State, s.vm.Alike t.vm → va_K D vwCl tys t) (hRs : sR s) (hml : c.maxLocals = nL) (hM : mCi l y ws fr lo D cI cJ cZ am Sm As post) (cw : CallW R s args own RX12 index y bytes maxL ret ws { frames := fr, cells := 0, slots := 0, locals := lo } 0 0 n) (hn : As.length = n) (hsz : ls.size = nL) {st : List Value} (hst : st = As.reverse ++ .ref (am 0) :: rest) (hW : 2 * (F0 m pc ls st).monitorRoom + (rest.map fun v => v.category).sum ≤ 8) (hdg : decode cc pc = .ok (.invokevirtual index, 3)) (hf : cells + 0 ≤ R.cells ∧ slots + 0 ≤ R.slots) (kk : ∀ (r : Int32) (S1 : MS) (H1 : Heap) (locs1 : List Loc), post r S1 → lG D ad N cI cJ cZ am A H0 H1 locs1 S S1 → W p l e R s m args below meth c H1 locs1 cells slots Q (F0 m (pc + 3) ls (.int r :: rest))) : W p l e R s m args below meth c H locs cells slots Q (F0 m pc ls st) := by
  obtain ⟨hx, hb, hts, hown, hK⟩ := E
  obtain ⟨hP, hD, hS⟩ := G
  have hR := l_allC ad N S (MW cI cJ cZ am Sm)
  have hC := l_allM ad N S (MW cI cJ cZ am Sm)
  have hFc := va_free (wc := MW cI cJ cZ am Sm) hD hS hA _ hC
  have hPc : va_P D vwCl (MW cI cJ cZ am Sm) H := hP.sub _ (l_fm hC)
  have hDc : va_D A (MW cI cJ cZ am Sm) := hD.sub _ (l_ndM N _) hC
  refine va_calli (va_runV (As := As) (rest := rest) ⟨hx, hb, hml, hown, hts⟩ (hM H.size) cw ⟨fun a U g mk q => by obtain ⟨q0, q1, qP, qK, qD, qR⟩ := q; exact ⟨q0, q1, qP, va_K.moved (u := U) (U := U.calling g mk a) (Vm.Alike.refl U.vm) qK, qD, qR.blind⟩, va_recv hKm hPc (ci := 12) (q0 := 0) rfl rfl, fun U hU hW => ⟨rfl, by rw [hU], by rw [hU]; exact hPc, va_K.moved hW.alike hKm, hDc.weaken (fun _ _ _ _ => trivial), hRs.warm hW⟩⟩ rfl hn hsz hst hW hdg hf) hS (fun q _ h => hFc q h) hFc (fun r u t H1 locs1 ht hvm hw hB hz1 hk1 hS => ?_)
  obtain ⟨hP1, hK1, hD1⟩ := hB
  rw [ht] at hP1
  obtain ⟨hP2, hD2⟩ := va_join (wr := cW ad N S) (w1 := MW cI cJ cZ am u) hP hD _ (List.range N) hC hR (va_nd_range N) l_disC hk1 hFc hP1 hD1
  exact kk r u H1 locs1 hw ⟨hP2, hD2, hS⟩
/-- the law calls the reference -/
theorem l_ml {y : MethodName} {bytes : ByteArray} {maxL nL n index fr lo : Nat} {ret : Option FieldType} {ws : List Cond} {As : List Value} {post : Int64 → MS → Prop} (E : cE p c cc s m args Ts D own tys) (G : lG D ad N cI cJ cZ am A H0 H locs S Sm) (hA : ∀ q, H0.size ≤ q → A q) (hKm : va_K D vwCl (MT cI cJ cZ) s) (hKb : ∀ t : State, s.vm.Alike t.vm → va_K D vwCl tys t) (hRs : sR s) (hml : c.maxLocals = nL) (hM : mCl l y ws fr lo D cI cJ cZ am Sm As post) (cw : CallW R s args own RX12 index y bytes maxL ret ws { frames := fr, cells := 0, slots := 0, locals := lo } 0 0 n) (hn : As.length = n) (hsz : ls.size = nL) {st : List Value} (hst : st = As.reverse ++ .ref (am 0) :: rest) (hW : 2 * (F0 m pc ls st).monitorRoom + (rest.map fun v => v.category).sum ≤ 8) (hdg : decode cc pc = .ok (.invokevirtual index, 3)) (hf : cells + 0 ≤ R.cells ∧ slots + 0 ≤ R.slots) (kk : ∀ (r : Int64) (S1 : MS) (H1 : Heap) (locs1 : List Loc), post r S1 → lG D ad N cI cJ cZ am A H0 H1 locs1 S S1 → W p l e R s m args below meth c H1 locs1 cells slots Q (F0 m (pc + 3) ls (.long r :: rest))) : W p l e R s m args below meth c H locs cells slots Q (F0 m pc ls st) := by
  obtain ⟨hx, hb, hts, hown, hK⟩ := E
  obtain ⟨hP, hD, hS⟩ := G
  have hR := l_allC ad N S (MW cI cJ cZ am Sm)
  have hC := l_allM ad N S (MW cI cJ cZ am Sm)
  have hFc := va_free (wc := MW cI cJ cZ am Sm) hD hS hA _ hC
  have hPc : va_P D vwCl (MW cI cJ cZ am Sm) H := hP.sub _ (l_fm hC)
  have hDc : va_D A (MW cI cJ cZ am Sm) := hD.sub _ (l_ndM N _) hC
  refine va_calll (va_runV (As := As) (rest := rest) ⟨hx, hb, hml, hown, hts⟩ (hM H.size) cw ⟨fun a U g mk q => by obtain ⟨q0, q1, qP, qK, qD, qR⟩ := q; exact ⟨q0, q1, qP, va_K.moved (u := U) (U := U.calling g mk a) (Vm.Alike.refl U.vm) qK, qD, qR.blind⟩, va_recv hKm hPc (ci := 12) (q0 := 0) rfl rfl, fun U hU hW => ⟨rfl, by rw [hU], by rw [hU]; exact hPc, va_K.moved hW.alike hKm, hDc.weaken (fun _ _ _ _ => trivial), hRs.warm hW⟩⟩ rfl hn hsz hst hW hdg hf) hS (fun q _ h => hFc q h) hFc (fun r u t H1 locs1 ht hvm hw hB hz1 hk1 hS => ?_)
  obtain ⟨hP1, hK1, hD1⟩ := hB
  rw [ht] at hP1
  obtain ⟨hP2, hD2⟩ := va_join (wr := cW ad N S) (w1 := MW cI cJ cZ am u) hP hD _ (List.range N) hC hR (va_nd_range N) l_disC hk1 hFc hP1 hD1
  exact kk r u H1 locs1 hw ⟨hP2, hD2, hS⟩
/-- the law calls the reference -/
theorem l_mf {y : MethodName} {bytes : ByteArray} {maxL nL n index fr lo : Nat} {ret : Option FieldType} {ws : List Cond} {As : List Value} {post : UInt32 → MS → Prop} (E : cE p c cc s m args Ts D own tys) (G : lG D ad N cI cJ cZ am A H0 H locs S Sm) (hA : ∀ q, H0.size ≤ q → A q) (hKm : va_K D vwCl (MT cI cJ cZ) s) (hKb : ∀ t : State, s.vm.Alike t.vm → va_K D vwCl tys t) (hRs : sR s) (hml : c.maxLocals = nL) (hM : mCf l y ws fr lo D cI cJ cZ am Sm As post) (cw : CallW R s args own RX12 index y bytes maxL ret ws { frames := fr, cells := 0, slots := 0, locals := lo } 0 0 n) (hn : As.length = n) (hsz : ls.size = nL) {st : List Value} (hst : st = As.reverse ++ .ref (am 0) :: rest) (hW : 2 * (F0 m pc ls st).monitorRoom + (rest.map fun v => v.category).sum ≤ 8) (hdg : decode cc pc = .ok (.invokevirtual index, 3)) (hf : cells + 0 ≤ R.cells ∧ slots + 0 ≤ R.slots) (kk : ∀ (r : UInt32) (S1 : MS) (H1 : Heap) (locs1 : List Loc), post r S1 → lG D ad N cI cJ cZ am A H0 H1 locs1 S S1 → W p l e R s m args below meth c H1 locs1 cells slots Q (F0 m (pc + 3) ls (.float r :: rest))) : W p l e R s m args below meth c H locs cells slots Q (F0 m pc ls st) := by
  obtain ⟨hx, hb, hts, hown, hK⟩ := E
  obtain ⟨hP, hD, hS⟩ := G
  have hR := l_allC ad N S (MW cI cJ cZ am Sm)
  have hC := l_allM ad N S (MW cI cJ cZ am Sm)
  have hFc := va_free (wc := MW cI cJ cZ am Sm) hD hS hA _ hC
  have hPc : va_P D vwCl (MW cI cJ cZ am Sm) H := hP.sub _ (l_fm hC)
  have hDc : va_D A (MW cI cJ cZ am Sm) := hD.sub _ (l_ndM N _) hC
  refine va_callf (va_runV (As := As) (rest := rest) ⟨hx, hb, hml, hown, hts⟩ (hM H.size) cw ⟨fun a U g mk q => by obtain ⟨q0, q1, qP, qK, qD, qR⟩ := q; exact ⟨q0, q1, qP, va_K.moved (u := U) (U := U.calling g mk a) (Vm.Alike.refl U.vm) qK, qD, qR.blind⟩, va_recv hKm hPc (ci := 12) (q0 := 0) rfl rfl, fun U hU hW => ⟨rfl, by rw [hU], by rw [hU]; exact hPc, va_K.moved hW.alike hKm, hDc.weaken (fun _ _ _ _ => trivial), hRs.warm hW⟩⟩ rfl hn hsz hst hW hdg hf) hS (fun q _ h => hFc q h) hFc (fun r u t H1 locs1 ht hvm hw hB hz1 hk1 hS => ?_)
  obtain ⟨hP1, hK1, hD1⟩ := hB
  rw [ht] at hP1
  obtain ⟨hP2, hD2⟩ := va_join (wr := cW ad N S) (w1 := MW cI cJ cZ am u) hP hD _ (List.range N) hC hR (va_nd_range N) l_disC hk1 hFc hP1 hD1
  exact kk r u H1 locs1 hw ⟨hP2, hD2, hS⟩
/-- the law calls the class itself -/
theorem l_ci {y : MethodName} {bytes : ByteArray} {maxL nL n index fr lo : Nat} {ret : Option FieldType} {ws : List Cond} {As : List Value} {fs : List Value} {post : Int32 → (Nat → va_E) → Prop} (E : cE p c cc s m args Ts D own tys) (G : lG D ad N cI cJ cZ am A H0 H locs S Sm) (hA : ∀ q, H0.size ≤ q → A q) (hX : xT A s) (hH0 : H0 = s.heap) (hml : c.maxLocals = nL) (hM : cCi l y ws fr lo D tys ad N S (.ref (ad 0) :: As) post) (cw : CallW R s args own RX11 index y bytes maxL ret ws { frames := fr, cells := 0, slots := 0, locals := lo } 0 0 n) (h0N : 0 < N) (hS0 : S 0 = .inr (11, fs)) (hn : As.length = n) (hsz : ls.size = nL) {st : List Value} (hst : st = As.reverse ++ .ref (ad 0) :: rest) (hW : 2 * (F0 m pc ls st).monitorRoom + (rest.map fun v => v.category).sum ≤ 8) (hdg : decode cc pc = .ok (.invokevirtual index, 3)) (hf : cells + 0 ≤ R.cells ∧ slots + 0 ≤ R.slots) (kk : ∀ (r : Int32) (S1 : Nat → va_E) (H1 : Heap) (locs1 : List Loc), post r S1 → lG D ad N cI cJ cZ am A H0 H1 locs1 S1 Sm → W p l e R s m args below meth c H1 locs1 cells slots Q (F0 m (pc + 3) ls (.int r :: rest))) : W p l e R s m args below meth c H locs cells slots Q (F0 m pc ls st) := by
  obtain ⟨hx, hb, hts, hown, hK⟩ := E
  obtain ⟨hP, hD, hS⟩ := G
  have hC := l_allC ad N S (MW cI cJ cZ am Sm)
  have hR := l_allM ad N S (MW cI cJ cZ am Sm)
  have hFc := va_free (wc := cW ad N S) hD hS hA (List.range N) hC
  have hPc : va_P D vwCl (cW ad N S) H := hP.sub (List.range N) (l_fm hC)
  have hDc : va_D A (cW ad N S) := hD.sub (List.range N) (va_nd_range N) hC
  refine va_calli (va_runV (As := As) (rest := rest) ⟨hx, hb, hml, hown, hts⟩ (hM H.size) cw ⟨fun a U g mk q => by obtain ⟨q0, q1, qP, qK, qD, qX⟩ := q; exact ⟨q0, q1, qP, va_K.moved (u := U) (U := U.calling g mk a) (Vm.Alike.refl U.vm) qK, qD, qX.blind⟩, va_recv hK hPc (ci := 11) (q0 := 0) rfl (cW_e h0N hS0), fun U hU hW => ⟨rfl, by rw [hU], by rw [hU]; exact hPc, va_K.moved hW.alike hK, hDc.weaken (fun _ _ _ _ => trivial), hX.go hW hU (by rw [← hH0]; exact hS) hFc⟩⟩ rfl hn hsz hst hW hdg hf) hS (fun q _ h => hFc q h) hFc (fun r u t H1 locs1 ht hvm hw hB hz1 hk1 hS => ?_)
  obtain ⟨hP1, hK1, hD1⟩ := hB
  rw [ht] at hP1
  obtain ⟨hP2, hD2⟩ := va_join (wr := MW cI cJ cZ am Sm) (w1 := cW ad N u) hP hD (List.range N) _ hC hR (l_ndM N _) l_disM hk1 hFc hP1 hD1
  exact kk r u H1 locs1 hw ⟨va_P.swap (a := []) hP2, va_D.swap (a := []) hD2, hS⟩
end LWR
