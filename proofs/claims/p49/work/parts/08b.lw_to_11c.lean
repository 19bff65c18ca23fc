section
/-! 08b.lw.lean.txt -/
theorem glA {cw : Cond} {L : List Cond} (hL : ∀ w ∈ L, w ∈ lw_tbl ∧ goodWord w = true) (hc : cw ∈ lw_tbl ∧ goodWord cw = true) : GoodIn lw_tbl (L ++ (cw :: wsA)) := by
  intro w hw
  have hm : w ∈ lw_tbl ∧ goodWord w = true := by
    rcases List.mem_append.mp hw with h | h
    · exact hL w h
    · rcases List.mem_cons.mp h with rfl | h
      · exact hc
      · exact ⟨tA w h, gA w h⟩
  exact ⟨hm.1, good_of_word hm.2⟩
theorem glM {cw : Cond} {L : List Cond} (hL : ∀ w ∈ L, w ∈ lw_tbl ∧ goodWord w = true) (hc : cw ∈ lw_tbl ∧ goodWord cw = true) : GoodIn lw_tbl (L ++ (cw :: wsM)) := by
  intro w hw
  have hm : w ∈ lw_tbl ∧ goodWord w = true := by
    rcases List.mem_append.mp hw with h | h
    · exact hL w h
    · rcases List.mem_cons.mp h with rfl | h
      · exact hc
      · exact ⟨tM w h, gM w h⟩
  exact ⟨hm.1, good_of_word hm.2⟩
/-- the law's world at a point of its walk -/
def lG (D : va_G) (ad : Nat → Nat) (N : Nat) (cI cJ cZ : ClassId) (am : Nat → Nat) (A : Nat → Prop) (H0 H : Heap) (locs : List Loc) (S : Nat → va_E) (Sm : MS) : Prop := va_P D vwCl (cW ad N S ++ MW cI cJ cZ am Sm) H ∧ va_D A (cW ad N S ++ MW cI cJ cZ am Sm) ∧ va_S A H0 H locs
theorem l_allC (ad : Nat → Nat) (N : Nat) (S : Nat → va_E) (w2 : va_W) : (List.range N).map (fun i => (cW ad N S ++ w2)[i]?) = (cW ad N S).map some := by
  rw [← cW_all ad N S]
  refine List.map_congr_left (fun i hi => ?_)
  exact List.getElem?_append_left (by rw [cW_len]; exact List.mem_range.mp hi)
theorem l_allM (ad : Nat → Nat) (N : Nat) (S : Nat → va_E) (w2 : va_W) : ((List.range w2.length).map (fun j => N + j)).map (fun i => (cW ad N S ++ w2)[i]?) = w2.map some := by
  refine List.ext_getElem? (fun i => ?_)
  rw [List.map_map, List.getElem?_map, List.getElem?_map]
  by_cases h : i < w2.length
  · rw [List.getElem?_range h]
    show some ((cW ad N S ++ w2)[N + i]?) = (w2[i]?).map some
    rw [List.getElem?_append_right (by rw [cW_len]; exact Nat.le_add_right _ _), cW_len, Nat.add_sub_cancel_left, List.getElem?_eq_getElem h]
    rfl
  · rw [List.getElem?_eq_none (by rw [List.length_range]; exact Nat.not_lt.mp h), List.getElem?_eq_none (Nat.not_lt.mp h)]
    rfl
theorem l_ndM (N K : Nat) : va_nd ((List.range K).map (fun j => N + j)) = true := va_nd_of _ (List.pairwise_map.mpr (List.Pairwise.imp (fun h e => h (Nat.add_left_cancel e)) List.nodup_range))
theorem l_disM {N K : Nat} : ∀ i ∈ (List.range K).map (fun j => N + j), i ∉ List.range N := by
  intro i hi hn
  obtain ⟨j, -, rfl⟩ := List.mem_map.mp hi
  exact absurd (List.mem_range.mp hn) (by omega)
theorem l_disC {N K : Nat} : ∀ i ∈ List.range N, i ∉ (List.range K).map (fun j => N + j) := by
  intro i hi hn
  obtain ⟨j, -, rfl⟩ := List.mem_map.mp hn
  exact absurd (List.mem_range.mp hi) (by omega)
theorem l_fm {l ws : List (Nat × va_E)} {is : List Nat} (h : is.map (fun i => l[i]?) = ws.map some) : is.filterMap (fun i => l[i]?) = ws := by
  have h1 : is.filterMap (fun i => l[i]?) = (is.map (fun i => l[i]?)).filterMap id := by rw [List.filterMap_map]; rfl
  rw [h1, h, List.filterMap_map]
  exact List.filterMap_some
section LWR
variable {p : Program} {l : Launch} {e : Env} {R : Room} {s : State} {m : MethodId} {args : Array Value} {below : List Frame} {meth : Method} {c : Code} {H : Heap} {locs : List Loc} {cells slots : Nat} {Q : State → Prop}
variable {cc : ByteArray} {pc : Nat} {ls : Array Slot} {rest : List Value} {D : va_G} {A : Nat → Prop} {H0 : Heap} {Ts : List Cond} {tys : List (ClassId × FieldType)} {ad am : Nat → Nat} {N : Nat} {S : Nat → va_E} {Sm : MS} {cI cJ cZ : ClassId} {own : String}
end LWR
end
section
/-! 08c.perm.lean.txt -/
/-! ===== the law's world in another order: the out arrays beside the class's cells ===== -/
theorem va_P_perm {D : va_G} {cl : List vw_C} {w1 w2 : va_W} {H : Heap} (h : w1.Perm w2) (hP : va_P D cl w1 H) : va_P D cl w2 H := by
  intro k q hk
  obtain ⟨i, hi⟩ := List.getElem?_of_mem (h.symm.subset (List.mem_of_getElem? hk))
  exact hP i q hi
theorem va_D_pw {A : Nat → Prop} {ws : va_W} : va_D A ws ↔ List.Pairwise (fun p q : Nat × va_E => p.1 ≠ q.1) ws ∧ ∀ q ∈ ws, A q.1 := by
  constructor
  · intro h
    refine ⟨List.pairwise_iff_getElem.mpr (fun i j hi hj hij e => ?_), fun q hq => ?_⟩
    · exact absurd (h.1 i j _ _ (List.getElem?_eq_getElem hi) (List.getElem?_eq_getElem hj) e) (Nat.ne_of_lt hij)
    · obtain ⟨i, hi⟩ := List.getElem?_of_mem hq
      exact h.2 i q hi
  · intro h
    refine ⟨fun i j p q hi hj e => ?_, fun k q hk => h.2 q (List.mem_of_getElem? hk)⟩
    obtain ⟨hi1, hi2⟩ := List.getElem?_eq_some_iff.mp hi
    obtain ⟨hj1, hj2⟩ := List.getElem?_eq_some_iff.mp hj
    rcases Nat.lt_trichotomy i j with h1 | h1 | h1
    · exact absurd (by rw [hi2, hj2]; exact e) (List.pairwise_iff_getElem.mp h.1 i j hi1 hj1 h1)
    · exact h1
    · exact absurd (by rw [hi2, hj2]; exact e.symm) (List.pairwise_iff_getElem.mp h.1 j i hj1 hi1 h1)
theorem va_D_perm {A : Nat → Prop} {w1 w2 : va_W} (h : w1.Perm w2) (hD : va_D A w1) : va_D A w2 := by
  obtain ⟨h1, h2⟩ := va_D_pw.mp hD
  exact va_D_pw.mpr ⟨(h.pairwise_iff (fun h => Ne.symm h)).mp h1, fun q hq => h2 q (h.symm.subset hq)⟩
theorem l_perm (w1 w2 w3 : va_W) : (w1 ++ w2 ++ w3).Perm (w1 ++ w3 ++ w2) := by
  rw [List.append_assoc, List.append_assoc]
  exact List.Perm.append_left w1 List.perm_append_comm
/-- cells made at the law: from the order of their making to the class's cells, the out arrays, the reference's -/
theorem l_turn {D : va_G} {A : Nat → Prop} {H0 H : Heap} {locs : List Loc} {ad b f : Nat → Nat} {N M K : Nat} {S T g : Nat → va_E} {cI cJ cZ : ClassId} {am : Nat → Nat} {Sm : MS} (hT : cW b M T = MW cI cJ cZ am Sm) (G : cG D (cat (N + M) (cat N ad b) f) (N + M + K) A H0 H locs (cat (N + M) (cat N S T) g)) : lG D (cat N ad f) (N + K) cI cJ cZ am A H0 H locs (cat N S g) Sm := by
  have e : cW (cat (N + M) (cat N ad b) f) (N + M + K) (cat (N + M) (cat N S T) g) = cW ad N S ++ cW b M T ++ cW f K g := by rw [← cW_cat, ← cW_cat]
  have hp : (cW (cat (N + M) (cat N ad b) f) (N + M + K) (cat (N + M) (cat N S T) g)).Perm (cW (cat N ad f) (N + K) (cat N S g) ++ MW cI cJ cZ am Sm) := by
    rw [e, ← cW_cat, ← hT]
    exact l_perm _ _ _
  exact ⟨va_P_perm hp G.1, va_D_perm hp G.2.1, G.2.2⟩
end
section
/-! 08d.k.lean.txt -/
theorem lk_0 {args : Array Value} {s : State} (hts : ∀ w ∈ lw_tbl, w.before args s = true) : ∃ (cC : ClassId) (iS : Nat → Nat), u_Kn s RX0 TX0 1 cC iS := u_known (n := 1) hts tA_13 (hts _ (t_of [Cond.instantiable RX0 1] [(1, 155)] (by decide +kernel) _ List.mem_cons_self))
theorem lk_1 {args : Array Value} {s : State} (hts : ∀ w ∈ lw_tbl, w.before args s = true) : ∃ (cC : ClassId) (iS : Nat → Nat), u_Kn s RX1 TX1 9 cC iS := u_known (n := 9) hts tA_15 (hts _ (t_of [Cond.instantiable RX1 9] [(2, 54)] (by decide +kernel) _ List.mem_cons_self))
theorem lk_2 {args : Array Value} {s : State} (hts : ∀ w ∈ lw_tbl, w.before args s = true) : ∃ (cC : ClassId) (iS : Nat → Nat), u_Kn s RX2 TX2 4 cC iS := u_known (n := 4) hts tA_19 (hts _ (t_of [Cond.instantiable RX2 4] [(2, 106)] (by decide +kernel) _ List.mem_cons_self))
theorem lk_3 {args : Array Value} {s : State} (hts : ∀ w ∈ lw_tbl, w.before args s = true) : ∃ (cC : ClassId) (iS : Nat → Nat), u_Kn s RX3 TX3 4 cC iS := u_known (n := 4) hts tA_17 (hts _ (t_of [Cond.instantiable RX3 4] [(1, 69)] (by decide +kernel) _ List.mem_cons_self))
theorem lk_4 {args : Array Value} {s : State} (hts : ∀ w ∈ lw_tbl, w.before args s = true) : ∃ (cC : ClassId) (iS : Nat → Nat), u_Kn s RX4 TX4 6 cC iS := u_known (n := 6) hts tA_21 (hts _ (t_of [Cond.instantiable RX4 6] [(1, 190)] (by decide +kernel) _ List.mem_cons_self))
theorem lk_5 {args : Array Value} {s : State} (hts : ∀ w ∈ lw_tbl, w.before args s = true) : ∃ (cC : ClassId) (iS : Nat → Nat), u_Kn s RX5 TX5 2 cC iS := u_known (n := 2) hts tA_22 (hts _ (t_of [Cond.instantiable RX5 2] [(1, 90)] (by decide +kernel) _ List.mem_cons_self))
theorem lk_6 {args : Array Value} {s : State} (hts : ∀ w ∈ lw_tbl, w.before args s = true) : ∃ (cC : ClassId) (iS : Nat → Nat), u_Kn s RX6 TX6 18 cC iS := u_known (n := 18) hts tA_14 (hts _ (t_of [Cond.instantiable RX6 18] [(2, 46)] (by decide +kernel) _ List.mem_cons_self))
theorem lk_7 {args : Array Value} {s : State} (hts : ∀ w ∈ lw_tbl, w.before args s = true) : ∃ (cC : ClassId) (iS : Nat → Nat), u_Kn s RX7 TX7 10 cC iS := u_known (n := 10) hts tA_20 (hts _ (t_of [Cond.instantiable RX7 10] [(1, 98)] (by decide +kernel) _ List.mem_cons_self))
theorem lk_8 {args : Array Value} {s : State} (hts : ∀ w ∈ lw_tbl, w.before args s = true) : ∃ (cC : ClassId) (iS : Nat → Nat), u_Kn s RX8 TX8 12 cC iS := u_known (n := 12) hts tA_16 (hts _ (t_of [Cond.instantiable RX8 12] [(1, 220)] (by decide +kernel) _ List.mem_cons_self))
theorem lk_9 {args : Array Value} {s : State} (hts : ∀ w ∈ lw_tbl, w.before args s = true) : ∃ (cC : ClassId) (iS : Nat → Nat), u_Kn s RX9 TX9 6 cC iS := u_known (n := 6) hts tA_18 (hts _ (t_of [Cond.instantiable RX9 6] [(1, 37)] (by decide +kernel) _ List.mem_cons_self))
theorem lk_10 {args : Array Value} {s : State} (hts : ∀ w ∈ lw_tbl, w.before args s = true) : ∃ (cC : ClassId) (iS : Nat → Nat), u_Kn s RX10 TX10 3 cC iS := u_known (n := 3) hts tA_12 (hts _ (t_of [Cond.instantiable RX10 3] [(1, 161)] (by decide +kernel) _ List.mem_cons_self))
theorem lk_11 {args : Array Value} {s : State} (hts : ∀ w ∈ lw_tbl, w.before args s = true) : ∃ (cC : ClassId) (iS : Nat → Nat), u_Kn s RX11 TX11 19 cC iS := u_known (n := 19) hts tA_23 (hts _ (t_of [Cond.instantiable RX11 19] [(1, 29)] (by decide +kernel) _ List.mem_cons_self))
theorem lk_12 {args : Array Value} {s : State} (hts : ∀ w ∈ lw_tbl, w.before args s = true) : ∃ (cC : ClassId) (iS : Nat → Nat), u_Kn s RX12 TX12 30 cC iS := u_known (n := 30) hts tM_x (hts _ (t_of [Cond.instantiable RX12 30] [(7, 209)] (by decide +kernel) _ List.mem_cons_self))
theorem kn_prim {args : Array Value} {s : State} {ty : FieldType} (h : (Cond.arrayClass ty).before args s = true) (hr : ∀ cA, s.vm.findClass ("[" ++ ty.toString) = some cA → va_RA s cA ty) : ∃ cA : ClassId, ArrOfT s cA ty ∧ va_RA s cA ty := by
  obtain ⟨cA, kA, comp, h1, h2, h3⟩ := Cond.arrayClass_spec h
  exact ⟨cA, fun n z => ⟨fun k h => (by cases h), kA, h2, comp, h3⟩, hr cA h1⟩
theorem kn_obj {args : Array Value} {s : State} {C : String} (h : (Cond.arrayOver (.object C)).before args s = true) : ∃ cA : ClassId, ArrOfT s cA (.object C) ∧ va_RA s cA (.object C) := by
  obtain ⟨comp, cA, kA, f1, f4, f2, f3, f5⟩ := Cond.arrayOver_spec h
  exact ⟨cA, fun n z => ⟨fun k h => (by cases h), kA, f2, comp, f3⟩, kA, comp, f2, f3, f1, f5⟩
theorem kn_arr {args : Array Value} {s : State} {t : FieldType} (h : (Cond.arrayOver (.array t)).before args s = true) : ∃ cA : ClassId, ArrOfT s cA (.array t) ∧ va_RA s cA (.array t) := by
  obtain ⟨comp, cA, kA, f1, f2, f3, f4⟩ := Cond.arrayOver_specA h
  exact ⟨cA, fun n z => ⟨fun k h => (by cases h), kA, f2, comp, f3⟩, f4⟩
theorem kn_one {D : va_G} {cl : List vw_C} {s : State} {cA : ClassId} {ty : FieldType} (h1 : ∀ (c : Nat) (q : vw_C), cl[c]? = some q → u_Kn s q.1 q.2.1 q.2.2 (D.1 c) (D.2 c)) (h : ArrOfT s cA ty ∧ va_RA s cA ty) : va_K D cl [(cA, ty)] s := by
  refine ⟨h1, fun k q hk => ?_⟩
  cases k with
  | zero => cases hk; exact h
  | succ k => cases hk
theorem l_D {args : Array Value} {s : State} (hts : ∀ w ∈ lw_tbl, w.before args s = true) : ∃ D : va_G, ∀ (c : Nat) (q : vw_C), vwCl[c]? = some q → u_Kn s q.1 q.2.1 q.2.2 (D.1 c) (D.2 c) := by
  have H : ∀ c : Nat, ∃ y : ClassId × (Nat → Nat), ∀ q : vw_C, vwCl[c]? = some q → u_Kn s q.1 q.2.1 q.2.2 y.1 y.2 := by
    intro c
    match c with
    | 0 => obtain ⟨cC, iS, h⟩ := lk_0 hts; exact ⟨(cC, iS), fun q hq => by cases hq; exact h⟩
    | 1 => obtain ⟨cC, iS, h⟩ := lk_1 hts; exact ⟨(cC, iS), fun q hq => by cases hq; exact h⟩
    | 2 => obtain ⟨cC, iS, h⟩ := lk_2 hts; exact ⟨(cC, iS), fun q hq => by cases hq; exact h⟩
    | 3 => obtain ⟨cC, iS, h⟩ := lk_3 hts; exact ⟨(cC, iS), fun q hq => by cases hq; exact h⟩
    | 4 => obtain ⟨cC, iS, h⟩ := lk_4 hts; exact ⟨(cC, iS), fun q hq => by cases hq; exact h⟩
    | 5 => obtain ⟨cC, iS, h⟩ := lk_5 hts; exact ⟨(cC, iS), fun q hq => by cases hq; exact h⟩
    | 6 => obtain ⟨cC, iS, h⟩ := lk_6 hts; exact ⟨(cC, iS), fun q hq => by cases hq; exact h⟩
    | 7 => obtain ⟨cC, iS, h⟩ := lk_7 hts; exact ⟨(cC, iS), fun q hq => by cases hq; exact h⟩
    | 8 => obtain ⟨cC, iS, h⟩ := lk_8 hts; exact ⟨(cC, iS), fun q hq => by cases hq; exact h⟩
    | 9 => obtain ⟨cC, iS, h⟩ := lk_9 hts; exact ⟨(cC, iS), fun q hq => by cases hq; exact h⟩
    | 10 => obtain ⟨cC, iS, h⟩ := lk_10 hts; exact ⟨(cC, iS), fun q hq => by cases hq; exact h⟩
    | 11 => obtain ⟨cC, iS, h⟩ := lk_11 hts; exact ⟨(cC, iS), fun q hq => by cases hq; exact h⟩
    | 12 => obtain ⟨cC, iS, h⟩ := lk_12 hts; exact ⟨(cC, iS), fun q hq => by cases hq; exact h⟩
    | (c + 13) => exact ⟨(0, fun _ => 0), fun q hq => absurd (List.getElem?_eq_some_iff.mp hq).1 (by show ¬ c + 13 < 13; omega)⟩
  obtain ⟨f, hf⟩ := Classical.axiomOfChoice H
  exact ⟨(fun c => (f c).1, fun c => (f c).2), hf⟩
theorem l_K {args : Array Value} {s : State} (hts : ∀ w ∈ lw_tbl, w.before args s = true) : ∃ (D : va_G) (cI cJ cZ cMic cSrc cSt cAI cAJ cD : ClassId), va_K D vwCl (CT cI cJ cZ cMic cSrc cSt cAI cAJ ++ [(cD, .double)]) s := by
  obtain ⟨D, hD⟩ := l_D hts
  obtain ⟨cI, hcI⟩ := kn_prim (hts _ (t_of [Cond.arrayClass .int] [(1, 67)] (by decide +kernel) _ List.mem_cons_self)) (fun cA h => h)
  obtain ⟨cJ, hcJ⟩ := kn_prim (hts _ (t_of [Cond.arrayClass .long] [(1, 183)] (by decide +kernel) _ List.mem_cons_self)) (fun cA h => h)
  obtain ⟨cZ, hcZ⟩ := kn_prim (hts _ (t_of [Cond.arrayClass .boolean] [(2, 41)] (by decide +kernel) _ List.mem_cons_self)) (fun cA h => h)
  obtain ⟨cMic, hcMic⟩ := kn_obj (hts _ (t_of [Cond.arrayOver (.object "AcousticCamera$Mic")] [(2, 52)] (by decide +kernel) _ List.mem_cons_self))
  obtain ⟨cSrc, hcSrc⟩ := kn_obj (hts _ (t_of [Cond.arrayOver (.object "AcousticCamera$Source")] [(2, 104)] (by decide +kernel) _ List.mem_cons_self))
  obtain ⟨cSt, hcSt⟩ := kn_obj (hts _ (t_of [Cond.arrayOver (.object "AcousticCamera$State")] [(2, 42)] (by decide +kernel) _ List.mem_cons_self))
  obtain ⟨cAI, hcAI⟩ := kn_arr (hts _ (t_of [Cond.arrayOver (.array .int)] [(1, 96)] (by decide +kernel) _ List.mem_cons_self))
  obtain ⟨cAJ, hcAJ⟩ := kn_arr (hts _ (t_of [Cond.arrayOver (.array .long)] [(1, 167)] (by decide +kernel) _ List.mem_cons_self))
  obtain ⟨cD, hcD⟩ := kn_prim (hts _ (t_of [Cond.arrayClass .double] [(10, 213)] (by decide +kernel) _ List.mem_cons_self)) (fun cA h => h)
  exact ⟨D, cI, cJ, cZ, cMic, cSrc, cSt, cAI, cAJ, cD, ((kn_one hD hcI).app ((kn_one hD hcJ).app ((kn_one hD hcZ).app ((kn_one hD hcMic).app ((kn_one hD hcSrc).app ((kn_one hD hcSt).app ((kn_one hD hcAI).app ((kn_one hD hcAJ).app (kn_one hD hcD)))))))))⟩
theorem l_nX {args : Array Value} {s : State} (hts : ∀ w ∈ lw_tbl, w.before args s = true) : nX s := by
  have h := t_of xN [(1, 38), (1, 91), (1, 99), (1, 156), (1, 191), (1, 221), (2, 55), (2, 107), (2, 131), (4, 152), (4, 163), (4, 174), (4, 177), (4, 193), (4, 208), (4, 212), (4, 214), (6, 204)] (by decide +kernel)
  exact ⟨hts _ (t_of [Cond.arrayOver (.object "AcousticCamera$Mic")] [(2, 52)] (by decide +kernel) _ List.mem_cons_self), hts _ (t_of [Cond.arrayOver (.object "AcousticCamera$Source")] [(2, 104)] (by decide +kernel) _ List.mem_cons_self), hts _ (t_of [Cond.arrayOver (.object "AcousticCamera$State")] [(2, 42)] (by decide +kernel) _ List.mem_cons_self), hts _ (t_of [Cond.arrayOver (.array .int)] [(1, 96)] (by decide +kernel) _ List.mem_cons_self), hts _ (t_of [Cond.arrayOver (.array .long)] [(1, 167)] (by decide +kernel) _ List.mem_cons_self), fun w hw => va_tabs (xN_tab w hw) rfl (hts w (h w hw))⟩
end
section
/-! 08e.op.lean.txt -/
theorem dL_law_0 : decode cL_law 0 = .ok (.new 8, 3) := by decide +kernel
theorem dL_law_3 : decode cL_law 3 = .ok (.dup, 1) := by decide +kernel
theorem dL_law_4 : decode cL_law 4 = .ok (.invokespecial 189, 3) := by decide +kernel
theorem dL_law_7 : decode cL_law 7 = .ok (.astore_n 1, 1) := by decide +kernel
theorem dL_law_8 : decode cL_law 8 = .ok (.new 190, 3) := by decide +kernel
theorem dL_law_11 : decode cL_law 11 = .ok (.dup, 1) := by decide +kernel
theorem dL_law_12 : decode cL_law 12 = .ok (.invokespecial 192, 3) := by decide +kernel
theorem dL_law_15 : decode cL_law 15 = .ok (.astore_n 2, 1) := by decide +kernel
theorem dL_law_16 : decode cL_law 16 = .ok (.iconst 1, 1) := by decide +kernel
theorem dL_law_17 : decode cL_law 17 = .ok (.newarray .long, 2) := by decide +kernel
theorem dL_law_19 : decode cL_law 19 = .ok (.astore_n 3, 1) := by decide +kernel
theorem dL_law_20 : decode cL_law 20 = .ok (.iconst 1, 1) := by decide +kernel
theorem dL_law_21 : decode cL_law 21 = .ok (.newarray .double, 2) := by decide +kernel
theorem dL_law_23 : decode cL_law 23 = .ok (.astore 4, 2) := by decide +kernel
theorem dL_law_25 : decode cL_law 25 = .ok (.iconst 0, 1) := by decide +kernel
theorem dL_law_26 : decode cL_law 26 = .ok (.istore 5, 2) := by decide +kernel
theorem cat_z {α : Type} {f g : Nat → α} : cat 0 f g = g := by
  funext n
  rw [cat_hi (Nat.zero_le n), Nat.sub_zero]
set_option maxHeartbeats 8000000 in
set_option maxRecDepth 100000 in
theorem l_open {p : Program} {e : Env} {s : State} {m : MethodId} {below : List Frame} {meth : Method} {c : Code} (l : Launch) {b : Nat} {Q : State → Prop} (hx : p.tables.exec = Jvm.exec) (hb : c.code = code) (hml : c.maxLocals = 9) (hown : s.vm.findClass RL = some m.cls) (hts : ∀ w ∈ lw_tbl, w.before #[Value.ref b] s = true)
    (kk : ∀ (D : va_G) (cI cJ cZ cMic cSrc cSt cAI cAJ cD : ClassId) (ad am : Nat → Nat) (S : Nat → va_E) (ls : Array Slot) (H : Heap) (locs : List Loc), va_K D vwCl (CT cI cJ cZ cMic cSrc cSt cAI cAJ ++ [(cD, .double)]) s → (S 0 = iX11_0 cI cJ cZ cMic cSrc cSt cAI cAJ ad ∧ S 6 = iX11_6 cI cJ cZ cMic cSrc cSt cAI cAJ ad ∧ S 430 = iX11_430 cI cJ cZ cMic cSrc cSt cAI cAJ ad ∧ S 431 = iX11_431 cI cJ cZ cMic cSrc cSt cAI cAJ ad ∧ ∃ bs, BL cI cJ cZ cMic cSrc cSt cAI cAJ 21 ad S bs) → lG D (cat 1586 ad (fun n => bif Nat.beq n 0 then am 98 else am 99)) 1588 cI cJ cZ am (fun q => s.heap.size ≤ q) s.heap H locs (cat 1586 S (fun n => bif Nat.beq n 0 then .inl (cJ, 1, .inr (.inl (fun _ => 0))) else .inl (cD, 1, .inr (.inr (.inr (.inl (fun _ => 0))))))) mS0 → lv_has ls 9 [(5, .int 0), (4, .ref (am 99)), (3, .ref (am 98)), (2, .ref (am 0)), (1, .ref (ad 0)), (0, .ref b)] → W p l e room_1 s m #[Value.ref b] below meth c H locs 1605 82603 Q (F0 m 28 ls [])) :
    W p l e room_1 s m #[Value.ref b] below meth c s.heap [] 0 0 Q (entryFrame m ([Value.ref b] : List Value).toArray 9) := by
  obtain ⟨D, cI, cJ, cZ, cMic, cSrc, cSt, cAI, cAJ, cD, hK⟩ := l_K hts
  have hxs := l_nX hts
  have E : cE p c cL_law s m #[Value.ref b] lw_tbl D RL (CT cI cJ cZ cMic cSrc cSt cAI cAJ ++ [(cD, .double)]) := ⟨hx, hb, hts, hown, hK⟩
  have E1 : cE p c cL_law s m #[Value.ref b] lw_tbl D RL (CT cI cJ cZ cMic cSrc cSt cAI cAJ) := ⟨hx, hb, hts, hown, hK.sub [0, 1, 2, 3, 4, 5, 6, 7] rfl⟩
  have E2 : cE p c cL_law s m #[Value.ref b] lw_tbl D RL (MT cI cJ cZ) := ⟨hx, hb, hts, hown, hK.sub [0, 1, 2] rfl⟩
  have hA : ∀ q : Nat, s.heap.size ≤ q → s.heap.size ≤ q := fun _ h => h
  have G : cG D (fun _ => 0) 0 (fun q => s.heap.size ≤ q) s.heap s.heap [] (fun _ => .inr (0, [])) := ⟨fun k q h => (by cases h), ⟨fun i j p q h _ _ => (by cases h), fun k q h => (by cases h)⟩, va_S.rf⟩
  have hl := lv_entry ([.ref b]) (n := 9) (Nat.le_of_ble_eq_true rfl)
  rw [lg_entry_eq]
  generalize (lg_sl ([.ref b]) ++ List.replicate (9 - (lg_sl ([.ref b])).length) Slot.unset).toArray = ls at hl ⊢
  have hl : lv_has ls 9 [(0, .ref b)] := hl
  refine n_new E G hA (ci := 11) (fs := [.null, .null, .null, .null, .null, .null, .null, .null, .null, .null, .null, .null, .null, .null, .null, .null, .int 0, .int 0, .int 0]) tA_23 tyX11 tyX11_ok (t_of [Cond.classLink RL 8 RX11] [(1, 28)] (by decide +kernel) _ List.mem_cons_self) (t_of [Cond.instantiable RX11 19] [(1, 29)] (by decide +kernel) _ List.mem_cons_self) (t_of [Cond.initialized RX11] [(1, 1)] (by decide +kernel) _ List.mem_cons_self) rfl (by decide) (Nat.le_of_ble_eq_true rfl) (Nat.le_of_ble_eq_true rfl) dL_law_0 (fun q1 H G => ?_)
  refine lv_dup hx hb dL_law_3 rfl ?_
  refine n_init (N := 0) E1 G hA hxs nX.moved hml (n_X11 l D cI cJ cZ cMic cSrc cSt cAI cAJ) (cwI 0 hts (glA (L := []) (fun _ h => absurd h List.not_mem_nil) ⟨(t_of [Cond.code yX11_init cX11_init 2 none] [(1, 32)] (by decide +kernel) _ List.mem_cons_self), List.all_eq_true.mp (by decide +kernel : [Cond.code yX11_init cX11_init 2 none].all goodWord = true) _ List.mem_cons_self⟩) rfl rfl rfl (hts _ (t_of [Cond.initialized RX11] [(1, 1)] (by decide +kernel) _ List.mem_cons_self)) (hts _ (t_of [Cond.methodLink RL 189 yX11_init] [(1, 30)] (by decide +kernel) _ List.mem_cons_self)) (hts _ (t_of [Cond.instanceMethod yX11_init] [(1, 31)] (by decide +kernel) _ List.mem_cons_self)) rfl (by decide +kernel) ⟨Nat.le_of_ble_eq_true rfl, Nat.le_of_ble_eq_true rfl⟩) (cat_hi (Nat.le_refl _)) (cat_hi (Nat.le_refl _)) hl.1 (lv_room (Nat.le_of_ble_eq_true rfl)) dL_law_4 ⟨Nat.le_of_ble_eq_true rfl, Nat.le_of_ble_eq_true rfl⟩ (fun ad S H locs hb1 hT1 G => ?_)
  subst hb1
  rw [cat_cat, cat_cat] at G
  rw [cat_z, cat_z] at G
  refine lv_astore_n (lv' := [(1, .ref (ad 0)), (0, .ref b)]) hx hb dL_law_7 rfl hl (by decide) rfl (fun ls hl => ?_)
  refine n_new E G hA (ci := 12) (fs := [.int 0, .null, .int 0, .int 0, .int 0, .int 0, .int 0, .int 0, .int 0, .int 0, .null, .null, .null, .null, .null, .null, .null, .null, .null, .int 0, .int 0, .int 0, .int 0, .null, .null, .null, .null, .null, .int 0, .null]) tM_x tyX12 tyX12_ok (t_of [Cond.classLink RL 190 RX12] [(7, 208)] (by decide +kernel) _ List.mem_cons_self) (t_of [Cond.instantiable RX12 30] [(7, 209)] (by decide +kernel) _ List.mem_cons_self) (t_of [Cond.initialized RX12] [(1, 14)] (by decide +kernel) _ List.mem_cons_self) rfl (by decide) (Nat.le_of_ble_eq_true rfl) (Nat.le_of_ble_eq_true rfl) dL_law_8 (fun q2 H G => ?_)
  refine lv_dup hx hb dL_law_11 rfl ?_
  refine n_init (N := 1586) E2 G hA trivial (fun _ _ _ _ => trivial) hml (m_init l D cI cJ cZ) (cwI 0 hts (glM (L := []) (fun _ h => absurd h List.not_mem_nil) ⟨(t_of [Cond.code yX12_init cX12_init 1 none] [(7, 212)] (by decide +kernel) _ List.mem_cons_self), List.all_eq_true.mp (by decide +kernel : [Cond.code yX12_init cX12_init 1 none].all goodWord = true) _ List.mem_cons_self⟩) rfl rfl rfl (hts _ (t_of [Cond.initialized RX12] [(1, 14)] (by decide +kernel) _ List.mem_cons_self)) (hts _ (t_of [Cond.methodLink RL 192 yX12_init] [(7, 210)] (by decide +kernel) _ List.mem_cons_self)) (hts _ (t_of [Cond.instanceMethod yX12_init] [(7, 211)] (by decide +kernel) _ List.mem_cons_self)) rfl (by decide +kernel) ⟨Nat.le_of_ble_eq_true rfl, Nat.le_of_ble_eq_true rfl⟩) (cat_hi (Nat.le_refl _)) (cat_hi (Nat.le_refl _)) hl.1 (lv_room (Nat.le_of_ble_eq_true rfl)) dL_law_12 ⟨Nat.le_of_ble_eq_true rfl, Nat.le_of_ble_eq_true rfl⟩ (fun b2 T H locs hb2 hT2 G => ?_)
  subst hb2
  rw [cat_cat, cat_cat] at G
  refine lv_astore_n (lv' := [(2, .ref (b2 0)), (1, .ref (ad 0)), (0, .ref b)]) hx hb dL_law_15 rfl hl (by decide) rfl (fun ls hl => ?_)
  refine lv_iconst (v := 1) hx hb dL_law_16 (by decide) ?_
  refine n_newl E G hA 1 (K := 1) (t_of [Cond.arrayClass .long] [(1, 183)] (by decide +kernel) _ List.mem_cons_self) rfl rfl (by decide) (Nat.le_of_ble_eq_true rfl) (Nat.le_of_ble_eq_true rfl) dL_law_17 (fun q3 H G => ?_)
  refine lv_astore_n (lv' := [(3, .ref q3), (2, .ref (b2 0)), (1, .ref (ad 0)), (0, .ref b)]) hx hb dL_law_19 rfl hl (by decide) rfl (fun ls hl => ?_)
  refine lv_iconst (v := 1) hx hb dL_law_20 (by decide) ?_
  refine va_newa (atype := .double) (ty := .double) E.1 E.2.1 (E.2.2.1 _ (t_of [Cond.arrayClass .double] [(10, 213)] (by decide +kernel) _ List.mem_cons_self)) rfl E.2.2.2.2 G.1 G.2.1 G.2.2 hA (a0 := (1, .inr (.inr (.inr (.inl (fun _ => 0)))))) (fun _ => rfl) (by decide) (by decide) (by decide) (Nat.le_of_ble_eq_true rfl) (Nat.le_of_ble_eq_true rfl) dL_law_21 (fun q4 cB H k1 g1 g2 g3 => ?_)
  have e4 : cB = cD := Option.some.inj ((va_nm_double (k1.2 9 (cB, .double) rfl).2).symm.trans (va_nm_double (hK.2 8 _ rfl).2))
  subst e4
  have G := cG_push g1 g2 g3
  refine lv_astore (lv' := [(4, .ref q4), (3, .ref q3), (2, .ref (b2 0)), (1, .ref (ad 0)), (0, .ref b)]) hx hb dL_law_23 hl (by decide) rfl (fun ls hl => ?_)
  refine lv_iconst (v := 0) hx hb dL_law_25 (by decide) ?_
  refine lv_istore (lv' := [(5, .int 0), (4, .ref q4), (3, .ref q3), (2, .ref (b2 0)), (1, .ref (ad 0)), (0, .ref b)]) hx hb dL_law_26 hl (by decide) rfl (fun ls hl => ?_)
  have e5 : ∀ {α : Type} (f : Nat → α) (x y : α), cat 1604 (cat 1603 f (fun _ => x)) (fun _ => y) = cat 1603 f (fun n => bif Nat.beq n 0 then x else y) := by
    intro α f x y
    funext n
    by_cases h1 : n < 1603
    · rw [cat_lo (Nat.lt_succ_of_lt h1), cat_lo h1, cat_lo h1]
    · by_cases h2 : n < 1604
      · rw [cat_lo h2, cat_hi (Nat.not_lt.mp h1), cat_hi (Nat.not_lt.mp h1), show n - 1603 = 0 by omega]
        rfl
      · rw [cat_hi (Nat.not_lt.mp h2), cat_hi (Nat.not_lt.mp h1)]
        obtain ⟨k, hk⟩ : ∃ k, n - 1603 = k + 1 := ⟨n - 1604, by omega⟩
        rw [hk]
        rfl
  rw [e5, e5] at G
  have G := l_turn (K := 2) (am := va_up (va_up (mAd b2) 98 q3) 99 q4) (by rw [hT2]; rfl) G
  exact kk D cI cJ cZ cMic cSrc cSt cAI cAJ _ ad (va_up (va_up (mAd b2) 98 q3) 99 q4) S ls H locs hK hT1 G hl
end
section
/-! 08f.x.lean.txt -/
theorem l_X {b : Nat} {s : State} (hts : ∀ w ∈ lw_tbl, w.before #[Value.ref b] s = true) (hg : (Jvm.Cond.and given_1 narrow_1).before #[Value.ref b] s = true) : xT (fun q => s.heap.size ≤ q) s ∧ va_Nc xIAE xIOB s ∧ va_Nc xISE xIOB s := by
  have hs := flat_of_before _ hg
  have hw := t_of xB [(3, 136), (5, 34), (3, 103), (4, 23), (3, 104), (3, 106), (3, 108)] (by decide +kernel)
  have hz := t_of (sL.map (fun x => Cond.stringRef x.1 x.2.1 x.2.2)) [(3, 196), (4, 37), (4, 46), (4, 47), (4, 48), (4, 53), (4, 66), (4, 75), (4, 84), (4, 85), (4, 86), (4, 87), (4, 88), (4, 89), (4, 94), (4, 95), (4, 108), (4, 113), (4, 118), (4, 127), (8, 119), (8, 138), (8, 151), (8, 152), (8, 153), (8, 162), (8, 171), (8, 176), (8, 181), (8, 186), (8, 191), (8, 196), (8, 201), (8, 206), (8, 211), (8, 216), (8, 217), (8, 218), (8, 219), (8, 220)] (by decide +kernel)
  have he : ∀ x ∈ sL, (Cond.exactly (.string x.1 x.2.1) "java/lang/String").before #[Value.ref b] s = true := fun x hx => hs _ (List.all_eq_true.mp (by decide +kernel : sL.all (fun x => decide (Cond.exactly (.string x.1 x.2.1) "java/lang/String" ∈ flatC (Jvm.Cond.and given_1 narrow_1))) = true) x hx |> of_decide_eq_true)
  have hR : sR s := fun x hx => by
    obtain ⟨a, c, cA, kA, q1, -⟩ := Cond.exactly_spec (args := #[Value.ref b]) (first := s) (o := none) (s := s) (idx := []) (t := .string x.1 x.2.1) (cls := "java/lang/String") (he x hx)
    exact ⟨a, vk_R.of (hts _ (hz _ (List.mem_map_of_mem hx))) q1⟩
  exact ⟨⟨vx_Zqof (hts _ (t_of [Cond.laysStatic "java/lang/Throwable" "UNASSIGNED_STACK" "[Ljava/lang/StackTraceElement;"] [(3, 128)] (by decide +kernel) _ List.mem_cons_self)) (hts _ (t_of [Cond.initialized "java/lang/Throwable"] [(1, 15)] (by decide +kernel) _ List.mem_cons_self)) (hs _ (by decide +kernel)) (fun a h h2 => absurd h (Nat.not_lt.mpr h2)), vx_Zqof (hts _ (t_of [Cond.laysStatic "java/lang/Throwable" "SUPPRESSED_SENTINEL" "Ljava/util/List;"] [(3, 130)] (by decide +kernel) _ List.mem_cons_self)) (hts _ (t_of [Cond.initialized "java/lang/Throwable"] [(1, 15)] (by decide +kernel) _ List.mem_cons_self)) (hs _ (by decide +kernel)) (fun a h h2 => absurd h (Nat.not_lt.mpr h2)), fun w h => va_Nw.of (xB_tab w h) (hts w (hw w h)), l_nX hts, hR⟩, va_Nc.of (hs _ (by decide +kernel)), va_Nc.of (hs _ (by decide +kernel))⟩
end
section
/-! 08j.lw.lean.txt -/
/-! THE CLAIM OUT OF ONE WALK OF THE LAW'S BODY. Your part is whole_start (and what it stands on); all else here is the same for every law, but numbers. -/
def R_law : String := "AcousticCameraLaw"
def lw_P (b : Addr) (xs : List Int32) (args : Array Value) (s : State) : Prop := args = #[.ref b] ∧ s.IntsAt b xs ∧ xs.length ≤ 3072 ∧ (Jvm.Cond.and given_1 narrow_1).before args s = true
/-- what a walk over the start with the record d0 says of its end, said of the start itself -/
theorem lw_closed {s t : State} {o : Outcome} {d0 : Drawn} {L : List Loc} {k n : Nat} (hd0 : s.drawn.sameBut d0 lw_cs) (hv : ∃ v, o = .returned v) (hW : (s.setDrawn d0).WarmedH t.vm) (hs : (s.setDrawn d0).sameButNew ({ t with vm := s.vm } : State) L k n) : State.butDraws s t lw_cs (fun t1 => Framed s o t1 L k n) := by
  have h2 : t.drawn = d0 := congrArg State.drawn hs.1
  refine ⟨⟨hv, hW, State.sameButNew.setDrawn hs s.drawn⟩, ?_, by decide⟩
  rw [h2]
  exact hd0
def lw_Q (_ : Array Value) (s : State) (o : Outcome) (t : State) : Prop := o = .returned (some (.int 1)) ∧ State.butDraws s t lw_cs (fun t1 => Framed s o t1 [] 601024 7293034)
def lw_Z (below : List Frame) (a : Array Value) (s : State) : State → Prop := fun t => ∃ o, t.status = .running ∧ Ended t below o ∧ lw_Q a s o t
/-- the law's own end, with 1 on the stack, nothing written that was there before, its room as the claim has it; d0: the record of draws at this point (at the entry s.drawn: begin with 'refine W.base ?_' and 'have hd0 := Drawn.sameBut.refl s.drawn lw_cs') -/
theorem lw_ret {p : Program} {l : Launch} {e : Env} {s : State} {m : MethodId} {below : List Frame} {meth : Method} {c : Code} {b : Nat} {d0 : Drawn} (hd0 : s.drawn.sameBut d0 lw_cs) (hx : p.tables.exec = Jvm.exec) (hb : c.code = code) (hr : meth.sig.returnType = ret) (hlocks : meth.locks = false) {pc : Nat} {H : Heap} {ls : Array Slot} (hdg : decode code pc = .ok (.ireturn, 1)) : W p l e room_1 (s.setDrawn d0) m #[Value.ref b] below meth c H [] 601024 7293034 (lw_Z below #[Value.ref b] s) (F0 m pc ls [.int 1]) := by
  intro T hT X
  obtain ⟨fs, hret, hrun, hended, hW, hframe⟩ := X.leave (v := some (.int 1)) (hlocks := hlocks) (fun h => by rw [hr] at h; cases h)
  have hmeth' : T.vm.method? m = some meth := X.method'
  refine ⟨T.setFrames fs, ?_, .returned (some (.int 1)), hrun, hended, rfl, lw_closed hd0 ⟨_, rfl⟩ hW hframe⟩
  jvm_step X.here [X.here.top, hx, hb, hdg, hmeth', hr, ret, narrow_b1]
  (try refine ⟨rfl, ?_⟩); (try refine ⟨rfl, ?_⟩)
  first | (intro acts; rw [hret _ acts rfl rfl rfl]) | rw [hret _ _ rfl rfl rfl]
  exact Steps.refl _
/-- what holds at the law's entry: the machine, the code, the tables' words (any of lw_tbl by 'hts w (by decide +kernel)'), the script of L ints xs at the cell b, what the Statement gives of the start (any of its parts by flat_of_before) -/
def lw_At (p : Program) (s : State) (m : MethodId) (meth : Method) (c : Code) (b L : Nat) (xs : Nat → Int32) : Prop :=
  p.tables.exec = Jvm.exec ∧ c.code = code ∧ meth.sig.returnType = ret ∧ c.maxLocals = 9 ∧ s.vm.findClass R_law = some m.cls ∧ (∀ w ∈ lw_tbl, w.before #[Value.ref b] s = true) ∧ va_X b L xs s s.heap ∧ b < s.heap.size ∧ meth.locks = false ∧ (Jvm.Cond.and given_1 narrow_1).before #[Value.ref b] s = true
end
section
/-! 11a.dec0.lean.txt -/
def elet {α β : Type} (x : α) (f : α → Option β) : Option β := f x
def oif {β : Type} (c : Prop) [Decidable c] (x : Option β) : Option β := if c then x else none
def obind {α β : Type} (x : Option α) (f : α → Option β) : Option β := match x with
  | none => none
  | some a => f a
def obind2 {α β γ : Type} (x : Option (α × β)) (f : α → β → Option γ) : Option γ := match x with
  | none => none
  | some (a, b) => f a b
theorem elet_some {α β : Type} {x : α} {f : α → Option β} {y : β} (h : elet x f = some y) : ∃ v, v = x ∧ f v = some y := ⟨x, rfl, h⟩
theorem elet_at {α β : Type} {x v : α} {f : α → Option β} {y : β} (e : v = x) (h : elet x f = some y) : f v = some y := by rw [e]; exact h
theorem oif_some {β : Type} {c : Prop} [Decidable c] {x : Option β} {y : β} (h : oif c x = some y) : c ∧ x = some y := by
  unfold oif at h
  by_cases hc : c
  · rw [if_pos hc] at h
    exact ⟨hc, h⟩
  · rw [if_neg hc] at h
    cases h
theorem oif_pos {β : Type} {c : Prop} [Decidable c] {x z : Option β} {y : β} (hc : c) (h : (if c then x else z) = some y) : x = some y := by rw [if_pos hc] at h; exact h
theorem oif_neg {β : Type} {c : Prop} [Decidable c] {x z : Option β} {y : β} (hc : ¬ c) (h : (if c then x else z) = some y) : z = some y := by rw [if_neg hc] at h; exact h
theorem obind_some {α β : Type} {x : Option α} {f : α → Option β} {y : β} (h : obind x f = some y) : ∃ a, x = some a ∧ f a = some y := by
  cases x with
  | none => cases h
  | some a => exact ⟨a, rfl, h⟩
theorem obind2_some {α β γ : Type} {x : Option (α × β)} {f : α → β → Option γ} {y : γ} (h : obind2 x f = some y) : ∃ a b, x = some (a, b) ∧ f a b = some y := by
  cases x with
  | none => cases h
  | some q => exact ⟨q.1, q.2, rfl, h⟩
theorem osome1 {α : Type} {x y : α} (h : some x = some y) : x = y := Option.some.inj h
theorem osome2 {α β : Type} {x y : α} {u v : β} (h : some (x, u) = some (y, v)) : x = y ∧ u = v := ⟨congrArg Prod.fst (Option.some.inj h), congrArg Prod.snd (Option.some.inj h)⟩
def inb (i : Int32) (n : Nat) : Bool := decide (0 ≤ i) && Nat.blt i.toNatClampNeg n
theorem inb_k {i : Int32} {n : Nat} (h : inb i n = true) : i = nI i.toNatClampNeg ∧ i.toNatClampNeg < n := by
  have h1 := (Bool.and_eq_true _ _).mp h
  have h2 : 0 ≤ i := of_decide_eq_true h1.1
  have h3 : ¬ i < 0 := Int32.not_lt.mpr h2
  obtain ⟨j, hj, e⟩ := nI_of h3
  have h4 : i.toNatClampNeg = j := by rw [e]; exact nI_clamp hj
  exact ⟨by rw [h4]; exact e, Nat.le_of_ble_eq_true h1.2⟩
theorem nar01 {v : Int32} (h : v = 0 ∨ v = 1) : narrow .boolean (.int v) = .int v := by rcases h with rfl | rfl <;> rfl
theorem tsw_ne {x : Int32} {k : Int32} {a : Int} (hk : k.toInt = a) (h : ¬ x = k) : ¬ x.toInt = a := fun q => h (Int32.toInt_inj.mp (by rw [hk]; exact q))
theorem tsw_0_2 {x : Int32} (h0 : ¬ x = 0) (h1 : ¬ x = 1) (h2 : ¬ x = 2) : x.toInt < 0 ∨ 2 < x.toInt := by
  have a0 := tsw_ne (a := 0) (by decide) h0
  have a1 := tsw_ne (a := 1) (by decide) h1
  have a2 := tsw_ne (a := 2) (by decide) h2
  omega
theorem tsw_0_3 {x : Int32} (h0 : ¬ x = 0) (h1 : ¬ x = 1) (h2 : ¬ x = 2) (h3 : ¬ x = 3) : x.toInt < 0 ∨ 3 < x.toInt := by
  have a0 := tsw_ne (a := 0) (by decide) h0
  have a1 := tsw_ne (a := 1) (by decide) h1
  have a2 := tsw_ne (a := 2) (by decide) h2
  have a3 := tsw_ne (a := 3) (by decide) h3
  omega
abbrev mCs (l : Launch) (y : MethodName) (ws : List Cond) (fr lo : Nat) (D : va_G) (cI cJ cZ : ClassId) (ad : Nat → Nat) (S : MS) (As : List Value) (post : MS → Prop) : Prop := ∀ sz : Nat, Met l y ws { frames := fr, cells := 0, slots := 0, locals := lo } (va_Pc As (mB D cI cJ cZ ad S sz)) (va_Qv post (mAt D cI cJ cZ ad (va_A (MW cI cJ cZ ad S) sz)) (va_A (MW cI cJ cZ ad S) sz)) 0 0 (va_A (MW cI cJ cZ ad S) sz)
section DEC
variable {p : Program} {l : Launch} {e : Env} {R : Room} {s : State} {m : MethodId} {args : Array Value} {below : List Frame} {meth : Method} {c : Code} {H : Heap} {locs : List Loc} {cells slots : Nat} {Q : State → Prop}
variable {cc : ByteArray} {pc : Nat} {ls : Array Slot} {rest : List Value} {D : va_G} {A : Nat → Prop} {H0 : Heap} {Ts : List Cond} {cI cJ cZ : ClassId} {ad : Nat → Nat} {S : MS}
/-- a static call by the reference that is handed its arrays -/
theorem m_calls {y : MethodName} {bytes : ByteArray} {maxL nL n index fr lo : Nat} {ret : Option FieldType} {ws : List Cond} {As : List Value} {post : MS → Prop} (E : mE p c cc s m args Ts D cI cJ cZ) (G : mG D cI cJ cZ ad A H0 H locs S) (hA : ∀ q, H0.size ≤ q → A q) (hR : sR s) (hml : c.maxLocals = nL) (hM : mCs l y ws fr lo D cI cJ cZ ad S As post) (cw : CallB R s args RX12 index y bytes maxL ret ws { frames := fr, cells := 0, slots := 0, locals := lo } 0 0 n ∧ (Cond.static y).before args s = true) (hn : As.length = n) (hsz : ls.size = nL) {st : List Value} (hst : st = As.reverse ++ rest) (hW : 2 * (F0 m pc ls st).monitorRoom + (rest.map fun v => v.category).sum ≤ 8) (hdg : decode cc pc = .ok (.invokestatic index, 3)) (hf : cells ≤ R.cells ∧ slots ≤ R.slots) (kk : ∀ (S1 : MS) (H1 : Heap) (locs1 : List Loc), post S1 → mG D cI cJ cZ ad A H0 H1 locs1 S1 → W p l e R s m args below meth c H1 locs1 cells slots Q (F0 m (pc + 3) ls rest)) : W p l e R s m args below meth c H locs cells slots Q (F0 m pc ls st) := by
  obtain ⟨hx, hb, hts, hown, hK, hin⟩ := E
  obtain ⟨hP, hD, hS⟩ := G
  have hFc := va_free (wc := MW cI cJ cZ ad S) hD hS hA [0, 1, 2, 3, 4, 5, 6, 7, 8, 9, 10, 11, 12, 13, 14, 15, 16] rfl
  refine va_callv (va_runS (As := As) (rest := rest) ⟨hx, hb, hml, hown, hts⟩ (hM H.size) cw ⟨fun a U g mk q => by obtain ⟨q0, q1, qP, qK, qD, qR⟩ := q; exact ⟨q0, q1, qP, va_K.moved (u := U) (U := U.calling g mk a) (Vm.Alike.refl U.vm) qK, qD, qR.blind⟩, fun U hU hW => ⟨rfl, by rw [hU], by rw [hU]; exact hP, va_K.moved hW.alike hK, hD.weaken (fun _ _ _ _ => trivial), hR.warm hW⟩⟩ rfl hn hsz hst hW hdg hf) hS (fun q _ h => hFc q h) hFc (fun u t H1 locs1 ht hvm hw hB hz1 hk1 hS => ?_)
  obtain ⟨hP1, hK1, hD1⟩ := hB
  rw [ht] at hP1
  obtain ⟨hP2, hD2⟩ := va_join (wr := []) (w1 := MW cI cJ cZ ad u) hP hD [0, 1, 2, 3, 4, 5, 6, 7, 8, 9, 10, 11, 12, 13, 14, 15, 16] [] rfl rfl (by decide) (by decide) hk1 hFc hP1 hD1
  exact kk u H1 locs1 hw ⟨hP2, hD2, hS⟩
theorem m_zast (E : mE p c cc s m args Ts D cI cJ cZ) (G : mG D cI cJ cZ ad A H0 H locs S) (j q0 : Nat) {n k : Nat} {i v : Int32} (ha : (MW cI cJ cZ ad S)[q0]? = some (ad j, .inl (cZ, n, .inl (S.2.1 j)))) (hs : ∀ f, (MW cI cJ cZ ad S).set q0 (ad j, .inl (cZ, n, .inl f)) = MW cI cJ cZ ad (mf S j f)) (hi : i = nI k) (hk : k < n) (hn : n < 2 ^ 31) (hv : vp_nar .boolean v = v) (hdg : decode cc pc = .ok (.bastore, 1)) (kk : ∀ (H1 : Heap) (locs1 : List Loc), mG D cI cJ cZ ad A H0 H1 locs1 (mf S j (upd (S.2.1 j) k v)) → W p l e R s m args below meth c H1 locs1 cells slots Q (F0 m (pc + 1) ls rest)) : W p l e R s m args below meth c H locs cells slots Q (F0 m pc ls (.int v :: .int i :: .ref (ad j) :: rest)) := by
  subst hi
  refine va_zast E.1 E.2.1 E.2.2.2.2.1 G.1 G.2.1 G.2.2 q0 2 ha rfl (vp_in_nI hk hn) hdg (fun H1 locs1 h1 h2 h3 => kk H1 locs1 ?_)
  rw [nI_clamp (Nat.lt_trans hk hn), hv, hs] at h1 h2
  exact ⟨h1, h2, h3⟩
theorem lv_tof {x y : UInt32} (h : x = y) (k : W p l e R s m args below meth c H locs cells slots Q (F0 m pc ls (.float y :: rest))) : W p l e R s m args below meth c H locs cells slots Q (F0 m pc ls (.float x :: rest)) := by
  subst h
  exact k
end DEC
end
section
/-! 11a1.jdk.lean.txt -/
theorem dJ13_compare_74951_0 : decode cJ13_compare_74951 0 = .ok (.lload_n 0, 1) := by decide +kernel
theorem dJ13_compare_74951_1 : decode cJ13_compare_74951 1 = .ok (.lload_n 2, 1) := by decide +kernel
theorem dJ13_compare_74951_2 : decode cJ13_compare_74951 2 = .ok (.lcmp, 1) := by decide +kernel
theorem dJ13_compare_74951_3 : decode cJ13_compare_74951 3 = .ok (.ifCond .ge 7, 3) := by decide +kernel
theorem dJ13_compare_74951_6 : decode cJ13_compare_74951 6 = .ok (.iconst (-1), 1) := by decide +kernel
theorem dJ13_compare_74951_7 : decode cJ13_compare_74951 7 = .ok (.goto 14, 3) := by decide +kernel
theorem dJ13_compare_74951_10 : decode cJ13_compare_74951 10 = .ok (.lload_n 0, 1) := by decide +kernel
theorem dJ13_compare_74951_11 : decode cJ13_compare_74951 11 = .ok (.lload_n 2, 1) := by decide +kernel
theorem dJ13_compare_74951_12 : decode cJ13_compare_74951 12 = .ok (.lcmp, 1) := by decide +kernel
theorem dJ13_compare_74951_13 : decode cJ13_compare_74951 13 = .ok (.ifCond .ne 7, 3) := by decide +kernel
theorem dJ13_compare_74951_16 : decode cJ13_compare_74951 16 = .ok (.iconst 0, 1) := by decide +kernel
theorem dJ13_compare_74951_17 : decode cJ13_compare_74951 17 = .ok (.goto 4, 3) := by decide +kernel
theorem dJ13_compare_74951_20 : decode cJ13_compare_74951 20 = .ok (.iconst 1, 1) := by decide +kernel
theorem dJ13_compare_74951_21 : decode cJ13_compare_74951 21 = .ok (.ireturn, 1) := by decide +kernel
theorem dJ9_floorDiv_f86c9_0 : decode cJ9_floorDiv_f86c9 0 = .ok (.lload_n 0, 1) := by decide +kernel
theorem dJ9_floorDiv_f86c9_1 : decode cJ9_floorDiv_f86c9 1 = .ok (.lload_n 2, 1) := by decide +kernel
theorem dJ9_floorDiv_f86c9_2 : decode cJ9_floorDiv_f86c9 2 = .ok (.ldiv, 1) := by decide +kernel
theorem dJ9_floorDiv_f86c9_3 : decode cJ9_floorDiv_f86c9 3 = .ok (.lstore 4, 2) := by decide +kernel
theorem dJ9_floorDiv_f86c9_5 : decode cJ9_floorDiv_f86c9 5 = .ok (.lload_n 0, 1) := by decide +kernel
theorem dJ9_floorDiv_f86c9_6 : decode cJ9_floorDiv_f86c9 6 = .ok (.lload_n 2, 1) := by decide +kernel
theorem dJ9_floorDiv_f86c9_7 : decode cJ9_floorDiv_f86c9 7 = .ok (.lxor, 1) := by decide +kernel
theorem dJ9_floorDiv_f86c9_8 : decode cJ9_floorDiv_f86c9 8 = .ok (.lconst 0, 1) := by decide +kernel
theorem dJ9_floorDiv_f86c9_9 : decode cJ9_floorDiv_f86c9 9 = .ok (.lcmp, 1) := by decide +kernel
theorem dJ9_floorDiv_f86c9_10 : decode cJ9_floorDiv_f86c9 10 = .ok (.ifCond .ge 17, 3) := by decide +kernel
theorem dJ9_floorDiv_f86c9_13 : decode cJ9_floorDiv_f86c9 13 = .ok (.lload 4, 2) := by decide +kernel
theorem dJ9_floorDiv_f86c9_15 : decode cJ9_floorDiv_f86c9 15 = .ok (.lload_n 2, 1) := by decide +kernel
theorem dJ9_floorDiv_f86c9_16 : decode cJ9_floorDiv_f86c9 16 = .ok (.lmul, 1) := by decide +kernel
theorem dJ9_floorDiv_f86c9_17 : decode cJ9_floorDiv_f86c9 17 = .ok (.lload_n 0, 1) := by decide +kernel
theorem dJ9_floorDiv_f86c9_18 : decode cJ9_floorDiv_f86c9 18 = .ok (.lcmp, 1) := by decide +kernel
theorem dJ9_floorDiv_f86c9_19 : decode cJ9_floorDiv_f86c9 19 = .ok (.ifCond .eq 8, 3) := by decide +kernel
theorem dJ9_floorDiv_f86c9_22 : decode cJ9_floorDiv_f86c9 22 = .ok (.lload 4, 2) := by decide +kernel
theorem dJ9_floorDiv_f86c9_24 : decode cJ9_floorDiv_f86c9 24 = .ok (.lconst 1, 1) := by decide +kernel
theorem dJ9_floorDiv_f86c9_25 : decode cJ9_floorDiv_f86c9 25 = .ok (.lsub, 1) := by decide +kernel
theorem dJ9_floorDiv_f86c9_26 : decode cJ9_floorDiv_f86c9 26 = .ok (.lreturn, 1) := by decide +kernel
theorem dJ9_floorDiv_f86c9_27 : decode cJ9_floorDiv_f86c9 27 = .ok (.lload 4, 2) := by decide +kernel
theorem dJ9_floorDiv_f86c9_29 : decode cJ9_floorDiv_f86c9 29 = .ok (.lreturn, 1) := by decide +kernel
theorem dJ9_floorMod_f86c9_0 : decode cJ9_floorMod_f86c9 0 = .ok (.lload_n 0, 1) := by decide +kernel
theorem dJ9_floorMod_f86c9_1 : decode cJ9_floorMod_f86c9 1 = .ok (.lload_n 2, 1) := by decide +kernel
theorem dJ9_floorMod_f86c9_2 : decode cJ9_floorMod_f86c9 2 = .ok (.lrem, 1) := by decide +kernel
theorem dJ9_floorMod_f86c9_3 : decode cJ9_floorMod_f86c9 3 = .ok (.lstore 4, 2) := by decide +kernel
theorem dJ9_floorMod_f86c9_5 : decode cJ9_floorMod_f86c9 5 = .ok (.lload_n 0, 1) := by decide +kernel
theorem dJ9_floorMod_f86c9_6 : decode cJ9_floorMod_f86c9 6 = .ok (.lload_n 2, 1) := by decide +kernel
theorem dJ9_floorMod_f86c9_7 : decode cJ9_floorMod_f86c9 7 = .ok (.lxor, 1) := by decide +kernel
theorem dJ9_floorMod_f86c9_8 : decode cJ9_floorMod_f86c9 8 = .ok (.lconst 0, 1) := by decide +kernel
theorem dJ9_floorMod_f86c9_9 : decode cJ9_floorMod_f86c9 9 = .ok (.lcmp, 1) := by decide +kernel
theorem dJ9_floorMod_f86c9_10 : decode cJ9_floorMod_f86c9 10 = .ok (.ifCond .ge 15, 3) := by decide +kernel
theorem dJ9_floorMod_f86c9_13 : decode cJ9_floorMod_f86c9 13 = .ok (.lload 4, 2) := by decide +kernel
theorem dJ9_floorMod_f86c9_15 : decode cJ9_floorMod_f86c9 15 = .ok (.lconst 0, 1) := by decide +kernel
theorem dJ9_floorMod_f86c9_16 : decode cJ9_floorMod_f86c9 16 = .ok (.lcmp, 1) := by decide +kernel
theorem dJ9_floorMod_f86c9_17 : decode cJ9_floorMod_f86c9 17 = .ok (.ifCond .eq 8, 3) := by decide +kernel
theorem dJ9_floorMod_f86c9_20 : decode cJ9_floorMod_f86c9 20 = .ok (.lload 4, 2) := by decide +kernel
theorem dJ9_floorMod_f86c9_22 : decode cJ9_floorMod_f86c9 22 = .ok (.lload_n 2, 1) := by decide +kernel
theorem dJ9_floorMod_f86c9_23 : decode cJ9_floorMod_f86c9 23 = .ok (.ladd, 1) := by decide +kernel
theorem dJ9_floorMod_f86c9_24 : decode cJ9_floorMod_f86c9 24 = .ok (.lreturn, 1) := by decide +kernel
theorem dJ9_floorMod_f86c9_25 : decode cJ9_floorMod_f86c9 25 = .ok (.lload 4, 2) := by decide +kernel
theorem dJ9_floorMod_f86c9_27 : decode cJ9_floorMod_f86c9 27 = .ok (.lreturn, 1) := by decide +kernel
theorem dJ0_length_8abf5_0 : decode cJ0_length_8abf5 0 = .ok (.aload_n 0, 1) := by decide +kernel
theorem dJ0_length_8abf5_1 : decode cJ0_length_8abf5 1 = .ok (.getfield 9, 3) := by decide +kernel
theorem dJ0_length_8abf5_4 : decode cJ0_length_8abf5 4 = .ok (.arraylength, 1) := by decide +kernel
theorem dJ0_length_8abf5_5 : decode cJ0_length_8abf5 5 = .ok (.aload_n 0, 1) := by decide +kernel
theorem dJ0_length_8abf5_6 : decode cJ0_length_8abf5 6 = .ok (.invokevirtual 335, 3) := by decide +kernel
theorem dJ0_length_8abf5_9 : decode cJ0_length_8abf5 9 = .ok (.ishr, 1) := by decide +kernel
theorem dJ0_length_8abf5_10 : decode cJ0_length_8abf5 10 = .ok (.ireturn, 1) := by decide +kernel
theorem dJ0_charAt_5068e_0 : decode cJ0_charAt_5068e 0 = .ok (.aload_n 0, 1) := by decide +kernel
theorem dJ0_charAt_5068e_1 : decode cJ0_charAt_5068e 1 = .ok (.invokevirtual 492, 3) := by decide +kernel
theorem dJ0_charAt_5068e_4 : decode cJ0_charAt_5068e 4 = .ok (.ifCond .eq 12, 3) := by decide +kernel
theorem dJ0_charAt_5068e_7 : decode cJ0_charAt_5068e 7 = .ok (.aload_n 0, 1) := by decide +kernel
theorem dJ0_charAt_5068e_8 : decode cJ0_charAt_5068e 8 = .ok (.getfield 9, 3) := by decide +kernel
theorem dJ0_charAt_5068e_11 : decode cJ0_charAt_5068e 11 = .ok (.iload_n 1, 1) := by decide +kernel
theorem dJ0_charAt_5068e_12 : decode cJ0_charAt_5068e 12 = .ok (.invokestatic 495, 3) := by decide +kernel
theorem dJ0_charAt_5068e_15 : decode cJ0_charAt_5068e 15 = .ok (.ireturn, 1) := by decide +kernel
theorem dJ0_coder_7d493_0 : decode cJ0_coder_7d493 0 = .ok (.getstatic 38, 3) := by decide +kernel
theorem dJ0_coder_7d493_3 : decode cJ0_coder_7d493 3 = .ok (.ifCond .eq 10, 3) := by decide +kernel
theorem dJ0_coder_7d493_6 : decode cJ0_coder_7d493 6 = .ok (.aload_n 0, 1) := by decide +kernel
theorem dJ0_coder_7d493_7 : decode cJ0_coder_7d493 7 = .ok (.getfield 15, 3) := by decide +kernel
theorem dJ0_coder_7d493_10 : decode cJ0_coder_7d493 10 = .ok (.goto 4, 3) := by decide +kernel
theorem dJ0_coder_7d493_14 : decode cJ0_coder_7d493 14 = .ok (.ireturn, 1) := by decide +kernel
theorem dJ0_isLatin1_aae02_0 : decode cJ0_isLatin1_aae02 0 = .ok (.getstatic 38, 3) := by decide +kernel
theorem dJ0_isLatin1_aae02_3 : decode cJ0_isLatin1_aae02 3 = .ok (.ifCond .eq 14, 3) := by decide +kernel
theorem dJ0_isLatin1_aae02_6 : decode cJ0_isLatin1_aae02 6 = .ok (.aload_n 0, 1) := by decide +kernel
theorem dJ0_isLatin1_aae02_7 : decode cJ0_isLatin1_aae02 7 = .ok (.getfield 15, 3) := by decide +kernel
theorem dJ0_isLatin1_aae02_10 : decode cJ0_isLatin1_aae02 10 = .ok (.ifCond .ne 7, 3) := by decide +kernel
theorem dJ0_isLatin1_aae02_13 : decode cJ0_isLatin1_aae02 13 = .ok (.iconst 1, 1) := by decide +kernel
theorem dJ0_isLatin1_aae02_14 : decode cJ0_isLatin1_aae02 14 = .ok (.goto 4, 3) := by decide +kernel
theorem dJ0_isLatin1_aae02_18 : decode cJ0_isLatin1_aae02 18 = .ok (.ireturn, 1) := by decide +kernel
theorem dJ0_checkIndex_df160_0 : decode cJ0_checkIndex_df160 0 = .ok (.iload_n 0, 1) := by decide +kernel
theorem dJ0_checkIndex_df160_1 : decode cJ0_checkIndex_df160 1 = .ok (.iload_n 1, 1) := by decide +kernel
theorem dJ0_checkIndex_df160_2 : decode cJ0_checkIndex_df160 2 = .ok (.getstatic 1053, 3) := by decide +kernel
theorem dJ0_checkIndex_df160_5 : decode cJ0_checkIndex_df160 5 = .ok (.invokestatic 1059, 3) := by decide +kernel
theorem dJ0_checkIndex_df160_8 : decode cJ0_checkIndex_df160 8 = .ok (.pop, 1) := by decide +kernel
theorem dJ0_checkIndex_df160_9 : decode cJ0_checkIndex_df160 9 = .ok (.return_, 1) := by decide +kernel
theorem dJ1_charAt_3b067_0 : decode cJ1_charAt_3b067 0 = .ok (.iload_n 1, 1) := by decide +kernel
theorem dJ1_charAt_3b067_1 : decode cJ1_charAt_3b067 1 = .ok (.aload_n 0, 1) := by decide +kernel
theorem dJ1_charAt_3b067_2 : decode cJ1_charAt_3b067 2 = .ok (.arraylength, 1) := by decide +kernel
theorem dJ1_charAt_3b067_3 : decode cJ1_charAt_3b067 3 = .ok (.invokestatic 9, 3) := by decide +kernel
theorem dJ1_charAt_3b067_6 : decode cJ1_charAt_3b067 6 = .ok (.aload_n 0, 1) := by decide +kernel
theorem dJ1_charAt_3b067_7 : decode cJ1_charAt_3b067 7 = .ok (.iload_n 1, 1) := by decide +kernel
theorem dJ1_charAt_3b067_8 : decode cJ1_charAt_3b067 8 = .ok (.baload, 1) := by decide +kernel
theorem dJ1_charAt_3b067_9 : decode cJ1_charAt_3b067 9 = .ok (.sipush 255, 3) := by decide +kernel
theorem dJ1_charAt_3b067_12 : decode cJ1_charAt_3b067 12 = .ok (.iand, 1) := by decide +kernel
theorem dJ1_charAt_3b067_13 : decode cJ1_charAt_3b067 13 = .ok (.i2c, 1) := by decide +kernel
theorem dJ1_charAt_3b067_14 : decode cJ1_charAt_3b067 14 = .ok (.ireturn, 1) := by decide +kernel
theorem dJ7_fill_53178_0 : decode cJ7_fill_53178 0 = .ok (.iconst 0, 1) := by decide +kernel
theorem dJ7_fill_53178_1 : decode cJ7_fill_53178 1 = .ok (.istore_n 2, 1) := by decide +kernel
theorem dJ7_fill_53178_2 : decode cJ7_fill_53178 2 = .ok (.aload_n 0, 1) := by decide +kernel
theorem dJ7_fill_53178_3 : decode cJ7_fill_53178 3 = .ok (.arraylength, 1) := by decide +kernel
theorem dJ7_fill_53178_4 : decode cJ7_fill_53178 4 = .ok (.istore_n 3, 1) := by decide +kernel
theorem dJ7_fill_53178_5 : decode cJ7_fill_53178 5 = .ok (.iload_n 2, 1) := by decide +kernel
theorem dJ7_fill_53178_6 : decode cJ7_fill_53178 6 = .ok (.iload_n 3, 1) := by decide +kernel
theorem dJ7_fill_53178_7 : decode cJ7_fill_53178 7 = .ok (.if_icmp .ge 13, 3) := by decide +kernel
theorem dJ7_fill_53178_10 : decode cJ7_fill_53178 10 = .ok (.aload_n 0, 1) := by decide +kernel
theorem dJ7_fill_53178_11 : decode cJ7_fill_53178 11 = .ok (.iload_n 2, 1) := by decide +kernel
theorem dJ7_fill_53178_12 : decode cJ7_fill_53178 12 = .ok (.iload_n 1, 1) := by decide +kernel
theorem dJ7_fill_53178_13 : decode cJ7_fill_53178 13 = .ok (.iastore, 1) := by decide +kernel
theorem dJ7_fill_53178_14 : decode cJ7_fill_53178 14 = .ok (.iinc 2 1, 3) := by decide +kernel
theorem dJ7_fill_53178_17 : decode cJ7_fill_53178 17 = .ok (.goto (-12), 3) := by decide +kernel
theorem dJ7_fill_53178_20 : decode cJ7_fill_53178 20 = .ok (.return_, 1) := by decide +kernel
theorem dJ3_checkIndex_8e157_0 : decode cJ3_checkIndex_8e157 0 = .ok (.iload_n 0, 1) := by decide +kernel
theorem dJ3_checkIndex_8e157_1 : decode cJ3_checkIndex_8e157 1 = .ok (.ifCond .lt 8, 3) := by decide +kernel
theorem dJ3_checkIndex_8e157_4 : decode cJ3_checkIndex_8e157 4 = .ok (.iload_n 0, 1) := by decide +kernel
theorem dJ3_checkIndex_8e157_5 : decode cJ3_checkIndex_8e157 5 = .ok (.iload_n 1, 1) := by decide +kernel
theorem dJ3_checkIndex_8e157_6 : decode cJ3_checkIndex_8e157 6 = .ok (.if_icmp .lt 10, 3) := by decide +kernel
theorem dJ3_checkIndex_8e157_16 : decode cJ3_checkIndex_8e157 16 = .ok (.iload_n 0, 1) := by decide +kernel
theorem dJ3_checkIndex_8e157_17 : decode cJ3_checkIndex_8e157 17 = .ok (.ireturn, 1) := by decide +kernel
end
section
/-! 11b.str.lean.txt -/
/-- a void call that touches nothing -/
def s_Sv : Array Value → State → Outcome → State → Prop := fun _ st o t => o = .returned none ∧ t.heap = st.heap
/-- q is a String of Latin-1 letters: tx.1 of them, tx.2 j the j-th -/
def sO (tx : Nat × (Nat → Int32)) (q : Nat) (A : Nat → Prop) (U : State) (H : Heap) : Prop := ∃ v : Nat, va_O RJ0 q A U H ∧ va_OF RJ0 "coder" "B" (.int 0) q A U H ∧ va_OF RJ0 "value" "[B" (.ref v) q A U H ∧ va_T .byte v tx.1 (fun j => .int (tx.2 j)) A U H
theorem sO.moved {tx : Nat × (Nat → Int32)} {q : Nat} {A : Nat → Prop} {u U : State} {H : Heap} (hvm : u.vm.Alike U.vm) (h : sO tx q A u H) : sO tx q A U H := h.elim fun v h => ⟨v, va_O.moved hvm h.1, va_OF.moved hvm h.2.1, va_OF.moved hvm h.2.2.1, va_T.moved hvm h.2.2.2⟩
theorem sO.kept {tx : Nat × (Nat → Int32)} {q : Nat} {A : Nat → Prop} {U : State} {H H1 : Heap} (h : sO tx q A U H) (hq : ∀ a : Nat, a < H.size → ¬ A a → H1[a]? = H[a]?) : sO tx q A U H1 := h.elim fun v h => ⟨v, h.1.kept hq, h.2.1.kept hq, h.2.2.1.kept hq, h.2.2.2.kept hq⟩
theorem sO.narrow {tx : Nat × (Nat → Int32)} {q : Nat} {A B : Nat → Prop} {U : State} {H : Heap} (h : sO tx q A U H) (hAB : ∀ q, B q → A q) : sO tx q B U H := h.elim fun v h => ⟨v, h.1.narrow hAB, h.2.1.narrow hAB, h.2.2.1.narrow hAB, h.2.2.2.narrow hAB⟩
/-- the two statics that String's own code reads -/
def sZ (A : Nat → Prop) (U : State) (H : Heap) : Prop := va_Z RJ0 "COMPACT_STRINGS" "Z" (.int 1) A U H ∧ va_Zq RJ3 "SIOOBE_FORMATTER" "Ljava/util/function/BiFunction;" A U H
theorem sZ.moved {A : Nat → Prop} {u U : State} {H : Heap} (hvm : u.vm.Alike U.vm) (h : sZ A u H) : sZ A U H := ⟨va_Z.moved hvm h.1, va_Zq.moved hvm h.2⟩
theorem sZ.kept {A : Nat → Prop} {U : State} {H H1 : Heap} (h : sZ A U H) (hq : ∀ a : Nat, a < H.size → ¬ A a → H1[a]? = H[a]?) : sZ A U H1 := ⟨h.1.kept hq, h.2.kept hq⟩
theorem sZ.narrow {A B : Nat → Prop} {U : State} {H : Heap} (h : sZ A U H) (hAB : ∀ q, B q → A q) : sZ B U H := ⟨h.1.narrow hAB, h.2.narrow hAB⟩
def sP (tx : Nat × (Nat → Int32)) (q : Nat) (U : State) : Prop := sO tx q (fun _ => False) U U.heap ∧ sZ (fun _ => False) U U.heap
theorem sP.blind {tx : Nat × (Nat → Int32)} {q : Nat} {U : State} {g : JFrame} {mk : MethodId} {a : Array Value} (h : sP tx q U) : sP tx q (U.calling g mk a) := ⟨sO.moved (u := U) (U := U.calling g mk a) (Vm.Alike.refl U.vm) h.1, sZ.moved (u := U) (U := U.calling g mk a) (Vm.Alike.refl U.vm) h.2⟩
section JDKS
variable {p : Program} {l : Launch} {e : Env} {R : Room} {s : State} {m : MethodId} {args : Array Value} {below : List Frame} {meth : Method} {c : Code} {H : Heap} {locs : List Loc} {cells slots : Nat} {Q : State → Prop}
variable {cc : ByteArray} {pc : Nat} {ls : Array Slot} {rest : List Value}
theorem s_callSv {a : Array Value} {st0 : List Value} (hr : CallRun p l e R s m args below meth c H locs cells slots 0 0 (F0 m pc ls st0) rest (s_Sv a) (fun _ => False)) (kk : W p l e R s m args below meth c H locs cells slots Q (F0 m (pc + 3) ls rest)) : W p l e R s m args below meth c H locs cells slots Q (F0 m pc ls st0) := by
  intro T hT X
  obtain ⟨v, st₀, t, T', L, h0, X', hL, e1, ⟨hv, hh⟩, st⟩ := hr T hT X
  cases hv
  obtain ⟨t2, a1, b1⟩ := kk T' (by rw [e1, hh, h0]) (Stand.forget X' (fun q h => (hL q h).elim))
  exact ⟨t2, st t2 a1, b1⟩
theorem s_callV {y : MethodName} {bytes : ByteArray} {maxL nL n index fr lo : Nat} {ret : Option FieldType} {Ts ws : List Cond} {As : List Value} {post : Int32 → Prop} {own C : String} {q : Nat} {P : State → Prop} (F : CallFix p m c cc nL s args Ts own) (hM : Met l y ws { frames := fr, cells := 0, slots := 0, locals := lo } (va_Pc (.ref q :: As) P) (vp_Si post) 0 0 (fun _ => False)) (cw : CallW R s args own C index y bytes maxL ret ws { frames := fr, cells := 0, slots := 0, locals := lo } 0 0 n) (hr : ∃ cell : Cell, H[q]? = some cell ∧ cell.vm.isStatics = false ∧ s.vm.findClass C = some cell.cls) (hB : ∀ (a : Array Value) (U : State) (g : JFrame) (mk : MethodId), P U → P (U.calling g mk a)) (hP : ∀ U : State, U.heap = H → s.WarmedH U.vm → P U) (hn : As.length = n) (hsz : ls.size = nL) {st : List Value} (hst : st = As.reverse ++ .ref q :: rest) (hW : 2 * (F0 m pc ls st).monitorRoom + (rest.map fun v => v.category).sum ≤ 8) (hdg : decode cc pc = .ok (.invokevirtual index, 3)) (hf : cells ≤ R.cells ∧ slots ≤ R.slots) (kk : ∀ r : Int32, post r → W p l e R s m args below meth c H locs cells slots Q (F0 m (pc + 3) ls (.int r :: rest))) : W p l e R s m args below meth c H locs cells slots Q (F0 m pc ls st) :=
  vp_callSi (W.runV F hM cw ⟨fun a U g mk q => ⟨q.1, hB a U g mk q.2⟩, hr, fun U hU hW => ⟨rfl, hP U hU hW⟩⟩ rfl hn hsz hst hW hdg hf) kk
theorem s_stat {y : MethodName} {bytes : ByteArray} {maxL nL n index fr lo : Nat} {ret : Option FieldType} {Ts ws : List Cond} {As : List Value} {post : Int32 → Prop} {own : String} {P : State → Prop} (F : CallFix p m c cc nL s args Ts own) (hM : Met l y ws { frames := fr, cells := 0, slots := 0, locals := lo } (va_Pc As P) (vp_Si post) 0 0 (fun _ => False)) (cw : CallB R s args own index y bytes maxL ret ws { frames := fr, cells := 0, slots := 0, locals := lo } 0 0 n ∧ (Cond.static y).before args s = true) (hB : ∀ (a : Array Value) (U : State) (g : JFrame) (mk : MethodId), P U → P (U.calling g mk a)) (hP : ∀ U : State, U.heap = H → s.WarmedH U.vm → P U) (hn : As.length = n) (hsz : ls.size = nL) {st : List Value} (hst : st = As.reverse ++ rest) (hW : 2 * (F0 m pc ls st).monitorRoom + (rest.map fun v => v.category).sum ≤ 8) (hdg : decode cc pc = .ok (.invokestatic index, 3)) (hf : cells ≤ R.cells ∧ slots ≤ R.slots) (kk : ∀ r : Int32, post r → W p l e R s m args below meth c H locs cells slots Q (F0 m (pc + 3) ls (.int r :: rest))) : W p l e R s m args below meth c H locs cells slots Q (F0 m pc ls st) :=
  vp_callSi (W.runS F hM cw ⟨fun a U g mk q => ⟨q.1, hB a U g mk q.2⟩, fun U hU hW => ⟨rfl, hP U hU hW⟩⟩ rfl hn hsz hst hW hdg hf) kk
theorem s_statv {y : MethodName} {bytes : ByteArray} {maxL nL n index fr lo : Nat} {ret : Option FieldType} {Ts ws : List Cond} {As : List Value} {own : String} {P : State → Prop} (F : CallFix p m c cc nL s args Ts own) (hM : Met l y ws { frames := fr, cells := 0, slots := 0, locals := lo } (va_Pc As P) s_Sv 0 0 (fun _ => False)) (cw : CallB R s args own index y bytes maxL ret ws { frames := fr, cells := 0, slots := 0, locals := lo } 0 0 n ∧ (Cond.static y).before args s = true) (hB : ∀ (a : Array Value) (U : State) (g : JFrame) (mk : MethodId), P U → P (U.calling g mk a)) (hP : ∀ U : State, U.heap = H → s.WarmedH U.vm → P U) (hn : As.length = n) (hsz : ls.size = nL) {st : List Value} (hst : st = As.reverse ++ rest) (hW : 2 * (F0 m pc ls st).monitorRoom + (rest.map fun v => v.category).sum ≤ 8) (hdg : decode cc pc = .ok (.invokestatic index, 3)) (hf : cells ≤ R.cells ∧ slots ≤ R.slots) (kk : W p l e R s m args below meth c H locs cells slots Q (F0 m (pc + 3) ls rest)) : W p l e R s m args below meth c H locs cells slots Q (F0 m pc ls st) :=
  s_callSv (W.runS F hM cw ⟨fun a U g mk q => ⟨q.1, hB a U g mk q.2⟩, fun U hU hW => ⟨rfl, hP U hU hW⟩⟩ rfl hn hsz hst hW hdg hf) kk
end JDKS
/-- the letter that charAt gives -/
def s_ch (x : Int32) : Int32 := ((x &&& 255).toUInt32 % 65536).toInt32
set_option maxHeartbeats 4000000 in
set_option maxRecDepth 100000 in
theorem j_coder (l : Launch) {tx : Nat × (Nat → Int32)} {q : Nat} : Met l yJ0_coder_7d493 (Cond.code yJ0_coder_7d493 cJ0_coder_7d493 1 (some .byte) :: wsM) { frames := 1, cells := 0, slots := 0, locals := 0 } (va_Pc [.ref q] (sP tx q)) (vp_Si (fun r => r = 0)) 0 0 (fun _ => False) := by
  refine Met.ofW (cc := cJ0_coder_7d493) (maxL := 1) (ret := (some .byte)) (by decide) rfl ?_
  intro p e s m args below meth c s₁ B hml hv
  obtain ⟨rfl, hv⟩ := hv
  have hx := B.exec
  have hb := B.bytes
  have hr := B.returns
  have hts := atoms_spec (ws := (Cond.code yJ0_coder_7d493 cJ0_coder_7d493 1 (some .byte) :: wsM)) B.pre
  have hown : s.vm.findClass RJ0 = some m.cls := findClass_of_methodNamed B.named
  have hlocks := B.notSynchronized
  have hS : va_S (fun _ : Nat => False) s.heap s.heap [] := va_S.rf
  have hl := lv_entry ([.ref q]) (n := 1) (Nat.le_of_ble_eq_true rfl)
  rw [lg_entry_eq]
  generalize (lg_sl ([.ref q]) ++ List.replicate (1 - (lg_sl ([.ref q])).length) Slot.unset).toArray = ls at hl ⊢
  have hl : lv_has ls 1 [(0, .ref q)] := hl
  obtain ⟨⟨v, h1, h2, h3, h4⟩, h5, h6⟩ := hv
  refine va_gets (v := .int 1) hx hb h5 hS hown (hts _ (.tail _ qM_68)) (fun _ h => h) dJ0_coder_7d493_0 ?_
  refine lv_if_eq (tgt := 13) hx hb dJ0_coder_7d493_3 (by decide) (fun h => absurd h (by decide)) (fun _ => ?_)
  refine lv_aload_n hx hb dJ0_coder_7d493_6 rfl (lv_at hl 0 rfl) ?_
  refine vk_getf hx hb h2 hS hown (hts _ (.tail _ qM_69)) (fun _ h => h) dJ0_coder_7d493_7 ?_
  refine lv_goto (tgt := 14) hx hb dJ0_coder_7d493_10 (by decide) ?_
  exact W.zret (v := 0) hx hb hr rfl (fun t ht hW => ⟨0, rfl, rfl, ht⟩) (fun _ h => absurd h List.not_mem_nil) dJ0_coder_7d493_14
set_option maxHeartbeats 4000000 in
set_option maxRecDepth 100000 in
theorem j_isLatin1 (l : Launch) {tx : Nat × (Nat → Int32)} {q : Nat} : Met l yJ0_isLatin1_aae02 (Cond.code yJ0_isLatin1_aae02 cJ0_isLatin1_aae02 1 (some .boolean) :: wsM) { frames := 1, cells := 0, slots := 0, locals := 0 } (va_Pc [.ref q] (sP tx q)) (vp_Si (fun r => r = 1)) 0 0 (fun _ => False) := by
  refine Met.ofW (cc := cJ0_isLatin1_aae02) (maxL := 1) (ret := (some .boolean)) (by decide) rfl ?_
  intro p e s m args below meth c s₁ B hml hv
  obtain ⟨rfl, hv⟩ := hv
  have hx := B.exec
  have hb := B.bytes
  have hr := B.returns
  have hts := atoms_spec (ws := (Cond.code yJ0_isLatin1_aae02 cJ0_isLatin1_aae02 1 (some .boolean) :: wsM)) B.pre
  have hown : s.vm.findClass RJ0 = some m.cls := findClass_of_methodNamed B.named
  have hlocks := B.notSynchronized
  have hS : va_S (fun _ : Nat => False) s.heap s.heap [] := va_S.rf
  have hl := lv_entry ([.ref q]) (n := 1) (Nat.le_of_ble_eq_true rfl)
  rw [lg_entry_eq]
  generalize (lg_sl ([.ref q]) ++ List.replicate (1 - (lg_sl ([.ref q])).length) Slot.unset).toArray = ls at hl ⊢
  have hl : lv_has ls 1 [(0, .ref q)] := hl
  obtain ⟨⟨v, h1, h2, h3, h4⟩, h5, h6⟩ := hv
  refine va_gets (v := .int 1) hx hb h5 hS hown (hts _ (.tail _ qM_68)) (fun _ h => h) dJ0_isLatin1_aae02_0 ?_
  refine lv_if_eq (tgt := 17) hx hb dJ0_isLatin1_aae02_3 (by decide) (fun h => absurd h (by decide)) (fun _ => ?_)
  refine lv_aload_n hx hb dJ0_isLatin1_aae02_6 rfl (lv_at hl 0 rfl) ?_
  refine vk_getf hx hb h2 hS hown (hts _ (.tail _ qM_69)) (fun _ h => h) dJ0_isLatin1_aae02_7 ?_
  refine lv_if_ne (tgt := 17) hx hb dJ0_isLatin1_aae02_10 (by decide) (fun h => absurd rfl h) (fun _ => ?_)
  refine lv_iconst (v := 1) hx hb dJ0_isLatin1_aae02_13 (by decide) ?_
  refine lv_goto (tgt := 18) hx hb dJ0_isLatin1_aae02_14 (by decide) ?_
  exact W.zret (v := 1) hx hb hr rfl (fun t ht hW => ⟨1, rfl, rfl, ht⟩) (fun _ h => absurd h List.not_mem_nil) dJ0_isLatin1_aae02_18
set_option maxHeartbeats 4000000 in
set_option maxRecDepth 100000 in
theorem j_length (l : Launch) {tx : Nat × (Nat → Int32)} {q : Nat} : Met l yJ0_length_8abf5 (Cond.code yJ0_length_8abf5 cJ0_length_8abf5 1 (some .int) :: wsM) { frames := 2, cells := 0, slots := 0, locals := 20 } (va_Pc [.ref q] (sP tx q)) (vp_Si (fun r => r = nI tx.1 >>> (0 &&& 31))) 0 0 (fun _ => False) := by
  refine Met.ofW (cc := cJ0_length_8abf5) (maxL := 1) (ret := (some .int)) (by decide) rfl ?_
  intro p e s m args below meth c s₁ B hml hv
  obtain ⟨rfl, hv⟩ := hv
  have hx := B.exec
  have hb := B.bytes
  have hr := B.returns
  have hts := atoms_spec (ws := (Cond.code yJ0_length_8abf5 cJ0_length_8abf5 1 (some .int) :: wsM)) B.pre
  have hown : s.vm.findClass RJ0 = some m.cls := findClass_of_methodNamed B.named
  have hlocks := B.notSynchronized
  have hS : va_S (fun _ : Nat => False) s.heap s.heap [] := va_S.rf
  have hl := lv_entry ([.ref q]) (n := 1) (Nat.le_of_ble_eq_true rfl)
  rw [lg_entry_eq]
  generalize (lg_sl ([.ref q]) ++ List.replicate (1 - (lg_sl ([.ref q])).length) Slot.unset).toArray = ls at hl ⊢
  have hl : lv_has ls 1 [(0, .ref q)] := hl
  obtain ⟨⟨v, h1, h2, h3, h4⟩, h5, h6⟩ := id hv
  refine lv_aload_n hx hb dJ0_length_8abf5_0 rfl (lv_at hl 0 rfl) ?_
  refine vk_getf hx hb h3 hS hown (hts _ (.tail _ qM_63)) (fun _ h => h) dJ0_length_8abf5_1 ?_
  refine va_tlen (v := nI tx.1) hx hb h4 hS rfl dJ0_length_8abf5_4 ?_
  refine lv_aload_n hx hb dJ0_length_8abf5_5 rfl (lv_at hl 0 rfl) ?_
  refine s_callV (As := []) (rest := [.int (nI tx.1)]) ⟨hx, hb, hml, hown, hts⟩ (j_coder l (tx := tx) (q := q)) (cwV 0 hts (gmV qM_64 qM_65 qM_66 qM_61 qM_67) rfl rfl rfl (by decide +kernel) ⟨Nat.le_of_ble_eq_true rfl, Nat.le_of_ble_eq_true rfl⟩) (h1.elim fun cell h => ⟨cell, h.1, h.2.1, h.2.2.1⟩) (fun _ _ _ _ h => h.blind) (fun U hU hW => ⟨by rw [hU]; exact sO.moved hW.alike hv.1, by rw [hU]; exact sZ.moved hW.alike hv.2⟩) rfl hl.1 rfl (lv_room (Nat.le_of_ble_eq_true rfl)) dJ0_length_8abf5_6 ⟨Nat.zero_le _, Nat.zero_le _⟩ (fun r hq => ?_)
  refine lv_to hq ?_
  refine lv_ishr hx hb dJ0_length_8abf5_9 ?_
  exact W.iret (v := (nI tx.1 >>> (0 &&& 31))) hx hb hr (fun t ht hW => ⟨(nI tx.1 >>> (0 &&& 31)), rfl, rfl, ht⟩) (fun _ h => absurd h List.not_mem_nil) dJ0_length_8abf5_10
set_option maxHeartbeats 4000000 in
set_option maxRecDepth 100000 in
theorem j_ck3n (l : Launch) {i n : Nat} (hi : i < n) (hn : n < 2 ^ 31) : Met l yJ3_checkIndex_8e157 (Cond.code yJ3_checkIndex_8e157 cJ3_checkIndex_8e157 3 (some .int) :: wsM) { frames := 1, cells := 0, slots := 0, locals := 0 } (va_Pc [.int (nI i), .int (nI n), .null] (fun _ => True)) (vp_Si (fun r => r = nI i)) 0 0 (fun _ => False) := by
  refine Met.ofW (cc := cJ3_checkIndex_8e157) (maxL := 3) (ret := (some .int)) (by decide) rfl ?_
  intro p e s m args below meth c s₁ B hml hv
  obtain ⟨rfl, hv⟩ := hv
  have hx := B.exec
  have hb := B.bytes
  have hr := B.returns
  have hts := atoms_spec (ws := (Cond.code yJ3_checkIndex_8e157 cJ3_checkIndex_8e157 3 (some .int) :: wsM)) B.pre
  have hown : s.vm.findClass RJ3 = some m.cls := findClass_of_methodNamed B.named
  have hlocks := B.notSynchronized
  have hS : va_S (fun _ : Nat => False) s.heap s.heap [] := va_S.rf
  have hl := lv_entry ([.int (nI i), .int (nI n), .null]) (n := 3) (Nat.le_of_ble_eq_true rfl)
  rw [lg_entry_eq]
  generalize (lg_sl ([.int (nI i), .int (nI n), .null]) ++ List.replicate (3 - (lg_sl ([.int (nI i), .int (nI n), .null])).length) Slot.unset).toArray = ls at hl ⊢
  have hl : lv_has ls 3 [(0, .int (nI i)), (1, .int (nI n)), (2, .null)] := hl
  refine lv_iload_n hx hb dJ3_checkIndex_8e157_0 rfl (lv_at hl 0 rfl) ?_
  refine lv_if_lt (tgt := 9) hx hb dJ3_checkIndex_8e157_1 (by decide) (fun h => absurd h (nI_pos (Nat.lt_trans hi hn))) (fun _ => ?_)
  refine lv_iload_n hx hb dJ3_checkIndex_8e157_4 rfl (lv_at hl 0 rfl) ?_
  refine lv_iload_n hx hb dJ3_checkIndex_8e157_5 rfl (lv_at hl 1 rfl) ?_
  refine lv_icmp_lt (tgt := 16) hx hb dJ3_checkIndex_8e157_6 (by decide) (fun _ => ?_) (fun h => absurd (nI_lt hi hn) h)
  refine lv_iload_n hx hb dJ3_checkIndex_8e157_16 rfl (lv_at hl 0 rfl) ?_
  exact W.iret (v := (nI i)) hx hb hr (fun t ht hW => ⟨(nI i), rfl, rfl, ht⟩) (fun _ h => absurd h List.not_mem_nil) dJ3_checkIndex_8e157_17
set_option maxHeartbeats 4000000 in
set_option maxRecDepth 100000 in
theorem j_ck3r (l : Launch) {i n : Nat} {z : Nat} (hi : i < n) (hn : n < 2 ^ 31) : Met l yJ3_checkIndex_8e157 (Cond.code yJ3_checkIndex_8e157 cJ3_checkIndex_8e157 3 (some .int) :: wsM) { frames := 1, cells := 0, slots := 0, locals := 0 } (va_Pc [.int (nI i), .int (nI n), .ref z] (fun _ => True)) (vp_Si (fun r => r = nI i)) 0 0 (fun _ => False) := by
  refine Met.ofW (cc := cJ3_checkIndex_8e157) (maxL := 3) (ret := (some .int)) (by decide) rfl ?_
  intro p e s m args below meth c s₁ B hml hv
  obtain ⟨rfl, hv⟩ := hv
  have hx := B.exec
  have hb := B.bytes
  have hr := B.returns
  have hts := atoms_spec (ws := (Cond.code yJ3_checkIndex_8e157 cJ3_checkIndex_8e157 3 (some .int) :: wsM)) B.pre
  have hown : s.vm.findClass RJ3 = some m.cls := findClass_of_methodNamed B.named
  have hlocks := B.notSynchronized
  have hS : va_S (fun _ : Nat => False) s.heap s.heap [] := va_S.rf
  have hl := lv_entry ([.int (nI i), .int (nI n), .ref z]) (n := 3) (Nat.le_of_ble_eq_true rfl)
  rw [lg_entry_eq]
  generalize (lg_sl ([.int (nI i), .int (nI n), .ref z]) ++ List.replicate (3 - (lg_sl ([.int (nI i), .int (nI n), .ref z])).length) Slot.unset).toArray = ls at hl ⊢
  have hl : lv_has ls 3 [(0, .int (nI i)), (1, .int (nI n)), (2, .ref z)] := hl
  refine lv_iload_n hx hb dJ3_checkIndex_8e157_0 rfl (lv_at hl 0 rfl) ?_
  refine lv_if_lt (tgt := 9) hx hb dJ3_checkIndex_8e157_1 (by decide) (fun h => absurd h (nI_pos (Nat.lt_trans hi hn))) (fun _ => ?_)
  refine lv_iload_n hx hb dJ3_checkIndex_8e157_4 rfl (lv_at hl 0 rfl) ?_
  refine lv_iload_n hx hb dJ3_checkIndex_8e157_5 rfl (lv_at hl 1 rfl) ?_
  refine lv_icmp_lt (tgt := 16) hx hb dJ3_checkIndex_8e157_6 (by decide) (fun _ => ?_) (fun h => absurd (nI_lt hi hn) h)
  refine lv_iload_n hx hb dJ3_checkIndex_8e157_16 rfl (lv_at hl 0 rfl) ?_
  exact W.iret (v := (nI i)) hx hb hr (fun t ht hW => ⟨(nI i), rfl, rfl, ht⟩) (fun _ h => absurd h List.not_mem_nil) dJ3_checkIndex_8e157_17
set_option maxHeartbeats 4000000 in
set_option maxRecDepth 100000 in
theorem j_ck0 (l : Launch) {i n : Nat} (hi : i < n) (hn : n < 2 ^ 31) : Met l yJ0_checkIndex_df160 (Cond.code yJ0_checkIndex_df160 cJ0_checkIndex_df160 2 none :: wsM) { frames := 2, cells := 0, slots := 0, locals := 22 } (va_Pc [.int (nI i), .int (nI n)] (fun U => sZ (fun _ => False) U U.heap)) s_Sv 0 0 (fun _ => False) := by
  refine Met.ofW (cc := cJ0_checkIndex_df160) (maxL := 2) (ret := none) (by decide) rfl ?_
  intro p e s m args below meth c s₁ B hml hv
  obtain ⟨rfl, hv⟩ := hv
  have hx := B.exec
  have hb := B.bytes
  have hr := B.returns
  have hts := atoms_spec (ws := (Cond.code yJ0_checkIndex_df160 cJ0_checkIndex_df160 2 none :: wsM)) B.pre
  have hown : s.vm.findClass RJ0 = some m.cls := findClass_of_methodNamed B.named
  have hlocks := B.notSynchronized
  have hS : va_S (fun _ : Nat => False) s.heap s.heap [] := va_S.rf
  have hl := lv_entry ([.int (nI i), .int (nI n)]) (n := 2) (Nat.le_of_ble_eq_true rfl)
  rw [lg_entry_eq]
  generalize (lg_sl ([.int (nI i), .int (nI n)]) ++ List.replicate (2 - (lg_sl ([.int (nI i), .int (nI n)])).length) Slot.unset).toArray = ls at hl ⊢
  have hl : lv_has ls 2 [(0, .int (nI i)), (1, .int (nI n))] := hl
  obtain ⟨h5, h6⟩ := hv
  refine lv_iload_n hx hb dJ0_checkIndex_df160_0 rfl (lv_at hl 0 rfl) ?_
  refine lv_iload_n hx hb dJ0_checkIndex_df160_1 rfl (lv_at hl 1 rfl) ?_
  rcases h6 with h6 | ⟨z, h6⟩
  · refine va_gets (v := .null) hx hb h6 hS hown (hts _ (.tail _ qM_85)) (fun _ h => h) dJ0_checkIndex_df160_2 ?_
    refine s_stat (As := [.int (nI i), .int (nI n), .null]) (rest := []) ⟨hx, hb, hml, hown, hts⟩ (j_ck3n l hi hn) ⟨callB_of 3 hts (gmIn (L := []) (fun _ h => absurd h List.not_mem_nil) qM_89) rfl rfl rfl (hts _ (.tail _ qM_88)) (hts _ (.tail _ qM_86)) (by decide +kernel) ⟨Nat.le_of_ble_eq_true rfl, Nat.le_of_ble_eq_true rfl⟩, hts _ (.tail _ qM_87)⟩ (fun _ _ _ _ h => h) (fun _ _ _ => trivial) rfl hl.1 rfl (lv_room (Nat.le_of_ble_eq_true rfl)) dJ0_checkIndex_df160_5 ⟨Nat.zero_le _, Nat.zero_le _⟩ (fun r hq => ?_)
    refine lv_pop hx hb dJ0_checkIndex_df160_8 rfl ?_
    exact W.vret hx hb hr (fun t ht hW => ⟨rfl, ht⟩) (fun _ h => absurd h List.not_mem_nil) dJ0_checkIndex_df160_9
  · refine va_gets (v := .ref z) hx hb h6 hS hown (hts _ (.tail _ qM_85)) (fun _ h => h) dJ0_checkIndex_df160_2 ?_
    refine s_stat (As := [.int (nI i), .int (nI n), .ref z]) (rest := []) ⟨hx, hb, hml, hown, hts⟩ (j_ck3r l hi hn) ⟨callB_of 3 hts (gmIn (L := []) (fun _ h => absurd h List.not_mem_nil) qM_89) rfl rfl rfl (hts _ (.tail _ qM_88)) (hts _ (.tail _ qM_86)) (by decide +kernel) ⟨Nat.le_of_ble_eq_true rfl, Nat.le_of_ble_eq_true rfl⟩, hts _ (.tail _ qM_87)⟩ (fun _ _ _ _ h => h) (fun _ _ _ => trivial) rfl hl.1 rfl (lv_room (Nat.le_of_ble_eq_true rfl)) dJ0_checkIndex_df160_5 ⟨Nat.zero_le _, Nat.zero_le _⟩ (fun r hq => ?_)
    refine lv_pop hx hb dJ0_checkIndex_df160_8 rfl ?_
    exact W.vret hx hb hr (fun t ht hW => ⟨rfl, ht⟩) (fun _ h => absurd h List.not_mem_nil) dJ0_checkIndex_df160_9
set_option maxHeartbeats 4000000 in
set_option maxRecDepth 100000 in
theorem j_ch1 (l : Launch) {v k n : Nat} {f : Nat → Int32} (hk : k < n) (hn : n < 2 ^ 31) (hc : narrow .char (.int (s_ch (f k))) = .int (s_ch (f k))) : Met l yJ1_charAt_3b067 (Cond.code yJ1_charAt_3b067 cJ1_charAt_3b067 2 (some .char) :: wsM) { frames := 3, cells := 0, slots := 0, locals := 44 } (va_Pc [.ref v, .int (nI k)] (fun U => va_T .byte v n (fun j => .int (f j)) (fun _ => False) U U.heap ∧ sZ (fun _ => False) U U.heap)) (vp_Si (fun r => r = s_ch (f k))) 0 0 (fun _ => False) := by
  refine Met.ofW (cc := cJ1_charAt_3b067) (maxL := 2) (ret := (some .char)) (by decide) rfl ?_
  intro p e s m args below meth c s₁ B hml hv
  obtain ⟨rfl, hv⟩ := hv
  have hx := B.exec
  have hb := B.bytes
  have hr := B.returns
  have hts := atoms_spec (ws := (Cond.code yJ1_charAt_3b067 cJ1_charAt_3b067 2 (some .char) :: wsM)) B.pre
  have hown : s.vm.findClass RJ1 = some m.cls := findClass_of_methodNamed B.named
  have hlocks := B.notSynchronized
  have hS : va_S (fun _ : Nat => False) s.heap s.heap [] := va_S.rf
  have hl := lv_entry ([.ref v, .int (nI k)]) (n := 2) (Nat.le_of_ble_eq_true rfl)
  rw [lg_entry_eq]
  generalize (lg_sl ([.ref v, .int (nI k)]) ++ List.replicate (2 - (lg_sl ([.ref v, .int (nI k)])).length) Slot.unset).toArray = ls at hl ⊢
  have hl : lv_has ls 2 [(0, .ref v), (1, .int (nI k))] := hl
  obtain ⟨h4, h5⟩ := hv
  refine lv_iload_n hx hb dJ1_charAt_3b067_0 rfl (lv_at hl 1 rfl) ?_
  refine lv_aload_n hx hb dJ1_charAt_3b067_1 rfl (lv_at hl 0 rfl) ?_
  refine va_tlen (v := nI n) hx hb h4 hS rfl dJ1_charAt_3b067_2 ?_
  refine s_statv (As := [.int (nI k), .int (nI n)]) (rest := []) ⟨hx, hb, hml, hown, hts⟩ (j_ck0 l hk hn) ⟨callB_of 2 hts (gmIn (L := []) (fun _ h => absurd h List.not_mem_nil) qM_84) rfl rfl rfl (hts _ (.tail _ qM_61)) (hts _ (.tail _ qM_82)) (by decide +kernel) ⟨Nat.le_of_ble_eq_true rfl, Nat.le_of_ble_eq_true rfl⟩, hts _ (.tail _ qM_83)⟩ (fun _ U g mk h => sZ.moved (u := U) (Vm.Alike.refl U.vm) h) (fun U hU hW => by rw [hU]; exact sZ.moved hW.alike h5) rfl hl.1 rfl (lv_room (Nat.le_of_ble_eq_true rfl)) dJ1_charAt_3b067_3 ⟨Nat.zero_le _, Nat.zero_le _⟩ ?_
  refine lv_aload_n hx hb dJ1_charAt_3b067_6 rfl (lv_at hl 0 rfl) ?_
  refine lv_iload_n hx hb dJ1_charAt_3b067_7 rfl (lv_at hl 1 rfl) ?_
  refine va_tb (v := .int (f k)) hx hb h4 hS (vp_in_nI hk hn) (by rw [nI_clamp (Nat.lt_trans hk hn)]) dJ1_charAt_3b067_8 ?_
  refine lv_sipush (v := 255) hx hb dJ1_charAt_3b067_9 (by decide) ?_
  refine lv_iand hx hb dJ1_charAt_3b067_12 ?_
  refine lv_i2c (v := s_ch (f k)) hx hb dJ1_charAt_3b067_13 rfl ?_
  exact W.zret (v := (s_ch (f k))) hx hb hr hc (fun t ht hW => ⟨(s_ch (f k)), rfl, rfl, ht⟩) (fun _ h => absurd h List.not_mem_nil) dJ1_charAt_3b067_14
set_option maxHeartbeats 4000000 in
set_option maxRecDepth 100000 in
theorem j_charAt (l : Launch) {tx : Nat × (Nat → Int32)} {q : Nat} {k : Nat} (hk : k < tx.1) (hn : tx.1 < 2 ^ 31) (hc : narrow .char (.int (s_ch (tx.2 k))) = .int (s_ch (tx.2 k))) : Met l yJ0_charAt_5068e (Cond.code yJ0_charAt_5068e cJ0_charAt_5068e 2 (some .char) :: wsM) { frames := 4, cells := 0, slots := 0, locals := 66 } (va_Pc [.ref q, .int (nI k)] (sP tx q)) (vp_Si (fun r => r = s_ch (tx.2 k))) 0 0 (fun _ => False) := by
  refine Met.ofW (cc := cJ0_charAt_5068e) (maxL := 2) (ret := (some .char)) (by decide) rfl ?_
  intro p e s m args below meth c s₁ B hml hv
  obtain ⟨rfl, hv⟩ := hv
  have hx := B.exec
  have hb := B.bytes
  have hr := B.returns
  have hts := atoms_spec (ws := (Cond.code yJ0_charAt_5068e cJ0_charAt_5068e 2 (some .char) :: wsM)) B.pre
  have hown : s.vm.findClass RJ0 = some m.cls := findClass_of_methodNamed B.named
  have hlocks := B.notSynchronized
  have hS : va_S (fun _ : Nat => False) s.heap s.heap [] := va_S.rf
  have hl := lv_entry ([.ref q, .int (nI k)]) (n := 2) (Nat.le_of_ble_eq_true rfl)
  rw [lg_entry_eq]
  generalize (lg_sl ([.ref q, .int (nI k)]) ++ List.replicate (2 - (lg_sl ([.ref q, .int (nI k)])).length) Slot.unset).toArray = ls at hl ⊢
  have hl : lv_has ls 2 [(0, .ref q), (1, .int (nI k))] := hl
  obtain ⟨⟨v, h1, h2, h3, h4⟩, h5⟩ := id hv
  refine lv_aload_n hx hb dJ0_charAt_5068e_0 rfl (lv_at hl 0 rfl) ?_
  refine s_callV (As := []) (rest := []) ⟨hx, hb, hml, hown, hts⟩ (j_isLatin1 l (tx := tx) (q := q)) (cwV 0 hts (gmV qM_74 qM_75 qM_76 qM_61 qM_77) rfl rfl rfl (by decide +kernel) ⟨Nat.le_of_ble_eq_true rfl, Nat.le_of_ble_eq_true rfl⟩) (h1.elim fun cell h => ⟨cell, h.1, h.2.1, h.2.2.1⟩) (fun _ _ _ _ h => h.blind) (fun U hU hW => ⟨by rw [hU]; exact sO.moved hW.alike hv.1, by rw [hU]; exact sZ.moved hW.alike hv.2⟩) rfl hl.1 rfl (lv_room (Nat.le_of_ble_eq_true rfl)) dJ0_charAt_5068e_1 ⟨Nat.zero_le _, Nat.zero_le _⟩ (fun r hq => ?_)
  refine lv_to hq ?_
  refine lv_if_eq (tgt := 16) hx hb dJ0_charAt_5068e_4 (by decide) (fun h => absurd h (by decide)) (fun _ => ?_)
  refine lv_aload_n hx hb dJ0_charAt_5068e_7 rfl (lv_at hl 0 rfl) ?_
  refine vk_getf hx hb h3 hS hown (hts _ (.tail _ qM_63)) (fun _ h => h) dJ0_charAt_5068e_8 ?_
  refine lv_iload_n hx hb dJ0_charAt_5068e_11 rfl (lv_at hl 1 rfl) ?_
  refine s_stat (As := [.ref v, .int (nI k)]) (rest := []) ⟨hx, hb, hml, hown, hts⟩ (j_ch1 l (v := v) (n := tx.1) (f := tx.2) hk hn hc) ⟨callB_of 2 hts (gmIn (L := []) (fun _ h => absurd h List.not_mem_nil) qM_81) rfl rfl rfl (hts _ (.tail _ qM_80)) (hts _ (.tail _ qM_78)) (by decide +kernel) ⟨Nat.le_of_ble_eq_true rfl, Nat.le_of_ble_eq_true rfl⟩, hts _ (.tail _ qM_79)⟩ (fun _ U g mk h => ⟨va_T.moved (u := U) (Vm.Alike.refl U.vm) h.1, sZ.moved (u := U) (Vm.Alike.refl U.vm) h.2⟩) (fun U hU hW => ⟨by rw [hU]; exact va_T.moved hW.alike h4, by rw [hU]; exact sZ.moved hW.alike h5⟩) rfl hl.1 rfl (lv_room (Nat.le_of_ble_eq_true rfl)) dJ0_charAt_5068e_12 ⟨Nat.zero_le _, Nat.zero_le _⟩ (fun r hq => ?_)
  refine lv_to hq ?_
  exact W.zret (v := (s_ch (tx.2 k))) hx hb hr hc (fun t ht hW => ⟨(s_ch (tx.2 k)), rfl, rfl, ht⟩) (fun _ h => absurd h List.not_mem_nil) dJ0_charAt_5068e_15
/-- the text of a String constant -/
def sTx (t : String) : Nat × (Nat → Int32) := (t.length, fun j => Int32.ofNat (t.toList.getD j 'a').toNat)
def sT (tx : Nat × (Nat → Int32)) : Prop := tx.1 < 2 ^ 31 ∧ ∀ k, k < tx.1 → narrow .char (.int (s_ch (tx.2 k))) = .int (s_ch (tx.2 k))
theorem sTx_ok {t : String} (h : (decide (t.length < 2 ^ 31) && (List.range t.length).all (fun k => decide (s_ch ((sTx t).2 k) = (sTx t).2 k) && decide (0 ≤ (sTx t).2 k) && decide ((sTx t).2 k < 128))) = true) : sT (sTx t) := by
  obtain ⟨h1, h2⟩ := (Bool.and_eq_true _ _).mp h
  refine ⟨of_decide_eq_true h1, fun k hk => ?_⟩
  have h3 := List.all_eq_true.mp h2 k (List.mem_range.mpr hk)
  obtain ⟨h4, h5⟩ := (Bool.and_eq_true _ _).mp h3
  obtain ⟨h6, h7⟩ := (Bool.and_eq_true _ _).mp h4
  rw [of_decide_eq_true h6]
  obtain ⟨j, hj, e⟩ := nI_of (Int32.not_lt.mpr (of_decide_eq_true h7))
  have h8 : (sTx t).2 k < 128 := of_decide_eq_true h5
  rw [e] at h8 ⊢
  have h9 : j < 128 := by
    have := Int32.lt_iff_toInt_lt.mp h8
    rw [nI_toInt hj] at this
    have h0 : (128 : Int32).toInt = 128 := by decide
    omega
  have hall : ∀ j, j < 128 → narrow .char (.int (nI j)) = .int (nI j) := by decide +kernel
  exact hall j h9
def sAll (h0 : Nat) (U : State) : Prop := (∀ x ∈ sL, ∃ q, vk_R x.1 x.2.1 x.2.2 q U ∧ sO (sTx x.2.2) q (fun a => h0 ≤ a) U U.heap) ∧ sZ (fun a => h0 ≤ a) U U.heap
def xT0 (cI cJ cZ : ClassId) (h0 : Nat) (ad : Nat → Nat) (S : MS) (sz : Nat) (U : State) : Prop := (∀ a, va_A (MW cI cJ cZ ad S) sz a → h0 ≤ a) ∧ sAll h0 U
def xT1 (cI cJ cZ : ClassId) (h0 : Nat) (ad : Nat → Nat) (S : MS) (tx : Nat × (Nat → Int32)) (q sz : Nat) (U : State) : Prop := xT0 cI cJ cZ h0 ad S sz U ∧ sO tx q (fun a => h0 ≤ a) U U.heap
theorem sAll.moved {h0 : Nat} {A : Nat → Prop} {s U : State} {H : Heap} {locs : List Loc} (hT : sAll h0 s) (hA0 : ∀ a : Nat, A a → h0 ≤ a) (hS : va_S A s.heap H locs) (hU : U.heap = H) (hW : s.WarmedH U.vm) : sAll h0 U := by
  have hk : ∀ a : Nat, a < s.heap.size → ¬ h0 ≤ a → H[a]? = s.heap[a]? := fun a h1 h2 => hS.2.1 a h1 (fun h3 => h2 (hA0 a h3))
  refine ⟨fun x hx => ?_, by rw [hU]; exact sZ.moved hW.alike (hT.2.kept hk)⟩
  obtain ⟨q, h1, h2⟩ := hT.1 x hx
  exact ⟨q, vk_R.warm hW h1, by rw [hU]; exact sO.moved hW.alike (h2.kept hk)⟩
theorem sAll.blind {h0 : Nat} {U : State} {g : JFrame} {mk : MethodId} {a : Array Value} (h : sAll h0 U) : sAll h0 (U.calling g mk a) :=
  ⟨fun x hx => (h.1 x hx).elim fun q h => ⟨q, vk_R.same rfl h.1, sO.moved (u := U) (U := U.calling g mk a) (Vm.Alike.refl U.vm) h.2⟩, sZ.moved (u := U) (U := U.calling g mk a) (Vm.Alike.refl U.vm) h.2⟩
theorem xT0.blind {cI cJ cZ : ClassId} {h0 : Nat} {ad : Nat → Nat} {S : MS} (sz : Nat) (a : Array Value) (U : State) (g : JFrame) (mk : MethodId) (h : xT0 cI cJ cZ h0 ad S sz U) : xT0 cI cJ cZ h0 ad S sz (U.calling g mk a) := ⟨h.1, h.2.blind⟩
theorem xT1.blind {cI cJ cZ : ClassId} {h0 : Nat} {ad : Nat → Nat} {S : MS} {tx : Nat × (Nat → Int32)} {q : Nat} (sz : Nat) (a : Array Value) (U : State) (g : JFrame) (mk : MethodId) (h : xT1 cI cJ cZ h0 ad S tx q sz U) : xT1 cI cJ cZ h0 ad S tx q sz (U.calling g mk a) := ⟨⟨h.1.1, h.1.2.blind⟩, sO.moved (u := U) (U := U.calling g mk a) (Vm.Alike.refl U.vm) h.2⟩
theorem xT0.go {D : va_G} {cI cJ cZ : ClassId} {h0 : Nat} {ad : Nat → Nat} {S : MS} {A : Nat → Prop} {s : State} {H : Heap} {locs : List Loc} (hT : sAll h0 s) (hA0 : ∀ a : Nat, A a → h0 ≤ a) (hA : ∀ q : Nat, s.heap.size ≤ q → A q) (G : mG D cI cJ cZ ad A s.heap H locs S) (U : State) (hU : U.heap = H) (hW : s.WarmedH U.vm) : xT0 cI cJ cZ h0 ad S H.size U :=
  ⟨fun a h => hA0 a (va_free (wc := MW cI cJ cZ ad S) G.2.1 G.2.2 hA [0, 1, 2, 3, 4, 5, 6, 7, 8, 9, 10, 11, 12, 13, 14, 15, 16] rfl a h), hT.moved hA0 G.2.2 hU hW⟩
theorem xT1.go {D : va_G} {cI cJ cZ : ClassId} {h0 : Nat} {ad : Nat → Nat} {S : MS} {A : Nat → Prop} {s : State} {H : Heap} {locs : List Loc} {tx : Nat × (Nat → Int32)} {q : Nat} (hT : sAll h0 s) (hA0 : ∀ a : Nat, A a → h0 ≤ a) (hA : ∀ q : Nat, s.heap.size ≤ q → A q) (G : mG D cI cJ cZ ad A s.heap H locs S) (hO : sO tx q (fun a => h0 ≤ a) s s.heap) (U : State) (hU : U.heap = H) (hW : s.WarmedH U.vm) : xT1 cI cJ cZ h0 ad S tx q H.size U :=
  ⟨xT0.go hT hA0 hA G U hU hW, by rw [hU]; exact sO.moved hW.alike (hO.kept (fun a h1 h2 => G.2.2.2.1 a h1 (fun h3 => h2 (hA0 a h3))))⟩
theorem sO.recv {tx : Nat × (Nat → Int32)} {q h0 : Nat} {A : Nat → Prop} {s : State} {H : Heap} {locs : List Loc} (hO : sO tx q (fun a => h0 ≤ a) s s.heap) (hA0 : ∀ a : Nat, A a → h0 ≤ a) (hS : va_S A s.heap H locs) : ∃ cell : Cell, H[q]? = some cell ∧ cell.vm.isStatics = false ∧ s.vm.findClass RJ0 = some cell.cls := by
  obtain ⟨v, h1, -⟩ := hO.kept (fun a h1 h2 => hS.2.1 a h1 (fun h3 => h2 (hA0 a h3)))
  obtain ⟨cell, g1, g2, g3, -⟩ := h1
  exact ⟨cell, g1, g2, g3⟩
theorem sP.go {tx : Nat × (Nat → Int32)} {q h0 : Nat} {A : Nat → Prop} {s : State} {H : Heap} {locs : List Loc} (hO : sO tx q (fun a => h0 ≤ a) s s.heap) (hZ : sZ (fun a => h0 ≤ a) s s.heap) (hA0 : ∀ a : Nat, A a → h0 ≤ a) (hS : va_S A s.heap H locs) (U : State) (hU : U.heap = H) (hW : s.WarmedH U.vm) : sP tx q U := by
  have hk : ∀ a : Nat, a < s.heap.size → ¬ h0 ≤ a → H[a]? = s.heap[a]? := fun a h1 h2 => hS.2.1 a h1 (fun h3 => h2 (hA0 a h3))
  exact ⟨by rw [hU]; exact (sO.moved hW.alike (hO.kept hk)).narrow (fun _ h => h.elim), by rw [hU]; exact (sZ.moved hW.alike (hZ.kept hk)).narrow (fun _ h => h.elim)⟩
abbrev mCiX (l : Launch) (y : MethodName) (ws : List Cond) (fr lo : Nat) (D : va_G) (cI cJ cZ : ClassId) (ad : Nat → Nat) (S : MS) (As : List Value) (X : Nat → State → Prop) (post : Int32 → MS → Prop) : Prop := ∀ sz : Nat, Met l y ws { frames := fr, cells := 0, slots := 0, locals := lo } (va_Pc (.ref (ad 0) :: As) (fun U => mB D cI cJ cZ ad S sz U ∧ X sz U)) (va_Qi post (mAt D cI cJ cZ ad (va_A (MW cI cJ cZ ad S) sz)) (va_A (MW cI cJ cZ ad S) sz)) 0 0 (va_A (MW cI cJ cZ ad S) sz)
theorem m_calliX {p : Program} {l : Launch} {e : Env} {R : Room} {s : State} {m : MethodId} {args : Array Value} {below : List Frame} {meth : Method} {c : Code} {H : Heap} {locs : List Loc} {cells slots : Nat} {Q : State → Prop} {cc : ByteArray} {pc : Nat} {ls : Array Slot} {rest : List Value} {D : va_G} {A : Nat → Prop} {H0 : Heap} {Ts : List Cond} {cI cJ cZ : ClassId} {ad : Nat → Nat} {S : MS} {y : MethodName} {bytes : ByteArray} {maxL nL n index fr lo : Nat} {ret : Option FieldType} {ws : List Cond} {As : List Value} {X : Nat → State → Prop} {post : Int32 → MS → Prop} (E : mE p c cc s m args Ts D cI cJ cZ) (G : mG D cI cJ cZ ad A H0 H locs S) (hA : ∀ q, H0.size ≤ q → A q) (hR : sR s) (hml : c.maxLocals = nL) (hM : mCiX l y ws fr lo D cI cJ cZ ad S As X post) (cw : CallW R s args RX12 RX12 index y bytes maxL ret ws { frames := fr, cells := 0, slots := 0, locals := lo } 0 0 n) (hn : As.length = n) (hsz : ls.size = nL) {st : List Value} (hst : st = As.reverse ++ .ref (ad 0) :: rest) (hW : 2 * (F0 m pc ls st).monitorRoom + (rest.map fun v => v.category).sum ≤ 8) (hdg : decode cc pc = .ok (.invokevirtual index, 3)) (hf : cells ≤ R.cells ∧ slots ≤ R.slots) (hXb : ∀ (sz : Nat) (a : Array Value) (U : State) (g : JFrame) (mk : MethodId), X sz U → X sz (U.calling g mk a)) (hXp : ∀ U : State, U.heap = H → s.WarmedH U.vm → X H.size U) (kk : ∀ (r : Int32) (S1 : MS) (H1 : Heap) (locs1 : List Loc), post r S1 → mG D cI cJ cZ ad A H0 H1 locs1 S1 → W p l e R s m args below meth c H1 locs1 cells slots Q (F0 m (pc + 3) ls (.int r :: rest))) : W p l e R s m args below meth c H locs cells slots Q (F0 m pc ls st) := by
  obtain ⟨hx, hb, hts, hown, hK, hin⟩ := E
  obtain ⟨hP, hD, hS⟩ := G
  have hFc := va_free (wc := MW cI cJ cZ ad S) hD hS hA [0, 1, 2, 3, 4, 5, 6, 7, 8, 9, 10, 11, 12, 13, 14, 15, 16] rfl
  refine va_calli (va_runV (As := As) (rest := rest) ⟨hx, hb, hml, hown, hts⟩ (hM H.size) cw ⟨fun a U g mk q => by obtain ⟨q0, ⟨q1, qP, qK, qD, qR⟩, qX⟩ := q; exact ⟨q0, ⟨q1, qP, va_K.moved (u := U) (U := U.calling g mk a) (Vm.Alike.refl U.vm) qK, qD, qR.blind⟩, hXb _ _ _ _ _ qX⟩, va_recv hK hP (ci := 12) (q0 := 0) rfl rfl, fun U hU hW => ⟨rfl, ⟨by rw [hU], by rw [hU]; exact hP, va_K.moved hW.alike hK, hD.weaken (fun _ _ _ _ => trivial), hR.warm hW⟩, hXp U hU hW⟩⟩ rfl hn hsz hst hW hdg hf) hS (fun q _ h => hFc q h) hFc (fun r u t H1 locs1 ht hvm hw hB hz1 hk1 hS => ?_)
  obtain ⟨hP1, hK1, hD1⟩ := hB
  rw [ht] at hP1
  obtain ⟨hP2, hD2⟩ := va_join (wr := []) (w1 := MW cI cJ cZ ad u) hP hD [0, 1, 2, 3, 4, 5, 6, 7, 8, 9, 10, 11, 12, 13, 14, 15, 16] [] rfl rfl (by decide) (by decide) hk1 hFc hP1 hD1
  exact kk r u H1 locs1 hw ⟨hP2, hD2, hS⟩
abbrev mCvX (l : Launch) (y : MethodName) (ws : List Cond) (fr lo : Nat) (D : va_G) (cI cJ cZ : ClassId) (ad : Nat → Nat) (S : MS) (As : List Value) (X : Nat → State → Prop) (post : MS → Prop) : Prop := ∀ sz : Nat, Met l y ws { frames := fr, cells := 0, slots := 0, locals := lo } (va_Pc (.ref (ad 0) :: As) (fun U => mB D cI cJ cZ ad S sz U ∧ X sz U)) (va_Qv post (mAt D cI cJ cZ ad (va_A (MW cI cJ cZ ad S) sz)) (va_A (MW cI cJ cZ ad S) sz)) 0 0 (va_A (MW cI cJ cZ ad S) sz)
theorem m_callvX {p : Program} {l : Launch} {e : Env} {R : Room} {s : State} {m : MethodId} {args : Array Value} {below : List Frame} {meth : Method} {c : Code} {H : Heap} {locs : List Loc} {cells slots : Nat} {Q : State → Prop} {cc : ByteArray} {pc : Nat} {ls : Array Slot} {rest : List Value} {D : va_G} {A : Nat → Prop} {H0 : Heap} {Ts : List Cond} {cI cJ cZ : ClassId} {ad : Nat → Nat} {S : MS} {y : MethodName} {bytes : ByteArray} {maxL nL n index fr lo : Nat} {ret : Option FieldType} {ws : List Cond} {As : List Value} {X : Nat → State → Prop} {post : MS → Prop} (E : mE p c cc s m args Ts D cI cJ cZ) (G : mG D cI cJ cZ ad A H0 H locs S) (hA : ∀ q, H0.size ≤ q → A q) (hR : sR s) (hml : c.maxLocals = nL) (hM : mCvX l y ws fr lo D cI cJ cZ ad S As X post) (cw : CallW R s args RX12 RX12 index y bytes maxL ret ws { frames := fr, cells := 0, slots := 0, locals := lo } 0 0 n) (hn : As.length = n) (hsz : ls.size = nL) {st : List Value} (hst : st = As.reverse ++ .ref (ad 0) :: rest) (hW : 2 * (F0 m pc ls st).monitorRoom + (rest.map fun v => v.category).sum ≤ 8) (hdg : decode cc pc = .ok (.invokevirtual index, 3)) (hf : cells ≤ R.cells ∧ slots ≤ R.slots) (hXb : ∀ (sz : Nat) (a : Array Value) (U : State) (g : JFrame) (mk : MethodId), X sz U → X sz (U.calling g mk a)) (hXp : ∀ U : State, U.heap = H → s.WarmedH U.vm → X H.size U) (kk : ∀ (S1 : MS) (H1 : Heap) (locs1 : List Loc), post S1 → mG D cI cJ cZ ad A H0 H1 locs1 S1 → W p l e R s m args below meth c H1 locs1 cells slots Q (F0 m (pc + 3) ls rest)) : W p l e R s m args below meth c H locs cells slots Q (F0 m pc ls st) := by
  obtain ⟨hx, hb, hts, hown, hK, hin⟩ := E
  obtain ⟨hP, hD, hS⟩ := G
  have hFc := va_free (wc := MW cI cJ cZ ad S) hD hS hA [0, 1, 2, 3, 4, 5, 6, 7, 8, 9, 10, 11, 12, 13, 14, 15, 16] rfl
  refine va_callv (va_runV (As := As) (rest := rest) ⟨hx, hb, hml, hown, hts⟩ (hM H.size) cw ⟨fun a U g mk q => by obtain ⟨q0, ⟨q1, qP, qK, qD, qR⟩, qX⟩ := q; exact ⟨q0, ⟨q1, qP, va_K.moved (u := U) (U := U.calling g mk a) (Vm.Alike.refl U.vm) qK, qD, qR.blind⟩, hXb _ _ _ _ _ qX⟩, va_recv hK hP (ci := 12) (q0 := 0) rfl rfl, fun U hU hW => ⟨rfl, ⟨by rw [hU], by rw [hU]; exact hP, va_K.moved hW.alike hK, hD.weaken (fun _ _ _ _ => trivial), hR.warm hW⟩, hXp U hU hW⟩⟩ rfl hn hsz hst hW hdg hf) hS (fun q _ h => hFc q h) hFc (fun u t H1 locs1 ht hvm hw hB hz1 hk1 hS => ?_)
  obtain ⟨hP1, hK1, hD1⟩ := hB
  rw [ht] at hP1
  obtain ⟨hP2, hD2⟩ := va_join (wr := []) (w1 := MW cI cJ cZ ad u) hP hD [0, 1, 2, 3, 4, 5, 6, 7, 8, 9, 10, 11, 12, 13, 14, 15, 16] [] rfl rfl (by decide) (by decide) hk1 hFc hP1 hD1
  exact kk u H1 locs1 hw ⟨hP2, hD2, hS⟩
end
section
/-! 11ba.cc.lean.txt -/
/-- the class's world by numbers: how many cells, what each is (class or kind of array, length), its ints, its longs, its references (cells by number) -/
abbrev AT : Type := Nat × (Nat → Nat × Nat) × (Nat → Nat → Int32) × (Nat → Nat → Int64) × (Nat → Nat → Option Nat)
def ccv (cI cJ cZ cMic cSrc cSt cAI cAJ : ClassId) (ad : Nat → Nat) (sh : Nat × Nat) (vi : Nat → Int32) (vj : Nat → Int64) (vr : Nat → Option Nat) : va_E := match sh.1 with
  | 0 => .inr (0, [va_rf ((vr 0).map ad)])
  | 1 => .inr (1, [.int (vi 0), .int (vi 1), .int (vi 2), .int (vi 3), .int (vi 4), va_rf ((vr 5).map ad), va_rf ((vr 6).map ad), .int (vi 7), va_rf ((vr 8).map ad)])
  | 2 => .inr (2, [.int (vi 0), .int (vi 1), .int (vi 2), .int (vi 3)])
  | 3 => .inr (3, [va_rf ((vr 0).map ad), .int (vi 1), .int (vi 2), .int (vi 3)])
  | 4 => .inr (4, [.int (vi 0), va_rf ((vr 1).map ad), .int (vi 2), .int (vi 3), va_rf ((vr 4).map ad), va_rf ((vr 5).map ad)])
  | 5 => .inr (5, [va_rf ((vr 0).map ad), va_rf ((vr 1).map ad)])
  | 6 => .inr (6, [.int (vi 0), .int (vi 1), .int (vi 2), .int (vi 3), va_rf ((vr 4).map ad), .int (vi 5), va_rf ((vr 6).map ad), va_rf ((vr 7).map ad), .int (vi 8), va_rf ((vr 9).map ad), va_rf ((vr 10).map ad), .int (vi 11), .int (vi 12), va_rf ((vr 13).map ad), .int (vi 14), va_rf ((vr 15).map ad), .int (vi 16), va_rf ((vr 17).map ad)])
  | 7 => .inr (7, [.int (vi 0), .int (vi 1), .int (vi 2), .int (vi 3), .int (vi 4), .int (vi 5), .int (vi 6), .int (vi 7), .int (vi 8), .int (vi 9)])
  | 8 => .inr (8, [.int (vi 0), .int (vi 1), .int (vi 2), va_rf ((vr 3).map ad), va_rf ((vr 4).map ad), va_rf ((vr 5).map ad), va_rf ((vr 6).map ad), va_rf ((vr 7).map ad), va_rf ((vr 8).map ad), va_rf ((vr 9).map ad), va_rf ((vr 10).map ad), va_rf ((vr 11).map ad)])
  | 9 => .inr (9, [va_rf ((vr 0).map ad), .int (vi 1), va_rf ((vr 2).map ad), va_rf ((vr 3).map ad), va_rf ((vr 4).map ad), .int (vi 5)])
  | 10 => .inr (10, [.int (vi 0), va_rf ((vr 1).map ad), .int (vi 2)])
  | 11 => .inr (11, [va_rf ((vr 0).map ad), va_rf ((vr 1).map ad), va_rf ((vr 2).map ad), va_rf ((vr 3).map ad), va_rf ((vr 4).map ad), va_rf ((vr 5).map ad), va_rf ((vr 6).map ad), va_rf ((vr 7).map ad), va_rf ((vr 8).map ad), va_rf ((vr 9).map ad), va_rf ((vr 10).map ad), va_rf ((vr 11).map ad), va_rf ((vr 12).map ad), va_rf ((vr 13).map ad), va_rf ((vr 14).map ad), va_rf ((vr 15).map ad), .int (vi 16), .int (vi 17), .int (vi 18)])
  | 100 => .inl (cI, sh.2, .inl vi)
  | 101 => .inl (cJ, sh.2, .inr (.inl vj))
  | 102 => .inl (cZ, sh.2, .inl vi)
  | 103 => .inl (cMic, sh.2, .inr (.inr (.inr (.inr (fun i => (vr i).map ad)))))
  | 104 => .inl (cSrc, sh.2, .inr (.inr (.inr (.inr (fun i => (vr i).map ad)))))
  | 105 => .inl (cSt, sh.2, .inr (.inr (.inr (.inr (fun i => (vr i).map ad)))))
  | 106 => .inl (cAI, sh.2, .inr (.inr (.inr (.inr (fun i => (vr i).map ad)))))
  | 107 => .inl (cAJ, sh.2, .inr (.inr (.inr (.inr (fun i => (vr i).map ad)))))
  | _ => .inr (0, [])
def cc (cI cJ cZ cMic cSrc cSt cAI cAJ : ClassId) (ad : Nat → Nat) (T : AT) (n : Nat) : va_E := ccv cI cJ cZ cMic cSrc cSt cAI cAJ ad (T.2.1 n) (T.2.2.1 n) (T.2.2.2.1 n) (T.2.2.2.2 n)
def uI (T : AT) (n k : Nat) (v : Int32) : AT := (T.1, T.2.1, va_up T.2.2.1 n (upd (T.2.2.1 n) k v), T.2.2.2)
def uJ (T : AT) (n k : Nat) (v : Int64) : AT := (T.1, T.2.1, T.2.2.1, va_up T.2.2.2.1 n (vp_updL (T.2.2.2.1 n) k v), T.2.2.2.2)
def uR (T : AT) (n k q : Nat) : AT := (T.1, T.2.1, T.2.2.1, T.2.2.2.1, va_up T.2.2.2.2 n (va_up (T.2.2.2.2 n) k (some q)))
def oO (T : AT) (n c : Nat) : Bool := Nat.blt n T.1 && decide (T.2.1 n = (c, 0))
def aA (T : AT) (n c : Nat) : Bool := Nat.blt n T.1 && (decide ((T.2.1 n).1 = c) && Nat.blt (T.2.1 n).2 (2 ^ 31))
theorem oO_k {T : AT} {n c : Nat} (h : oO T n c = true) : n < T.1 ∧ T.2.1 n = (c, 0) := ⟨Nat.le_of_ble_eq_true ((Bool.and_eq_true _ _).mp h).1, of_decide_eq_true ((Bool.and_eq_true _ _).mp h).2⟩
theorem aA_k {T : AT} {n c : Nat} (h : aA T n c = true) : n < T.1 ∧ (T.2.1 n).1 = c ∧ (T.2.1 n).2 < 2 ^ 31 := ⟨Nat.le_of_ble_eq_true ((Bool.and_eq_true _ _).mp h).1, of_decide_eq_true ((Bool.and_eq_true _ _).mp ((Bool.and_eq_true _ _).mp h).2).1, Nat.le_of_ble_eq_true ((Bool.and_eq_true _ _).mp ((Bool.and_eq_true _ _).mp h).2).2⟩
theorem cc_o0 {cI cJ cZ cMic cSrc cSt cAI cAJ : ClassId} {ad : Nat → Nat} {T : AT} {n : Nat} (h : T.2.1 n = (0, 0)) : cc cI cJ cZ cMic cSrc cSt cAI cAJ ad T n = .inr (0, [va_rf ((T.2.2.2.2 n 0).map ad)]) := by
  unfold cc
  rw [h]
  rfl
theorem cc_o1 {cI cJ cZ cMic cSrc cSt cAI cAJ : ClassId} {ad : Nat → Nat} {T : AT} {n : Nat} (h : T.2.1 n = (1, 0)) : cc cI cJ cZ cMic cSrc cSt cAI cAJ ad T n = .inr (1, [.int (T.2.2.1 n 0), .int (T.2.2.1 n 1), .int (T.2.2.1 n 2), .int (T.2.2.1 n 3), .int (T.2.2.1 n 4), va_rf ((T.2.2.2.2 n 5).map ad), va_rf ((T.2.2.2.2 n 6).map ad), .int (T.2.2.1 n 7), va_rf ((T.2.2.2.2 n 8).map ad)]) := by
  unfold cc
  rw [h]
  rfl
theorem cc_o2 {cI cJ cZ cMic cSrc cSt cAI cAJ : ClassId} {ad : Nat → Nat} {T : AT} {n : Nat} (h : T.2.1 n = (2, 0)) : cc cI cJ cZ cMic cSrc cSt cAI cAJ ad T n = .inr (2, [.int (T.2.2.1 n 0), .int (T.2.2.1 n 1), .int (T.2.2.1 n 2), .int (T.2.2.1 n 3)]) := by
  unfold cc
  rw [h]
  rfl
theorem cc_o3 {cI cJ cZ cMic cSrc cSt cAI cAJ : ClassId} {ad : Nat → Nat} {T : AT} {n : Nat} (h : T.2.1 n = (3, 0)) : cc cI cJ cZ cMic cSrc cSt cAI cAJ ad T n = .inr (3, [va_rf ((T.2.2.2.2 n 0).map ad), .int (T.2.2.1 n 1), .int (T.2.2.1 n 2), .int (T.2.2.1 n 3)]) := by
  unfold cc
  rw [h]
  rfl
theorem cc_o4 {cI cJ cZ cMic cSrc cSt cAI cAJ : ClassId} {ad : Nat → Nat} {T : AT} {n : Nat} (h : T.2.1 n = (4, 0)) : cc cI cJ cZ cMic cSrc cSt cAI cAJ ad T n = .inr (4, [.int (T.2.2.1 n 0), va_rf ((T.2.2.2.2 n 1).map ad), .int (T.2.2.1 n 2), .int (T.2.2.1 n 3), va_rf ((T.2.2.2.2 n 4).map ad), va_rf ((T.2.2.2.2 n 5).map ad)]) := by
  unfold cc
  rw [h]
  rfl
theorem cc_o5 {cI cJ cZ cMic cSrc cSt cAI cAJ : ClassId} {ad : Nat → Nat} {T : AT} {n : Nat} (h : T.2.1 n = (5, 0)) : cc cI cJ cZ cMic cSrc cSt cAI cAJ ad T n = .inr (5, [va_rf ((T.2.2.2.2 n 0).map ad), va_rf ((T.2.2.2.2 n 1).map ad)]) := by
  unfold cc
  rw [h]
  rfl
theorem cc_o6 {cI cJ cZ cMic cSrc cSt cAI cAJ : ClassId} {ad : Nat → Nat} {T : AT} {n : Nat} (h : T.2.1 n = (6, 0)) : cc cI cJ cZ cMic cSrc cSt cAI cAJ ad T n = .inr (6, [.int (T.2.2.1 n 0), .int (T.2.2.1 n 1), .int (T.2.2.1 n 2), .int (T.2.2.1 n 3), va_rf ((T.2.2.2.2 n 4).map ad), .int (T.2.2.1 n 5), va_rf ((T.2.2.2.2 n 6).map ad), va_rf ((T.2.2.2.2 n 7).map ad), .int (T.2.2.1 n 8), va_rf ((T.2.2.2.2 n 9).map ad), va_rf ((T.2.2.2.2 n 10).map ad), .int (T.2.2.1 n 11), .int (T.2.2.1 n 12), va_rf ((T.2.2.2.2 n 13).map ad), .int (T.2.2.1 n 14), va_rf ((T.2.2.2.2 n 15).map ad), .int (T.2.2.1 n 16), va_rf ((T.2.2.2.2 n 17).map ad)]) := by
  unfold cc
  rw [h]
  rfl
theorem cc_o7 {cI cJ cZ cMic cSrc cSt cAI cAJ : ClassId} {ad : Nat → Nat} {T : AT} {n : Nat} (h : T.2.1 n = (7, 0)) : cc cI cJ cZ cMic cSrc cSt cAI cAJ ad T n = .inr (7, [.int (T.2.2.1 n 0), .int (T.2.2.1 n 1), .int (T.2.2.1 n 2), .int (T.2.2.1 n 3), .int (T.2.2.1 n 4), .int (T.2.2.1 n 5), .int (T.2.2.1 n 6), .int (T.2.2.1 n 7), .int (T.2.2.1 n 8), .int (T.2.2.1 n 9)]) := by
  unfold cc
  rw [h]
  rfl
theorem cc_o8 {cI cJ cZ cMic cSrc cSt cAI cAJ : ClassId} {ad : Nat → Nat} {T : AT} {n : Nat} (h : T.2.1 n = (8, 0)) : cc cI cJ cZ cMic cSrc cSt cAI cAJ ad T n = .inr (8, [.int (T.2.2.1 n 0), .int (T.2.2.1 n 1), .int (T.2.2.1 n 2), va_rf ((T.2.2.2.2 n 3).map ad), va_rf ((T.2.2.2.2 n 4).map ad), va_rf ((T.2.2.2.2 n 5).map ad), va_rf ((T.2.2.2.2 n 6).map ad), va_rf ((T.2.2.2.2 n 7).map ad), va_rf ((T.2.2.2.2 n 8).map ad), va_rf ((T.2.2.2.2 n 9).map ad), va_rf ((T.2.2.2.2 n 10).map ad), va_rf ((T.2.2.2.2 n 11).map ad)]) := by
  unfold cc
  rw [h]
  rfl
theorem cc_o9 {cI cJ cZ cMic cSrc cSt cAI cAJ : ClassId} {ad : Nat → Nat} {T : AT} {n : Nat} (h : T.2.1 n = (9, 0)) : cc cI cJ cZ cMic cSrc cSt cAI cAJ ad T n = .inr (9, [va_rf ((T.2.2.2.2 n 0).map ad), .int (T.2.2.1 n 1), va_rf ((T.2.2.2.2 n 2).map ad), va_rf ((T.2.2.2.2 n 3).map ad), va_rf ((T.2.2.2.2 n 4).map ad), .int (T.2.2.1 n 5)]) := by
  unfold cc
  rw [h]
  rfl
theorem cc_o10 {cI cJ cZ cMic cSrc cSt cAI cAJ : ClassId} {ad : Nat → Nat} {T : AT} {n : Nat} (h : T.2.1 n = (10, 0)) : cc cI cJ cZ cMic cSrc cSt cAI cAJ ad T n = .inr (10, [.int (T.2.2.1 n 0), va_rf ((T.2.2.2.2 n 1).map ad), .int (T.2.2.1 n 2)]) := by
  unfold cc
  rw [h]
  rfl
theorem cc_o11 {cI cJ cZ cMic cSrc cSt cAI cAJ : ClassId} {ad : Nat → Nat} {T : AT} {n : Nat} (h : T.2.1 n = (11, 0)) : cc cI cJ cZ cMic cSrc cSt cAI cAJ ad T n = .inr (11, [va_rf ((T.2.2.2.2 n 0).map ad), va_rf ((T.2.2.2.2 n 1).map ad), va_rf ((T.2.2.2.2 n 2).map ad), va_rf ((T.2.2.2.2 n 3).map ad), va_rf ((T.2.2.2.2 n 4).map ad), va_rf ((T.2.2.2.2 n 5).map ad), va_rf ((T.2.2.2.2 n 6).map ad), va_rf ((T.2.2.2.2 n 7).map ad), va_rf ((T.2.2.2.2 n 8).map ad), va_rf ((T.2.2.2.2 n 9).map ad), va_rf ((T.2.2.2.2 n 10).map ad), va_rf ((T.2.2.2.2 n 11).map ad), va_rf ((T.2.2.2.2 n 12).map ad), va_rf ((T.2.2.2.2 n 13).map ad), va_rf ((T.2.2.2.2 n 14).map ad), va_rf ((T.2.2.2.2 n 15).map ad), .int (T.2.2.1 n 16), .int (T.2.2.1 n 17), .int (T.2.2.1 n 18)]) := by
  unfold cc
  rw [h]
  rfl
theorem ccv_100 {cI cJ cZ cMic cSrc cSt cAI cAJ : ClassId} {ad : Nat → Nat} {sh : Nat × Nat} {vi : Nat → Int32} {vj : Nat → Int64} {vr : Nat → Option Nat} (h : sh.1 = 100) : ccv cI cJ cZ cMic cSrc cSt cAI cAJ ad sh vi vj vr = .inl (cI, sh.2, .inl vi) := by
  unfold ccv
  rw [h]
  rfl
theorem cc_a100 {cI cJ cZ cMic cSrc cSt cAI cAJ : ClassId} {ad : Nat → Nat} {T : AT} {n : Nat} (h : (T.2.1 n).1 = 100) : cc cI cJ cZ cMic cSrc cSt cAI cAJ ad T n = .inl (cI, (T.2.1 n).2, .inl (T.2.2.1 n)) := ccv_100 h
theorem ccv_101 {cI cJ cZ cMic cSrc cSt cAI cAJ : ClassId} {ad : Nat → Nat} {sh : Nat × Nat} {vi : Nat → Int32} {vj : Nat → Int64} {vr : Nat → Option Nat} (h : sh.1 = 101) : ccv cI cJ cZ cMic cSrc cSt cAI cAJ ad sh vi vj vr = .inl (cJ, sh.2, .inr (.inl vj)) := by
  unfold ccv
  rw [h]
  rfl
theorem cc_a101 {cI cJ cZ cMic cSrc cSt cAI cAJ : ClassId} {ad : Nat → Nat} {T : AT} {n : Nat} (h : (T.2.1 n).1 = 101) : cc cI cJ cZ cMic cSrc cSt cAI cAJ ad T n = .inl (cJ, (T.2.1 n).2, .inr (.inl (T.2.2.2.1 n))) := ccv_101 h
theorem ccv_102 {cI cJ cZ cMic cSrc cSt cAI cAJ : ClassId} {ad : Nat → Nat} {sh : Nat × Nat} {vi : Nat → Int32} {vj : Nat → Int64} {vr : Nat → Option Nat} (h : sh.1 = 102) : ccv cI cJ cZ cMic cSrc cSt cAI cAJ ad sh vi vj vr = .inl (cZ, sh.2, .inl vi) := by
  unfold ccv
  rw [h]
  rfl
theorem cc_a102 {cI cJ cZ cMic cSrc cSt cAI cAJ : ClassId} {ad : Nat → Nat} {T : AT} {n : Nat} (h : (T.2.1 n).1 = 102) : cc cI cJ cZ cMic cSrc cSt cAI cAJ ad T n = .inl (cZ, (T.2.1 n).2, .inl (T.2.2.1 n)) := ccv_102 h
theorem ccv_103 {cI cJ cZ cMic cSrc cSt cAI cAJ : ClassId} {ad : Nat → Nat} {sh : Nat × Nat} {vi : Nat → Int32} {vj : Nat → Int64} {vr : Nat → Option Nat} (h : sh.1 = 103) : ccv cI cJ cZ cMic cSrc cSt cAI cAJ ad sh vi vj vr = .inl (cMic, sh.2, .inr (.inr (.inr (.inr (fun i => (vr i).map ad))))) := by
  unfold ccv
  rw [h]
  rfl
theorem cc_a103 {cI cJ cZ cMic cSrc cSt cAI cAJ : ClassId} {ad : Nat → Nat} {T : AT} {n : Nat} (h : (T.2.1 n).1 = 103) : cc cI cJ cZ cMic cSrc cSt cAI cAJ ad T n = .inl (cMic, (T.2.1 n).2, .inr (.inr (.inr (.inr (fun i => (T.2.2.2.2 n i).map ad))))) := ccv_103 h
theorem ccv_104 {cI cJ cZ cMic cSrc cSt cAI cAJ : ClassId} {ad : Nat → Nat} {sh : Nat × Nat} {vi : Nat → Int32} {vj : Nat → Int64} {vr : Nat → Option Nat} (h : sh.1 = 104) : ccv cI cJ cZ cMic cSrc cSt cAI cAJ ad sh vi vj vr = .inl (cSrc, sh.2, .inr (.inr (.inr (.inr (fun i => (vr i).map ad))))) := by
  unfold ccv
  rw [h]
  rfl
theorem cc_a104 {cI cJ cZ cMic cSrc cSt cAI cAJ : ClassId} {ad : Nat → Nat} {T : AT} {n : Nat} (h : (T.2.1 n).1 = 104) : cc cI cJ cZ cMic cSrc cSt cAI cAJ ad T n = .inl (cSrc, (T.2.1 n).2, .inr (.inr (.inr (.inr (fun i => (T.2.2.2.2 n i).map ad))))) := ccv_104 h
theorem ccv_105 {cI cJ cZ cMic cSrc cSt cAI cAJ : ClassId} {ad : Nat → Nat} {sh : Nat × Nat} {vi : Nat → Int32} {vj : Nat → Int64} {vr : Nat → Option Nat} (h : sh.1 = 105) : ccv cI cJ cZ cMic cSrc cSt cAI cAJ ad sh vi vj vr = .inl (cSt, sh.2, .inr (.inr (.inr (.inr (fun i => (vr i).map ad))))) := by
  unfold ccv
  rw [h]
  rfl
theorem cc_a105 {cI cJ cZ cMic cSrc cSt cAI cAJ : ClassId} {ad : Nat → Nat} {T : AT} {n : Nat} (h : (T.2.1 n).1 = 105) : cc cI cJ cZ cMic cSrc cSt cAI cAJ ad T n = .inl (cSt, (T.2.1 n).2, .inr (.inr (.inr (.inr (fun i => (T.2.2.2.2 n i).map ad))))) := ccv_105 h
theorem ccv_106 {cI cJ cZ cMic cSrc cSt cAI cAJ : ClassId} {ad : Nat → Nat} {sh : Nat × Nat} {vi : Nat → Int32} {vj : Nat → Int64} {vr : Nat → Option Nat} (h : sh.1 = 106) : ccv cI cJ cZ cMic cSrc cSt cAI cAJ ad sh vi vj vr = .inl (cAI, sh.2, .inr (.inr (.inr (.inr (fun i => (vr i).map ad))))) := by
  unfold ccv
  rw [h]
  rfl
theorem cc_a106 {cI cJ cZ cMic cSrc cSt cAI cAJ : ClassId} {ad : Nat → Nat} {T : AT} {n : Nat} (h : (T.2.1 n).1 = 106) : cc cI cJ cZ cMic cSrc cSt cAI cAJ ad T n = .inl (cAI, (T.2.1 n).2, .inr (.inr (.inr (.inr (fun i => (T.2.2.2.2 n i).map ad))))) := ccv_106 h
theorem ccv_107 {cI cJ cZ cMic cSrc cSt cAI cAJ : ClassId} {ad : Nat → Nat} {sh : Nat × Nat} {vi : Nat → Int32} {vj : Nat → Int64} {vr : Nat → Option Nat} (h : sh.1 = 107) : ccv cI cJ cZ cMic cSrc cSt cAI cAJ ad sh vi vj vr = .inl (cAJ, sh.2, .inr (.inr (.inr (.inr (fun i => (vr i).map ad))))) := by
  unfold ccv
  rw [h]
  rfl
theorem cc_a107 {cI cJ cZ cMic cSrc cSt cAI cAJ : ClassId} {ad : Nat → Nat} {T : AT} {n : Nat} (h : (T.2.1 n).1 = 107) : cc cI cJ cZ cMic cSrc cSt cAI cAJ ad T n = .inl (cAJ, (T.2.1 n).2, .inr (.inr (.inr (.inr (fun i => (T.2.2.2.2 n i).map ad))))) := ccv_107 h
abbrev gC (cI cJ cZ cMic cSrc cSt cAI cAJ : ClassId) (D : va_G) (ad : Nat → Nat) (A : Nat → Prop) (H0 H : Heap) (locs : List Loc) (T : AT) : Prop := cG D ad T.1 A H0 H locs (cc cI cJ cZ cMic cSrc cSt cAI cAJ ad T)
theorem cc_up_i {cI cJ cZ cMic cSrc cSt cAI cAJ : ClassId} {ad : Nat → Nat} {T : AT} {n : Nat} {f : Nat → Int32} {e : va_E} (h : ccv cI cJ cZ cMic cSrc cSt cAI cAJ ad (T.2.1 n) f (T.2.2.2.1 n) (T.2.2.2.2 n) = e) : va_up (cc cI cJ cZ cMic cSrc cSt cAI cAJ ad T) n e = cc cI cJ cZ cMic cSrc cSt cAI cAJ ad (T.1, T.2.1, va_up T.2.2.1 n f, T.2.2.2) := by
  funext m
  by_cases q : m = n
  · subst q
    rw [va_up_self]
    unfold cc
    show e = _
    dsimp only
    rw [va_up_self]
    exact h.symm
  · rw [va_up_ne _ _ q]
    unfold cc
    dsimp only
    rw [va_up_ne _ _ q]
theorem gC_up_i {cI cJ cZ cMic cSrc cSt cAI cAJ : ClassId} {ad : Nat → Nat} {D : va_G} {A : Nat → Prop} {H0 H : Heap} {locs : List Loc} {T : AT} {n : Nat} {f : Nat → Int32} {e : va_E} (h : ccv cI cJ cZ cMic cSrc cSt cAI cAJ ad (T.2.1 n) f (T.2.2.2.1 n) (T.2.2.2.2 n) = e) (G : cG D ad T.1 A H0 H locs (va_up (cc cI cJ cZ cMic cSrc cSt cAI cAJ ad T) n e)) : gC cI cJ cZ cMic cSrc cSt cAI cAJ D ad A H0 H locs (T.1, T.2.1, va_up T.2.2.1 n f, T.2.2.2) := by
  rw [cc_up_i h] at G
  exact G
theorem cc_up_j {cI cJ cZ cMic cSrc cSt cAI cAJ : ClassId} {ad : Nat → Nat} {T : AT} {n : Nat} {f : Nat → Int64} {e : va_E} (h : ccv cI cJ cZ cMic cSrc cSt cAI cAJ ad (T.2.1 n) (T.2.2.1 n) f (T.2.2.2.2 n) = e) : va_up (cc cI cJ cZ cMic cSrc cSt cAI cAJ ad T) n e = cc cI cJ cZ cMic cSrc cSt cAI cAJ ad (T.1, T.2.1, T.2.2.1, va_up T.2.2.2.1 n f, T.2.2.2.2) := by
  funext m
  by_cases q : m = n
  · subst q
    rw [va_up_self]
    unfold cc
    show e = _
    dsimp only
    rw [va_up_self]
    exact h.symm
  · rw [va_up_ne _ _ q]
    unfold cc
    dsimp only
    rw [va_up_ne _ _ q]
theorem gC_up_j {cI cJ cZ cMic cSrc cSt cAI cAJ : ClassId} {ad : Nat → Nat} {D : va_G} {A : Nat → Prop} {H0 H : Heap} {locs : List Loc} {T : AT} {n : Nat} {f : Nat → Int64} {e : va_E} (h : ccv cI cJ cZ cMic cSrc cSt cAI cAJ ad (T.2.1 n) (T.2.2.1 n) f (T.2.2.2.2 n) = e) (G : cG D ad T.1 A H0 H locs (va_up (cc cI cJ cZ cMic cSrc cSt cAI cAJ ad T) n e)) : gC cI cJ cZ cMic cSrc cSt cAI cAJ D ad A H0 H locs (T.1, T.2.1, T.2.2.1, va_up T.2.2.2.1 n f, T.2.2.2.2) := by
  rw [cc_up_j h] at G
  exact G
theorem cc_up_r {cI cJ cZ cMic cSrc cSt cAI cAJ : ClassId} {ad : Nat → Nat} {T : AT} {n : Nat} {f : Nat → Option Nat} {e : va_E} (h : ccv cI cJ cZ cMic cSrc cSt cAI cAJ ad (T.2.1 n) (T.2.2.1 n) (T.2.2.2.1 n) f = e) : va_up (cc cI cJ cZ cMic cSrc cSt cAI cAJ ad T) n e = cc cI cJ cZ cMic cSrc cSt cAI cAJ ad (T.1, T.2.1, T.2.2.1, T.2.2.2.1, va_up T.2.2.2.2 n f) := by
  funext m
  by_cases q : m = n
  · subst q
    rw [va_up_self]
    unfold cc
    show e = _
    dsimp only
    rw [va_up_self]
    exact h.symm
  · rw [va_up_ne _ _ q]
    unfold cc
    dsimp only
    rw [va_up_ne _ _ q]
theorem gC_up_r {cI cJ cZ cMic cSrc cSt cAI cAJ : ClassId} {ad : Nat → Nat} {D : va_G} {A : Nat → Prop} {H0 H : Heap} {locs : List Loc} {T : AT} {n : Nat} {f : Nat → Option Nat} {e : va_E} (h : ccv cI cJ cZ cMic cSrc cSt cAI cAJ ad (T.2.1 n) (T.2.2.1 n) (T.2.2.2.1 n) f = e) (G : cG D ad T.1 A H0 H locs (va_up (cc cI cJ cZ cMic cSrc cSt cAI cAJ ad T) n e)) : gC cI cJ cZ cMic cSrc cSt cAI cAJ D ad A H0 H locs (T.1, T.2.1, T.2.2.1, T.2.2.2.1, va_up T.2.2.2.2 n f) := by
  rw [cc_up_r h] at G
  exact G
abbrev kB (cI cJ cZ cMic cSrc cSt cAI cAJ : ClassId) (D : va_G) (ad : Nat → Nat) (T : AT) (sz : Nat) : State → Prop := fun U => U.heap.size = sz ∧ va_P D vwCl (cW ad T.1 (cc cI cJ cZ cMic cSrc cSt cAI cAJ ad T)) U.heap ∧ va_K D vwCl (CT cI cJ cZ cMic cSrc cSt cAI cAJ) U ∧ va_D (fun _ => True) (cW ad T.1 (cc cI cJ cZ cMic cSrc cSt cAI cAJ ad T)) ∧ xT (va_A (cW ad T.1 (cc cI cJ cZ cMic cSrc cSt cAI cAJ ad T)) sz) U ∧ nX U
abbrev kAt (cI cJ cZ cMic cSrc cSt cAI cAJ : ClassId) (D : va_G) (ad : Nat → Nat) (A : Nat → Prop) (T : AT) (t : State) : Prop := va_P D vwCl (cW ad T.1 (cc cI cJ cZ cMic cSrc cSt cAI cAJ ad T)) t.heap ∧ va_K D vwCl (CT cI cJ cZ cMic cSrc cSt cAI cAJ) t ∧ va_D A (cW ad T.1 (cc cI cJ cZ cMic cSrc cSt cAI cAJ ad T))
abbrev kCi (l : Launch) (y : MethodName) (ws : List Cond) (fr lo : Nat) (cI cJ cZ cMic cSrc cSt cAI cAJ : ClassId) (D : va_G) (ad : Nat → Nat) (T : AT) (As : List Value) (post : Int32 → AT → Prop) : Prop := ∀ sz : Nat, Met l y ws { frames := fr, cells := 0, slots := 0, locals := lo } (va_Pc As (kB cI cJ cZ cMic cSrc cSt cAI cAJ D ad T sz)) (va_Qi post (kAt cI cJ cZ cMic cSrc cSt cAI cAJ D ad (va_A (cW ad T.1 (cc cI cJ cZ cMic cSrc cSt cAI cAJ ad T)) sz)) (va_A (cW ad T.1 (cc cI cJ cZ cMic cSrc cSt cAI cAJ ad T)) sz)) 0 0 (va_A (cW ad T.1 (cc cI cJ cZ cMic cSrc cSt cAI cAJ ad T)) sz)
abbrev kCl (l : Launch) (y : MethodName) (ws : List Cond) (fr lo : Nat) (cI cJ cZ cMic cSrc cSt cAI cAJ : ClassId) (D : va_G) (ad : Nat → Nat) (T : AT) (As : List Value) (post : Int64 → AT → Prop) : Prop := ∀ sz : Nat, Met l y ws { frames := fr, cells := 0, slots := 0, locals := lo } (va_Pc As (kB cI cJ cZ cMic cSrc cSt cAI cAJ D ad T sz)) (va_Ql post (kAt cI cJ cZ cMic cSrc cSt cAI cAJ D ad (va_A (cW ad T.1 (cc cI cJ cZ cMic cSrc cSt cAI cAJ ad T)) sz)) (va_A (cW ad T.1 (cc cI cJ cZ cMic cSrc cSt cAI cAJ ad T)) sz)) 0 0 (va_A (cW ad T.1 (cc cI cJ cZ cMic cSrc cSt cAI cAJ ad T)) sz)
abbrev kCf (l : Launch) (y : MethodName) (ws : List Cond) (fr lo : Nat) (cI cJ cZ cMic cSrc cSt cAI cAJ : ClassId) (D : va_G) (ad : Nat → Nat) (T : AT) (As : List Value) (post : UInt32 → AT → Prop) : Prop := ∀ sz : Nat, Met l y ws { frames := fr, cells := 0, slots := 0, locals := lo } (va_Pc As (kB cI cJ cZ cMic cSrc cSt cAI cAJ D ad T sz)) (va_Qf post (kAt cI cJ cZ cMic cSrc cSt cAI cAJ D ad (va_A (cW ad T.1 (cc cI cJ cZ cMic cSrc cSt cAI cAJ ad T)) sz)) (va_A (cW ad T.1 (cc cI cJ cZ cMic cSrc cSt cAI cAJ ad T)) sz)) 0 0 (va_A (cW ad T.1 (cc cI cJ cZ cMic cSrc cSt cAI cAJ ad T)) sz)
abbrev kCv (l : Launch) (y : MethodName) (ws : List Cond) (fr lo : Nat) (cI cJ cZ cMic cSrc cSt cAI cAJ : ClassId) (D : va_G) (ad : Nat → Nat) (T : AT) (As : List Value) (post : AT → Prop) : Prop := ∀ sz : Nat, Met l y ws { frames := fr, cells := 0, slots := 0, locals := lo } (va_Pc As (kB cI cJ cZ cMic cSrc cSt cAI cAJ D ad T sz)) (va_Qv post (kAt cI cJ cZ cMic cSrc cSt cAI cAJ D ad (va_A (cW ad T.1 (cc cI cJ cZ cMic cSrc cSt cAI cAJ ad T)) sz)) (va_A (cW ad T.1 (cc cI cJ cZ cMic cSrc cSt cAI cAJ ad T)) sz)) 0 0 (va_A (cW ad T.1 (cc cI cJ cZ cMic cSrc cSt cAI cAJ ad T)) sz)
theorem q_cvi {p : Program} {l : Launch} {e : Env} {R : Room} {s : State} {m : MethodId} {args : Array Value} {below : List Frame} {meth : Method} {c : Code} {H : Heap} {locs : List Loc} {cells slots : Nat} {Q : State → Prop} {cc0 : ByteArray} {pc : Nat} {ls : Array Slot} {rest : List Value} {D : va_G} {A : Nat → Prop} {Ts : List Cond} {own : String} {cI cJ cZ cMic cSrc cSt cAI cAJ : ClassId} {ad : Nat → Nat} {T : AT} {y : MethodName} {bytes : ByteArray} {maxL nL n index fr lo : Nat} {ret : Option FieldType} {ws : List Cond} {As : List Value} {C : String} {TT : u_T} {nf ci q : Nat} {fs : List Value} {post : Int32 → AT → Prop} (E : cE p c cc0 s m args Ts D own (CT cI cJ cZ cMic cSrc cSt cAI cAJ)) (G : gC cI cJ cZ cMic cSrc cSt cAI cAJ D ad A s.heap H locs T) (hA : ∀ q, s.heap.size ≤ q → A q) (hX : xT A s) (hN : nX s) (hml : c.maxLocals = nL) (hM : kCi l y ws fr lo cI cJ cZ cMic cSrc cSt cAI cAJ D ad T (.ref (ad q) :: As) post) (cw : CallW R s args own C index y bytes maxL ret ws { frames := fr, cells := 0, slots := 0, locals := lo } 0 0 n) (hq : q < T.1) (hSq : cc cI cJ cZ cMic cSrc cSt cAI cAJ ad T q = .inr (ci, fs)) (hc : vwCl[ci]? = some (C, TT, nf)) (hn : As.length = n) (hsz : ls.size = nL) {st : List Value} (hst : st = As.reverse ++ .ref (ad q) :: rest) (hW : 2 * (F0 m pc ls st).monitorRoom + (rest.map fun v => v.category).sum ≤ 8) (hdg : decode cc0 pc = .ok (.invokevirtual index, 3)) (hf : cells + 0 ≤ R.cells ∧ slots + 0 ≤ R.slots) (kk : ∀ (r : Int32) (T1 : AT) (H1 : Heap) (locs1 : List Loc), post r T1 → gC cI cJ cZ cMic cSrc cSt cAI cAJ D ad A s.heap H1 locs1 T1 → W p l e R s m args below meth c H1 locs1 (cells + 0) (slots + 0) Q (F0 m (pc + 3) ls (.int r :: rest))) : W p l e R s m args below meth c H locs cells slots Q (F0 m pc ls st) := by
  obtain ⟨hx, hb, hts, hown, hK⟩ := E
  obtain ⟨hP, hD, hS⟩ := G
  have hFc := va_free (wc := cW ad T.1 (cc cI cJ cZ cMic cSrc cSt cAI cAJ ad T)) hD hS hA (List.range T.1) (cW_all ad T.1 (cc cI cJ cZ cMic cSrc cSt cAI cAJ ad T))
  refine va_calli (va_runV (As := As) (rest := rest) ⟨hx, hb, hml, hown, hts⟩ (hM H.size) cw ⟨fun a U g mk q => by obtain ⟨q0, q1, qP, qK, qD, qX, qN⟩ := q; exact ⟨q0, q1, qP, va_K.moved (u := U) (U := U.calling g mk a) (Vm.Alike.refl U.vm) qK, qD, qX.blind, nX.moved U (U.calling g mk a) (State.WarmedH.refl U) qN⟩, va_recv hK hP (ci := ci) (q0 := q) hc (cW_e hq hSq), fun U hU hW => ⟨rfl, by rw [hU], by rw [hU]; exact hP, va_K.moved hW.alike hK, hD.weaken (fun _ _ _ _ => trivial), hX.go hW hU hS hFc, nX.moved s U hW hN⟩⟩ rfl hn hsz hst hW hdg hf) hS (fun q _ h => hFc q h) hFc (fun r u t H1 locs1 ht hvm hw hB hz1 hk1 hS => ?_)
  obtain ⟨hP1, hK1, hD1⟩ := hB
  rw [ht] at hP1
  obtain ⟨hP2, hD2⟩ := va_join (wr := []) (w1 := cW ad u.1 (cc cI cJ cZ cMic cSrc cSt cAI cAJ ad u)) hP hD (List.range T.1) [] (cW_all ad T.1 (cc cI cJ cZ cMic cSrc cSt cAI cAJ ad T)) rfl rfl (fun i hi => absurd hi List.not_mem_nil) hk1 hFc hP1 hD1
  exact kk r u H1 locs1 hw ⟨hP2, hD2, hS⟩
theorem q_csi {p : Program} {l : Launch} {e : Env} {R : Room} {s : State} {m : MethodId} {args : Array Value} {below : List Frame} {meth : Method} {c : Code} {H : Heap} {locs : List Loc} {cells slots : Nat} {Q : State → Prop} {cc0 : ByteArray} {pc : Nat} {ls : Array Slot} {rest : List Value} {D : va_G} {A : Nat → Prop} {Ts : List Cond} {own : String} {cI cJ cZ cMic cSrc cSt cAI cAJ : ClassId} {ad : Nat → Nat} {T : AT} {y : MethodName} {bytes : ByteArray} {maxL nL n index fr lo : Nat} {ret : Option FieldType} {ws : List Cond} {As : List Value} {post : Int32 → AT → Prop} (E : cE p c cc0 s m args Ts D own (CT cI cJ cZ cMic cSrc cSt cAI cAJ)) (G : gC cI cJ cZ cMic cSrc cSt cAI cAJ D ad A s.heap H locs T) (hA : ∀ q, s.heap.size ≤ q → A q) (hX : xT A s) (hN : nX s) (hml : c.maxLocals = nL) (hM : kCi l y ws fr lo cI cJ cZ cMic cSrc cSt cAI cAJ D ad T (As) post) (cw : CallB R s args own index y bytes maxL ret ws { frames := fr, cells := 0, slots := 0, locals := lo } 0 0 n ∧ (Cond.static y).before args s = true) (hn : As.length = n) (hsz : ls.size = nL) {st : List Value} (hst : st = As.reverse ++ rest) (hW : 2 * (F0 m pc ls st).monitorRoom + (rest.map fun v => v.category).sum ≤ 8) (hdg : decode cc0 pc = .ok (.invokestatic index, 3)) (hf : cells + 0 ≤ R.cells ∧ slots + 0 ≤ R.slots) (kk : ∀ (r : Int32) (T1 : AT) (H1 : Heap) (locs1 : List Loc), post r T1 → gC cI cJ cZ cMic cSrc cSt cAI cAJ D ad A s.heap H1 locs1 T1 → W p l e R s m args below meth c H1 locs1 (cells + 0) (slots + 0) Q (F0 m (pc + 3) ls (.int r :: rest))) : W p l e R s m args below meth c H locs cells slots Q (F0 m pc ls st) := by
  obtain ⟨hx, hb, hts, hown, hK⟩ := E
  obtain ⟨hP, hD, hS⟩ := G
  have hFc := va_free (wc := cW ad T.1 (cc cI cJ cZ cMic cSrc cSt cAI cAJ ad T)) hD hS hA (List.range T.1) (cW_all ad T.1 (cc cI cJ cZ cMic cSrc cSt cAI cAJ ad T))
  refine va_calli (va_runS (As := As) (rest := rest) ⟨hx, hb, hml, hown, hts⟩ (hM H.size) cw ⟨fun a U g mk q => by obtain ⟨q0, q1, qP, qK, qD, qX, qN⟩ := q; exact ⟨q0, q1, qP, va_K.moved (u := U) (U := U.calling g mk a) (Vm.Alike.refl U.vm) qK, qD, qX.blind, nX.moved U (U.calling g mk a) (State.WarmedH.refl U) qN⟩, fun U hU hW => ⟨rfl, by rw [hU], by rw [hU]; exact hP, va_K.moved hW.alike hK, hD.weaken (fun _ _ _ _ => trivial), hX.go hW hU hS hFc, nX.moved s U hW hN⟩⟩ rfl hn hsz hst hW hdg hf) hS (fun q _ h => hFc q h) hFc (fun r u t H1 locs1 ht hvm hw hB hz1 hk1 hS => ?_)
  obtain ⟨hP1, hK1, hD1⟩ := hB
  rw [ht] at hP1
  obtain ⟨hP2, hD2⟩ := va_join (wr := []) (w1 := cW ad u.1 (cc cI cJ cZ cMic cSrc cSt cAI cAJ ad u)) hP hD (List.range T.1) [] (cW_all ad T.1 (cc cI cJ cZ cMic cSrc cSt cAI cAJ ad T)) rfl rfl (fun i hi => absurd hi List.not_mem_nil) hk1 hFc hP1 hD1
  exact kk r u H1 locs1 hw ⟨hP2, hD2, hS⟩
theorem q_cvl {p : Program} {l : Launch} {e : Env} {R : Room} {s : State} {m : MethodId} {args : Array Value} {below : List Frame} {meth : Method} {c : Code} {H : Heap} {locs : List Loc} {cells slots : Nat} {Q : State → Prop} {cc0 : ByteArray} {pc : Nat} {ls : Array Slot} {rest : List Value} {D : va_G} {A : Nat → Prop} {Ts : List Cond} {own : String} {cI cJ cZ cMic cSrc cSt cAI cAJ : ClassId} {ad : Nat → Nat} {T : AT} {y : MethodName} {bytes : ByteArray} {maxL nL n index fr lo : Nat} {ret : Option FieldType} {ws : List Cond} {As : List Value} {C : String} {TT : u_T} {nf ci q : Nat} {fs : List Value} {post : Int64 → AT → Prop} (E : cE p c cc0 s m args Ts D own (CT cI cJ cZ cMic cSrc cSt cAI cAJ)) (G : gC cI cJ cZ cMic cSrc cSt cAI cAJ D ad A s.heap H locs T) (hA : ∀ q, s.heap.size ≤ q → A q) (hX : xT A s) (hN : nX s) (hml : c.maxLocals = nL) (hM : kCl l y ws fr lo cI cJ cZ cMic cSrc cSt cAI cAJ D ad T (.ref (ad q) :: As) post) (cw : CallW R s args own C index y bytes maxL ret ws { frames := fr, cells := 0, slots := 0, locals := lo } 0 0 n) (hq : q < T.1) (hSq : cc cI cJ cZ cMic cSrc cSt cAI cAJ ad T q = .inr (ci, fs)) (hc : vwCl[ci]? = some (C, TT, nf)) (hn : As.length = n) (hsz : ls.size = nL) {st : List Value} (hst : st = As.reverse ++ .ref (ad q) :: rest) (hW : 2 * (F0 m pc ls st).monitorRoom + (rest.map fun v => v.category).sum ≤ 8) (hdg : decode cc0 pc = .ok (.invokevirtual index, 3)) (hf : cells + 0 ≤ R.cells ∧ slots + 0 ≤ R.slots) (kk : ∀ (r : Int64) (T1 : AT) (H1 : Heap) (locs1 : List Loc), post r T1 → gC cI cJ cZ cMic cSrc cSt cAI cAJ D ad A s.heap H1 locs1 T1 → W p l e R s m args below meth c H1 locs1 (cells + 0) (slots + 0) Q (F0 m (pc + 3) ls (.long r :: rest))) : W p l e R s m args below meth c H locs cells slots Q (F0 m pc ls st) := by
  obtain ⟨hx, hb, hts, hown, hK⟩ := E
  obtain ⟨hP, hD, hS⟩ := G
  have hFc := va_free (wc := cW ad T.1 (cc cI cJ cZ cMic cSrc cSt cAI cAJ ad T)) hD hS hA (List.range T.1) (cW_all ad T.1 (cc cI cJ cZ cMic cSrc cSt cAI cAJ ad T))
  refine va_calll (va_runV (As := As) (rest := rest) ⟨hx, hb, hml, hown, hts⟩ (hM H.size) cw ⟨fun a U g mk q => by obtain ⟨q0, q1, qP, qK, qD, qX, qN⟩ := q; exact ⟨q0, q1, qP, va_K.moved (u := U) (U := U.calling g mk a) (Vm.Alike.refl U.vm) qK, qD, qX.blind, nX.moved U (U.calling g mk a) (State.WarmedH.refl U) qN⟩, va_recv hK hP (ci := ci) (q0 := q) hc (cW_e hq hSq), fun U hU hW => ⟨rfl, by rw [hU], by rw [hU]; exact hP, va_K.moved hW.alike hK, hD.weaken (fun _ _ _ _ => trivial), hX.go hW hU hS hFc, nX.moved s U hW hN⟩⟩ rfl hn hsz hst hW hdg hf) hS (fun q _ h => hFc q h) hFc (fun r u t H1 locs1 ht hvm hw hB hz1 hk1 hS => ?_)
  obtain ⟨hP1, hK1, hD1⟩ := hB
  rw [ht] at hP1
  obtain ⟨hP2, hD2⟩ := va_join (wr := []) (w1 := cW ad u.1 (cc cI cJ cZ cMic cSrc cSt cAI cAJ ad u)) hP hD (List.range T.1) [] (cW_all ad T.1 (cc cI cJ cZ cMic cSrc cSt cAI cAJ ad T)) rfl rfl (fun i hi => absurd hi List.not_mem_nil) hk1 hFc hP1 hD1
  exact kk r u H1 locs1 hw ⟨hP2, hD2, hS⟩
theorem q_cvf {p : Program} {l : Launch} {e : Env} {R : Room} {s : State} {m : MethodId} {args : Array Value} {below : List Frame} {meth : Method} {c : Code} {H : Heap} {locs : List Loc} {cells slots : Nat} {Q : State → Prop} {cc0 : ByteArray} {pc : Nat} {ls : Array Slot} {rest : List Value} {D : va_G} {A : Nat → Prop} {Ts : List Cond} {own : String} {cI cJ cZ cMic cSrc cSt cAI cAJ : ClassId} {ad : Nat → Nat} {T : AT} {y : MethodName} {bytes : ByteArray} {maxL nL n index fr lo : Nat} {ret : Option FieldType} {ws : List Cond} {As : List Value} {C : String} {TT : u_T} {nf ci q : Nat} {fs : List Value} {post : UInt32 → AT → Prop} (E : cE p c cc0 s m args Ts D own (CT cI cJ cZ cMic cSrc cSt cAI cAJ)) (G : gC cI cJ cZ cMic cSrc cSt cAI cAJ D ad A s.heap H locs T) (hA : ∀ q, s.heap.size ≤ q → A q) (hX : xT A s) (hN : nX s) (hml : c.maxLocals = nL) (hM : kCf l y ws fr lo cI cJ cZ cMic cSrc cSt cAI cAJ D ad T (.ref (ad q) :: As) post) (cw : CallW R s args own C index y bytes maxL ret ws { frames := fr, cells := 0, slots := 0, locals := lo } 0 0 n) (hq : q < T.1) (hSq : cc cI cJ cZ cMic cSrc cSt cAI cAJ ad T q = .inr (ci, fs)) (hc : vwCl[ci]? = some (C, TT, nf)) (hn : As.length = n) (hsz : ls.size = nL) {st : List Value} (hst : st = As.reverse ++ .ref (ad q) :: rest) (hW : 2 * (F0 m pc ls st).monitorRoom + (rest.map fun v => v.category).sum ≤ 8) (hdg : decode cc0 pc = .ok (.invokevirtual index, 3)) (hf : cells + 0 ≤ R.cells ∧ slots + 0 ≤ R.slots) (kk : ∀ (r : UInt32) (T1 : AT) (H1 : Heap) (locs1 : List Loc), post r T1 → gC cI cJ cZ cMic cSrc cSt cAI cAJ D ad A s.heap H1 locs1 T1 → W p l e R s m args below meth c H1 locs1 (cells + 0) (slots + 0) Q (F0 m (pc + 3) ls (.float r :: rest))) : W p l e R s m args below meth c H locs cells slots Q (F0 m pc ls st) := by
  obtain ⟨hx, hb, hts, hown, hK⟩ := E
  obtain ⟨hP, hD, hS⟩ := G
  have hFc := va_free (wc := cW ad T.1 (cc cI cJ cZ cMic cSrc cSt cAI cAJ ad T)) hD hS hA (List.range T.1) (cW_all ad T.1 (cc cI cJ cZ cMic cSrc cSt cAI cAJ ad T))
  refine va_callf (va_runV (As := As) (rest := rest) ⟨hx, hb, hml, hown, hts⟩ (hM H.size) cw ⟨fun a U g mk q => by obtain ⟨q0, q1, qP, qK, qD, qX, qN⟩ := q; exact ⟨q0, q1, qP, va_K.moved (u := U) (U := U.calling g mk a) (Vm.Alike.refl U.vm) qK, qD, qX.blind, nX.moved U (U.calling g mk a) (State.WarmedH.refl U) qN⟩, va_recv hK hP (ci := ci) (q0 := q) hc (cW_e hq hSq), fun U hU hW => ⟨rfl, by rw [hU], by rw [hU]; exact hP, va_K.moved hW.alike hK, hD.weaken (fun _ _ _ _ => trivial), hX.go hW hU hS hFc, nX.moved s U hW hN⟩⟩ rfl hn hsz hst hW hdg hf) hS (fun q _ h => hFc q h) hFc (fun r u t H1 locs1 ht hvm hw hB hz1 hk1 hS => ?_)
  obtain ⟨hP1, hK1, hD1⟩ := hB
  rw [ht] at hP1
  obtain ⟨hP2, hD2⟩ := va_join (wr := []) (w1 := cW ad u.1 (cc cI cJ cZ cMic cSrc cSt cAI cAJ ad u)) hP hD (List.range T.1) [] (cW_all ad T.1 (cc cI cJ cZ cMic cSrc cSt cAI cAJ ad T)) rfl rfl (fun i hi => absurd hi List.not_mem_nil) hk1 hFc hP1 hD1
  exact kk r u H1 locs1 hw ⟨hP2, hD2, hS⟩
theorem q_cvv {p : Program} {l : Launch} {e : Env} {R : Room} {s : State} {m : MethodId} {args : Array Value} {below : List Frame} {meth : Method} {c : Code} {H : Heap} {locs : List Loc} {cells slots : Nat} {Q : State → Prop} {cc0 : ByteArray} {pc : Nat} {ls : Array Slot} {rest : List Value} {D : va_G} {A : Nat → Prop} {Ts : List Cond} {own : String} {cI cJ cZ cMic cSrc cSt cAI cAJ : ClassId} {ad : Nat → Nat} {T : AT} {y : MethodName} {bytes : ByteArray} {maxL nL n index fr lo : Nat} {ret : Option FieldType} {ws : List Cond} {As : List Value} {C : String} {TT : u_T} {nf ci q : Nat} {fs : List Value} {post : AT → Prop} (E : cE p c cc0 s m args Ts D own (CT cI cJ cZ cMic cSrc cSt cAI cAJ)) (G : gC cI cJ cZ cMic cSrc cSt cAI cAJ D ad A s.heap H locs T) (hA : ∀ q, s.heap.size ≤ q → A q) (hX : xT A s) (hN : nX s) (hml : c.maxLocals = nL) (hM : kCv l y ws fr lo cI cJ cZ cMic cSrc cSt cAI cAJ D ad T (.ref (ad q) :: As) post) (cw : CallW R s args own C index y bytes maxL ret ws { frames := fr, cells := 0, slots := 0, locals := lo } 0 0 n) (hq : q < T.1) (hSq : cc cI cJ cZ cMic cSrc cSt cAI cAJ ad T q = .inr (ci, fs)) (hc : vwCl[ci]? = some (C, TT, nf)) (hn : As.length = n) (hsz : ls.size = nL) {st : List Value} (hst : st = As.reverse ++ .ref (ad q) :: rest) (hW : 2 * (F0 m pc ls st).monitorRoom + (rest.map fun v => v.category).sum ≤ 8) (hdg : decode cc0 pc = .ok (.invokevirtual index, 3)) (hf : cells + 0 ≤ R.cells ∧ slots + 0 ≤ R.slots) (kk : ∀ (T1 : AT) (H1 : Heap) (locs1 : List Loc), post T1 → gC cI cJ cZ cMic cSrc cSt cAI cAJ D ad A s.heap H1 locs1 T1 → W p l e R s m args below meth c H1 locs1 (cells + 0) (slots + 0) Q (F0 m (pc + 3) ls rest)) : W p l e R s m args below meth c H locs cells slots Q (F0 m pc ls st) := by
  obtain ⟨hx, hb, hts, hown, hK⟩ := E
  obtain ⟨hP, hD, hS⟩ := G
  have hFc := va_free (wc := cW ad T.1 (cc cI cJ cZ cMic cSrc cSt cAI cAJ ad T)) hD hS hA (List.range T.1) (cW_all ad T.1 (cc cI cJ cZ cMic cSrc cSt cAI cAJ ad T))
  refine va_callv (va_runV (As := As) (rest := rest) ⟨hx, hb, hml, hown, hts⟩ (hM H.size) cw ⟨fun a U g mk q => by obtain ⟨q0, q1, qP, qK, qD, qX, qN⟩ := q; exact ⟨q0, q1, qP, va_K.moved (u := U) (U := U.calling g mk a) (Vm.Alike.refl U.vm) qK, qD, qX.blind, nX.moved U (U.calling g mk a) (State.WarmedH.refl U) qN⟩, va_recv hK hP (ci := ci) (q0 := q) hc (cW_e hq hSq), fun U hU hW => ⟨rfl, by rw [hU], by rw [hU]; exact hP, va_K.moved hW.alike hK, hD.weaken (fun _ _ _ _ => trivial), hX.go hW hU hS hFc, nX.moved s U hW hN⟩⟩ rfl hn hsz hst hW hdg hf) hS (fun q _ h => hFc q h) hFc (fun u t H1 locs1 ht hvm hw hB hz1 hk1 hS => ?_)
  obtain ⟨hP1, hK1, hD1⟩ := hB
  rw [ht] at hP1
  obtain ⟨hP2, hD2⟩ := va_join (wr := []) (w1 := cW ad u.1 (cc cI cJ cZ cMic cSrc cSt cAI cAJ ad u)) hP hD (List.range T.1) [] (cW_all ad T.1 (cc cI cJ cZ cMic cSrc cSt cAI cAJ ad T)) rfl rfl (fun i hi => absurd hi List.not_mem_nil) hk1 hFc hP1 hD1
  exact kk u H1 locs1 hw ⟨hP2, hD2, hS⟩
theorem q_csv {p : Program} {l : Launch} {e : Env} {R : Room} {s : State} {m : MethodId} {args : Array Value} {below : List Frame} {meth : Method} {c : Code} {H : Heap} {locs : List Loc} {cells slots : Nat} {Q : State → Prop} {cc0 : ByteArray} {pc : Nat} {ls : Array Slot} {rest : List Value} {D : va_G} {A : Nat → Prop} {Ts : List Cond} {own : String} {cI cJ cZ cMic cSrc cSt cAI cAJ : ClassId} {ad : Nat → Nat} {T : AT} {y : MethodName} {bytes : ByteArray} {maxL nL n index fr lo : Nat} {ret : Option FieldType} {ws : List Cond} {As : List Value} {post : AT → Prop} (E : cE p c cc0 s m args Ts D own (CT cI cJ cZ cMic cSrc cSt cAI cAJ)) (G : gC cI cJ cZ cMic cSrc cSt cAI cAJ D ad A s.heap H locs T) (hA : ∀ q, s.heap.size ≤ q → A q) (hX : xT A s) (hN : nX s) (hml : c.maxLocals = nL) (hM : kCv l y ws fr lo cI cJ cZ cMic cSrc cSt cAI cAJ D ad T (As) post) (cw : CallB R s args own index y bytes maxL ret ws { frames := fr, cells := 0, slots := 0, locals := lo } 0 0 n ∧ (Cond.static y).before args s = true) (hn : As.length = n) (hsz : ls.size = nL) {st : List Value} (hst : st = As.reverse ++ rest) (hW : 2 * (F0 m pc ls st).monitorRoom + (rest.map fun v => v.category).sum ≤ 8) (hdg : decode cc0 pc = .ok (.invokestatic index, 3)) (hf : cells + 0 ≤ R.cells ∧ slots + 0 ≤ R.slots) (kk : ∀ (T1 : AT) (H1 : Heap) (locs1 : List Loc), post T1 → gC cI cJ cZ cMic cSrc cSt cAI cAJ D ad A s.heap H1 locs1 T1 → W p l e R s m args below meth c H1 locs1 (cells + 0) (slots + 0) Q (F0 m (pc + 3) ls rest)) : W p l e R s m args below meth c H locs cells slots Q (F0 m pc ls st) := by
  obtain ⟨hx, hb, hts, hown, hK⟩ := E
  obtain ⟨hP, hD, hS⟩ := G
  have hFc := va_free (wc := cW ad T.1 (cc cI cJ cZ cMic cSrc cSt cAI cAJ ad T)) hD hS hA (List.range T.1) (cW_all ad T.1 (cc cI cJ cZ cMic cSrc cSt cAI cAJ ad T))
  refine va_callv (va_runS (As := As) (rest := rest) ⟨hx, hb, hml, hown, hts⟩ (hM H.size) cw ⟨fun a U g mk q => by obtain ⟨q0, q1, qP, qK, qD, qX, qN⟩ := q; exact ⟨q0, q1, qP, va_K.moved (u := U) (U := U.calling g mk a) (Vm.Alike.refl U.vm) qK, qD, qX.blind, nX.moved U (U.calling g mk a) (State.WarmedH.refl U) qN⟩, fun U hU hW => ⟨rfl, by rw [hU], by rw [hU]; exact hP, va_K.moved hW.alike hK, hD.weaken (fun _ _ _ _ => trivial), hX.go hW hU hS hFc, nX.moved s U hW hN⟩⟩ rfl hn hsz hst hW hdg hf) hS (fun q _ h => hFc q h) hFc (fun u t H1 locs1 ht hvm hw hB hz1 hk1 hS => ?_)
  obtain ⟨hP1, hK1, hD1⟩ := hB
  rw [ht] at hP1
  obtain ⟨hP2, hD2⟩ := va_join (wr := []) (w1 := cW ad u.1 (cc cI cJ cZ cMic cSrc cSt cAI cAJ ad u)) hP hD (List.range T.1) [] (cW_all ad T.1 (cc cI cJ cZ cMic cSrc cSt cAI cAJ ad T)) rfl rfl (fun i hi => absurd hi List.not_mem_nil) hk1 hFc hP1 hD1
  exact kk u H1 locs1 hw ⟨hP2, hD2, hS⟩
/-- Met.ofW where the class is one whose rows the machine has of its own (java/lang/Math), the method not -/
theorem met_ofF {l : Launch} {y : MethodName} {ws ws' : List Cond} {rm : Room} {Pc : Array Value → State → Prop} {Qc : Array Value → State → Outcome → State → Prop} {mc ms : Nat} {free : Addr → Prop} {cc : ByteArray} {maxL : Nat} {ret : Option FieldType} (hy : plainFor y = true) (hw : ws = Cond.code y cc maxL ret :: ws') (body : ∀ p e s m args below meth c s₁, BodyLoose p l y (headSpec ws rm) cc maxL ret e s m args below meth c s₁ → c.maxLocals = maxL → Pc args s → W p l e (headSpec ws rm).room s m args below meth c s.heap [] 0 0 (MQ below Qc args s mc ms free) (entryFrame m args maxL)) : Met l y ws rm Pc Qc mc ms free := by
  refine MetFree.of_bodySF (code := cc) (maxLocals := maxL) (ret := ret) hy (fun args s m h hn => ?_) (fun p e s m args below meth c s₁ B hml hP _ => ?_)
  · obtain ⟨meth, c, h1, h2, h3, h4, h5, h6, -, -⟩ := Cond.code_spec hn (atoms_spec (ws := ws) h _ (by rw [hw]; exact List.mem_cons_self))
    exact ⟨meth, c, h1, h2, h3, h4, h5, h6⟩
  · have hh0 : s₁.heap = s.heap := by rw [B.state]; rfl
    obtain ⟨t, a1, o, b1, b2, b3⟩ := body p e s m args below meth c s₁ B hml hP s₁ hh0 (Stand.of_body B)
    exact ⟨t, o, a1, b1, b2, ⟨b3.1, b3.2⟩⟩
/-- no cell is made, none gets another kind, no reference is written -/
def SP (T T1 : AT) : Prop := T1.1 = T.1 ∧ T1.2.1 = T.2.1 ∧ T1.2.2.2.2 = T.2.2.2.2
theorem SP.rf (T : AT) : SP T T := ⟨rfl, rfl, rfl⟩
theorem SP.tr {T T1 T2 : AT} (h : SP T T1) (k : SP T1 T2) : SP T T2 := ⟨k.1.trans h.1, k.2.1.trans h.2.1, k.2.2.trans h.2.2⟩
theorem sp_uI {T : AT} {n k : Nat} {v : Int32} : SP T (uI T n k v) := ⟨rfl, rfl, rfl⟩
theorem sp_uJ {T : AT} {n k : Nat} {v : Int64} : SP T (uJ T n k v) := ⟨rfl, rfl, rfl⟩
theorem oif_or {β : Type} {c : Prop} [Decidable c] {x z : Option β} {y : β} (h : (if c then x else z) = some y) : (c ∧ x = some y) ∨ (¬ c ∧ z = some y) := by
  by_cases hc : c
  · rw [if_pos hc] at h
    exact .inl ⟨hc, h⟩
  · rw [if_neg hc] at h
    exact .inr ⟨hc, h⟩
def uC (T : AT) (a b k : Nat) : AT := (T.1, T.2.1, T.2.2.1, va_up T.2.2.2.1 b (va_cpy (T.2.2.2.1 a) (T.2.2.2.1 b) 0 0 k), T.2.2.2.2)
theorem sp_uC {T : AT} {a b k : Nat} : SP T (uC T a b k) := ⟨rfl, rfl, rfl⟩
theorem q_copyl {p : Program} {l : Launch} {e : Env} {R : Room} {s : State} {m : MethodId} {args : Array Value} {below : List Frame} {meth : Method} {c : Code} {H : Heap} {locs : List Loc} {cells slots : Nat} {Q : State → Prop} {cc0 : ByteArray} {pc : Nat} {ls : Array Slot} {rest : List Value} {D : va_G} {A : Nat → Prop} {Ts : List Cond} {own : String} {cI cJ cZ cMic cSrc cSt cAI cAJ : ClassId} {ad : Nat → Nat} {T : AT} (E : cE p c cc0 s m args Ts D own (CT cI cJ cZ cMic cSrc cSt cAI cAJ)) (G : gC cI cJ cZ cMic cSrc cSt cAI cAJ D ad A s.heap H locs T) (a b : Nat) {n : Int32} {index : Nat} (ha : a < T.1) (hb2 : b < T.1) (ka : (T.2.1 a).1 = 101) (kb : (T.2.1 b).1 = 101) (hn : 0 ≤ n) (h4 : n.toNatClampNeg ≤ (T.2.1 a).2) (h5 : n.toNatClampNeg ≤ (T.2.1 b).2) (hml : c.maxLocals = ls.size) (hlink : (Cond.methodLink own index arraycopyName).before args s = true) (hnat : (Cond.native arraycopyName).before args s = true) (hstat : (Cond.static arraycopyName).before args s = true) (hini : (Cond.initialized "java/lang/System").before args s = true) (hframes : 1 ≤ R.frames) (hlocals : (rest.map fun v => v.category).sum + (nativeFrameWords "java/lang/System" "arraycopy" 5 + 11) ≤ R.locals) (hdg : decode cc0 pc = .ok (.invokestatic index, 3)) (kk : ∀ (H1 : Heap) (locs1 : List Loc), gC cI cJ cZ cMic cSrc cSt cAI cAJ D ad A s.heap H1 locs1 (uC T a b n.toNatClampNeg) → W p l e R s m args below meth c H1 locs1 cells slots Q (F0 m (pc + 3) ls rest)) : W p l e R s m args below meth c H locs cells slots Q (F0 m pc ls (.int n :: .int 0 :: .ref (ad b) :: .int 0 :: .ref (ad a) :: rest)) := by
  refine va_copyl E.1 E.2.1 hml E.2.2.2.1 hlink hnat hstat hini E.2.2.2.2 G.1 G.2.1 G.2.2 a b 1 1 (cW_e ha (cc_a101 ka)) (cW_e hb2 (cc_a101 kb)) rfl rfl rfl (by decide) (by decide) (Int32.not_lt.mpr hn) (by show 0 + _ ≤ _; omega) (by show 0 + _ ≤ _; omega) (fun _ _ => rfl) hframes hlocals hdg (fun H1 locs1 h1 h2 h3 => kk H1 locs1 ?_)
  have e := cW_set (ad := ad) (S := cc cI cJ cZ cMic cSrc cSt cAI cAJ ad T) (e := (.inl (cJ, (T.2.1 b).2, .inr (.inl (va_cpy (T.2.2.2.1 a) (T.2.2.2.1 b) 0 0 n.toNatClampNeg))) : va_E)) hb2
  rw [show (0 : Int32).toNatClampNeg = 0 from by decide] at h1 h2
  rw [e] at h1 h2
  exact gC_up_j (f := va_cpy (T.2.2.2.1 a) (T.2.2.2.1 b) 0 0 n.toNatClampNeg) (ccv_101 kb) ⟨h1, h2, h3⟩
def RC (T : AT) : Prop := ∀ n k q, T.2.2.2.2 n k = some q → q < T.1
def newJ (T : AT) (K : Nat) : AT := (T.1 + 1, va_up T.2.1 T.1 (101, K), T.2.2.1, va_up T.2.2.2.1 T.1 (fun _ => 0), T.2.2.2.2)
def sgA (f : Nat → Nat × Nat) : Nat → Nat
  | 0 => 0
  | n + 1 => sgA f n + (f n).2
def sg (T : AT) : Nat := sgA T.2.1 T.1
def GL (T T1 : AT) : Prop := T.1 ≤ T1.1 ∧ (∀ n, n < T.1 → T1.2.1 n = T.2.1 n) ∧ (RC T → RC T1)
theorem GL.rf (T : AT) : GL T T := ⟨Nat.le_refl _, fun _ _ => rfl, fun h => h⟩
theorem GL.tr {T T1 T2 : AT} (h : GL T T1) (k : GL T1 T2) : GL T T2 := ⟨Nat.le_trans h.1 k.1, fun n hn => (k.2.1 n (Nat.lt_of_lt_of_le hn h.1)).trans (h.2.1 n hn), fun q => k.2.2 (h.2.2 q)⟩
theorem gl_sp {T T1 : AT} (h : SP T T1) : GL T T1 := ⟨Nat.le_of_eq h.1.symm, fun n _ => congrFun h.2.1 n, fun q n k x hx => by rw [h.1]; exact q n k x (by rw [← h.2.2]; exact hx)⟩
theorem gl_uR {T : AT} {n k x : Nat} (hx : x < T.1) : GL T (uR T n k x) := by
  refine ⟨Nat.le_refl _, fun _ _ => rfl, fun q m j y hy => ?_⟩
  show y < T.1
  have hy : va_up T.2.2.2.2 n (va_up (T.2.2.2.2 n) k (some x)) m j = some y := hy
  by_cases e : m = n
  · subst e
    rw [va_up_self] at hy
    by_cases e2 : j = k
    · subst e2
      rw [va_up_self] at hy
      cases hy
      exact hx
    · rw [va_up_ne _ _ e2] at hy
      exact q m j y hy
  · rw [va_up_ne _ _ e] at hy
    exact q m j y hy
theorem gl_newJ {T : AT} {K : Nat} : GL T (newJ T K) := ⟨Nat.le_succ _, fun n hn => va_up_ne T.2.1 _ (Nat.ne_of_lt hn), fun q n k x hx => Nat.lt_succ_of_lt (q n k x hx)⟩
theorem sgA_congr {f g : Nat → Nat × Nat} : ∀ N, (∀ n, n < N → f n = g n) → sgA f N = sgA g N
  | 0, _ => rfl
  | N + 1, h => by
    show sgA f N + (f N).2 = sgA g N + (g N).2
    rw [sgA_congr N (fun n hn => h n (Nat.lt_succ_of_lt hn)), h N (Nat.lt_succ_self N)]
theorem sgA_mono {f : Nat → Nat × Nat} {a b : Nat} (h : a ≤ b) : sgA f a ≤ sgA f b := by
  induction h with
  | refl => exact Nat.le_refl _
  | step _ ih => exact Nat.le_trans ih (Nat.le_add_right _ _)
theorem sg_le {T T1 : AT} (h : GL T T1) : sg T ≤ sg T1 := by
  unfold sg
  rw [← sgA_congr T.1 h.2.1]
  exact sgA_mono h.1
theorem sg_newJ {T : AT} {K : Nat} : sg (newJ T K) = sg T + K := by
  show sgA (va_up T.2.1 T.1 (101, K)) T.1 + (va_up T.2.1 T.1 (101, K) T.1).2 = sg T + K
  rw [va_up_self, sgA_congr (g := T.2.1) T.1 (fun n hn => va_up_ne T.2.1 _ (Nat.ne_of_lt hn))]
  rfl
def CPR (Tb T : AT) : Prop := T.1 = Tb.1 ∧ T.2.1 = Tb.2.1 ∧ RC T
theorem cpr0 {T : AT} (h : RC T) : CPR T T := ⟨rfl, rfl, h⟩
theorem cpr_sp {Tb T T2 : AT} (h : CPR Tb T) (k : SP T T2) : CPR Tb T2 := ⟨k.1.trans h.1, k.2.1.trans h.2.1, (gl_sp k).2.2 h.2.2⟩
theorem cpr_uR {Tb T : AT} {n k x : Nat} (h : CPR Tb T) (hx : x < T.1) : CPR Tb (uR T n k x) := ⟨h.1, h.2.1, (gl_uR hx).2.2 h.2.2⟩
theorem sg_cpr {Tb T : AT} (h : CPR Tb T) : sg T = sg Tb := by
  unfold sg
  rw [h.1, h.2.1]
theorem gl_cpr {T0 Tb T : AT} (h : GL T0 Tb) (k : CPR Tb T) : GL T0 T := ⟨by rw [k.1]; exact h.1, fun n hn => by rw [k.2.1]; exact h.2.1 n hn, fun _ => k.2.2⟩
theorem cs_ok {T0 T T1 : AT} (_ : GL T0 T) (k : GL T T1) : (T.1 - T0.1) + 0 ≤ T1.1 - T0.1 ∧ (sg T - sg T0) + 0 ≤ sg T1 - sg T0 := ⟨Nat.sub_le_sub_right k.1 _, Nat.sub_le_sub_right (sg_le k) _⟩
theorem cs_okx {T0 T T1 : AT} (h : GL T0 T) (k : GL T T1) : (T.1 - T0.1) + 0 ≤ T1.1 - T0.1 + 1 ∧ (sg T - sg T0) + 0 ≤ sg T1 - sg T0 + 6 := ⟨Nat.le_trans (cs_ok h k).1 (Nat.le_add_right _ _), Nat.le_trans (cs_ok h k).2 (Nat.le_add_right _ _)⟩
theorem cs_okx1 {T0 T T1 : AT} (h : GL T0 T) (k : GL T T1) : (T.1 - T0.1) + 1 ≤ T1.1 - T0.1 + 1 ∧ (sg T - sg T0) + 6 ≤ sg T1 - sg T0 + 6 := ⟨Nat.add_le_add_right (cs_ok h k).1 _, Nat.add_le_add_right (cs_ok h k).2 _⟩
theorem cs_new {T0 Tb T T1 T2 : AT} {K : Nat} (h : GL T0 Tb) (c : CPR Tb T) (k : GL T2 T1) (e1 : T2.1 = T.1 + 1) (e2 : sg T2 = sg T + K) : (Tb.1 - T0.1) + 1 ≤ T1.1 - T0.1 ∧ (sg Tb - sg T0) + K ≤ sg T1 - sg T0 := by
  have a := h.1
  have b := k.1
  have c1 := sg_le h
  have d := sg_le k
  have x := c.1
  have y := sg_cpr c
  exact ⟨by omega, by omega⟩
theorem cs_e1 {T0 Tb T T2 : AT} (h : GL T0 Tb) (c : CPR Tb T) (e1 : T2.1 = T.1 + 1) : (Tb.1 - T0.1) + 1 = T2.1 - T0.1 := by
  have a := h.1
  have x := c.1
  omega
theorem cs_e2 {T0 Tb T T2 : AT} {K : Nat} (h : GL T0 Tb) (c : CPR Tb T) (e2 : sg T2 = sg T + K) : (sg Tb - sg T0) + K = sg T2 - sg T0 := by
  have a := sg_le h
  have x := sg_cpr c
  omega
theorem cs_f1 {T0 Tb T T2 : AT} (h : GL T0 Tb) (c : CPR Tb T) (g : GL T T2) : (Tb.1 - T0.1) + (T2.1 - T.1) = T2.1 - T0.1 := by
  have a := h.1
  have x := c.1
  have y := g.1
  omega
theorem cs_f2 {T0 Tb T T2 : AT} (h : GL T0 Tb) (c : CPR Tb T) (g : GL T T2) : (sg Tb - sg T0) + (sg T2 - sg T) = sg T2 - sg T0 := by
  have a := sg_le h
  have x := sg_cpr c
  have y := sg_le g
  omega
theorem cs_av {T0 Tb T T1 T2 : AT} (h : GL T0 Tb) (c : CPR Tb T) (g : GL T T2) (k : GL T2 T1) : (Tb.1 - T0.1) + (T2.1 - T.1) ≤ T1.1 - T0.1 ∧ (sg Tb - sg T0) + (sg T2 - sg T) ≤ sg T1 - sg T0 := by
  rw [cs_f1 h c g, cs_f2 h c g]
  exact ⟨Nat.sub_le_sub_right k.1 _, Nat.sub_le_sub_right (sg_le k) _⟩
theorem cs_avx {T0 Tb T T1 T2 : AT} (h : GL T0 Tb) (c : CPR Tb T) (g : GL T T2) (k : GL T2 T1) : (Tb.1 - T0.1) + (T2.1 - T.1) ≤ T1.1 - T0.1 + 1 ∧ (sg Tb - sg T0) + (sg T2 - sg T) ≤ sg T1 - sg T0 + 6 := ⟨Nat.le_trans (cs_av h c g k).1 (Nat.le_add_right _ _), Nat.le_trans (cs_av h c g k).2 (Nat.le_add_right _ _)⟩
theorem w_cast {p : Program} {l : Launch} {e : Env} {R : Room} {s : State} {m : MethodId} {args : Array Value} {below : List Frame} {meth : Method} {c : Code} {H : Heap} {locs : List Loc} {Q : State → Prop} {g : JFrame} {c1 c2 s1 s2 : Nat} (hc : c1 = c2) (hs : s1 = s2) (k : W p l e R s m args below meth c H locs c2 s2 Q g) : W p l e R s m args below meth c H locs c1 s1 Q g := by
  subst hc
  subst hs
  exact k
theorem w_st {p : Program} {l : Launch} {e : Env} {R : Room} {s : State} {m : MethodId} {args : Array Value} {below : List Frame} {meth : Method} {c : Code} {H : Heap} {locs : List Loc} {cells slots : Nat} {Q : State → Prop} {pc : Nat} {ls : Array Slot} {st1 st2 : List Value} (h : st1 = st2) (k : W p l e R s m args below meth c H locs cells slots Q (F0 m pc ls st2)) : W p l e R s m args below meth c H locs cells slots Q (F0 m pc ls st1) := by
  subst h
  exact k
theorem map_up {ad : Nat → Nat} {f : Nat → Option Nat} {k x : Nat} : (fun i => (va_up f k (some x) i).map ad) = va_up (fun i => (f i).map ad) k (some (ad x)) := by
  funext i
  by_cases q : i = k
  · subst q
    rw [va_up_self, va_up_self]
    rfl
  · rw [va_up_ne _ _ q, va_up_ne _ _ q]
theorem ccv_ad {cI cJ cZ cMic cSrc cSt cAI cAJ : ClassId} {ad : Nat → Nat} {ad2 : Nat → Nat} {sh : Nat × Nat} {vi : Nat → Int32} {vj : Nat → Int64} {vr : Nat → Option Nat} (h : ∀ k q, vr k = some q → ad2 q = ad q) : ccv cI cJ cZ cMic cSrc cSt cAI cAJ ad2 sh vi vj vr = ccv cI cJ cZ cMic cSrc cSt cAI cAJ ad sh vi vj vr := by
  have e : (fun k => (vr k).map ad2) = fun k => (vr k).map ad := by
    funext k
    cases hk : vr k with
    | none => rfl
    | some q => exact congrArg some (h k q hk)
  have e1 : ∀ k, (vr k).map ad2 = (vr k).map ad := fun k => congrFun e k
  unfold ccv
  simp only [e1]
theorem gC_new {cI cJ cZ cMic cSrc cSt cAI cAJ : ClassId} {ad : Nat → Nat} {D : va_G} {A : Nat → Prop} {H0 H : Heap} {locs : List Loc} {T : AT} {q K : Nat} (hrc : RC T) (G : cG D (cat T.1 ad (fun _ => q)) (T.1 + 1) A H0 H locs (cat T.1 (cc cI cJ cZ cMic cSrc cSt cAI cAJ ad T) (fun _ => .inl (cJ, K, .inr (.inl (fun _ => 0)))))) : gC cI cJ cZ cMic cSrc cSt cAI cAJ D (cat T.1 ad (fun _ => q)) A H0 H locs (newJ T K) := by
  have e : cW (cat T.1 ad (fun _ => q)) (T.1 + 1) (cat T.1 (cc cI cJ cZ cMic cSrc cSt cAI cAJ ad T) (fun _ => .inl (cJ, K, .inr (.inl (fun _ => 0))))) = cW (cat T.1 ad (fun _ => q)) (T.1 + 1) (cc cI cJ cZ cMic cSrc cSt cAI cAJ (cat T.1 ad (fun _ => q)) (newJ T K)) := by
    refine cW_congr (fun n hn => ?_)
    unfold cc
    show _ = ccv cI cJ cZ cMic cSrc cSt cAI cAJ (cat T.1 ad (fun _ => q)) (va_up T.2.1 T.1 (101, K) n) (T.2.2.1 n) (va_up T.2.2.2.1 T.1 (fun _ => 0) n) (T.2.2.2.2 n)
    rw [ccv_ad (ad2 := cat T.1 ad (fun _ => q)) (ad := ad) (fun k x hx => cat_lo (hrc n k x hx))]
    rcases Nat.lt_or_eq_of_le (Nat.le_of_lt_succ hn) with h1 | rfl
    · rw [cat_lo h1]
      show ccv cI cJ cZ cMic cSrc cSt cAI cAJ ad (T.2.1 n) (T.2.2.1 n) (T.2.2.2.1 n) (T.2.2.2.2 n) = ccv cI cJ cZ cMic cSrc cSt cAI cAJ ad (va_up T.2.1 T.1 (101, K) n) (T.2.2.1 n) (va_up T.2.2.2.1 T.1 (fun _ => 0) n) (T.2.2.2.2 n)
      rw [va_up_ne _ _ (Nat.ne_of_lt h1), va_up_ne _ _ (Nat.ne_of_lt h1)]
    · rw [cat_hi (Nat.le_refl _)]
      show _ = ccv cI cJ cZ cMic cSrc cSt cAI cAJ ad (va_up T.2.1 T.1 (101, K) T.1) (T.2.2.1 T.1) (va_up T.2.2.2.1 T.1 (fun _ => 0) T.1) (T.2.2.2.2 T.1)
      rw [va_up_self, va_up_self, ccv_101 rfl]
  obtain ⟨h1, h2, h3⟩ := G
  rw [e] at h1 h2
  exact ⟨h1, h2, h3⟩
def exn (e : Nat) : String := match e with
  | 0 => xISE
  | 1 => xIOB
  | _ => xIAE
def othr {α β : Type} (x : Option (Nat × α × AT)) (z : β) (f : α → AT → Option (Nat × β × AT)) : Option (Nat × β × AT) := match x with
  | none => none
  | some (0, r, T) => f r T
  | some (k + 1, _, T) => some (k + 1, z, T)
theorem osome3 {α β γ : Type} {a b : α} {x y : β} {u v : γ} (h : some (a, x, u) = some (b, y, v)) : a = b ∧ x = y ∧ u = v := ⟨congrArg Prod.fst (Option.some.inj h), congrArg (fun q => q.2.1) (Option.some.inj h), congrArg (fun q => q.2.2) (Option.some.inj h)⟩
theorem othr_n {α β : Type} {x : Option (Nat × α × AT)} {z : β} {f : α → AT → Option (Nat × β × AT)} {r1 : β} {T1 : AT} (h : othr x z f = some (0, r1, T1)) : ∃ r T, x = some (0, r, T) ∧ f r T = some (0, r1, T1) := by
  match x, h with
  | none, h => cases h
  | some (0, r, T), h => exact ⟨r, T, rfl, h⟩
  | some (k + 1, r, T), h => exact (Nat.succ_ne_zero _ (congrArg Prod.fst (Option.some.inj h))).elim
theorem othr_s {α β : Type} {x : Option (Nat × α × AT)} {z : β} {f : α → AT → Option (Nat × β × AT)} {e1 : Nat} {r1 : β} {T1 : AT} (h : othr x z f = some (e1, r1, T1)) : (∃ k r, x = some (k, r, T1) ∧ e1 = k) ∨ ∃ r T, x = some (0, r, T) ∧ f r T = some (e1, r1, T1) := by
  match x, h with
  | none, h => cases h
  | some (0, r, T), h => exact .inr ⟨r, T, rfl, h⟩
  | some (k + 1, r, T), h =>
    have h := osome3 h
    refine .inl ⟨k + 1, r, ?_, h.1.symm⟩
    rw [h.2.2]
theorem othr_t {α β : Type} {x : Option (Nat × α × AT)} {z : β} {f : α → AT → Option (Nat × β × AT)} {e1 : Nat} {r1 : β} {T1 : AT} (h : othr x z f = some (e1 + 1, r1, T1)) : (∃ r, x = some (e1 + 1, r, T1)) ∨ ∃ r T, x = some (0, r, T) ∧ f r T = some (e1 + 1, r1, T1) := by
  match x, h with
  | none, h => cases h
  | some (0, r, T), h => exact .inr ⟨r, T, rfl, h⟩
  | some (k + 1, r, T), h =>
    have h := osome3 h
    refine .inl ⟨r, ?_⟩
    rw [h.1, h.2.2]
abbrev kCr (l : Launch) (y : MethodName) (ws : List Cond) (fr lo : Nat) (cI cJ cZ cMic cSrc cSt cAI cAJ : ClassId) (D : va_G) (ad : Nat → Nat) (T : AT) (As : List Value) (post : AT → Prop) (n1 : Nat) : Prop := ∀ sz : Nat, Met l y ws { frames := fr, cells := 0, slots := 0, locals := lo } (va_Pc As (kB cI cJ cZ cMic cSrc cSt cAI cAJ D ad T sz)) (va_Qr post (fun u a t => a = ad n1 ∧ kAt cI cJ cZ cMic cSrc cSt cAI cAJ D ad (va_A (cW ad T.1 (cc cI cJ cZ cMic cSrc cSt cAI cAJ ad T)) sz) u t) (va_A (cW ad T.1 (cc cI cJ cZ cMic cSrc cSt cAI cAJ ad T)) sz)) 0 0 (va_A (cW ad T.1 (cc cI cJ cZ cMic cSrc cSt cAI cAJ ad T)) sz)
theorem q_cvr {p : Program} {l : Launch} {e : Env} {R : Room} {s : State} {m : MethodId} {args : Array Value} {below : List Frame} {meth : Method} {c : Code} {H : Heap} {locs : List Loc} {cells slots : Nat} {Q : State → Prop} {cc0 : ByteArray} {pc : Nat} {ls : Array Slot} {rest : List Value} {D : va_G} {A : Nat → Prop} {Ts : List Cond} {own : String} {cI cJ cZ cMic cSrc cSt cAI cAJ : ClassId} {ad : Nat → Nat} {T : AT} {y : MethodName} {bytes : ByteArray} {maxL nL n index fr lo : Nat} {ret : Option FieldType} {ws : List Cond} {As : List Value} {C : String} {TT : u_T} {nf ci q n1 : Nat} {fs : List Value} {post : AT → Prop} (E : cE p c cc0 s m args Ts D own (CT cI cJ cZ cMic cSrc cSt cAI cAJ)) (G : gC cI cJ cZ cMic cSrc cSt cAI cAJ D ad A s.heap H locs T) (hA : ∀ q, s.heap.size ≤ q → A q) (hX : xT A s) (hN : nX s) (hml : c.maxLocals = nL) (hM : kCr l y ws fr lo cI cJ cZ cMic cSrc cSt cAI cAJ D ad T (.ref (ad q) :: As) post n1) (cw : CallW R s args own C index y bytes maxL ret ws { frames := fr, cells := 0, slots := 0, locals := lo } 0 0 n) (hq : q < T.1) (hSq : cc cI cJ cZ cMic cSrc cSt cAI cAJ ad T q = .inr (ci, fs)) (hc : vwCl[ci]? = some (C, TT, nf)) (hn : As.length = n) (hsz : ls.size = nL) {st : List Value} (hst : st = As.reverse ++ .ref (ad q) :: rest) (hW : 2 * (F0 m pc ls st).monitorRoom + (rest.map fun v => v.category).sum ≤ 8) (hdg : decode cc0 pc = .ok (.invokevirtual index, 3)) (hf : cells + 0 ≤ R.cells ∧ slots + 0 ≤ R.slots) (kk : ∀ (T1 : AT) (H1 : Heap) (locs1 : List Loc), post T1 → gC cI cJ cZ cMic cSrc cSt cAI cAJ D ad A s.heap H1 locs1 T1 → W p l e R s m args below meth c H1 locs1 (cells + 0) (slots + 0) Q (F0 m (pc + 3) ls (.ref (ad n1) :: rest))) : W p l e R s m args below meth c H locs cells slots Q (F0 m pc ls st) := by
  obtain ⟨hx, hb, hts, hown, hK⟩ := E
  obtain ⟨hP, hD, hS⟩ := G
  have hFc := va_free (wc := cW ad T.1 (cc cI cJ cZ cMic cSrc cSt cAI cAJ ad T)) hD hS hA (List.range T.1) (cW_all ad T.1 (cc cI cJ cZ cMic cSrc cSt cAI cAJ ad T))
  refine va_callr (va_runV (As := As) (rest := rest) ⟨hx, hb, hml, hown, hts⟩ (hM H.size) cw ⟨fun a U g mk q => by obtain ⟨q0, q1, qP, qK, qD, qX, qN⟩ := q; exact ⟨q0, q1, qP, va_K.moved (u := U) (U := U.calling g mk a) (Vm.Alike.refl U.vm) qK, qD, qX.blind, nX.moved U (U.calling g mk a) (State.WarmedH.refl U) qN⟩, va_recv hK hP (ci := ci) (q0 := q) hc (cW_e hq hSq), fun U hU hW => ⟨rfl, by rw [hU], by rw [hU]; exact hP, va_K.moved hW.alike hK, hD.weaken (fun _ _ _ _ => trivial), hX.go hW hU hS hFc, nX.moved s U hW hN⟩⟩ rfl hn hsz hst hW hdg hf) hS (fun q _ h => hFc q h) hFc (fun u ra t H1 locs1 ht hvm hw hB hz1 hk1 hS => ?_)
  obtain ⟨ha, hP1, hK1, hD1⟩ := hB
  rw [ht] at hP1
  rw [ha]
  obtain ⟨hP2, hD2⟩ := va_join (wr := []) (w1 := cW ad u.1 (cc cI cJ cZ cMic cSrc cSt cAI cAJ ad u)) hP hD (List.range T.1) [] (cW_all ad T.1 (cc cI cJ cZ cMic cSrc cSt cAI cAJ ad T)) rfl rfl (fun i hi => absurd hi List.not_mem_nil) hk1 hFc hP1 hD1
  exact kk u H1 locs1 hw ⟨hP2, hD2, hS⟩
abbrev kXi (l : Launch) (y : MethodName) (ws : List Cond) (fr lo : Nat) (cI cJ cZ cMic cSrc cSt cAI cAJ : ClassId) (D : va_G) (ad : Nat → Nat) (T : AT) (As : List Value) (e1 : Nat) (T1 : AT) : Prop := ∀ sz : Nat, vx_Met l y ws { frames := fr, cells := 1, slots := 6, locals := lo } (va_Pc As (kB cI cJ cZ cMic cSrc cSt cAI cAJ D ad T sz)) (va_Qi (fun (_ : Int32) (_ : AT) => False) (kAt cI cJ cZ cMic cSrc cSt cAI cAJ D ad (va_A (cW ad T.1 (cc cI cJ cZ cMic cSrc cSt cAI cAJ ad T)) sz)) (va_A (cW ad T.1 (cc cI cJ cZ cMic cSrc cSt cAI cAJ ad T)) sz)) (vx_X (fun _ => True) (fun E u t => (E = exn e1 ∧ u = T1) ∧ kAt cI cJ cZ cMic cSrc cSt cAI cAJ D ad (va_A (cW ad T.1 (cc cI cJ cZ cMic cSrc cSt cAI cAJ ad T)) sz) u t) (va_A (cW ad T.1 (cc cI cJ cZ cMic cSrc cSt cAI cAJ ad T)) sz)) 1 6 (va_A (cW ad T.1 (cc cI cJ cZ cMic cSrc cSt cAI cAJ ad T)) sz)
theorem q_xvi {p : Program} {l : Launch} {e : Env} {R : Room} {s : State} {m : MethodId} {args : Array Value} {below : List Frame} {meth : Method} {c : Code} {H : Heap} {locs : List Loc} {cells slots : Nat} {Q : State → Prop} {cc0 : ByteArray} {pc : Nat} {ls : Array Slot} {rest : List Value} {D : va_G} {A : Nat → Prop} {Ts : List Cond} {own : String} {cI cJ cZ cMic cSrc cSt cAI cAJ : ClassId} {ad : Nat → Nat} {T : AT} {y : MethodName} {bytes : ByteArray} {maxL nL n index fr lo : Nat} {ret : Option FieldType} {ws : List Cond} {As : List Value} {C : String} {TT : u_T} {nf ci q : Nat} {fs : List Value} {e1 : Nat} {T1 : AT} (E : cE p c cc0 s m args Ts D own (CT cI cJ cZ cMic cSrc cSt cAI cAJ)) (G : gC cI cJ cZ cMic cSrc cSt cAI cAJ D ad A s.heap H locs T) (hA : ∀ q, s.heap.size ≤ q → A q) (hX : xT A s) (hN : nX s) (hml : c.maxLocals = nL) (hM : kXi l y ws fr lo cI cJ cZ cMic cSrc cSt cAI cAJ D ad T (.ref (ad q) :: As) e1 T1) (cw : CallW R s args own C index y bytes maxL ret ws { frames := fr, cells := 1, slots := 6, locals := lo } 1 6 n) (hq : q < T.1) (hSq : cc cI cJ cZ cMic cSrc cSt cAI cAJ ad T q = .inr (ci, fs)) (hc : vwCl[ci]? = some (C, TT, nf)) (hn : As.length = n) (hsz : ls.size = nL) {st : List Value} (hst : st = As.reverse ++ .ref (ad q) :: rest) (hW : 2 * (F0 m pc ls st).monitorRoom + (rest.map fun v => v.category).sum ≤ 8) (hdg : decode cc0 pc = .ok (.invokevirtual index, 3)) (hf : cells + 1 ≤ R.cells ∧ slots + 6 ≤ R.slots) (kx : ∀ (E9 : String) (ce : Cell) (q9 : Addr) (T9 : AT) (H1 : Heap) (locs1 : List Loc), E9 = exn e1 ∧ T9 = T1 → gC cI cJ cZ cMic cSrc cSt cAI cAJ D ad A s.heap H1 locs1 T9 → H1[q9]? = some ce → ce.vm = .none → s.vm.findClass E9 = some ce.cls → vx_W p l e R s m args below meth c H1 locs1 (cells + 1) (slots + 6) Q (F0 m pc ls rest) q9) : W p l e R s m args below meth c H locs cells slots Q (F0 m pc ls st) := by
  obtain ⟨hx, hb, hts, hown, hK⟩ := E
  obtain ⟨hP, hD, hS⟩ := G
  have hFc := va_free (wc := cW ad T.1 (cc cI cJ cZ cMic cSrc cSt cAI cAJ ad T)) hD hS hA (List.range T.1) (cW_all ad T.1 (cc cI cJ cZ cMic cSrc cSt cAI cAJ ad T))
  refine vx_calli (vx_runV (As := As) (rest := rest) ⟨hx, hb, hml, hown, hts⟩ (hM H.size) cw ⟨fun a U g mk q => by obtain ⟨q0, q1, qP, qK, qD, qX, qN⟩ := q; exact ⟨q0, q1, qP, va_K.moved (u := U) (U := U.calling g mk a) (Vm.Alike.refl U.vm) qK, qD, qX.blind, nX.moved U (U.calling g mk a) (State.WarmedH.refl U) qN⟩, va_recv hK hP (ci := ci) (q0 := q) hc (cW_e hq hSq), fun U hU hW => ⟨rfl, by rw [hU], by rw [hU]; exact hP, va_K.moved hW.alike hK, hD.weaken (fun _ _ _ _ => trivial), hX.go hW hU hS hFc, nX.moved s U hW hN⟩⟩ rfl hn hsz hst hW hdg hf) hS (fun q _ h => hFc q h) hFc (fun q _ h => hFc q h) (fun E9 ce q9 u t H1 locs1 ht hvm _ hB hz1 hk1 hS hce hcv hcl => ?_) (fun r u t H1 locs1 ht hvm hw hB hz1 hk1 hS => hw.elim)
  obtain ⟨hpx, hP1, hK1, hD1⟩ := hB
  rw [ht] at hP1
  obtain ⟨hP2, hD2⟩ := va_join (wr := []) (w1 := cW ad u.1 (cc cI cJ cZ cMic cSrc cSt cAI cAJ ad u)) hP hD (List.range T.1) [] (cW_all ad T.1 (cc cI cJ cZ cMic cSrc cSt cAI cAJ ad T)) rfl rfl (fun i hi => absurd hi List.not_mem_nil) hk1 hFc hP1 hD1
  exact kx E9 ce q9 u H1 locs1 hpx ⟨hP2, hD2, hS⟩ hce hcv hcl
abbrev kXv (l : Launch) (y : MethodName) (ws : List Cond) (fr lo : Nat) (cI cJ cZ cMic cSrc cSt cAI cAJ : ClassId) (D : va_G) (ad : Nat → Nat) (T : AT) (As : List Value) (e1 : Nat) (T1 : AT) : Prop := ∀ sz : Nat, vx_Met l y ws { frames := fr, cells := 1, slots := 6, locals := lo } (va_Pc As (kB cI cJ cZ cMic cSrc cSt cAI cAJ D ad T sz)) (va_Qv (fun (_ : AT) => False) (kAt cI cJ cZ cMic cSrc cSt cAI cAJ D ad (va_A (cW ad T.1 (cc cI cJ cZ cMic cSrc cSt cAI cAJ ad T)) sz)) (va_A (cW ad T.1 (cc cI cJ cZ cMic cSrc cSt cAI cAJ ad T)) sz)) (vx_X (fun _ => True) (fun E u t => (E = exn e1 ∧ u = T1) ∧ kAt cI cJ cZ cMic cSrc cSt cAI cAJ D ad (va_A (cW ad T.1 (cc cI cJ cZ cMic cSrc cSt cAI cAJ ad T)) sz) u t) (va_A (cW ad T.1 (cc cI cJ cZ cMic cSrc cSt cAI cAJ ad T)) sz)) 1 6 (va_A (cW ad T.1 (cc cI cJ cZ cMic cSrc cSt cAI cAJ ad T)) sz)
theorem q_xvv {p : Program} {l : Launch} {e : Env} {R : Room} {s : State} {m : MethodId} {args : Array Value} {below : List Frame} {meth : Method} {c : Code} {H : Heap} {locs : List Loc} {cells slots : Nat} {Q : State → Prop} {cc0 : ByteArray} {pc : Nat} {ls : Array Slot} {rest : List Value} {D : va_G} {A : Nat → Prop} {Ts : List Cond} {own : String} {cI cJ cZ cMic cSrc cSt cAI cAJ : ClassId} {ad : Nat → Nat} {T : AT} {y : MethodName} {bytes : ByteArray} {maxL nL n index fr lo : Nat} {ret : Option FieldType} {ws : List Cond} {As : List Value} {C : String} {TT : u_T} {nf ci q : Nat} {fs : List Value} {e1 : Nat} {T1 : AT} (E : cE p c cc0 s m args Ts D own (CT cI cJ cZ cMic cSrc cSt cAI cAJ)) (G : gC cI cJ cZ cMic cSrc cSt cAI cAJ D ad A s.heap H locs T) (hA : ∀ q, s.heap.size ≤ q → A q) (hX : xT A s) (hN : nX s) (hml : c.maxLocals = nL) (hM : kXv l y ws fr lo cI cJ cZ cMic cSrc cSt cAI cAJ D ad T (.ref (ad q) :: As) e1 T1) (cw : CallW R s args own C index y bytes maxL ret ws { frames := fr, cells := 1, slots := 6, locals := lo } 1 6 n) (hq : q < T.1) (hSq : cc cI cJ cZ cMic cSrc cSt cAI cAJ ad T q = .inr (ci, fs)) (hc : vwCl[ci]? = some (C, TT, nf)) (hn : As.length = n) (hsz : ls.size = nL) {st : List Value} (hst : st = As.reverse ++ .ref (ad q) :: rest) (hW : 2 * (F0 m pc ls st).monitorRoom + (rest.map fun v => v.category).sum ≤ 8) (hdg : decode cc0 pc = .ok (.invokevirtual index, 3)) (hf : cells + 1 ≤ R.cells ∧ slots + 6 ≤ R.slots) (kx : ∀ (E9 : String) (ce : Cell) (q9 : Addr) (T9 : AT) (H1 : Heap) (locs1 : List Loc), E9 = exn e1 ∧ T9 = T1 → gC cI cJ cZ cMic cSrc cSt cAI cAJ D ad A s.heap H1 locs1 T9 → H1[q9]? = some ce → ce.vm = .none → s.vm.findClass E9 = some ce.cls → vx_W p l e R s m args below meth c H1 locs1 (cells + 1) (slots + 6) Q (F0 m pc ls rest) q9) : W p l e R s m args below meth c H locs cells slots Q (F0 m pc ls st) := by
  obtain ⟨hx, hb, hts, hown, hK⟩ := E
  obtain ⟨hP, hD, hS⟩ := G
  have hFc := va_free (wc := cW ad T.1 (cc cI cJ cZ cMic cSrc cSt cAI cAJ ad T)) hD hS hA (List.range T.1) (cW_all ad T.1 (cc cI cJ cZ cMic cSrc cSt cAI cAJ ad T))
  refine vx_callv (vx_runV (As := As) (rest := rest) ⟨hx, hb, hml, hown, hts⟩ (hM H.size) cw ⟨fun a U g mk q => by obtain ⟨q0, q1, qP, qK, qD, qX, qN⟩ := q; exact ⟨q0, q1, qP, va_K.moved (u := U) (U := U.calling g mk a) (Vm.Alike.refl U.vm) qK, qD, qX.blind, nX.moved U (U.calling g mk a) (State.WarmedH.refl U) qN⟩, va_recv hK hP (ci := ci) (q0 := q) hc (cW_e hq hSq), fun U hU hW => ⟨rfl, by rw [hU], by rw [hU]; exact hP, va_K.moved hW.alike hK, hD.weaken (fun _ _ _ _ => trivial), hX.go hW hU hS hFc, nX.moved s U hW hN⟩⟩ rfl hn hsz hst hW hdg hf) hS (fun q _ h => hFc q h) hFc (fun q _ h => hFc q h) (fun E9 ce q9 u t H1 locs1 ht hvm _ hB hz1 hk1 hS hce hcv hcl => ?_) (fun u t H1 locs1 ht hvm hw hB hz1 hk1 hS => hw.elim)
  obtain ⟨hpx, hP1, hK1, hD1⟩ := hB
  rw [ht] at hP1
  obtain ⟨hP2, hD2⟩ := va_join (wr := []) (w1 := cW ad u.1 (cc cI cJ cZ cMic cSrc cSt cAI cAJ ad u)) hP hD (List.range T.1) [] (cW_all ad T.1 (cc cI cJ cZ cMic cSrc cSt cAI cAJ ad T)) rfl rfl (fun i hi => absurd hi List.not_mem_nil) hk1 hFc hP1 hD1
  exact kx E9 ce q9 u H1 locs1 hpx ⟨hP2, hD2, hS⟩ hce hcv hcl
theorem q_xsv {p : Program} {l : Launch} {e : Env} {R : Room} {s : State} {m : MethodId} {args : Array Value} {below : List Frame} {meth : Method} {c : Code} {H : Heap} {locs : List Loc} {cells slots : Nat} {Q : State → Prop} {cc0 : ByteArray} {pc : Nat} {ls : Array Slot} {rest : List Value} {D : va_G} {A : Nat → Prop} {Ts : List Cond} {own : String} {cI cJ cZ cMic cSrc cSt cAI cAJ : ClassId} {ad : Nat → Nat} {T : AT} {y : MethodName} {bytes : ByteArray} {maxL nL n index fr lo : Nat} {ret : Option FieldType} {ws : List Cond} {As : List Value} {e1 : Nat} {T1 : AT} (E : cE p c cc0 s m args Ts D own (CT cI cJ cZ cMic cSrc cSt cAI cAJ)) (G : gC cI cJ cZ cMic cSrc cSt cAI cAJ D ad A s.heap H locs T) (hA : ∀ q, s.heap.size ≤ q → A q) (hX : xT A s) (hN : nX s) (hml : c.maxLocals = nL) (hM : kXv l y ws fr lo cI cJ cZ cMic cSrc cSt cAI cAJ D ad T (As) e1 T1) (cw : CallB R s args own index y bytes maxL ret ws { frames := fr, cells := 1, slots := 6, locals := lo } 1 6 n ∧ (Cond.static y).before args s = true) (hn : As.length = n) (hsz : ls.size = nL) {st : List Value} (hst : st = As.reverse ++ rest) (hW : 2 * (F0 m pc ls st).monitorRoom + (rest.map fun v => v.category).sum ≤ 8) (hdg : decode cc0 pc = .ok (.invokestatic index, 3)) (hf : cells + 1 ≤ R.cells ∧ slots + 6 ≤ R.slots) (kx : ∀ (E9 : String) (ce : Cell) (q9 : Addr) (T9 : AT) (H1 : Heap) (locs1 : List Loc), E9 = exn e1 ∧ T9 = T1 → gC cI cJ cZ cMic cSrc cSt cAI cAJ D ad A s.heap H1 locs1 T9 → H1[q9]? = some ce → ce.vm = .none → s.vm.findClass E9 = some ce.cls → vx_W p l e R s m args below meth c H1 locs1 (cells + 1) (slots + 6) Q (F0 m pc ls rest) q9) : W p l e R s m args below meth c H locs cells slots Q (F0 m pc ls st) := by
  obtain ⟨hx, hb, hts, hown, hK⟩ := E
  obtain ⟨hP, hD, hS⟩ := G
  have hFc := va_free (wc := cW ad T.1 (cc cI cJ cZ cMic cSrc cSt cAI cAJ ad T)) hD hS hA (List.range T.1) (cW_all ad T.1 (cc cI cJ cZ cMic cSrc cSt cAI cAJ ad T))
  refine vx_callv (vx_runS (As := As) (rest := rest) ⟨hx, hb, hml, hown, hts⟩ (hM H.size) cw ⟨fun a U g mk q => by obtain ⟨q0, q1, qP, qK, qD, qX, qN⟩ := q; exact ⟨q0, q1, qP, va_K.moved (u := U) (U := U.calling g mk a) (Vm.Alike.refl U.vm) qK, qD, qX.blind, nX.moved U (U.calling g mk a) (State.WarmedH.refl U) qN⟩, fun U hU hW => ⟨rfl, by rw [hU], by rw [hU]; exact hP, va_K.moved hW.alike hK, hD.weaken (fun _ _ _ _ => trivial), hX.go hW hU hS hFc, nX.moved s U hW hN⟩⟩ rfl hn hsz hst hW hdg hf) hS (fun q _ h => hFc q h) hFc (fun q _ h => hFc q h) (fun E9 ce q9 u t H1 locs1 ht hvm _ hB hz1 hk1 hS hce hcv hcl => ?_) (fun u t H1 locs1 ht hvm hw hB hz1 hk1 hS => hw.elim)
  obtain ⟨hpx, hP1, hK1, hD1⟩ := hB
  rw [ht] at hP1
  obtain ⟨hP2, hD2⟩ := va_join (wr := []) (w1 := cW ad u.1 (cc cI cJ cZ cMic cSrc cSt cAI cAJ ad u)) hP hD (List.range T.1) [] (cW_all ad T.1 (cc cI cJ cZ cMic cSrc cSt cAI cAJ ad T)) rfl rfl (fun i hi => absurd hi List.not_mem_nil) hk1 hFc hP1 hD1
  exact kx E9 ce q9 u H1 locs1 hpx ⟨hP2, hD2, hS⟩ hce hcv hcl
abbrev kAi (l : Launch) (y : MethodName) (ws : List Cond) (fr lo : Nat) (cI cJ cZ cMic cSrc cSt cAI cAJ : ClassId) (D : va_G) (ad : Nat → Nat) (T : AT) (As : List Value) (r1 : Int32) (T1 : AT) : Prop := ∀ sz : Nat, Met l y ws { frames := fr, cells := T1.1 - T.1, slots := sg T1 - sg T, locals := lo } (va_Pc As (kB cI cJ cZ cMic cSrc cSt cAI cAJ D ad T sz)) (va_Qi (fun r (u : AT × (Nat → Nat)) => r = r1 ∧ u.1 = T1 ∧ ∀ n, n < T.1 → u.2 n = ad n) (fun (u : AT × (Nat → Nat)) t => kAt cI cJ cZ cMic cSrc cSt cAI cAJ D u.2 (va_A (cW ad T.1 (cc cI cJ cZ cMic cSrc cSt cAI cAJ ad T)) sz) u.1 t) (va_A (cW ad T.1 (cc cI cJ cZ cMic cSrc cSt cAI cAJ ad T)) sz)) (T1.1 - T.1) (sg T1 - sg T) (va_A (cW ad T.1 (cc cI cJ cZ cMic cSrc cSt cAI cAJ ad T)) sz)
theorem q_avi {p : Program} {l : Launch} {e : Env} {R : Room} {s : State} {m : MethodId} {args : Array Value} {below : List Frame} {meth : Method} {c : Code} {H : Heap} {locs : List Loc} {cells slots : Nat} {Q : State → Prop} {cc0 : ByteArray} {pc : Nat} {ls : Array Slot} {rest : List Value} {D : va_G} {A : Nat → Prop} {Ts : List Cond} {own : String} {cI cJ cZ cMic cSrc cSt cAI cAJ : ClassId} {ad : Nat → Nat} {T : AT} {y : MethodName} {bytes : ByteArray} {maxL nL n index fr lo : Nat} {ret : Option FieldType} {ws : List Cond} {As : List Value} {C : String} {TT : u_T} {nf ci q : Nat} {fs : List Value} {r1 : Int32} {T1 : AT} (E : cE p c cc0 s m args Ts D own (CT cI cJ cZ cMic cSrc cSt cAI cAJ)) (G : gC cI cJ cZ cMic cSrc cSt cAI cAJ D ad A s.heap H locs T) (hA : ∀ q, s.heap.size ≤ q → A q) (hX : xT A s) (hN : nX s) (hml : c.maxLocals = nL) (hM : kAi l y ws fr lo cI cJ cZ cMic cSrc cSt cAI cAJ D ad T (.ref (ad q) :: As) r1 T1) (cw : CallW R s args own C index y bytes maxL ret ws { frames := fr, cells := T1.1 - T.1, slots := sg T1 - sg T, locals := lo } (T1.1 - T.1) (sg T1 - sg T) n) (hq : q < T.1) (hSq : cc cI cJ cZ cMic cSrc cSt cAI cAJ ad T q = .inr (ci, fs)) (hc : vwCl[ci]? = some (C, TT, nf)) (hn : As.length = n) (hsz : ls.size = nL) {st : List Value} (hst : st = As.reverse ++ .ref (ad q) :: rest) (hW : 2 * (F0 m pc ls st).monitorRoom + (rest.map fun v => v.category).sum ≤ 8) (hdg : decode cc0 pc = .ok (.invokevirtual index, 3)) (hf : cells + (T1.1 - T.1) ≤ R.cells ∧ slots + (sg T1 - sg T) ≤ R.slots) (kk : ∀ (ad2 : Nat → Nat) (H1 : Heap) (locs1 : List Loc), (∀ n, n < T.1 → ad2 n = ad n) → gC cI cJ cZ cMic cSrc cSt cAI cAJ D ad2 A s.heap H1 locs1 T1 → W p l e R s m args below meth c H1 locs1 (cells + (T1.1 - T.1)) (slots + (sg T1 - sg T)) Q (F0 m (pc + 3) ls (.int r1 :: rest))) : W p l e R s m args below meth c H locs cells slots Q (F0 m pc ls st) := by
  obtain ⟨hx, hb, hts, hown, hK⟩ := E
  obtain ⟨hP, hD, hS⟩ := G
  have hFc := va_free (wc := cW ad T.1 (cc cI cJ cZ cMic cSrc cSt cAI cAJ ad T)) hD hS hA (List.range T.1) (cW_all ad T.1 (cc cI cJ cZ cMic cSrc cSt cAI cAJ ad T))
  refine va_calli (va_runV (As := As) (rest := rest) ⟨hx, hb, hml, hown, hts⟩ (hM H.size) cw ⟨fun a U g mk q => by obtain ⟨q0, q1, qP, qK, qD, qX, qN⟩ := q; exact ⟨q0, q1, qP, va_K.moved (u := U) (U := U.calling g mk a) (Vm.Alike.refl U.vm) qK, qD, qX.blind, nX.moved U (U.calling g mk a) (State.WarmedH.refl U) qN⟩, va_recv hK hP (ci := ci) (q0 := q) hc (cW_e hq hSq), fun U hU hW => ⟨rfl, by rw [hU], by rw [hU]; exact hP, va_K.moved hW.alike hK, hD.weaken (fun _ _ _ _ => trivial), hX.go hW hU hS hFc, nX.moved s U hW hN⟩⟩ rfl hn hsz hst hW hdg hf) hS (fun q _ h => hFc q h) hFc (fun r u t H1 locs1 ht hvm hw hB hz1 hk1 hS => ?_)
  obtain ⟨u1, u2⟩ := u
  obtain ⟨hw1, hw2, hw3⟩ := hw
  have hw2 : u1 = T1 := hw2
  obtain ⟨hP1, hK1, hD1⟩ := hB
  rw [ht] at hP1
  obtain ⟨hP2, hD2⟩ := va_join (wr := []) (w1 := cW u2 u1.1 (cc cI cJ cZ cMic cSrc cSt cAI cAJ u2 u1)) hP hD (List.range T.1) [] (cW_all ad T.1 (cc cI cJ cZ cMic cSrc cSt cAI cAJ ad T)) rfl rfl (fun i hi => absurd hi List.not_mem_nil) hk1 hFc hP1 hD1
  rw [hw1]
  rw [hw2] at hP2 hD2
  exact kk u2 H1 locs1 hw3 ⟨hP2, hD2, hS⟩
abbrev kAXi (l : Launch) (y : MethodName) (ws : List Cond) (fr lo : Nat) (cI cJ cZ cMic cSrc cSt cAI cAJ : ClassId) (D : va_G) (ad : Nat → Nat) (T : AT) (As : List Value) (e1 : Nat) (T1 : AT) : Prop := ∀ sz : Nat, vx_Met l y ws { frames := fr, cells := T1.1 - T.1 + 1, slots := sg T1 - sg T + 6, locals := lo } (va_Pc As (kB cI cJ cZ cMic cSrc cSt cAI cAJ D ad T sz)) (va_Qi (fun (_ : Int32) (_ : AT × (Nat → Nat)) => False) (fun (u : AT × (Nat → Nat)) t => kAt cI cJ cZ cMic cSrc cSt cAI cAJ D u.2 (va_A (cW ad T.1 (cc cI cJ cZ cMic cSrc cSt cAI cAJ ad T)) sz) u.1 t) (va_A (cW ad T.1 (cc cI cJ cZ cMic cSrc cSt cAI cAJ ad T)) sz)) (vx_X (fun _ => True) (fun E (u : AT × (Nat → Nat)) t => (E = exn e1 ∧ u.1 = T1 ∧ ∀ n, n < T.1 → u.2 n = ad n) ∧ kAt cI cJ cZ cMic cSrc cSt cAI cAJ D u.2 (va_A (cW ad T.1 (cc cI cJ cZ cMic cSrc cSt cAI cAJ ad T)) sz) u.1 t) (va_A (cW ad T.1 (cc cI cJ cZ cMic cSrc cSt cAI cAJ ad T)) sz)) (T1.1 - T.1 + 1) (sg T1 - sg T + 6) (va_A (cW ad T.1 (cc cI cJ cZ cMic cSrc cSt cAI cAJ ad T)) sz)
abbrev kAl (l : Launch) (y : MethodName) (ws : List Cond) (fr lo : Nat) (cI cJ cZ cMic cSrc cSt cAI cAJ : ClassId) (D : va_G) (ad : Nat → Nat) (T : AT) (As : List Value) (r1 : Int64) (T1 : AT) : Prop := ∀ sz : Nat, Met l y ws { frames := fr, cells := T1.1 - T.1, slots := sg T1 - sg T, locals := lo } (va_Pc As (kB cI cJ cZ cMic cSrc cSt cAI cAJ D ad T sz)) (va_Ql (fun r (u : AT × (Nat → Nat)) => r = r1 ∧ u.1 = T1 ∧ ∀ n, n < T.1 → u.2 n = ad n) (fun (u : AT × (Nat → Nat)) t => kAt cI cJ cZ cMic cSrc cSt cAI cAJ D u.2 (va_A (cW ad T.1 (cc cI cJ cZ cMic cSrc cSt cAI cAJ ad T)) sz) u.1 t) (va_A (cW ad T.1 (cc cI cJ cZ cMic cSrc cSt cAI cAJ ad T)) sz)) (T1.1 - T.1) (sg T1 - sg T) (va_A (cW ad T.1 (cc cI cJ cZ cMic cSrc cSt cAI cAJ ad T)) sz)
abbrev kAXl (l : Launch) (y : MethodName) (ws : List Cond) (fr lo : Nat) (cI cJ cZ cMic cSrc cSt cAI cAJ : ClassId) (D : va_G) (ad : Nat → Nat) (T : AT) (As : List Value) (e1 : Nat) (T1 : AT) : Prop := ∀ sz : Nat, vx_Met l y ws { frames := fr, cells := T1.1 - T.1 + 1, slots := sg T1 - sg T + 6, locals := lo } (va_Pc As (kB cI cJ cZ cMic cSrc cSt cAI cAJ D ad T sz)) (va_Ql (fun (_ : Int64) (_ : AT × (Nat → Nat)) => False) (fun (u : AT × (Nat → Nat)) t => kAt cI cJ cZ cMic cSrc cSt cAI cAJ D u.2 (va_A (cW ad T.1 (cc cI cJ cZ cMic cSrc cSt cAI cAJ ad T)) sz) u.1 t) (va_A (cW ad T.1 (cc cI cJ cZ cMic cSrc cSt cAI cAJ ad T)) sz)) (vx_X (fun _ => True) (fun E (u : AT × (Nat → Nat)) t => (E = exn e1 ∧ u.1 = T1 ∧ ∀ n, n < T.1 → u.2 n = ad n) ∧ kAt cI cJ cZ cMic cSrc cSt cAI cAJ D u.2 (va_A (cW ad T.1 (cc cI cJ cZ cMic cSrc cSt cAI cAJ ad T)) sz) u.1 t) (va_A (cW ad T.1 (cc cI cJ cZ cMic cSrc cSt cAI cAJ ad T)) sz)) (T1.1 - T.1 + 1) (sg T1 - sg T + 6) (va_A (cW ad T.1 (cc cI cJ cZ cMic cSrc cSt cAI cAJ ad T)) sz)
abbrev kAf (l : Launch) (y : MethodName) (ws : List Cond) (fr lo : Nat) (cI cJ cZ cMic cSrc cSt cAI cAJ : ClassId) (D : va_G) (ad : Nat → Nat) (T : AT) (As : List Value) (r1 : UInt32) (T1 : AT) : Prop := ∀ sz : Nat, Met l y ws { frames := fr, cells := T1.1 - T.1, slots := sg T1 - sg T, locals := lo } (va_Pc As (kB cI cJ cZ cMic cSrc cSt cAI cAJ D ad T sz)) (va_Qf (fun r (u : AT × (Nat → Nat)) => r = r1 ∧ u.1 = T1 ∧ ∀ n, n < T.1 → u.2 n = ad n) (fun (u : AT × (Nat → Nat)) t => kAt cI cJ cZ cMic cSrc cSt cAI cAJ D u.2 (va_A (cW ad T.1 (cc cI cJ cZ cMic cSrc cSt cAI cAJ ad T)) sz) u.1 t) (va_A (cW ad T.1 (cc cI cJ cZ cMic cSrc cSt cAI cAJ ad T)) sz)) (T1.1 - T.1) (sg T1 - sg T) (va_A (cW ad T.1 (cc cI cJ cZ cMic cSrc cSt cAI cAJ ad T)) sz)
abbrev kAXf (l : Launch) (y : MethodName) (ws : List Cond) (fr lo : Nat) (cI cJ cZ cMic cSrc cSt cAI cAJ : ClassId) (D : va_G) (ad : Nat → Nat) (T : AT) (As : List Value) (e1 : Nat) (T1 : AT) : Prop := ∀ sz : Nat, vx_Met l y ws { frames := fr, cells := T1.1 - T.1 + 1, slots := sg T1 - sg T + 6, locals := lo } (va_Pc As (kB cI cJ cZ cMic cSrc cSt cAI cAJ D ad T sz)) (va_Qf (fun (_ : UInt32) (_ : AT × (Nat → Nat)) => False) (fun (u : AT × (Nat → Nat)) t => kAt cI cJ cZ cMic cSrc cSt cAI cAJ D u.2 (va_A (cW ad T.1 (cc cI cJ cZ cMic cSrc cSt cAI cAJ ad T)) sz) u.1 t) (va_A (cW ad T.1 (cc cI cJ cZ cMic cSrc cSt cAI cAJ ad T)) sz)) (vx_X (fun _ => True) (fun E (u : AT × (Nat → Nat)) t => (E = exn e1 ∧ u.1 = T1 ∧ ∀ n, n < T.1 → u.2 n = ad n) ∧ kAt cI cJ cZ cMic cSrc cSt cAI cAJ D u.2 (va_A (cW ad T.1 (cc cI cJ cZ cMic cSrc cSt cAI cAJ ad T)) sz) u.1 t) (va_A (cW ad T.1 (cc cI cJ cZ cMic cSrc cSt cAI cAJ ad T)) sz)) (T1.1 - T.1 + 1) (sg T1 - sg T + 6) (va_A (cW ad T.1 (cc cI cJ cZ cMic cSrc cSt cAI cAJ ad T)) sz)
abbrev kAv (l : Launch) (y : MethodName) (ws : List Cond) (fr lo : Nat) (cI cJ cZ cMic cSrc cSt cAI cAJ : ClassId) (D : va_G) (ad : Nat → Nat) (T : AT) (As : List Value) (T1 : AT) : Prop := ∀ sz : Nat, Met l y ws { frames := fr, cells := T1.1 - T.1, slots := sg T1 - sg T, locals := lo } (va_Pc As (kB cI cJ cZ cMic cSrc cSt cAI cAJ D ad T sz)) (va_Qv (fun (u : AT × (Nat → Nat)) => u.1 = T1 ∧ ∀ n, n < T.1 → u.2 n = ad n) (fun (u : AT × (Nat → Nat)) t => kAt cI cJ cZ cMic cSrc cSt cAI cAJ D u.2 (va_A (cW ad T.1 (cc cI cJ cZ cMic cSrc cSt cAI cAJ ad T)) sz) u.1 t) (va_A (cW ad T.1 (cc cI cJ cZ cMic cSrc cSt cAI cAJ ad T)) sz)) (T1.1 - T.1) (sg T1 - sg T) (va_A (cW ad T.1 (cc cI cJ cZ cMic cSrc cSt cAI cAJ ad T)) sz)
theorem q_avv {p : Program} {l : Launch} {e : Env} {R : Room} {s : State} {m : MethodId} {args : Array Value} {below : List Frame} {meth : Method} {c : Code} {H : Heap} {locs : List Loc} {cells slots : Nat} {Q : State → Prop} {cc0 : ByteArray} {pc : Nat} {ls : Array Slot} {rest : List Value} {D : va_G} {A : Nat → Prop} {Ts : List Cond} {own : String} {cI cJ cZ cMic cSrc cSt cAI cAJ : ClassId} {ad : Nat → Nat} {T : AT} {y : MethodName} {bytes : ByteArray} {maxL nL n index fr lo : Nat} {ret : Option FieldType} {ws : List Cond} {As : List Value} {C : String} {TT : u_T} {nf ci q : Nat} {fs : List Value} {T1 : AT} (E : cE p c cc0 s m args Ts D own (CT cI cJ cZ cMic cSrc cSt cAI cAJ)) (G : gC cI cJ cZ cMic cSrc cSt cAI cAJ D ad A s.heap H locs T) (hA : ∀ q, s.heap.size ≤ q → A q) (hX : xT A s) (hN : nX s) (hml : c.maxLocals = nL) (hM : kAv l y ws fr lo cI cJ cZ cMic cSrc cSt cAI cAJ D ad T (.ref (ad q) :: As) T1) (cw : CallW R s args own C index y bytes maxL ret ws { frames := fr, cells := T1.1 - T.1, slots := sg T1 - sg T, locals := lo } (T1.1 - T.1) (sg T1 - sg T) n) (hq : q < T.1) (hSq : cc cI cJ cZ cMic cSrc cSt cAI cAJ ad T q = .inr (ci, fs)) (hc : vwCl[ci]? = some (C, TT, nf)) (hn : As.length = n) (hsz : ls.size = nL) {st : List Value} (hst : st = As.reverse ++ .ref (ad q) :: rest) (hW : 2 * (F0 m pc ls st).monitorRoom + (rest.map fun v => v.category).sum ≤ 8) (hdg : decode cc0 pc = .ok (.invokevirtual index, 3)) (hf : cells + (T1.1 - T.1) ≤ R.cells ∧ slots + (sg T1 - sg T) ≤ R.slots) (kk : ∀ (ad2 : Nat → Nat) (H1 : Heap) (locs1 : List Loc), (∀ n, n < T.1 → ad2 n = ad n) → gC cI cJ cZ cMic cSrc cSt cAI cAJ D ad2 A s.heap H1 locs1 T1 → W p l e R s m args below meth c H1 locs1 (cells + (T1.1 - T.1)) (slots + (sg T1 - sg T)) Q (F0 m (pc + 3) ls rest)) : W p l e R s m args below meth c H locs cells slots Q (F0 m pc ls st) := by
  obtain ⟨hx, hb, hts, hown, hK⟩ := E
  obtain ⟨hP, hD, hS⟩ := G
  have hFc := va_free (wc := cW ad T.1 (cc cI cJ cZ cMic cSrc cSt cAI cAJ ad T)) hD hS hA (List.range T.1) (cW_all ad T.1 (cc cI cJ cZ cMic cSrc cSt cAI cAJ ad T))
  refine va_callv (va_runV (As := As) (rest := rest) ⟨hx, hb, hml, hown, hts⟩ (hM H.size) cw ⟨fun a U g mk q => by obtain ⟨q0, q1, qP, qK, qD, qX, qN⟩ := q; exact ⟨q0, q1, qP, va_K.moved (u := U) (U := U.calling g mk a) (Vm.Alike.refl U.vm) qK, qD, qX.blind, nX.moved U (U.calling g mk a) (State.WarmedH.refl U) qN⟩, va_recv hK hP (ci := ci) (q0 := q) hc (cW_e hq hSq), fun U hU hW => ⟨rfl, by rw [hU], by rw [hU]; exact hP, va_K.moved hW.alike hK, hD.weaken (fun _ _ _ _ => trivial), hX.go hW hU hS hFc, nX.moved s U hW hN⟩⟩ rfl hn hsz hst hW hdg hf) hS (fun q _ h => hFc q h) hFc (fun u t H1 locs1 ht hvm hw hB hz1 hk1 hS => ?_)
  obtain ⟨u1, u2⟩ := u
  obtain ⟨hw2, hw3⟩ := hw
  have hw2 : u1 = T1 := hw2
  obtain ⟨hP1, hK1, hD1⟩ := hB
  rw [ht] at hP1
  obtain ⟨hP2, hD2⟩ := va_join (wr := []) (w1 := cW u2 u1.1 (cc cI cJ cZ cMic cSrc cSt cAI cAJ u2 u1)) hP hD (List.range T.1) [] (cW_all ad T.1 (cc cI cJ cZ cMic cSrc cSt cAI cAJ ad T)) rfl rfl (fun i hi => absurd hi List.not_mem_nil) hk1 hFc hP1 hD1
  rw [hw2] at hP2 hD2
  exact kk u2 H1 locs1 hw3 ⟨hP2, hD2, hS⟩
abbrev kAr (l : Launch) (y : MethodName) (ws : List Cond) (fr lo : Nat) (cI cJ cZ cMic cSrc cSt cAI cAJ : ClassId) (D : va_G) (ad : Nat → Nat) (T : AT) (As : List Value) (r1 : Nat) (T1 : AT) : Prop := ∀ sz : Nat, Met l y ws { frames := fr, cells := T1.1 - T.1, slots := sg T1 - sg T, locals := lo } (va_Pc As (kB cI cJ cZ cMic cSrc cSt cAI cAJ D ad T sz)) (va_Qr (fun (u : AT × (Nat → Nat)) => u.1 = T1 ∧ ∀ n, n < T.1 → u.2 n = ad n) (fun (u : AT × (Nat → Nat)) a t => a = u.2 r1 ∧ kAt cI cJ cZ cMic cSrc cSt cAI cAJ D u.2 (va_A (cW ad T.1 (cc cI cJ cZ cMic cSrc cSt cAI cAJ ad T)) sz) u.1 t) (va_A (cW ad T.1 (cc cI cJ cZ cMic cSrc cSt cAI cAJ ad T)) sz)) (T1.1 - T.1) (sg T1 - sg T) (va_A (cW ad T.1 (cc cI cJ cZ cMic cSrc cSt cAI cAJ ad T)) sz)
theorem q_avr {p : Program} {l : Launch} {e : Env} {R : Room} {s : State} {m : MethodId} {args : Array Value} {below : List Frame} {meth : Method} {c : Code} {H : Heap} {locs : List Loc} {cells slots : Nat} {Q : State → Prop} {cc0 : ByteArray} {pc : Nat} {ls : Array Slot} {rest : List Value} {D : va_G} {A : Nat → Prop} {Ts : List Cond} {own : String} {cI cJ cZ cMic cSrc cSt cAI cAJ : ClassId} {ad : Nat → Nat} {T : AT} {y : MethodName} {bytes : ByteArray} {maxL nL n index fr lo : Nat} {ret : Option FieldType} {ws : List Cond} {As : List Value} {C : String} {TT : u_T} {nf ci q : Nat} {fs : List Value} {r1 : Nat} {T1 : AT} (E : cE p c cc0 s m args Ts D own (CT cI cJ cZ cMic cSrc cSt cAI cAJ)) (G : gC cI cJ cZ cMic cSrc cSt cAI cAJ D ad A s.heap H locs T) (hA : ∀ q, s.heap.size ≤ q → A q) (hX : xT A s) (hN : nX s) (hml : c.maxLocals = nL) (hM : kAr l y ws fr lo cI cJ cZ cMic cSrc cSt cAI cAJ D ad T (.ref (ad q) :: As) r1 T1) (cw : CallW R s args own C index y bytes maxL ret ws { frames := fr, cells := T1.1 - T.1, slots := sg T1 - sg T, locals := lo } (T1.1 - T.1) (sg T1 - sg T) n) (hq : q < T.1) (hSq : cc cI cJ cZ cMic cSrc cSt cAI cAJ ad T q = .inr (ci, fs)) (hc : vwCl[ci]? = some (C, TT, nf)) (hn : As.length = n) (hsz : ls.size = nL) {st : List Value} (hst : st = As.reverse ++ .ref (ad q) :: rest) (hW : 2 * (F0 m pc ls st).monitorRoom + (rest.map fun v => v.category).sum ≤ 8) (hdg : decode cc0 pc = .ok (.invokevirtual index, 3)) (hf : cells + (T1.1 - T.1) ≤ R.cells ∧ slots + (sg T1 - sg T) ≤ R.slots) (kk : ∀ (ad2 : Nat → Nat) (H1 : Heap) (locs1 : List Loc), (∀ n, n < T.1 → ad2 n = ad n) → gC cI cJ cZ cMic cSrc cSt cAI cAJ D ad2 A s.heap H1 locs1 T1 → W p l e R s m args below meth c H1 locs1 (cells + (T1.1 - T.1)) (slots + (sg T1 - sg T)) Q (F0 m (pc + 3) ls (.ref (ad2 r1) :: rest))) : W p l e R s m args below meth c H locs cells slots Q (F0 m pc ls st) := by
  obtain ⟨hx, hb, hts, hown, hK⟩ := E
  obtain ⟨hP, hD, hS⟩ := G
  have hFc := va_free (wc := cW ad T.1 (cc cI cJ cZ cMic cSrc cSt cAI cAJ ad T)) hD hS hA (List.range T.1) (cW_all ad T.1 (cc cI cJ cZ cMic cSrc cSt cAI cAJ ad T))
  refine va_callr (va_runV (As := As) (rest := rest) ⟨hx, hb, hml, hown, hts⟩ (hM H.size) cw ⟨fun a U g mk q => by obtain ⟨q0, q1, qP, qK, qD, qX, qN⟩ := q; exact ⟨q0, q1, qP, va_K.moved (u := U) (U := U.calling g mk a) (Vm.Alike.refl U.vm) qK, qD, qX.blind, nX.moved U (U.calling g mk a) (State.WarmedH.refl U) qN⟩, va_recv hK hP (ci := ci) (q0 := q) hc (cW_e hq hSq), fun U hU hW => ⟨rfl, by rw [hU], by rw [hU]; exact hP, va_K.moved hW.alike hK, hD.weaken (fun _ _ _ _ => trivial), hX.go hW hU hS hFc, nX.moved s U hW hN⟩⟩ rfl hn hsz hst hW hdg hf) hS (fun q _ h => hFc q h) hFc (fun u ra t H1 locs1 ht hvm hw hB hz1 hk1 hS => ?_)
  obtain ⟨u1, u2⟩ := u
  obtain ⟨hw2, hw3⟩ := hw
  have hw2 : u1 = T1 := hw2
  obtain ⟨ha, hP1, hK1, hD1⟩ := hB
  rw [ht] at hP1
  obtain ⟨hP2, hD2⟩ := va_join (wr := []) (w1 := cW u2 u1.1 (cc cI cJ cZ cMic cSrc cSt cAI cAJ u2 u1)) hP hD (List.range T.1) [] (cW_all ad T.1 (cc cI cJ cZ cMic cSrc cSt cAI cAJ ad T)) rfl rfl (fun i hi => absurd hi List.not_mem_nil) hk1 hFc hP1 hD1
  rw [ha]
  rw [hw2] at hP2 hD2
  exact kk u2 H1 locs1 hw3 ⟨hP2, hD2, hS⟩
theorem q_sti {p : Program} {l : Launch} {e : Env} {R : Room} {s : State} {m : MethodId} {args : Array Value} {below : List Frame} {meth : Method} {c : Code} {H : Heap} {locs : List Loc} {cells slots : Nat} {Q : State → Prop} {cc0 : ByteArray} {pc : Nat} {ls : Array Slot} {rest : List Value} {Ts : List Cond} {own : String} {y : MethodName} {bytes : ByteArray} {maxL nL n index fr lo : Nat} {ret : Option FieldType} {ws : List Cond} {As : List Value} {post : Int32 → Prop} (F : CallFix p m c cc0 nL s args Ts own) (hN : nX s) (hM : Met l y ws { frames := fr, cells := 0, slots := 0, locals := lo } (va_Pc As nX) (vp_Si post) 0 0 (fun _ => False)) (cw : CallB R s args own index y bytes maxL ret ws { frames := fr, cells := 0, slots := 0, locals := lo } 0 0 n ∧ (Cond.static y).before args s = true) (hn : As.length = n) (hsz : ls.size = nL) {st : List Value} (hst : st = As.reverse ++ rest) (hW : 2 * (F0 m pc ls st).monitorRoom + (rest.map fun v => v.category).sum ≤ 8) (hdg : decode cc0 pc = .ok (.invokestatic index, 3)) (hf : cells + 0 ≤ R.cells ∧ slots + 0 ≤ R.slots) (kk : ∀ r : Int32, post r → W p l e R s m args below meth c H locs cells slots Q (F0 m (pc + 3) ls (.int r :: rest))) : W p l e R s m args below meth c H locs cells slots Q (F0 m pc ls st) :=
  vp_callSi (W.runS F hM cw ⟨fun a U g mk q => ⟨q.1, nX.moved U (U.calling g mk a) (State.WarmedH.refl U) q.2⟩, fun U hU hW => ⟨rfl, nX.moved s U hW hN⟩⟩ rfl hn hsz hst hW hdg hf) kk
theorem q_stiN {p : Program} {l : Launch} {e : Env} {R : Room} {s : State} {m : MethodId} {args : Array Value} {below : List Frame} {meth : Method} {c : Code} {H : Heap} {locs : List Loc} {cells slots : Nat} {Q : State → Prop} {cc0 : ByteArray} {pc : Nat} {ls : Array Slot} {rest : List Value} {Ts : List Cond} {own host : String} {y : MethodName} {bytes : ByteArray} {maxL nL n index fr lo : Nat} {ret : Option FieldType} {ws : List Cond} {As : List Value} {post : Int32 → Prop} (F : CallFix p m c cc0 nL s args Ts own) (hN : nX s) (hM : Met l y ws { frames := fr, cells := 0, slots := 0, locals := lo } (va_Pc As nX) (vp_Si post) 0 0 (fun _ => False)) (cw : va_CN R s args own index y host bytes maxL ret ws { frames := fr, cells := 0, slots := 0, locals := lo } 0 0 n ∧ (Cond.static y).before args s = true ∧ True) (hn : As.length = n) (hsz : ls.size = nL) {st : List Value} (hst : st = As.reverse ++ rest) (hW : 2 * (F0 m pc ls st).monitorRoom + (rest.map fun v => v.category).sum ≤ 8) (hdg : decode cc0 pc = .ok (.invokestatic index, 3)) (hf : cells + 0 ≤ R.cells ∧ slots + 0 ≤ R.slots) (kk : ∀ r : Int32, post r → W p l e R s m args below meth c H locs cells slots Q (F0 m (pc + 3) ls (.int r :: rest))) : W p l e R s m args below meth c H locs cells slots Q (F0 m pc ls st) :=
  vp_callSi (va_Run.run (va_runSN F hM cw ⟨fun a U g mk q => ⟨q.1, nX.moved U (U.calling g mk a) (State.WarmedH.refl U) q.2⟩, fun U hU hW => ⟨rfl, nX.moved s U hW hN⟩⟩ rfl hn hsz hst hW hdg hf)) kk
theorem q_stl {p : Program} {l : Launch} {e : Env} {R : Room} {s : State} {m : MethodId} {args : Array Value} {below : List Frame} {meth : Method} {c : Code} {H : Heap} {locs : List Loc} {cells slots : Nat} {Q : State → Prop} {cc0 : ByteArray} {pc : Nat} {ls : Array Slot} {rest : List Value} {Ts : List Cond} {own : String} {y : MethodName} {bytes : ByteArray} {maxL nL n index fr lo : Nat} {ret : Option FieldType} {ws : List Cond} {As : List Value} {post : Int64 → Prop} (F : CallFix p m c cc0 nL s args Ts own) (hN : nX s) (hM : Met l y ws { frames := fr, cells := 0, slots := 0, locals := lo } (va_Pc As nX) (vp_Sl post) 0 0 (fun _ => False)) (cw : CallB R s args own index y bytes maxL ret ws { frames := fr, cells := 0, slots := 0, locals := lo } 0 0 n ∧ (Cond.static y).before args s = true) (hn : As.length = n) (hsz : ls.size = nL) {st : List Value} (hst : st = As.reverse ++ rest) (hW : 2 * (F0 m pc ls st).monitorRoom + (rest.map fun v => v.category).sum ≤ 8) (hdg : decode cc0 pc = .ok (.invokestatic index, 3)) (hf : cells + 0 ≤ R.cells ∧ slots + 0 ≤ R.slots) (kk : ∀ r : Int64, post r → W p l e R s m args below meth c H locs cells slots Q (F0 m (pc + 3) ls (.long r :: rest))) : W p l e R s m args below meth c H locs cells slots Q (F0 m pc ls st) :=
  vp_callSl (W.runS F hM cw ⟨fun a U g mk q => ⟨q.1, nX.moved U (U.calling g mk a) (State.WarmedH.refl U) q.2⟩, fun U hU hW => ⟨rfl, nX.moved s U hW hN⟩⟩ rfl hn hsz hst hW hdg hf) kk
theorem q_stlN {p : Program} {l : Launch} {e : Env} {R : Room} {s : State} {m : MethodId} {args : Array Value} {below : List Frame} {meth : Method} {c : Code} {H : Heap} {locs : List Loc} {cells slots : Nat} {Q : State → Prop} {cc0 : ByteArray} {pc : Nat} {ls : Array Slot} {rest : List Value} {Ts : List Cond} {own host : String} {y : MethodName} {bytes : ByteArray} {maxL nL n index fr lo : Nat} {ret : Option FieldType} {ws : List Cond} {As : List Value} {post : Int64 → Prop} (F : CallFix p m c cc0 nL s args Ts own) (hN : nX s) (hM : Met l y ws { frames := fr, cells := 0, slots := 0, locals := lo } (va_Pc As nX) (vp_Sl post) 0 0 (fun _ => False)) (cw : va_CN R s args own index y host bytes maxL ret ws { frames := fr, cells := 0, slots := 0, locals := lo } 0 0 n ∧ (Cond.static y).before args s = true ∧ True) (hn : As.length = n) (hsz : ls.size = nL) {st : List Value} (hst : st = As.reverse ++ rest) (hW : 2 * (F0 m pc ls st).monitorRoom + (rest.map fun v => v.category).sum ≤ 8) (hdg : decode cc0 pc = .ok (.invokestatic index, 3)) (hf : cells + 0 ≤ R.cells ∧ slots + 0 ≤ R.slots) (kk : ∀ r : Int64, post r → W p l e R s m args below meth c H locs cells slots Q (F0 m (pc + 3) ls (.long r :: rest))) : W p l e R s m args below meth c H locs cells slots Q (F0 m pc ls st) :=
  vp_callSl (va_Run.run (va_runSN F hM cw ⟨fun a U g mk q => ⟨q.1, nX.moved U (U.calling g mk a) (State.WarmedH.refl U) q.2⟩, fun U hU hW => ⟨rfl, nX.moved s U hW hN⟩⟩ rfl hn hsz hst hW hdg hf)) kk
abbrev kCiX (l : Launch) (y : MethodName) (ws : List Cond) (fr lo : Nat) (cI cJ cZ cMic cSrc cSt cAI cAJ : ClassId) (D : va_G) (ad : Nat → Nat) (T : AT) (As : List Value) (X : Nat → State → Prop) (post : Int32 → AT → Prop) : Prop := ∀ sz : Nat, Met l y ws { frames := fr, cells := 0, slots := 0, locals := lo } (va_Pc As (fun U => kB cI cJ cZ cMic cSrc cSt cAI cAJ D ad T sz U ∧ X sz U)) (va_Qi post (kAt cI cJ cZ cMic cSrc cSt cAI cAJ D ad (va_A (cW ad T.1 (cc cI cJ cZ cMic cSrc cSt cAI cAJ ad T)) sz)) (va_A (cW ad T.1 (cc cI cJ cZ cMic cSrc cSt cAI cAJ ad T)) sz)) 0 0 (va_A (cW ad T.1 (cc cI cJ cZ cMic cSrc cSt cAI cAJ ad T)) sz)
abbrev kCvX (l : Launch) (y : MethodName) (ws : List Cond) (fr lo : Nat) (cI cJ cZ cMic cSrc cSt cAI cAJ : ClassId) (D : va_G) (ad : Nat → Nat) (T : AT) (As : List Value) (X : Nat → State → Prop) (post : AT → Prop) : Prop := ∀ sz : Nat, Met l y ws { frames := fr, cells := 0, slots := 0, locals := lo } (va_Pc As (fun U => kB cI cJ cZ cMic cSrc cSt cAI cAJ D ad T sz U ∧ X sz U)) (va_Qv post (kAt cI cJ cZ cMic cSrc cSt cAI cAJ D ad (va_A (cW ad T.1 (cc cI cJ cZ cMic cSrc cSt cAI cAJ ad T)) sz)) (va_A (cW ad T.1 (cc cI cJ cZ cMic cSrc cSt cAI cAJ ad T)) sz)) 0 0 (va_A (cW ad T.1 (cc cI cJ cZ cMic cSrc cSt cAI cAJ ad T)) sz)
abbrev kXiX (l : Launch) (y : MethodName) (ws : List Cond) (fr lo : Nat) (cI cJ cZ cMic cSrc cSt cAI cAJ : ClassId) (D : va_G) (ad : Nat → Nat) (T : AT) (As : List Value) (X : Nat → State → Prop) (e1 : Nat) (T1 : AT) : Prop := ∀ sz : Nat, vx_Met l y ws { frames := fr, cells := 1, slots := 6, locals := lo } (va_Pc As (fun U => kB cI cJ cZ cMic cSrc cSt cAI cAJ D ad T sz U ∧ X sz U)) (va_Qi (fun (_ : Int32) (_ : AT) => False) (kAt cI cJ cZ cMic cSrc cSt cAI cAJ D ad (va_A (cW ad T.1 (cc cI cJ cZ cMic cSrc cSt cAI cAJ ad T)) sz)) (va_A (cW ad T.1 (cc cI cJ cZ cMic cSrc cSt cAI cAJ ad T)) sz)) (vx_X (fun _ => True) (fun E u t => (E = exn e1 ∧ u = T1) ∧ kAt cI cJ cZ cMic cSrc cSt cAI cAJ D ad (va_A (cW ad T.1 (cc cI cJ cZ cMic cSrc cSt cAI cAJ ad T)) sz) u t) (va_A (cW ad T.1 (cc cI cJ cZ cMic cSrc cSt cAI cAJ ad T)) sz)) 1 6 (va_A (cW ad T.1 (cc cI cJ cZ cMic cSrc cSt cAI cAJ ad T)) sz)
abbrev kXvX (l : Launch) (y : MethodName) (ws : List Cond) (fr lo : Nat) (cI cJ cZ cMic cSrc cSt cAI cAJ : ClassId) (D : va_G) (ad : Nat → Nat) (T : AT) (As : List Value) (X : Nat → State → Prop) (e1 : Nat) (T1 : AT) : Prop := ∀ sz : Nat, vx_Met l y ws { frames := fr, cells := 1, slots := 6, locals := lo } (va_Pc As (fun U => kB cI cJ cZ cMic cSrc cSt cAI cAJ D ad T sz U ∧ X sz U)) (va_Qv (fun (_ : AT) => False) (kAt cI cJ cZ cMic cSrc cSt cAI cAJ D ad (va_A (cW ad T.1 (cc cI cJ cZ cMic cSrc cSt cAI cAJ ad T)) sz)) (va_A (cW ad T.1 (cc cI cJ cZ cMic cSrc cSt cAI cAJ ad T)) sz)) (vx_X (fun _ => True) (fun E u t => (E = exn e1 ∧ u = T1) ∧ kAt cI cJ cZ cMic cSrc cSt cAI cAJ D ad (va_A (cW ad T.1 (cc cI cJ cZ cMic cSrc cSt cAI cAJ ad T)) sz) u t) (va_A (cW ad T.1 (cc cI cJ cZ cMic cSrc cSt cAI cAJ ad T)) sz)) 1 6 (va_A (cW ad T.1 (cc cI cJ cZ cMic cSrc cSt cAI cAJ ad T)) sz)
abbrev kAiS (l : Launch) (y : MethodName) (ws : List Cond) (fr lo : Nat) (cI cJ cZ cMic cSrc cSt cAI cAJ : ClassId) (D : va_G) (ad : Nat → Nat) (T : AT) (As : List Value) (X : Nat → State → Prop) (r1 : Int32) (T1 : AT) : Prop := ∀ sz : Nat, Met l y ws { frames := fr, cells := T1.1 - T.1, slots := sg T1 - sg T, locals := lo } (va_Pc As (fun U => kB cI cJ cZ cMic cSrc cSt cAI cAJ D ad T sz U ∧ X sz U)) (va_Qi (fun r (u : AT × (Nat → Nat)) => r = r1 ∧ u.1 = T1 ∧ ∀ n, n < T.1 → u.2 n = ad n) (fun (u : AT × (Nat → Nat)) t => kAt cI cJ cZ cMic cSrc cSt cAI cAJ D u.2 (va_A (cW ad T.1 (cc cI cJ cZ cMic cSrc cSt cAI cAJ ad T)) sz) u.1 t) (va_A (cW ad T.1 (cc cI cJ cZ cMic cSrc cSt cAI cAJ ad T)) sz)) (T1.1 - T.1) (sg T1 - sg T) (va_A (cW ad T.1 (cc cI cJ cZ cMic cSrc cSt cAI cAJ ad T)) sz)
abbrev kAXiS (l : Launch) (y : MethodName) (ws : List Cond) (fr lo : Nat) (cI cJ cZ cMic cSrc cSt cAI cAJ : ClassId) (D : va_G) (ad : Nat → Nat) (T : AT) (As : List Value) (X : Nat → State → Prop) (e1 : Nat) (T1 : AT) : Prop := ∀ sz : Nat, vx_Met l y ws { frames := fr, cells := T1.1 - T.1 + 1, slots := sg T1 - sg T + 6, locals := lo } (va_Pc As (fun U => kB cI cJ cZ cMic cSrc cSt cAI cAJ D ad T sz U ∧ X sz U)) (va_Qi (fun (_ : Int32) (_ : AT × (Nat → Nat)) => False) (fun (u : AT × (Nat → Nat)) t => kAt cI cJ cZ cMic cSrc cSt cAI cAJ D u.2 (va_A (cW ad T.1 (cc cI cJ cZ cMic cSrc cSt cAI cAJ ad T)) sz) u.1 t) (va_A (cW ad T.1 (cc cI cJ cZ cMic cSrc cSt cAI cAJ ad T)) sz)) (vx_X (fun _ => True) (fun E (u : AT × (Nat → Nat)) t => (E = exn e1 ∧ u.1 = T1 ∧ ∀ n, n < T.1 → u.2 n = ad n) ∧ kAt cI cJ cZ cMic cSrc cSt cAI cAJ D u.2 (va_A (cW ad T.1 (cc cI cJ cZ cMic cSrc cSt cAI cAJ ad T)) sz) u.1 t) (va_A (cW ad T.1 (cc cI cJ cZ cMic cSrc cSt cAI cAJ ad T)) sz)) (T1.1 - T.1 + 1) (sg T1 - sg T + 6) (va_A (cW ad T.1 (cc cI cJ cZ cMic cSrc cSt cAI cAJ ad T)) sz)
theorem q_cviX {p : Program} {l : Launch} {e : Env} {R : Room} {s : State} {m : MethodId} {args : Array Value} {below : List Frame} {meth : Method} {c : Code} {H : Heap} {locs : List Loc} {cells slots : Nat} {Q : State → Prop} {cc0 : ByteArray} {pc : Nat} {ls : Array Slot} {rest : List Value} {D : va_G} {A : Nat → Prop} {Ts : List Cond} {own : String} {cI cJ cZ cMic cSrc cSt cAI cAJ : ClassId} {ad : Nat → Nat} {T : AT} {y : MethodName} {bytes : ByteArray} {maxL nL n index fr lo : Nat} {ret : Option FieldType} {ws : List Cond} {As : List Value} {C : String} {TT : u_T} {nf ci q : Nat} {fs : List Value} {post : Int32 → AT → Prop} {X : Nat → State → Prop} (E : cE p c cc0 s m args Ts D own (CT cI cJ cZ cMic cSrc cSt cAI cAJ)) (G : gC cI cJ cZ cMic cSrc cSt cAI cAJ D ad A s.heap H locs T) (hA : ∀ q, s.heap.size ≤ q → A q) (hX : xT A s) (hN : nX s) (hml : c.maxLocals = nL) (hM : kCiX l y ws fr lo cI cJ cZ cMic cSrc cSt cAI cAJ D ad T (.ref (ad q) :: As) X post) (cw : CallW R s args own C index y bytes maxL ret ws { frames := fr, cells := 0, slots := 0, locals := lo } 0 0 n) (hq : q < T.1) (hSq : cc cI cJ cZ cMic cSrc cSt cAI cAJ ad T q = .inr (ci, fs)) (hc : vwCl[ci]? = some (C, TT, nf)) (hn : As.length = n) (hsz : ls.size = nL) {st : List Value} (hst : st = As.reverse ++ .ref (ad q) :: rest) (hW : 2 * (F0 m pc ls st).monitorRoom + (rest.map fun v => v.category).sum ≤ 8) (hdg : decode cc0 pc = .ok (.invokevirtual index, 3)) (hf : cells + 0 ≤ R.cells ∧ slots + 0 ≤ R.slots) (hXb : ∀ (sz : Nat) (a : Array Value) (U : State) (g : JFrame) (mk : MethodId), X sz U → X sz (U.calling g mk a)) (hXp : ∀ U : State, U.heap = H → s.WarmedH U.vm → X H.size U) (kk : ∀ (r : Int32) (T1 : AT) (H1 : Heap) (locs1 : List Loc), post r T1 → gC cI cJ cZ cMic cSrc cSt cAI cAJ D ad A s.heap H1 locs1 T1 → W p l e R s m args below meth c H1 locs1 (cells + 0) (slots + 0) Q (F0 m (pc + 3) ls (.int r :: rest))) : W p l e R s m args below meth c H locs cells slots Q (F0 m pc ls st) := by
  obtain ⟨hx, hb, hts, hown, hK⟩ := E
  obtain ⟨hP, hD, hS⟩ := G
  have hFc := va_free (wc := cW ad T.1 (cc cI cJ cZ cMic cSrc cSt cAI cAJ ad T)) hD hS hA (List.range T.1) (cW_all ad T.1 (cc cI cJ cZ cMic cSrc cSt cAI cAJ ad T))
  refine va_calli (va_runV (As := As) (rest := rest) ⟨hx, hb, hml, hown, hts⟩ (hM H.size) cw ⟨fun a U g mk q => by obtain ⟨q0, ⟨q1, qP, qK, qD, qX, qN⟩, qY⟩ := q; exact ⟨q0, ⟨q1, qP, va_K.moved (u := U) (U := U.calling g mk a) (Vm.Alike.refl U.vm) qK, qD, qX.blind, nX.moved U (U.calling g mk a) (State.WarmedH.refl U) qN⟩, hXb _ _ _ _ _ qY⟩, va_recv hK hP (ci := ci) (q0 := q) hc (cW_e hq hSq), fun U hU hW => ⟨rfl, ⟨by rw [hU], by rw [hU]; exact hP, va_K.moved hW.alike hK, hD.weaken (fun _ _ _ _ => trivial), hX.go hW hU hS hFc, nX.moved s U hW hN⟩, hXp U hU hW⟩⟩ rfl hn hsz hst hW hdg hf) hS (fun q _ h => hFc q h) hFc (fun r u t H1 locs1 ht hvm hw hB hz1 hk1 hS => ?_)
  obtain ⟨hP1, hK1, hD1⟩ := hB
  rw [ht] at hP1
  obtain ⟨hP2, hD2⟩ := va_join (wr := []) (w1 := cW ad u.1 (cc cI cJ cZ cMic cSrc cSt cAI cAJ ad u)) hP hD (List.range T.1) [] (cW_all ad T.1 (cc cI cJ cZ cMic cSrc cSt cAI cAJ ad T)) rfl rfl (fun i hi => absurd hi List.not_mem_nil) hk1 hFc hP1 hD1
  exact kk r u H1 locs1 hw ⟨hP2, hD2, hS⟩
theorem q_cvvX {p : Program} {l : Launch} {e : Env} {R : Room} {s : State} {m : MethodId} {args : Array Value} {below : List Frame} {meth : Method} {c : Code} {H : Heap} {locs : List Loc} {cells slots : Nat} {Q : State → Prop} {cc0 : ByteArray} {pc : Nat} {ls : Array Slot} {rest : List Value} {D : va_G} {A : Nat → Prop} {Ts : List Cond} {own : String} {cI cJ cZ cMic cSrc cSt cAI cAJ : ClassId} {ad : Nat → Nat} {T : AT} {y : MethodName} {bytes : ByteArray} {maxL nL n index fr lo : Nat} {ret : Option FieldType} {ws : List Cond} {As : List Value} {C : String} {TT : u_T} {nf ci q : Nat} {fs : List Value} {post : AT → Prop} {X : Nat → State → Prop} (E : cE p c cc0 s m args Ts D own (CT cI cJ cZ cMic cSrc cSt cAI cAJ)) (G : gC cI cJ cZ cMic cSrc cSt cAI cAJ D ad A s.heap H locs T) (hA : ∀ q, s.heap.size ≤ q → A q) (hX : xT A s) (hN : nX s) (hml : c.maxLocals = nL) (hM : kCvX l y ws fr lo cI cJ cZ cMic cSrc cSt cAI cAJ D ad T (.ref (ad q) :: As) X post) (cw : CallW R s args own C index y bytes maxL ret ws { frames := fr, cells := 0, slots := 0, locals := lo } 0 0 n) (hq : q < T.1) (hSq : cc cI cJ cZ cMic cSrc cSt cAI cAJ ad T q = .inr (ci, fs)) (hc : vwCl[ci]? = some (C, TT, nf)) (hn : As.length = n) (hsz : ls.size = nL) {st : List Value} (hst : st = As.reverse ++ .ref (ad q) :: rest) (hW : 2 * (F0 m pc ls st).monitorRoom + (rest.map fun v => v.category).sum ≤ 8) (hdg : decode cc0 pc = .ok (.invokevirtual index, 3)) (hf : cells + 0 ≤ R.cells ∧ slots + 0 ≤ R.slots) (hXb : ∀ (sz : Nat) (a : Array Value) (U : State) (g : JFrame) (mk : MethodId), X sz U → X sz (U.calling g mk a)) (hXp : ∀ U : State, U.heap = H → s.WarmedH U.vm → X H.size U) (kk : ∀ (T1 : AT) (H1 : Heap) (locs1 : List Loc), post T1 → gC cI cJ cZ cMic cSrc cSt cAI cAJ D ad A s.heap H1 locs1 T1 → W p l e R s m args below meth c H1 locs1 (cells + 0) (slots + 0) Q (F0 m (pc + 3) ls rest)) : W p l e R s m args below meth c H locs cells slots Q (F0 m pc ls st) := by
  obtain ⟨hx, hb, hts, hown, hK⟩ := E
  obtain ⟨hP, hD, hS⟩ := G
  have hFc := va_free (wc := cW ad T.1 (cc cI cJ cZ cMic cSrc cSt cAI cAJ ad T)) hD hS hA (List.range T.1) (cW_all ad T.1 (cc cI cJ cZ cMic cSrc cSt cAI cAJ ad T))
  refine va_callv (va_runV (As := As) (rest := rest) ⟨hx, hb, hml, hown, hts⟩ (hM H.size) cw ⟨fun a U g mk q => by obtain ⟨q0, ⟨q1, qP, qK, qD, qX, qN⟩, qY⟩ := q; exact ⟨q0, ⟨q1, qP, va_K.moved (u := U) (U := U.calling g mk a) (Vm.Alike.refl U.vm) qK, qD, qX.blind, nX.moved U (U.calling g mk a) (State.WarmedH.refl U) qN⟩, hXb _ _ _ _ _ qY⟩, va_recv hK hP (ci := ci) (q0 := q) hc (cW_e hq hSq), fun U hU hW => ⟨rfl, ⟨by rw [hU], by rw [hU]; exact hP, va_K.moved hW.alike hK, hD.weaken (fun _ _ _ _ => trivial), hX.go hW hU hS hFc, nX.moved s U hW hN⟩, hXp U hU hW⟩⟩ rfl hn hsz hst hW hdg hf) hS (fun q _ h => hFc q h) hFc (fun u t H1 locs1 ht hvm hw hB hz1 hk1 hS => ?_)
  obtain ⟨hP1, hK1, hD1⟩ := hB
  rw [ht] at hP1
  obtain ⟨hP2, hD2⟩ := va_join (wr := []) (w1 := cW ad u.1 (cc cI cJ cZ cMic cSrc cSt cAI cAJ ad u)) hP hD (List.range T.1) [] (cW_all ad T.1 (cc cI cJ cZ cMic cSrc cSt cAI cAJ ad T)) rfl rfl (fun i hi => absurd hi List.not_mem_nil) hk1 hFc hP1 hD1
  exact kk u H1 locs1 hw ⟨hP2, hD2, hS⟩
theorem q_xviX {p : Program} {l : Launch} {e : Env} {R : Room} {s : State} {m : MethodId} {args : Array Value} {below : List Frame} {meth : Method} {c : Code} {H : Heap} {locs : List Loc} {cells slots : Nat} {Q : State → Prop} {cc0 : ByteArray} {pc : Nat} {ls : Array Slot} {rest : List Value} {D : va_G} {A : Nat → Prop} {Ts : List Cond} {own : String} {cI cJ cZ cMic cSrc cSt cAI cAJ : ClassId} {ad : Nat → Nat} {T : AT} {y : MethodName} {bytes : ByteArray} {maxL nL n index fr lo : Nat} {ret : Option FieldType} {ws : List Cond} {As : List Value} {C : String} {TT : u_T} {nf ci q : Nat} {fs : List Value} {e1 : Nat} {T1 : AT} {X : Nat → State → Prop} (E : cE p c cc0 s m args Ts D own (CT cI cJ cZ cMic cSrc cSt cAI cAJ)) (G : gC cI cJ cZ cMic cSrc cSt cAI cAJ D ad A s.heap H locs T) (hA : ∀ q, s.heap.size ≤ q → A q) (hX : xT A s) (hN : nX s) (hml : c.maxLocals = nL) (hM : kXiX l y ws fr lo cI cJ cZ cMic cSrc cSt cAI cAJ D ad T (.ref (ad q) :: As) X e1 T1) (cw : CallW R s args own C index y bytes maxL ret ws { frames := fr, cells := 1, slots := 6, locals := lo } 1 6 n) (hq : q < T.1) (hSq : cc cI cJ cZ cMic cSrc cSt cAI cAJ ad T q = .inr (ci, fs)) (hc : vwCl[ci]? = some (C, TT, nf)) (hn : As.length = n) (hsz : ls.size = nL) {st : List Value} (hst : st = As.reverse ++ .ref (ad q) :: rest) (hW : 2 * (F0 m pc ls st).monitorRoom + (rest.map fun v => v.category).sum ≤ 8) (hdg : decode cc0 pc = .ok (.invokevirtual index, 3)) (hf : cells + 1 ≤ R.cells ∧ slots + 6 ≤ R.slots) (hXb : ∀ (sz : Nat) (a : Array Value) (U : State) (g : JFrame) (mk : MethodId), X sz U → X sz (U.calling g mk a)) (hXp : ∀ U : State, U.heap = H → s.WarmedH U.vm → X H.size U) (kx : ∀ (E9 : String) (ce : Cell) (q9 : Addr) (T9 : AT) (H1 : Heap) (locs1 : List Loc), E9 = exn e1 ∧ T9 = T1 → gC cI cJ cZ cMic cSrc cSt cAI cAJ D ad A s.heap H1 locs1 T9 → H1[q9]? = some ce → ce.vm = .none → s.vm.findClass E9 = some ce.cls → vx_W p l e R s m args below meth c H1 locs1 (cells + 1) (slots + 6) Q (F0 m pc ls rest) q9) : W p l e R s m args below meth c H locs cells slots Q (F0 m pc ls st) := by
  obtain ⟨hx, hb, hts, hown, hK⟩ := E
  obtain ⟨hP, hD, hS⟩ := G
  have hFc := va_free (wc := cW ad T.1 (cc cI cJ cZ cMic cSrc cSt cAI cAJ ad T)) hD hS hA (List.range T.1) (cW_all ad T.1 (cc cI cJ cZ cMic cSrc cSt cAI cAJ ad T))
  refine vx_calli (vx_runV (As := As) (rest := rest) ⟨hx, hb, hml, hown, hts⟩ (hM H.size) cw ⟨fun a U g mk q => by obtain ⟨q0, ⟨q1, qP, qK, qD, qX, qN⟩, qY⟩ := q; exact ⟨q0, ⟨q1, qP, va_K.moved (u := U) (U := U.calling g mk a) (Vm.Alike.refl U.vm) qK, qD, qX.blind, nX.moved U (U.calling g mk a) (State.WarmedH.refl U) qN⟩, hXb _ _ _ _ _ qY⟩, va_recv hK hP (ci := ci) (q0 := q) hc (cW_e hq hSq), fun U hU hW => ⟨rfl, ⟨by rw [hU], by rw [hU]; exact hP, va_K.moved hW.alike hK, hD.weaken (fun _ _ _ _ => trivial), hX.go hW hU hS hFc, nX.moved s U hW hN⟩, hXp U hU hW⟩⟩ rfl hn hsz hst hW hdg hf) hS (fun q _ h => hFc q h) hFc (fun q _ h => hFc q h) (fun E9 ce q9 u t H1 locs1 ht hvm _ hB hz1 hk1 hS hce hcv hcl => ?_) (fun r u t H1 locs1 ht hvm hw hB hz1 hk1 hS => hw.elim)
  obtain ⟨hpx, hP1, hK1, hD1⟩ := hB
  rw [ht] at hP1
  obtain ⟨hP2, hD2⟩ := va_join (wr := []) (w1 := cW ad u.1 (cc cI cJ cZ cMic cSrc cSt cAI cAJ ad u)) hP hD (List.range T.1) [] (cW_all ad T.1 (cc cI cJ cZ cMic cSrc cSt cAI cAJ ad T)) rfl rfl (fun i hi => absurd hi List.not_mem_nil) hk1 hFc hP1 hD1
  exact kx E9 ce q9 u H1 locs1 hpx ⟨hP2, hD2, hS⟩ hce hcv hcl
theorem q_xvvX {p : Program} {l : Launch} {e : Env} {R : Room} {s : State} {m : MethodId} {args : Array Value} {below : List Frame} {meth : Method} {c : Code} {H : Heap} {locs : List Loc} {cells slots : Nat} {Q : State → Prop} {cc0 : ByteArray} {pc : Nat} {ls : Array Slot} {rest : List Value} {D : va_G} {A : Nat → Prop} {Ts : List Cond} {own : String} {cI cJ cZ cMic cSrc cSt cAI cAJ : ClassId} {ad : Nat → Nat} {T : AT} {y : MethodName} {bytes : ByteArray} {maxL nL n index fr lo : Nat} {ret : Option FieldType} {ws : List Cond} {As : List Value} {C : String} {TT : u_T} {nf ci q : Nat} {fs : List Value} {e1 : Nat} {T1 : AT} {X : Nat → State → Prop} (E : cE p c cc0 s m args Ts D own (CT cI cJ cZ cMic cSrc cSt cAI cAJ)) (G : gC cI cJ cZ cMic cSrc cSt cAI cAJ D ad A s.heap H locs T) (hA : ∀ q, s.heap.size ≤ q → A q) (hX : xT A s) (hN : nX s) (hml : c.maxLocals = nL) (hM : kXvX l y ws fr lo cI cJ cZ cMic cSrc cSt cAI cAJ D ad T (.ref (ad q) :: As) X e1 T1) (cw : CallW R s args own C index y bytes maxL ret ws { frames := fr, cells := 1, slots := 6, locals := lo } 1 6 n) (hq : q < T.1) (hSq : cc cI cJ cZ cMic cSrc cSt cAI cAJ ad T q = .inr (ci, fs)) (hc : vwCl[ci]? = some (C, TT, nf)) (hn : As.length = n) (hsz : ls.size = nL) {st : List Value} (hst : st = As.reverse ++ .ref (ad q) :: rest) (hW : 2 * (F0 m pc ls st).monitorRoom + (rest.map fun v => v.category).sum ≤ 8) (hdg : decode cc0 pc = .ok (.invokevirtual index, 3)) (hf : cells + 1 ≤ R.cells ∧ slots + 6 ≤ R.slots) (hXb : ∀ (sz : Nat) (a : Array Value) (U : State) (g : JFrame) (mk : MethodId), X sz U → X sz (U.calling g mk a)) (hXp : ∀ U : State, U.heap = H → s.WarmedH U.vm → X H.size U) (kx : ∀ (E9 : String) (ce : Cell) (q9 : Addr) (T9 : AT) (H1 : Heap) (locs1 : List Loc), E9 = exn e1 ∧ T9 = T1 → gC cI cJ cZ cMic cSrc cSt cAI cAJ D ad A s.heap H1 locs1 T9 → H1[q9]? = some ce → ce.vm = .none → s.vm.findClass E9 = some ce.cls → vx_W p l e R s m args below meth c H1 locs1 (cells + 1) (slots + 6) Q (F0 m pc ls rest) q9) : W p l e R s m args below meth c H locs cells slots Q (F0 m pc ls st) := by
  obtain ⟨hx, hb, hts, hown, hK⟩ := E
  obtain ⟨hP, hD, hS⟩ := G
  have hFc := va_free (wc := cW ad T.1 (cc cI cJ cZ cMic cSrc cSt cAI cAJ ad T)) hD hS hA (List.range T.1) (cW_all ad T.1 (cc cI cJ cZ cMic cSrc cSt cAI cAJ ad T))
  refine vx_callv (vx_runV (As := As) (rest := rest) ⟨hx, hb, hml, hown, hts⟩ (hM H.size) cw ⟨fun a U g mk q => by obtain ⟨q0, ⟨q1, qP, qK, qD, qX, qN⟩, qY⟩ := q; exact ⟨q0, ⟨q1, qP, va_K.moved (u := U) (U := U.calling g mk a) (Vm.Alike.refl U.vm) qK, qD, qX.blind, nX.moved U (U.calling g mk a) (State.WarmedH.refl U) qN⟩, hXb _ _ _ _ _ qY⟩, va_recv hK hP (ci := ci) (q0 := q) hc (cW_e hq hSq), fun U hU hW => ⟨rfl, ⟨by rw [hU], by rw [hU]; exact hP, va_K.moved hW.alike hK, hD.weaken (fun _ _ _ _ => trivial), hX.go hW hU hS hFc, nX.moved s U hW hN⟩, hXp U hU hW⟩⟩ rfl hn hsz hst hW hdg hf) hS (fun q _ h => hFc q h) hFc (fun q _ h => hFc q h) (fun E9 ce q9 u t H1 locs1 ht hvm _ hB hz1 hk1 hS hce hcv hcl => ?_) (fun u t H1 locs1 ht hvm hw hB hz1 hk1 hS => hw.elim)
  obtain ⟨hpx, hP1, hK1, hD1⟩ := hB
  rw [ht] at hP1
  obtain ⟨hP2, hD2⟩ := va_join (wr := []) (w1 := cW ad u.1 (cc cI cJ cZ cMic cSrc cSt cAI cAJ ad u)) hP hD (List.range T.1) [] (cW_all ad T.1 (cc cI cJ cZ cMic cSrc cSt cAI cAJ ad T)) rfl rfl (fun i hi => absurd hi List.not_mem_nil) hk1 hFc hP1 hD1
  exact kx E9 ce q9 u H1 locs1 hpx ⟨hP2, hD2, hS⟩ hce hcv hcl
def yT0 (cI cJ cZ cMic cSrc cSt cAI cAJ : ClassId) (h0 : Nat) (ad : Nat → Nat) (T : AT) (sz : Nat) (U : State) : Prop := (∀ a, va_A (cW ad T.1 (cc cI cJ cZ cMic cSrc cSt cAI cAJ ad T)) sz a → h0 ≤ a) ∧ sAll h0 U
def yT1 (cI cJ cZ cMic cSrc cSt cAI cAJ : ClassId) (h0 : Nat) (ad : Nat → Nat) (T : AT) (tx : Nat × (Nat → Int32)) (q sz : Nat) (U : State) : Prop := yT0 cI cJ cZ cMic cSrc cSt cAI cAJ h0 ad T sz U ∧ sO tx q (fun a => h0 ≤ a) U U.heap
theorem yT0.blind {cI cJ cZ cMic cSrc cSt cAI cAJ : ClassId} {ad : Nat → Nat} {h0 : Nat} {T : AT} (sz : Nat) (a : Array Value) (U : State) (g : JFrame) (mk : MethodId) (h : yT0 cI cJ cZ cMic cSrc cSt cAI cAJ h0 ad T sz U) : yT0 cI cJ cZ cMic cSrc cSt cAI cAJ h0 ad T sz (U.calling g mk a) := ⟨h.1, h.2.blind⟩
theorem yT1.blind {cI cJ cZ cMic cSrc cSt cAI cAJ : ClassId} {ad : Nat → Nat} {h0 : Nat} {T : AT} {tx : Nat × (Nat → Int32)} {q : Nat} (sz : Nat) (a : Array Value) (U : State) (g : JFrame) (mk : MethodId) (h : yT1 cI cJ cZ cMic cSrc cSt cAI cAJ h0 ad T tx q sz U) : yT1 cI cJ cZ cMic cSrc cSt cAI cAJ h0 ad T tx q sz (U.calling g mk a) := ⟨⟨h.1.1, h.1.2.blind⟩, sO.moved (u := U) (U := U.calling g mk a) (Vm.Alike.refl U.vm) h.2⟩
theorem yT0.go {D : va_G} {cI cJ cZ cMic cSrc cSt cAI cAJ : ClassId} {ad : Nat → Nat} {h0 : Nat} {T : AT} {A : Nat → Prop} {s : State} {H : Heap} {locs : List Loc} (hT : sAll h0 s) (hA0 : ∀ a : Nat, A a → h0 ≤ a) (hA : ∀ q : Nat, s.heap.size ≤ q → A q) (G : gC cI cJ cZ cMic cSrc cSt cAI cAJ D ad A s.heap H locs T) (U : State) (hU : U.heap = H) (hW : s.WarmedH U.vm) : yT0 cI cJ cZ cMic cSrc cSt cAI cAJ h0 ad T H.size U :=
  ⟨fun a h => hA0 a (va_free (wc := cW ad T.1 (cc cI cJ cZ cMic cSrc cSt cAI cAJ ad T)) G.2.1 G.2.2 hA (List.range T.1) (cW_all ad T.1 (cc cI cJ cZ cMic cSrc cSt cAI cAJ ad T)) a h), hT.moved hA0 G.2.2 hU hW⟩
theorem yT1.go {D : va_G} {cI cJ cZ cMic cSrc cSt cAI cAJ : ClassId} {ad : Nat → Nat} {h0 : Nat} {T : AT} {A : Nat → Prop} {s : State} {H : Heap} {locs : List Loc} {tx : Nat × (Nat → Int32)} {q : Nat} (hT : sAll h0 s) (hA0 : ∀ a : Nat, A a → h0 ≤ a) (hA : ∀ q : Nat, s.heap.size ≤ q → A q) (G : gC cI cJ cZ cMic cSrc cSt cAI cAJ D ad A s.heap H locs T) (hO : sO tx q (fun a => h0 ≤ a) s s.heap) (U : State) (hU : U.heap = H) (hW : s.WarmedH U.vm) : yT1 cI cJ cZ cMic cSrc cSt cAI cAJ h0 ad T tx q H.size U :=
  ⟨yT0.go hT hA0 hA G U hU hW, by rw [hU]; exact sO.moved hW.alike (hO.kept (fun a h1 h2 => G.2.2.2.1 a h1 (fun h3 => h2 (hA0 a h3))))⟩
theorem va_alda {p : Program} {l : Launch} {e : Env} {R : Room} {s : State} {m : MethodId} {args : Array Value} {below : List Frame} {meth : Method} {c : Code} {H : Heap} {locs : List Loc} {cells slots : Nat} {Q : State → Prop} {cc0 : ByteArray} {pc : Nat} {ls : Array Slot} {rest : List Value} {D : va_G}   {a : Nat} {tys : List (ClassId × FieldType)} {ws : va_W} (hexec : p.tables.exec = Jvm.exec) (hb : c.code = cc0) (hK : va_K D vwCl tys s) (hP : va_P D vwCl ws H) (q0 t0 : Nat) {cA : ClassId} {ty : FieldType} {n : Nat} {f : Nat → Option Nat} (ha : ws[q0]? = some (a, .inl (cA, n, .inr (.inr (.inr (.inr f)))))) (ht : tys[t0]? = some (cA, .array ty)) {i : Int32} (hin : vp_in i n) (hdg : decode cc0 pc = .ok (.aaload, 1))
    (kk : W p l e R s m args below meth c H locs cells slots Q (F0 m (pc + 1) ls (va_rf (f i.toNatClampNeg) :: rest))) : W p l e R s m args below meth c H locs cells slots Q (F0 m pc ls (.int i :: .ref a :: rest)) := by
  have hlt : i.toNatClampNeg < n := Nat.not_le.mp fun q => hin (Or.inr q)
  exact W.aald (v := va_rf (f i.toNatClampNeg)) (ty := .array ty) hexec hb (hP q0 _ ha) ((hK.2 t0 _ ht).1 n (fun j => va_rf (f j))) rfl (fun q => by cases q) (by show ¬ (i < 0 ∨ (arrV _ _ _).slots.size ≤ _); rw [arrV_size]; exact hin) (by show (arrV _ _ _).slots[_]? = _; rw [arrV_read _ _ hlt]) rfl rfl hdg kk
theorem c_alda {N : Nat} {S : Nat → va_E} {tys : List (ClassId × FieldType)} {H0 : Heap} {ad : Nat → Nat} {p : Program} {l : Launch} {e : Env} {R : Room} {s : State} {m : MethodId} {args : Array Value} {below : List Frame} {meth : Method} {c : Code} {H : Heap} {locs : List Loc} {cells slots : Nat} {Q : State → Prop} {cc0 : ByteArray} {pc : Nat} {ls : Array Slot} {rest : List Value} {D : va_G} {A : Nat → Prop} {Ts : List Cond} {own : String}  (E : cE p c cc0 s m args Ts D own tys) (G : cG D ad N A H0 H locs S) (q t0 : Nat) {cA : ClassId} {ty : FieldType} {n k : Nat} {f : Nat → Option Nat} {i : Int32} {v : Value} (hq : q < N) (hS : S q = .inl (cA, n, .inr (.inr (.inr (.inr f))))) (ht : tys[t0]? = some (cA, .array ty)) (hi : i = nI k) (hk : k < n) (hn : n < 2 ^ 31) (hv : va_rf (f k) = v) (hdg : decode cc0 pc = .ok (.aaload, 1)) (kk : W p l e R s m args below meth c H locs cells slots Q (F0 m (pc + 1) ls (v :: rest))) : W p l e R s m args below meth c H locs cells slots Q (F0 m pc ls (.int i :: .ref (ad q) :: rest)) := by
  subst hi
  subst hv
  refine va_alda E.1 E.2.1 E.2.2.2.2 G.1 q t0 (cW_e hq hS) ht (vp_in_nI hk hn) hdg ?_
  rw [nI_clamp (Nat.lt_trans hk hn)]
  exact kk
end
section
/-! 11bb.ja.lean.txt -/
set_option maxHeartbeats 4000000 in
set_option maxRecDepth 100000 in
theorem ja_coder (l : Launch) {tx : Nat × (Nat → Int32)} {q : Nat} : Met l yJ0_coder_7d493 (Cond.code yJ0_coder_7d493 cJ0_coder_7d493 1 (some .byte) :: wsA) { frames := 1, cells := 0, slots := 0, locals := 0 } (va_Pc [.ref q] (sP tx q)) (vp_Si (fun r => r = 0)) 0 0 (fun _ => False) := by
  refine Met.ofW (cc := cJ0_coder_7d493) (maxL := 1) (ret := (some .byte)) (by decide) rfl ?_
  intro p e s m args below meth c s₁ B hml hv
  obtain ⟨rfl, hv⟩ := hv
  have hx := B.exec
  have hb := B.bytes
  have hr := B.returns
  have hts := atoms_spec (ws := (Cond.code yJ0_coder_7d493 cJ0_coder_7d493 1 (some .byte) :: wsA)) B.pre
  have hown : s.vm.findClass RJ0 = some m.cls := findClass_of_methodNamed B.named
  have hlocks := B.notSynchronized
  have hS : va_S (fun _ : Nat => False) s.heap s.heap [] := va_S.rf
  have hl := lv_entry ([.ref q]) (n := 1) (Nat.le_of_ble_eq_true rfl)
  rw [lg_entry_eq]
  generalize (lg_sl ([.ref q]) ++ List.replicate (1 - (lg_sl ([.ref q])).length) Slot.unset).toArray = ls at hl ⊢
  have hl : lv_has ls 1 [(0, .ref q)] := hl
  obtain ⟨⟨v, h1, h2, h3, h4⟩, h5, h6⟩ := hv
  refine va_gets (v := .int 1) hx hb h5 hS hown (hts _ (.tail _ qA_254)) (fun _ h => h) dJ0_coder_7d493_0 ?_
  refine lv_if_eq (tgt := 13) hx hb dJ0_coder_7d493_3 (by decide) (fun h => absurd h (by decide)) (fun _ => ?_)
  refine lv_aload_n hx hb dJ0_coder_7d493_6 rfl (lv_at hl 0 rfl) ?_
  refine vk_getf hx hb h2 hS hown (hts _ (.tail _ qA_255)) (fun _ h => h) dJ0_coder_7d493_7 ?_
  refine lv_goto (tgt := 14) hx hb dJ0_coder_7d493_10 (by decide) ?_
  exact W.zret (v := 0) hx hb hr rfl (fun t ht hW => ⟨0, rfl, rfl, ht⟩) (fun _ h => absurd h List.not_mem_nil) dJ0_coder_7d493_14
set_option maxHeartbeats 4000000 in
set_option maxRecDepth 100000 in
theorem ja_isLatin1 (l : Launch) {tx : Nat × (Nat → Int32)} {q : Nat} : Met l yJ0_isLatin1_aae02 (Cond.code yJ0_isLatin1_aae02 cJ0_isLatin1_aae02 1 (some .boolean) :: wsA) { frames := 1, cells := 0, slots := 0, locals := 0 } (va_Pc [.ref q] (sP tx q)) (vp_Si (fun r => r = 1)) 0 0 (fun _ => False) := by
  refine Met.ofW (cc := cJ0_isLatin1_aae02) (maxL := 1) (ret := (some .boolean)) (by decide) rfl ?_
  intro p e s m args below meth c s₁ B hml hv
  obtain ⟨rfl, hv⟩ := hv
  have hx := B.exec
  have hb := B.bytes
  have hr := B.returns
  have hts := atoms_spec (ws := (Cond.code yJ0_isLatin1_aae02 cJ0_isLatin1_aae02 1 (some .boolean) :: wsA)) B.pre
  have hown : s.vm.findClass RJ0 = some m.cls := findClass_of_methodNamed B.named
  have hlocks := B.notSynchronized
  have hS : va_S (fun _ : Nat => False) s.heap s.heap [] := va_S.rf
  have hl := lv_entry ([.ref q]) (n := 1) (Nat.le_of_ble_eq_true rfl)
  rw [lg_entry_eq]
  generalize (lg_sl ([.ref q]) ++ List.replicate (1 - (lg_sl ([.ref q])).length) Slot.unset).toArray = ls at hl ⊢
  have hl : lv_has ls 1 [(0, .ref q)] := hl
  obtain ⟨⟨v, h1, h2, h3, h4⟩, h5, h6⟩ := hv
  refine va_gets (v := .int 1) hx hb h5 hS hown (hts _ (.tail _ qA_254)) (fun _ h => h) dJ0_isLatin1_aae02_0 ?_
  refine lv_if_eq (tgt := 17) hx hb dJ0_isLatin1_aae02_3 (by decide) (fun h => absurd h (by decide)) (fun _ => ?_)
  refine lv_aload_n hx hb dJ0_isLatin1_aae02_6 rfl (lv_at hl 0 rfl) ?_
  refine vk_getf hx hb h2 hS hown (hts _ (.tail _ qA_255)) (fun _ h => h) dJ0_isLatin1_aae02_7 ?_
  refine lv_if_ne (tgt := 17) hx hb dJ0_isLatin1_aae02_10 (by decide) (fun h => absurd rfl h) (fun _ => ?_)
  refine lv_iconst (v := 1) hx hb dJ0_isLatin1_aae02_13 (by decide) ?_
  refine lv_goto (tgt := 18) hx hb dJ0_isLatin1_aae02_14 (by decide) ?_
  exact W.zret (v := 1) hx hb hr rfl (fun t ht hW => ⟨1, rfl, rfl, ht⟩) (fun _ h => absurd h List.not_mem_nil) dJ0_isLatin1_aae02_18
set_option maxHeartbeats 4000000 in
set_option maxRecDepth 100000 in
theorem ja_length (l : Launch) {tx : Nat × (Nat → Int32)} {q : Nat} : Met l yJ0_length_8abf5 (Cond.code yJ0_length_8abf5 cJ0_length_8abf5 1 (some .int) :: wsA) { frames := 2, cells := 0, slots := 0, locals := 20 } (va_Pc [.ref q] (sP tx q)) (vp_Si (fun r => r = nI tx.1 >>> (0 &&& 31))) 0 0 (fun _ => False) := by
  refine Met.ofW (cc := cJ0_length_8abf5) (maxL := 1) (ret := (some .int)) (by decide) rfl ?_
  intro p e s m args below meth c s₁ B hml hv
  obtain ⟨rfl, hv⟩ := hv
  have hx := B.exec
  have hb := B.bytes
  have hr := B.returns
  have hts := atoms_spec (ws := (Cond.code yJ0_length_8abf5 cJ0_length_8abf5 1 (some .int) :: wsA)) B.pre
  have hown : s.vm.findClass RJ0 = some m.cls := findClass_of_methodNamed B.named
  have hlocks := B.notSynchronized
  have hS : va_S (fun _ : Nat => False) s.heap s.heap [] := va_S.rf
  have hl := lv_entry ([.ref q]) (n := 1) (Nat.le_of_ble_eq_true rfl)
  rw [lg_entry_eq]
  generalize (lg_sl ([.ref q]) ++ List.replicate (1 - (lg_sl ([.ref q])).length) Slot.unset).toArray = ls at hl ⊢
  have hl : lv_has ls 1 [(0, .ref q)] := hl
  obtain ⟨⟨v, h1, h2, h3, h4⟩, h5, h6⟩ := id hv
  refine lv_aload_n hx hb dJ0_length_8abf5_0 rfl (lv_at hl 0 rfl) ?_
  refine vk_getf hx hb h3 hS hown (hts _ (.tail _ qA_249)) (fun _ h => h) dJ0_length_8abf5_1 ?_
  refine va_tlen (v := nI tx.1) hx hb h4 hS rfl dJ0_length_8abf5_4 ?_
  refine lv_aload_n hx hb dJ0_length_8abf5_5 rfl (lv_at hl 0 rfl) ?_
  refine s_callV (As := []) (rest := [.int (nI tx.1)]) ⟨hx, hb, hml, hown, hts⟩ (ja_coder l (tx := tx) (q := q)) (cwV 0 hts (gaV qA_250 qA_251 qA_252 qA_247 qA_253) rfl rfl rfl (by decide +kernel) ⟨Nat.le_of_ble_eq_true rfl, Nat.le_of_ble_eq_true rfl⟩) (h1.elim fun cell h => ⟨cell, h.1, h.2.1, h.2.2.1⟩) (fun _ _ _ _ h => h.blind) (fun U hU hW => ⟨by rw [hU]; exact sO.moved hW.alike hv.1, by rw [hU]; exact sZ.moved hW.alike hv.2⟩) rfl hl.1 rfl (lv_room (Nat.le_of_ble_eq_true rfl)) dJ0_length_8abf5_6 ⟨Nat.zero_le _, Nat.zero_le _⟩ (fun r hq => ?_)
  refine lv_to hq ?_
  refine lv_ishr hx hb dJ0_length_8abf5_9 ?_
  exact W.iret (v := (nI tx.1 >>> (0 &&& 31))) hx hb hr (fun t ht hW => ⟨(nI tx.1 >>> (0 &&& 31)), rfl, rfl, ht⟩) (fun _ h => absurd h List.not_mem_nil) dJ0_length_8abf5_10
set_option maxHeartbeats 4000000 in
set_option maxRecDepth 100000 in
theorem ja_ck3n (l : Launch) {i n : Nat} (hi : i < n) (hn : n < 2 ^ 31) : Met l yJ3_checkIndex_8e157 (Cond.code yJ3_checkIndex_8e157 cJ3_checkIndex_8e157 3 (some .int) :: wsA) { frames := 1, cells := 0, slots := 0, locals := 0 } (va_Pc [.int (nI i), .int (nI n), .null] (fun _ => True)) (vp_Si (fun r => r = nI i)) 0 0 (fun _ => False) := by
  refine Met.ofW (cc := cJ3_checkIndex_8e157) (maxL := 3) (ret := (some .int)) (by decide) rfl ?_
  intro p e s m args below meth c s₁ B hml hv
  obtain ⟨rfl, hv⟩ := hv
  have hx := B.exec
  have hb := B.bytes
  have hr := B.returns
  have hts := atoms_spec (ws := (Cond.code yJ3_checkIndex_8e157 cJ3_checkIndex_8e157 3 (some .int) :: wsA)) B.pre
  have hown : s.vm.findClass RJ3 = some m.cls := findClass_of_methodNamed B.named
  have hlocks := B.notSynchronized
  have hS : va_S (fun _ : Nat => False) s.heap s.heap [] := va_S.rf
  have hl := lv_entry ([.int (nI i), .int (nI n), .null]) (n := 3) (Nat.le_of_ble_eq_true rfl)
  rw [lg_entry_eq]
  generalize (lg_sl ([.int (nI i), .int (nI n), .null]) ++ List.replicate (3 - (lg_sl ([.int (nI i), .int (nI n), .null])).length) Slot.unset).toArray = ls at hl ⊢
  have hl : lv_has ls 3 [(0, .int (nI i)), (1, .int (nI n)), (2, .null)] := hl
  refine lv_iload_n hx hb dJ3_checkIndex_8e157_0 rfl (lv_at hl 0 rfl) ?_
  refine lv_if_lt (tgt := 9) hx hb dJ3_checkIndex_8e157_1 (by decide) (fun h => absurd h (nI_pos (Nat.lt_trans hi hn))) (fun _ => ?_)
  refine lv_iload_n hx hb dJ3_checkIndex_8e157_4 rfl (lv_at hl 0 rfl) ?_
  refine lv_iload_n hx hb dJ3_checkIndex_8e157_5 rfl (lv_at hl 1 rfl) ?_
  refine lv_icmp_lt (tgt := 16) hx hb dJ3_checkIndex_8e157_6 (by decide) (fun _ => ?_) (fun h => absurd (nI_lt hi hn) h)
  refine lv_iload_n hx hb dJ3_checkIndex_8e157_16 rfl (lv_at hl 0 rfl) ?_
  exact W.iret (v := (nI i)) hx hb hr (fun t ht hW => ⟨(nI i), rfl, rfl, ht⟩) (fun _ h => absurd h List.not_mem_nil) dJ3_checkIndex_8e157_17
set_option maxHeartbeats 4000000 in
set_option maxRecDepth 100000 in
theorem ja_ck3r (l : Launch) {i n : Nat} {z : Nat} (hi : i < n) (hn : n < 2 ^ 31) : Met l yJ3_checkIndex_8e157 (Cond.code yJ3_checkIndex_8e157 cJ3_checkIndex_8e157 3 (some .int) :: wsA) { frames := 1, cells := 0, slots := 0, locals := 0 } (va_Pc [.int (nI i), .int (nI n), .ref z] (fun _ => True)) (vp_Si (fun r => r = nI i)) 0 0 (fun _ => False) := by
  refine Met.ofW (cc := cJ3_checkIndex_8e157) (maxL := 3) (ret := (some .int)) (by decide) rfl ?_
  intro p e s m args below meth c s₁ B hml hv
  obtain ⟨rfl, hv⟩ := hv
  have hx := B.exec
  have hb := B.bytes
  have hr := B.returns
  have hts := atoms_spec (ws := (Cond.code yJ3_checkIndex_8e157 cJ3_checkIndex_8e157 3 (some .int) :: wsA)) B.pre
  have hown : s.vm.findClass RJ3 = some m.cls := findClass_of_methodNamed B.named
  have hlocks := B.notSynchronized
  have hS : va_S (fun _ : Nat => False) s.heap s.heap [] := va_S.rf
  have hl := lv_entry ([.int (nI i), .int (nI n), .ref z]) (n := 3) (Nat.le_of_ble_eq_true rfl)
  rw [lg_entry_eq]
  generalize (lg_sl ([.int (nI i), .int (nI n), .ref z]) ++ List.replicate (3 - (lg_sl ([.int (nI i), .int (nI n), .ref z])).length) Slot.unset).toArray = ls at hl ⊢
  have hl : lv_has ls 3 [(0, .int (nI i)), (1, .int (nI n)), (2, .ref z)] := hl
  refine lv_iload_n hx hb dJ3_checkIndex_8e157_0 rfl (lv_at hl 0 rfl) ?_
  refine lv_if_lt (tgt := 9) hx hb dJ3_checkIndex_8e157_1 (by decide) (fun h => absurd h (nI_pos (Nat.lt_trans hi hn))) (fun _ => ?_)
  refine lv_iload_n hx hb dJ3_checkIndex_8e157_4 rfl (lv_at hl 0 rfl) ?_
  refine lv_iload_n hx hb dJ3_checkIndex_8e157_5 rfl (lv_at hl 1 rfl) ?_
  refine lv_icmp_lt (tgt := 16) hx hb dJ3_checkIndex_8e157_6 (by decide) (fun _ => ?_) (fun h => absurd (nI_lt hi hn) h)
  refine lv_iload_n hx hb dJ3_checkIndex_8e157_16 rfl (lv_at hl 0 rfl) ?_
  exact W.iret (v := (nI i)) hx hb hr (fun t ht hW => ⟨(nI i), rfl, rfl, ht⟩) (fun _ h => absurd h List.not_mem_nil) dJ3_checkIndex_8e157_17
set_option maxHeartbeats 4000000 in
set_option maxRecDepth 100000 in
theorem ja_ck0 (l : Launch) {i n : Nat} (hi : i < n) (hn : n < 2 ^ 31) : Met l yJ0_checkIndex_df160 (Cond.code yJ0_checkIndex_df160 cJ0_checkIndex_df160 2 none :: wsA) { frames := 2, cells := 0, slots := 0, locals := 22 } (va_Pc [.int (nI i), .int (nI n)] (fun U => sZ (fun _ => False) U U.heap)) s_Sv 0 0 (fun _ => False) := by
  refine Met.ofW (cc := cJ0_checkIndex_df160) (maxL := 2) (ret := none) (by decide) rfl ?_
  intro p e s m args below meth c s₁ B hml hv
  obtain ⟨rfl, hv⟩ := hv
  have hx := B.exec
  have hb := B.bytes
  have hr := B.returns
  have hts := atoms_spec (ws := (Cond.code yJ0_checkIndex_df160 cJ0_checkIndex_df160 2 none :: wsA)) B.pre
  have hown : s.vm.findClass RJ0 = some m.cls := findClass_of_methodNamed B.named
  have hlocks := B.notSynchronized
  have hS : va_S (fun _ : Nat => False) s.heap s.heap [] := va_S.rf
  have hl := lv_entry ([.int (nI i), .int (nI n)]) (n := 2) (Nat.le_of_ble_eq_true rfl)
  rw [lg_entry_eq]
  generalize (lg_sl ([.int (nI i), .int (nI n)]) ++ List.replicate (2 - (lg_sl ([.int (nI i), .int (nI n)])).length) Slot.unset).toArray = ls at hl ⊢
  have hl : lv_has ls 2 [(0, .int (nI i)), (1, .int (nI n))] := hl
  obtain ⟨h5, h6⟩ := hv
  refine lv_iload_n hx hb dJ0_checkIndex_df160_0 rfl (lv_at hl 0 rfl) ?_
  refine lv_iload_n hx hb dJ0_checkIndex_df160_1 rfl (lv_at hl 1 rfl) ?_
  rcases h6 with h6 | ⟨z, h6⟩
  · refine va_gets (v := .null) hx hb h6 hS hown (hts _ (.tail _ qA_271)) (fun _ h => h) dJ0_checkIndex_df160_2 ?_
    refine s_stat (As := [.int (nI i), .int (nI n), .null]) (rest := []) ⟨hx, hb, hml, hown, hts⟩ (ja_ck3n l hi hn) ⟨callB_of 3 hts (gaIn (L := []) (fun _ h => absurd h List.not_mem_nil) qA_275) rfl rfl rfl (hts _ (.tail _ qA_274)) (hts _ (.tail _ qA_272)) (by decide +kernel) ⟨Nat.le_of_ble_eq_true rfl, Nat.le_of_ble_eq_true rfl⟩, hts _ (.tail _ qA_273)⟩ (fun _ _ _ _ h => h) (fun _ _ _ => trivial) rfl hl.1 rfl (lv_room (Nat.le_of_ble_eq_true rfl)) dJ0_checkIndex_df160_5 ⟨Nat.zero_le _, Nat.zero_le _⟩ (fun r hq => ?_)
    refine lv_pop hx hb dJ0_checkIndex_df160_8 rfl ?_
    exact W.vret hx hb hr (fun t ht hW => ⟨rfl, ht⟩) (fun _ h => absurd h List.not_mem_nil) dJ0_checkIndex_df160_9
  · refine va_gets (v := .ref z) hx hb h6 hS hown (hts _ (.tail _ qA_271)) (fun _ h => h) dJ0_checkIndex_df160_2 ?_
    refine s_stat (As := [.int (nI i), .int (nI n), .ref z]) (rest := []) ⟨hx, hb, hml, hown, hts⟩ (ja_ck3r l hi hn) ⟨callB_of 3 hts (gaIn (L := []) (fun _ h => absurd h List.not_mem_nil) qA_275) rfl rfl rfl (hts _ (.tail _ qA_274)) (hts _ (.tail _ qA_272)) (by decide +kernel) ⟨Nat.le_of_ble_eq_true rfl, Nat.le_of_ble_eq_true rfl⟩, hts _ (.tail _ qA_273)⟩ (fun _ _ _ _ h => h) (fun _ _ _ => trivial) rfl hl.1 rfl (lv_room (Nat.le_of_ble_eq_true rfl)) dJ0_checkIndex_df160_5 ⟨Nat.zero_le _, Nat.zero_le _⟩ (fun r hq => ?_)
    refine lv_pop hx hb dJ0_checkIndex_df160_8 rfl ?_
    exact W.vret hx hb hr (fun t ht hW => ⟨rfl, ht⟩) (fun _ h => absurd h List.not_mem_nil) dJ0_checkIndex_df160_9
set_option maxHeartbeats 4000000 in
set_option maxRecDepth 100000 in
theorem ja_ch1 (l : Launch) {v k n : Nat} {f : Nat → Int32} (hk : k < n) (hn : n < 2 ^ 31) (hc : narrow .char (.int (s_ch (f k))) = .int (s_ch (f k))) : Met l yJ1_charAt_3b067 (Cond.code yJ1_charAt_3b067 cJ1_charAt_3b067 2 (some .char) :: wsA) { frames := 3, cells := 0, slots := 0, locals := 44 } (va_Pc [.ref v, .int (nI k)] (fun U => va_T .byte v n (fun j => .int (f j)) (fun _ => False) U U.heap ∧ sZ (fun _ => False) U U.heap)) (vp_Si (fun r => r = s_ch (f k))) 0 0 (fun _ => False) := by
  refine Met.ofW (cc := cJ1_charAt_3b067) (maxL := 2) (ret := (some .char)) (by decide) rfl ?_
  intro p e s m args below meth c s₁ B hml hv
  obtain ⟨rfl, hv⟩ := hv
  have hx := B.exec
  have hb := B.bytes
  have hr := B.returns
  have hts := atoms_spec (ws := (Cond.code yJ1_charAt_3b067 cJ1_charAt_3b067 2 (some .char) :: wsA)) B.pre
  have hown : s.vm.findClass RJ1 = some m.cls := findClass_of_methodNamed B.named
  have hlocks := B.notSynchronized
  have hS : va_S (fun _ : Nat => False) s.heap s.heap [] := va_S.rf
  have hl := lv_entry ([.ref v, .int (nI k)]) (n := 2) (Nat.le_of_ble_eq_true rfl)
  rw [lg_entry_eq]
  generalize (lg_sl ([.ref v, .int (nI k)]) ++ List.replicate (2 - (lg_sl ([.ref v, .int (nI k)])).length) Slot.unset).toArray = ls at hl ⊢
  have hl : lv_has ls 2 [(0, .ref v), (1, .int (nI k))] := hl
  obtain ⟨h4, h5⟩ := hv
  refine lv_iload_n hx hb dJ1_charAt_3b067_0 rfl (lv_at hl 1 rfl) ?_
  refine lv_aload_n hx hb dJ1_charAt_3b067_1 rfl (lv_at hl 0 rfl) ?_
  refine va_tlen (v := nI n) hx hb h4 hS rfl dJ1_charAt_3b067_2 ?_
  refine s_statv (As := [.int (nI k), .int (nI n)]) (rest := []) ⟨hx, hb, hml, hown, hts⟩ (ja_ck0 l hk hn) ⟨callB_of 2 hts (gaIn (L := []) (fun _ h => absurd h List.not_mem_nil) qA_270) rfl rfl rfl (hts _ (.tail _ qA_247)) (hts _ (.tail _ qA_268)) (by decide +kernel) ⟨Nat.le_of_ble_eq_true rfl, Nat.le_of_ble_eq_true rfl⟩, hts _ (.tail _ qA_269)⟩ (fun _ U g mk h => sZ.moved (u := U) (Vm.Alike.refl U.vm) h) (fun U hU hW => by rw [hU]; exact sZ.moved hW.alike h5) rfl hl.1 rfl (lv_room (Nat.le_of_ble_eq_true rfl)) dJ1_charAt_3b067_3 ⟨Nat.zero_le _, Nat.zero_le _⟩ ?_
  refine lv_aload_n hx hb dJ1_charAt_3b067_6 rfl (lv_at hl 0 rfl) ?_
  refine lv_iload_n hx hb dJ1_charAt_3b067_7 rfl (lv_at hl 1 rfl) ?_
  refine va_tb (v := .int (f k)) hx hb h4 hS (vp_in_nI hk hn) (by rw [nI_clamp (Nat.lt_trans hk hn)]) dJ1_charAt_3b067_8 ?_
  refine lv_sipush (v := 255) hx hb dJ1_charAt_3b067_9 (by decide) ?_
  refine lv_iand hx hb dJ1_charAt_3b067_12 ?_
  refine lv_i2c (v := s_ch (f k)) hx hb dJ1_charAt_3b067_13 rfl ?_
  exact W.zret (v := (s_ch (f k))) hx hb hr hc (fun t ht hW => ⟨(s_ch (f k)), rfl, rfl, ht⟩) (fun _ h => absurd h List.not_mem_nil) dJ1_charAt_3b067_14
set_option maxHeartbeats 4000000 in
set_option maxRecDepth 100000 in
theorem ja_charAt (l : Launch) {tx : Nat × (Nat → Int32)} {q : Nat} {k : Nat} (hk : k < tx.1) (hn : tx.1 < 2 ^ 31) (hc : narrow .char (.int (s_ch (tx.2 k))) = .int (s_ch (tx.2 k))) : Met l yJ0_charAt_5068e (Cond.code yJ0_charAt_5068e cJ0_charAt_5068e 2 (some .char) :: wsA) { frames := 4, cells := 0, slots := 0, locals := 66 } (va_Pc [.ref q, .int (nI k)] (sP tx q)) (vp_Si (fun r => r = s_ch (tx.2 k))) 0 0 (fun _ => False) := by
  refine Met.ofW (cc := cJ0_charAt_5068e) (maxL := 2) (ret := (some .char)) (by decide) rfl ?_
  intro p e s m args below meth c s₁ B hml hv
  obtain ⟨rfl, hv⟩ := hv
  have hx := B.exec
  have hb := B.bytes
  have hr := B.returns
  have hts := atoms_spec (ws := (Cond.code yJ0_charAt_5068e cJ0_charAt_5068e 2 (some .char) :: wsA)) B.pre
  have hown : s.vm.findClass RJ0 = some m.cls := findClass_of_methodNamed B.named
  have hlocks := B.notSynchronized
  have hS : va_S (fun _ : Nat => False) s.heap s.heap [] := va_S.rf
  have hl := lv_entry ([.ref q, .int (nI k)]) (n := 2) (Nat.le_of_ble_eq_true rfl)
  rw [lg_entry_eq]
  generalize (lg_sl ([.ref q, .int (nI k)]) ++ List.replicate (2 - (lg_sl ([.ref q, .int (nI k)])).length) Slot.unset).toArray = ls at hl ⊢
  have hl : lv_has ls 2 [(0, .ref q), (1, .int (nI k))] := hl
  obtain ⟨⟨v, h1, h2, h3, h4⟩, h5⟩ := id hv
  refine lv_aload_n hx hb dJ0_charAt_5068e_0 rfl (lv_at hl 0 rfl) ?_
  refine s_callV (As := []) (rest := []) ⟨hx, hb, hml, hown, hts⟩ (ja_isLatin1 l (tx := tx) (q := q)) (cwV 0 hts (gaV qA_260 qA_261 qA_262 qA_247 qA_263) rfl rfl rfl (by decide +kernel) ⟨Nat.le_of_ble_eq_true rfl, Nat.le_of_ble_eq_true rfl⟩) (h1.elim fun cell h => ⟨cell, h.1, h.2.1, h.2.2.1⟩) (fun _ _ _ _ h => h.blind) (fun U hU hW => ⟨by rw [hU]; exact sO.moved hW.alike hv.1, by rw [hU]; exact sZ.moved hW.alike hv.2⟩) rfl hl.1 rfl (lv_room (Nat.le_of_ble_eq_true rfl)) dJ0_charAt_5068e_1 ⟨Nat.zero_le _, Nat.zero_le _⟩ (fun r hq => ?_)
  refine lv_to hq ?_
  refine lv_if_eq (tgt := 16) hx hb dJ0_charAt_5068e_4 (by decide) (fun h => absurd h (by decide)) (fun _ => ?_)
  refine lv_aload_n hx hb dJ0_charAt_5068e_7 rfl (lv_at hl 0 rfl) ?_
  refine vk_getf hx hb h3 hS hown (hts _ (.tail _ qA_249)) (fun _ h => h) dJ0_charAt_5068e_8 ?_
  refine lv_iload_n hx hb dJ0_charAt_5068e_11 rfl (lv_at hl 1 rfl) ?_
  refine s_stat (As := [.ref v, .int (nI k)]) (rest := []) ⟨hx, hb, hml, hown, hts⟩ (ja_ch1 l (v := v) (n := tx.1) (f := tx.2) hk hn hc) ⟨callB_of 2 hts (gaIn (L := []) (fun _ h => absurd h List.not_mem_nil) qA_267) rfl rfl rfl (hts _ (.tail _ qA_266)) (hts _ (.tail _ qA_264)) (by decide +kernel) ⟨Nat.le_of_ble_eq_true rfl, Nat.le_of_ble_eq_true rfl⟩, hts _ (.tail _ qA_265)⟩ (fun _ U g mk h => ⟨va_T.moved (u := U) (Vm.Alike.refl U.vm) h.1, sZ.moved (u := U) (Vm.Alike.refl U.vm) h.2⟩) (fun U hU hW => ⟨by rw [hU]; exact va_T.moved hW.alike h4, by rw [hU]; exact sZ.moved hW.alike h5⟩) rfl hl.1 rfl (lv_room (Nat.le_of_ble_eq_true rfl)) dJ0_charAt_5068e_12 ⟨Nat.zero_le _, Nat.zero_le _⟩ (fun r hq => ?_)
  refine lv_to hq ?_
  exact W.zret (v := (s_ch (tx.2 k))) hx hb hr hc (fun t ht hW => ⟨(s_ch (tx.2 k)), rfl, rfl, ht⟩) (fun _ h => absurd h List.not_mem_nil) dJ0_charAt_5068e_15
end
section
/-! 11c.dec1.lean.txt -/
def fr_thrown (S : MS)  : Option (Int32 × MS) := elet (S.1 0) fun v2 => some (v2, S)
set_option maxHeartbeats 4000000 in
set_option maxRecDepth 100000 in
theorem tr_thrown (l : Launch) (D : va_G) (cI cJ cZ : ClassId) (ad : Nat → Nat) (S : MS)  {r1 : Int32} {S1 : MS} (h : fr_thrown S = some (r1, S1)) : mCi l yX12_thrown (Cond.code yX12_thrown cX12_thrown 1 (some .int) :: wsM) 1 0 D cI cJ cZ ad S [] (fun r S9 => r = r1 ∧ S9 = S1) := by
  intro sz
  refine Met.ofW (cc := cX12_thrown) (maxL := 1) (ret := (some .int)) (by decide) rfl ?_
  intro p e s m args below meth c s₁ B hml hv
  obtain ⟨rfl, hsz, hP, hK, hD0, hR⟩ := hv
  have hx := B.exec
  have hb := B.bytes
  have hr := B.returns
  have hts := atoms_spec (ws := (Cond.code yX12_thrown cX12_thrown 1 (some .int) :: wsM)) B.pre
  have hown : s.vm.findClass RX12 = some m.cls := findClass_of_methodNamed B.named
  have hlocks := B.notSynchronized
  subst hsz
  have hD := hD0.self (sz := s.heap.size)
  generalize hAe : va_A (MW cI cJ cZ ad S) s.heap.size = A at hD ⊢
  have hA : ∀ q : Nat, s.heap.size ≤ q → A q := fun q h => by rw [← hAe]; exact Or.inr h
  have G : mG D cI cJ cZ ad A s.heap s.heap [] S := ⟨hP, hD, va_S.rf⟩
  have E : mE p c cX12_thrown s m ([.ref (ad 0)] : List Value).toArray (Cond.code yX12_thrown cX12_thrown 1 (some .int) :: wsM) D cI cJ cZ := ⟨hx, hb, hts, hown, hK, fun w h => .tail _ (iM_x h)⟩
  have hl := lv_entry ([.ref (ad 0)]) (n := 1) (Nat.le_of_ble_eq_true rfl)
  rw [lg_entry_eq]
  generalize (lg_sl ([.ref (ad 0)]) ++ List.replicate (1 - (lg_sl ([.ref (ad 0)])).length) Slot.unset).toArray = ls at hl ⊢
  have hl : lv_has ls 1 [(0, .ref (ad 0))] := hl
  unfold fr_thrown at h
  refine lv_aload_n hx hb dX12_thrown_0 rfl (lv_at hl 0 rfl) ?_
  refine m_get E G 0 (v := .int (S.1 0)) (by decide) (.tail _ qM_26) rfl dX12_thrown_1 rfl ?_
  refine lv_topi (fun v2 ev2 => ?_)
  have h := elet_at ev2 h
  clear ev2
  exact W.iret (v := v2) hx hb hr (fun t ht hW => ⟨⟨v2, S, rfl, osome2 h, ⟨by rw [ht]; exact G.1, va_K.moved hW.alike hK, G.2.1⟩⟩, G.2.2.F ht⟩) G.2.2.2.2 dX12_thrown_4
def fr_in_b15   (s0 : Int32) : Option (Int32) := oif (s0 = 0 ∨ s0 = 1) <| some s0
set_option maxHeartbeats 4000000 in
set_option maxRecDepth 100000 in
theorem tr_in_b15 {p : Program} {l : Launch} {e : Env} {s : State} {m : MethodId} {args : Array Value} {below : List Frame} {meth : Method} {c : Code} {Q : State → Prop} {r1 : Int32} (E : p.tables.exec = Jvm.exec ∧ c.code = cX12_in ∧ (∀ w ∈ (Cond.code yX12_in cX12_in 3 (some .boolean) :: wsM), w.before args s = true) ∧ s.vm.findClass RX12 = some m.cls) (hml : c.maxLocals = 3) (kr15 : ∀ (ls : Array Slot), (r1 = 0 ∨ r1 = 1) → W p l e { frames := 1, cells := 0, slots := 0, locals := 0 } s m args below meth c s.heap [] 0 0 Q (F0 m 15 ls [.int r1])) : ∀ (ls : Array Slot) (s0 : Int32), fr_in_b15 s0 = some r1 → lv_has ls 3 [] → W p l e { frames := 1, cells := 0, slots := 0, locals := 0 } s m args below meth c s.heap [] 0 0 Q (F0 m 15 ls [.int s0]) := by
  have hx := E.1
  have hb := E.2.1
  have hts := E.2.2.1
  have hown := E.2.2.2
  intro ls s0 h hl
  unfold fr_in_b15 at h
  obtain ⟨gz, h⟩ := oif_some h
  have gr : r1 = 0 ∨ r1 = 1 := by rw [← osome1 h]; exact gz
  refine lv_to (osome1 h) ?_
  exact kr15 _ gr
def fr_in_b14    : Option (Int32) := fr_in_b15 0
set_option maxHeartbeats 4000000 in
set_option maxRecDepth 100000 in
theorem tr_in_b14 {p : Program} {l : Launch} {e : Env} {s : State} {m : MethodId} {args : Array Value} {below : List Frame} {meth : Method} {c : Code} {Q : State → Prop} {r1 : Int32} (E : p.tables.exec = Jvm.exec ∧ c.code = cX12_in ∧ (∀ w ∈ (Cond.code yX12_in cX12_in 3 (some .boolean) :: wsM), w.before args s = true) ∧ s.vm.findClass RX12 = some m.cls) (hml : c.maxLocals = 3) (kr15 : ∀ (ls : Array Slot), (r1 = 0 ∨ r1 = 1) → W p l e { frames := 1, cells := 0, slots := 0, locals := 0 } s m args below meth c s.heap [] 0 0 Q (F0 m 15 ls [.int r1])) : ∀ (ls : Array Slot), fr_in_b14 = some r1 → lv_has ls 3 [] → W p l e { frames := 1, cells := 0, slots := 0, locals := 0 } s m args below meth c s.heap [] 0 0 Q (F0 m 14 ls []) := by
  have hx := E.1
  have hb := E.2.1
  have hts := E.2.2.1
  have hown := E.2.2.2
  intro ls h hl
  unfold fr_in_b14 at h
  refine lv_iconst (v := 0) hx hb dX12_in_14 (by decide) ?_
  have hl := lv_sub hl [] rfl
  exact tr_in_b15 E hml kr15 _ _ h hl
def fr_in  (a0 : Int32) (a1 : Int32) (a2 : Int32) : Option (Int32) := if a0 < a1 then (fr_in_b14) else (if a2 < a0 then (fr_in_b14) else (fr_in_b15 1))
set_option maxHeartbeats 4000000 in
set_option maxRecDepth 100000 in
theorem tr_in (l : Launch) (a0 : Int32) (a1 : Int32) (a2 : Int32) {r1 : Int32} (h : fr_in a0 a1 a2 = some r1) : Met l yX12_in (Cond.code yX12_in cX12_in 3 (some .boolean) :: wsM) { frames := 1, cells := 0, slots := 0, locals := 0 } (va_Pc [.int a0, .int a1, .int a2] (fun _ => True)) (vp_Si (fun r => r = r1)) 0 0 (fun _ => False) := by
  refine Met.ofW (cc := cX12_in) (maxL := 3) (ret := (some .boolean)) (by decide) rfl ?_
  intro p e s m args below meth c s₁ B hml hv
  obtain ⟨rfl, -⟩ := hv
  have hx := B.exec
  have hb := B.bytes
  have hr := B.returns
  have hts := atoms_spec (ws := (Cond.code yX12_in cX12_in 3 (some .boolean) :: wsM)) B.pre
  have hown : s.vm.findClass RX12 = some m.cls := findClass_of_methodNamed B.named
  have hlocks := B.notSynchronized
  have E : p.tables.exec = Jvm.exec ∧ c.code = cX12_in ∧ (∀ w ∈ (Cond.code yX12_in cX12_in 3 (some .boolean) :: wsM), w.before ([.int a0, .int a1, .int a2] : List Value).toArray s = true) ∧ s.vm.findClass RX12 = some m.cls := ⟨hx, hb, hts, hown⟩
  have hl := lv_entry ([.int a0, .int a1, .int a2]) (n := 3) (Nat.le_of_ble_eq_true rfl)
  rw [lg_entry_eq]
  generalize (lg_sl ([.int a0, .int a1, .int a2]) ++ List.replicate (3 - (lg_sl ([.int a0, .int a1, .int a2])).length) Slot.unset).toArray = ls at hl ⊢
  have hl : lv_has ls 3 [(0, .int a0), (1, .int a1), (2, .int a2)] := hl
  unfold fr_in at h
  refine lv_iload_n hx hb dX12_in_0 rfl (lv_at hl 0 rfl) ?_
  refine lv_iload_n hx hb dX12_in_1 rfl (lv_at hl 1 rfl) ?_
  refine lv_icmp_lt (tgt := 14) hx hb dX12_in_2 (by decide) (fun c2 => ?_) (fun c2 => ?_)
  · have h := oif_pos c2 h
    have hl := lv_sub hl [] rfl
    exact tr_in_b14 E hml (fun ls gz => W.zret (v := r1) hx hb hr (nar01 gz) (fun t ht hW => ⟨r1, rfl, rfl, ht⟩) (fun _ h => absurd h List.not_mem_nil) dX12_in_15) _ h hl
  · have h := oif_neg c2 h
    refine lv_iload_n hx hb dX12_in_5 rfl (lv_at hl 0 rfl) ?_
    refine lv_iload_n hx hb dX12_in_6 rfl (lv_at hl 2 rfl) ?_
    refine lv_icmp_gt (tgt := 14) hx hb dX12_in_7 (by decide) (fun c3 => ?_) (fun c3 => ?_)
    · have h := oif_pos c3 h
      have hl := lv_sub hl [] rfl
      exact tr_in_b14 E hml (fun ls gz => W.zret (v := r1) hx hb hr (nar01 gz) (fun t ht hW => ⟨r1, rfl, rfl, ht⟩) (fun _ h => absurd h List.not_mem_nil) dX12_in_15) _ h hl
    · have h := oif_neg c3 h
      refine lv_iconst (v := 1) hx hb dX12_in_10 (by decide) ?_
      refine lv_goto (tgt := 15) hx hb dX12_in_11 (by decide) ?_
      have hl := lv_sub hl [] rfl
      exact tr_in_b15 E hml (fun ls gz => W.zret (v := r1) hx hb hr (nar01 gz) (fun t ht hW => ⟨r1, rfl, rfl, ht⟩) (fun _ h => absurd h List.not_mem_nil) dX12_in_15) _ _ h hl
def fr_throwsAt (S : MS) (a0 : Int32) : Option (Int32 × MS) := elet (mi S 0 a0) fun S2 => some (0, S2)
set_option maxHeartbeats 4000000 in
set_option maxRecDepth 100000 in
theorem tr_throwsAt (l : Launch) (D : va_G) (cI cJ cZ : ClassId) (ad : Nat → Nat) (S : MS) (a0 : Int32) {r1 : Int32} {S1 : MS} (h : fr_throwsAt S a0 = some (r1, S1)) : mCi l yX12_throwsAt (Cond.code yX12_throwsAt cX12_throwsAt 2 (some .int) :: wsM) 1 0 D cI cJ cZ ad S [.int a0] (fun r S9 => r = r1 ∧ S9 = S1) := by
  intro sz
  refine Met.ofW (cc := cX12_throwsAt) (maxL := 2) (ret := (some .int)) (by decide) rfl ?_
  intro p e s m args below meth c s₁ B hml hv
  obtain ⟨rfl, hsz, hP, hK, hD0, hR⟩ := hv
  have hx := B.exec
  have hb := B.bytes
  have hr := B.returns
  have hts := atoms_spec (ws := (Cond.code yX12_throwsAt cX12_throwsAt 2 (some .int) :: wsM)) B.pre
  have hown : s.vm.findClass RX12 = some m.cls := findClass_of_methodNamed B.named
  have hlocks := B.notSynchronized
  subst hsz
  have hD := hD0.self (sz := s.heap.size)
  generalize hAe : va_A (MW cI cJ cZ ad S) s.heap.size = A at hD ⊢
  have hA : ∀ q : Nat, s.heap.size ≤ q → A q := fun q h => by rw [← hAe]; exact Or.inr h
  have G : mG D cI cJ cZ ad A s.heap s.heap [] S := ⟨hP, hD, va_S.rf⟩
  have E : mE p c cX12_throwsAt s m ([.ref (ad 0), .int a0] : List Value).toArray (Cond.code yX12_throwsAt cX12_throwsAt 2 (some .int) :: wsM) D cI cJ cZ := ⟨hx, hb, hts, hown, hK, fun w h => .tail _ (iM_x h)⟩
  have hl := lv_entry ([.ref (ad 0), .int a0]) (n := 2) (Nat.le_of_ble_eq_true rfl)
  rw [lg_entry_eq]
  generalize (lg_sl ([.ref (ad 0), .int a0]) ++ List.replicate (2 - (lg_sl ([.ref (ad 0), .int a0])).length) Slot.unset).toArray = ls at hl ⊢
  have hl : lv_has ls 2 [(0, .ref (ad 0)), (1, .int a0)] := hl
  unfold fr_throwsAt at h
  refine lv_aload_n hx hb dX12_throwsAt_0 rfl (lv_at hl 0 rfl) ?_
  refine lv_iload_n hx hb dX12_throwsAt_1 rfl (lv_at hl 1 rfl) ?_
  refine m_put E G 0 (by decide) (.tail _ qM_26) (mw_i0 _ _ _ _ _ a0) dX12_throwsAt_2 ⟨rfl, rfl, rfl⟩ rfl rfl (fun H locs G => ?_)
  obtain ⟨S2, eS2, h⟩ := elet_some h
  rw [← eS2] at G
  clear eS2
  refine lv_iconst (v := 0) hx hb dX12_throwsAt_5 (by decide) ?_
  exact W.iret (v := 0) hx hb hr (fun t ht hW => ⟨⟨0, S2, rfl, osome2 h, ⟨by rw [ht]; exact G.1, va_K.moved hW.alike hK, G.2.1⟩⟩, G.2.2.F ht⟩) G.2.2.2.2 dX12_throwsAt_6
def fr_four_b3  : Nat → MS → Int32 → Int32 → Option (MS)
  | 0, _, _, _ => none
  | n + 1, S, l1, l2 => if l2 < 0 then (some S) else (elet (S.1 2) fun v3 => elet (l1 >>> (l2 &&& 31)) fun v4 => elet (v4 &&& 255) fun v5 => oif (inb v3 1000 = true) <| elet (mf S 1 (upd (S.2.1 1) v3.toNatClampNeg v5)) fun S7 => elet (S7.1 2) fun v8 => elet (v8 + 1) fun v9 => elet (mi S7 2 v9) fun S10 => elet (l2 + Int32.ofInt (-8)) fun v11 => fr_four_b3 n S10 l1 v11)
set_option maxHeartbeats 4000000 in
set_option maxRecDepth 100000 in
theorem tr_four_b3 {p : Program} {l : Launch} {e : Env} {s : State} {m : MethodId} {args : Array Value} {below : List Frame} {meth : Method} {c : Code} {Q : State → Prop} {D : va_G} {A : Nat → Prop} {H0 : Heap} {cI cJ cZ : ClassId} {ad : Nat → Nat} {S1 : MS} (E : mE p c cX12_four s m args (Cond.code yX12_four cX12_four 3 none :: wsM) D cI cJ cZ) (hA : ∀ q : Nat, H0.size ≤ q → A q) (hR : sR s) (hml : c.maxLocals = 3) (kr39 : ∀ (H : Heap) (locs : List Loc) (ls : Array Slot), mG D cI cJ cZ ad A H0 H locs S1 → W p l e { frames := 1, cells := 0, slots := 0, locals := 0 } s m args below meth c H locs 0 0 Q (F0 m 39 ls [])) : ∀ n : Nat, ∀ (S : MS) (H : Heap) (locs : List Loc) (ls : Array Slot) (l1 : Int32) (l2 : Int32), fr_four_b3 n S l1 l2 = some S1 → mG D cI cJ cZ ad A H0 H locs S → lv_has ls 3 [(0, .ref (ad 0)), (1, .int l1), (2, .int l2)] → W p l e { frames := 1, cells := 0, slots := 0, locals := 0 } s m args below meth c H locs 0 0 Q (F0 m 3 ls []) := by
  have hx := E.1
  have hb := E.2.1
  have hts := E.2.2.1
  have hown := E.2.2.2.1
  have hK := E.2.2.2.2.1
  intro n
  induction n with
  | zero =>
    intro S H locs ls l1 l2 h
    have h : (none : Option (MS)) = some S1 := h
    cases h
  | succ n ih =>
    intro S H locs ls l1 l2 h G hl
    unfold fr_four_b3 at h
    refine lv_iload_n hx hb dX12_four_3 rfl (lv_at hl 2 rfl) ?_
    refine lv_if_lt (tgt := 39) hx hb dX12_four_4 (by decide) (fun c2 => ?_) (fun c2 => ?_)
    · have h := oif_pos c2 h
      rw [osome1 h] at G
      exact kr39 _ _ _ G
    · have h := oif_neg c2 h
      refine lv_aload_n hx hb dX12_four_7 rfl (lv_at hl 0 rfl) ?_
      refine m_get E G 1 (v := .ref (ad 1)) (by decide) (.tail _ qM_5) rfl dX12_four_8 rfl ?_
      refine lv_aload_n hx hb dX12_four_11 rfl (lv_at hl 0 rfl) ?_
      refine m_get E G 2 (v := .int (S.1 2)) (by decide) (.tail _ qM_30) rfl dX12_four_12 rfl ?_
      refine lv_topi (fun v3 ev3 => ?_)
      have h := elet_at ev3 h
      clear ev3
      refine lv_iload_n hx hb dX12_four_15 rfl (lv_at hl 1 rfl) ?_
      refine lv_iload_n hx hb dX12_four_16 rfl (lv_at hl 2 rfl) ?_
      refine lv_ishr hx hb dX12_four_17 ?_
      refine lv_topi (fun v4 ev4 => ?_)
      have h := elet_at ev4 h
      clear ev4
      refine lv_sipush (v := 255) hx hb dX12_four_18 (by decide) ?_
      refine lv_iand hx hb dX12_four_21 ?_
      refine lv_topi (fun v5 ev5 => ?_)
      have h := elet_at ev5 h
      clear ev5
      obtain ⟨g6, h⟩ := oif_some h
      refine m_iast E G 1 1 (k := v3.toNatClampNeg) (v := v5) rfl (fun _ => rfl) (inb_k g6).1 (inb_k g6).2 (by decide) dX12_four_22 (fun H locs G => ?_)
      obtain ⟨S7, eS7, h⟩ := elet_some h
      rw [← eS7] at G
      clear eS7
      refine lv_aload_n hx hb dX12_four_23 rfl (lv_at hl 0 rfl) ?_
      refine lv_dup hx hb dX12_four_24 rfl ?_
      refine m_get E G 2 (v := .int (S7.1 2)) (by decide) (.tail _ qM_30) rfl dX12_four_25 rfl ?_
      refine lv_topi (fun v8 ev8 => ?_)
      have h := elet_at ev8 h
      clear ev8
      refine lv_iconst (v := 1) hx hb dX12_four_28 (by decide) ?_
      refine lv_iadd hx hb dX12_four_29 ?_
      refine lv_topi (fun v9 ev9 => ?_)
      have h := elet_at ev9 h
      clear ev9
      refine m_put E G 2 (by decide) (.tail _ qM_30) (mw_i2 _ _ _ _ _ v9) dX12_four_30 ⟨rfl, rfl, rfl⟩ rfl rfl (fun H locs G => ?_)
      obtain ⟨S10, eS10, h⟩ := elet_some h
      rw [← eS10] at G
      clear eS10
      obtain ⟨v11, ev11, h⟩ := elet_some h
      refine lv_iinc (v := v11) (lv' := [(2, .int v11), (0, .ref (ad 0)), (1, .int l1)]) hx hb dX12_four_33 hl (k := 2) rfl ev11.symm (by decide) rfl (fun ls hl => ?_)
      refine lv_goto (tgt := 3) hx hb dX12_four_36 (by decide) ?_
      have hl := lv_sub hl [1, 2, 0] rfl
      exact ih _ _ _ _ _ _ h G hl
def fr_four (S : MS) (a0 : Int32) : Option (MS) := fr_four_b3 16384 S a0 24
set_option maxHeartbeats 4000000 in
set_option maxRecDepth 100000 in
theorem tr_four (l : Launch) (D : va_G) (cI cJ cZ : ClassId) (ad : Nat → Nat) (S : MS) (a0 : Int32) {S1 : MS} (h : fr_four S a0 = some S1) : mCv l yX12_four (Cond.code yX12_four cX12_four 3 none :: wsM) 1 0 D cI cJ cZ ad S [.int a0] (fun S9 => S9 = S1) := by
  intro sz
  refine Met.ofW (cc := cX12_four) (maxL := 3) (ret := none) (by decide) rfl ?_
  intro p e s m args below meth c s₁ B hml hv
  obtain ⟨rfl, hsz, hP, hK, hD0, hR⟩ := hv
  have hx := B.exec
  have hb := B.bytes
  have hr := B.returns
  have hts := atoms_spec (ws := (Cond.code yX12_four cX12_four 3 none :: wsM)) B.pre
  have hown : s.vm.findClass RX12 = some m.cls := findClass_of_methodNamed B.named
  have hlocks := B.notSynchronized
  subst hsz
  have hD := hD0.self (sz := s.heap.size)
  generalize hAe : va_A (MW cI cJ cZ ad S) s.heap.size = A at hD ⊢
  have hA : ∀ q : Nat, s.heap.size ≤ q → A q := fun q h => by rw [← hAe]; exact Or.inr h
  have G : mG D cI cJ cZ ad A s.heap s.heap [] S := ⟨hP, hD, va_S.rf⟩
  have E : mE p c cX12_four s m ([.ref (ad 0), .int a0] : List Value).toArray (Cond.code yX12_four cX12_four 3 none :: wsM) D cI cJ cZ := ⟨hx, hb, hts, hown, hK, fun w h => .tail _ (iM_x h)⟩
  have hl := lv_entry ([.ref (ad 0), .int a0]) (n := 3) (Nat.le_of_ble_eq_true rfl)
  rw [lg_entry_eq]
  generalize (lg_sl ([.ref (ad 0), .int a0]) ++ List.replicate (3 - (lg_sl ([.ref (ad 0), .int a0])).length) Slot.unset).toArray = ls at hl ⊢
  have hl : lv_has ls 3 [(0, .ref (ad 0)), (1, .int a0)] := hl
  unfold fr_four at h
  refine lv_bipush (v := 24) hx hb dX12_four_0 (by decide) ?_
  refine lv_istore_n (lv' := [(2, .int 24), (0, .ref (ad 0)), (1, .int a0)]) hx hb dX12_four_2 rfl hl (by decide) rfl (fun ls hl => ?_)
  have hl := lv_sub hl [1, 2, 0] rfl
  exact tr_four_b3 E hA hR hml (fun H locs ls G => W.vret hx hb hr (fun t ht hW => ⟨⟨S1, rfl, rfl, ⟨by rw [ht]; exact G.1, va_K.moved hW.alike hK, G.2.1⟩⟩, G.2.2.F ht⟩) G.2.2.2.2 dX12_four_39) _ _ _ _ _ _ _ h G hl
def fr_append (S : MS) (a0 : Int32) (a1 : Int32) (a2 : Int32) (a3 : Int32) (a4 : Int32) : Option (Int32 × MS) := elet (mi S 0 0) fun S2 => elet (S2.1 2) fun v3 => elet (v3 + 20) fun v4 => if v4 ≤ 1000 then (obind (fr_four S2 a0) fun S6 => obind (fr_four S6 a1) fun S9 => obind (fr_four S9 a2) fun S12 => obind (fr_four S12 a3) fun S15 => obind (fr_four S15 a4) fun S18 => elet (S18.1 2) fun v21 => some (v21, S18)) else (some ((-1), S2))
set_option maxHeartbeats 4000000 in
set_option maxRecDepth 100000 in
theorem tr_append (l : Launch) (D : va_G) (cI cJ cZ : ClassId) (ad : Nat → Nat) (S : MS) (a0 : Int32) (a1 : Int32) (a2 : Int32) (a3 : Int32) (a4 : Int32) {r1 : Int32} {S1 : MS} (h : fr_append S a0 a1 a2 a3 a4 = some (r1, S1)) : mCi l yX12_append (Cond.code yX12_append cX12_append 6 (some .int) :: wsM) 2 22 D cI cJ cZ ad S [.int a0, .int a1, .int a2, .int a3, .int a4] (fun r S9 => r = r1 ∧ S9 = S1) := by
  intro sz
  refine Met.ofW (cc := cX12_append) (maxL := 6) (ret := (some .int)) (by decide) rfl ?_
  intro p e s m args below meth c s₁ B hml hv
  obtain ⟨rfl, hsz, hP, hK, hD0, hR⟩ := hv
  have hx := B.exec
  have hb := B.bytes
  have hr := B.returns
  have hts := atoms_spec (ws := (Cond.code yX12_append cX12_append 6 (some .int) :: wsM)) B.pre
  have hown : s.vm.findClass RX12 = some m.cls := findClass_of_methodNamed B.named
  have hlocks := B.notSynchronized
  subst hsz
  have hD := hD0.self (sz := s.heap.size)
  generalize hAe : va_A (MW cI cJ cZ ad S) s.heap.size = A at hD ⊢
  have hA : ∀ q : Nat, s.heap.size ≤ q → A q := fun q h => by rw [← hAe]; exact Or.inr h
  have G : mG D cI cJ cZ ad A s.heap s.heap [] S := ⟨hP, hD, va_S.rf⟩
  have E : mE p c cX12_append s m ([.ref (ad 0), .int a0, .int a1, .int a2, .int a3, .int a4] : List Value).toArray (Cond.code yX12_append cX12_append 6 (some .int) :: wsM) D cI cJ cZ := ⟨hx, hb, hts, hown, hK, fun w h => .tail _ (iM_x h)⟩
  have hl := lv_entry ([.ref (ad 0), .int a0, .int a1, .int a2, .int a3, .int a4]) (n := 6) (Nat.le_of_ble_eq_true rfl)
  rw [lg_entry_eq]
  generalize (lg_sl ([.ref (ad 0), .int a0, .int a1, .int a2, .int a3, .int a4]) ++ List.replicate (6 - (lg_sl ([.ref (ad 0), .int a0, .int a1, .int a2, .int a3, .int a4])).length) Slot.unset).toArray = ls at hl ⊢
  have hl : lv_has ls 6 [(0, .ref (ad 0)), (1, .int a0), (2, .int a1), (3, .int a2), (4, .int a3), (5, .int a4)] := hl
  unfold fr_append at h
  refine lv_aload_n hx hb dX12_append_0 rfl (lv_at hl 0 rfl) ?_
  refine lv_iconst (v := 0) hx hb dX12_append_1 (by decide) ?_
  refine m_put E G 0 (by decide) (.tail _ qM_26) (mw_i0 _ _ _ _ _ 0) dX12_append_2 ⟨rfl, rfl, rfl⟩ rfl rfl (fun H locs G => ?_)
  obtain ⟨S2, eS2, h⟩ := elet_some h
  rw [← eS2] at G
  clear eS2
  refine lv_aload_n hx hb dX12_append_5 rfl (lv_at hl 0 rfl) ?_
  refine m_get E G 2 (v := .int (S2.1 2)) (by decide) (.tail _ qM_30) rfl dX12_append_6 rfl ?_
  refine lv_topi (fun v3 ev3 => ?_)
  have h := elet_at ev3 h
  clear ev3
  refine lv_bipush (v := 20) hx hb dX12_append_9 (by decide) ?_
  refine lv_iadd hx hb dX12_append_11 ?_
  refine lv_topi (fun v4 ev4 => ?_)
  have h := elet_at ev4 h
  clear ev4
  refine lv_sipush (v := 1000) hx hb dX12_append_12 (by decide) ?_
  refine lv_icmp_le (tgt := 20) hx hb dX12_append_15 (by decide) (fun c5 => ?_) (fun c5 => ?_)
  · have h := oif_pos c5 h
    refine lv_aload_n hx hb dX12_append_20 rfl (lv_at hl 0 rfl) ?_
    refine lv_iload_n hx hb dX12_append_21 rfl (lv_at hl 1 rfl) ?_
    obtain ⟨S6, eS6, h⟩ := obind_some h
    refine m_callv (As := [.int a0]) (rest := []) E G hA hR hml (tr_four l D cI cJ cZ ad S2 a0 eS6) (cwV 1 hts (gmV qM_32 qM_33 qM_34 qM_35 qM_29) rfl rfl rfl (by decide +kernel) ⟨Nat.le_of_ble_eq_true rfl, Nat.le_of_ble_eq_true rfl⟩) rfl hl.1 rfl (lv_room (Nat.le_of_ble_eq_true rfl)) dX12_append_22 ⟨Nat.zero_le _, Nat.zero_le _⟩ (fun S8 H locs hq G => ?_)
    rw [hq] at G
    clear hq eS6
    refine lv_aload_n hx hb dX12_append_25 rfl (lv_at hl 0 rfl) ?_
    refine lv_iload_n hx hb dX12_append_26 rfl (lv_at hl 2 rfl) ?_
    obtain ⟨S9, eS9, h⟩ := obind_some h
    refine m_callv (As := [.int a1]) (rest := []) E G hA hR hml (tr_four l D cI cJ cZ ad S6 a1 eS9) (cwV 1 hts (gmV qM_32 qM_33 qM_34 qM_35 qM_29) rfl rfl rfl (by decide +kernel) ⟨Nat.le_of_ble_eq_true rfl, Nat.le_of_ble_eq_true rfl⟩) rfl hl.1 rfl (lv_room (Nat.le_of_ble_eq_true rfl)) dX12_append_27 ⟨Nat.zero_le _, Nat.zero_le _⟩ (fun S11 H locs hq G => ?_)
    rw [hq] at G
    clear hq eS9
    refine lv_aload_n hx hb dX12_append_30 rfl (lv_at hl 0 rfl) ?_
    refine lv_iload_n hx hb dX12_append_31 rfl (lv_at hl 3 rfl) ?_
    obtain ⟨S12, eS12, h⟩ := obind_some h
    refine m_callv (As := [.int a2]) (rest := []) E G hA hR hml (tr_four l D cI cJ cZ ad S9 a2 eS12) (cwV 1 hts (gmV qM_32 qM_33 qM_34 qM_35 qM_29) rfl rfl rfl (by decide +kernel) ⟨Nat.le_of_ble_eq_true rfl, Nat.le_of_ble_eq_true rfl⟩) rfl hl.1 rfl (lv_room (Nat.le_of_ble_eq_true rfl)) dX12_append_32 ⟨Nat.zero_le _, Nat.zero_le _⟩ (fun S14 H locs hq G => ?_)
    rw [hq] at G
    clear hq eS12
    refine lv_aload_n hx hb dX12_append_35 rfl (lv_at hl 0 rfl) ?_
    refine lv_iload hx hb dX12_append_36 (lv_at hl 4 rfl) ?_
    obtain ⟨S15, eS15, h⟩ := obind_some h
    refine m_callv (As := [.int a3]) (rest := []) E G hA hR hml (tr_four l D cI cJ cZ ad S12 a3 eS15) (cwV 1 hts (gmV qM_32 qM_33 qM_34 qM_35 qM_29) rfl rfl rfl (by decide +kernel) ⟨Nat.le_of_ble_eq_true rfl, Nat.le_of_ble_eq_true rfl⟩) rfl hl.1 rfl (lv_room (Nat.le_of_ble_eq_true rfl)) dX12_append_38 ⟨Nat.zero_le _, Nat.zero_le _⟩ (fun S17 H locs hq G => ?_)
    rw [hq] at G
    clear hq eS15
    refine lv_aload_n hx hb dX12_append_41 rfl (lv_at hl 0 rfl) ?_
    refine lv_iload hx hb dX12_append_42 (lv_at hl 5 rfl) ?_
    obtain ⟨S18, eS18, h⟩ := obind_some h
    refine m_callv (As := [.int a4]) (rest := []) E G hA hR hml (tr_four l D cI cJ cZ ad S15 a4 eS18) (cwV 1 hts (gmV qM_32 qM_33 qM_34 qM_35 qM_29) rfl rfl rfl (by decide +kernel) ⟨Nat.le_of_ble_eq_true rfl, Nat.le_of_ble_eq_true rfl⟩) rfl hl.1 rfl (lv_room (Nat.le_of_ble_eq_true rfl)) dX12_append_44 ⟨Nat.zero_le _, Nat.zero_le _⟩ (fun S20 H locs hq G => ?_)
    rw [hq] at G
    clear hq eS18
    refine lv_aload_n hx hb dX12_append_47 rfl (lv_at hl 0 rfl) ?_
    refine m_get E G 2 (v := .int (S18.1 2)) (by decide) (.tail _ qM_30) rfl dX12_append_48 rfl ?_
    refine lv_topi (fun v21 ev21 => ?_)
    have h := elet_at ev21 h
    clear ev21
    exact W.iret (v := v21) hx hb hr (fun t ht hW => ⟨⟨v21, S18, rfl, osome2 h, ⟨by rw [ht]; exact G.1, va_K.moved hW.alike hK, G.2.1⟩⟩, G.2.2.F ht⟩) G.2.2.2.2 dX12_append_51
  · have h := oif_neg c5 h
    refine lv_iconst (v := (-1)) hx hb dX12_append_18 (by decide) ?_
    exact W.iret (v := (-1)) hx hb hr (fun t ht hW => ⟨⟨(-1), S2, rfl, osome2 h, ⟨by rw [ht]; exact G.1, va_K.moved hW.alike hK, G.2.1⟩⟩, G.2.2.F ht⟩) G.2.2.2.2 dX12_append_19
def fr_buffered (S : MS)  : Option (Int32 × MS) := elet (mi S 0 0) fun S2 => elet (S2.1 2) fun v3 => some (v3, S2)
set_option maxHeartbeats 4000000 in
set_option maxRecDepth 100000 in
theorem tr_buffered (l : Launch) (D : va_G) (cI cJ cZ : ClassId) (ad : Nat → Nat) (S : MS)  {r1 : Int32} {S1 : MS} (h : fr_buffered S = some (r1, S1)) : mCi l yX12_buffered (Cond.code yX12_buffered cX12_buffered 1 (some .int) :: wsM) 1 0 D cI cJ cZ ad S [] (fun r S9 => r = r1 ∧ S9 = S1) := by
  intro sz
  refine Met.ofW (cc := cX12_buffered) (maxL := 1) (ret := (some .int)) (by decide) rfl ?_
  intro p e s m args below meth c s₁ B hml hv
  obtain ⟨rfl, hsz, hP, hK, hD0, hR⟩ := hv
  have hx := B.exec
  have hb := B.bytes
  have hr := B.returns
  have hts := atoms_spec (ws := (Cond.code yX12_buffered cX12_buffered 1 (some .int) :: wsM)) B.pre
  have hown : s.vm.findClass RX12 = some m.cls := findClass_of_methodNamed B.named
  have hlocks := B.notSynchronized
  subst hsz
  have hD := hD0.self (sz := s.heap.size)
  generalize hAe : va_A (MW cI cJ cZ ad S) s.heap.size = A at hD ⊢
  have hA : ∀ q : Nat, s.heap.size ≤ q → A q := fun q h => by rw [← hAe]; exact Or.inr h
  have G : mG D cI cJ cZ ad A s.heap s.heap [] S := ⟨hP, hD, va_S.rf⟩
  have E : mE p c cX12_buffered s m ([.ref (ad 0)] : List Value).toArray (Cond.code yX12_buffered cX12_buffered 1 (some .int) :: wsM) D cI cJ cZ := ⟨hx, hb, hts, hown, hK, fun w h => .tail _ (iM_x h)⟩
  have hl := lv_entry ([.ref (ad 0)]) (n := 1) (Nat.le_of_ble_eq_true rfl)
  rw [lg_entry_eq]
  generalize (lg_sl ([.ref (ad 0)]) ++ List.replicate (1 - (lg_sl ([.ref (ad 0)])).length) Slot.unset).toArray = ls at hl ⊢
  have hl : lv_has ls 1 [(0, .ref (ad 0))] := hl
  unfold fr_buffered at h
  refine lv_aload_n hx hb dX12_buffered_0 rfl (lv_at hl 0 rfl) ?_
  refine lv_iconst (v := 0) hx hb dX12_buffered_1 (by decide) ?_
  refine m_put E G 0 (by decide) (.tail _ qM_26) (mw_i0 _ _ _ _ _ 0) dX12_buffered_2 ⟨rfl, rfl, rfl⟩ rfl rfl (fun H locs G => ?_)
  obtain ⟨S2, eS2, h⟩ := elet_some h
  rw [← eS2] at G
  clear eS2
  refine lv_aload_n hx hb dX12_buffered_5 rfl (lv_at hl 0 rfl) ?_
  refine m_get E G 2 (v := .int (S2.1 2)) (by decide) (.tail _ qM_30) rfl dX12_buffered_6 rfl ?_
  refine lv_topi (fun v3 ev3 => ?_)
  have h := elet_at ev3 h
  clear ev3
  exact W.iret (v := v3) hx hb hr (fun t ht hW => ⟨⟨v3, S2, rfl, osome2 h, ⟨by rw [ht]; exact G.1, va_K.moved hW.alike hK, G.2.1⟩⟩, G.2.2.F ht⟩) G.2.2.2.2 dX12_buffered_9
def fr_parseError (S : MS)  : Option (Int32 × MS) := elet (mi S 0 0) fun S2 => elet (S2.1 5) fun v3 => some (v3, S2)
set_option maxHeartbeats 4000000 in
set_option maxRecDepth 100000 in
theorem tr_parseError (l : Launch) (D : va_G) (cI cJ cZ : ClassId) (ad : Nat → Nat) (S : MS)  {r1 : Int32} {S1 : MS} (h : fr_parseError S = some (r1, S1)) : mCi l yX12_parseError (Cond.code yX12_parseError cX12_parseError 1 (some .int) :: wsM) 1 0 D cI cJ cZ ad S [] (fun r S9 => r = r1 ∧ S9 = S1) := by
  intro sz
  refine Met.ofW (cc := cX12_parseError) (maxL := 1) (ret := (some .int)) (by decide) rfl ?_
  intro p e s m args below meth c s₁ B hml hv
  obtain ⟨rfl, hsz, hP, hK, hD0, hR⟩ := hv
  have hx := B.exec
  have hb := B.bytes
  have hr := B.returns
  have hts := atoms_spec (ws := (Cond.code yX12_parseError cX12_parseError 1 (some .int) :: wsM)) B.pre
  have hown : s.vm.findClass RX12 = some m.cls := findClass_of_methodNamed B.named
  have hlocks := B.notSynchronized
  subst hsz
  have hD := hD0.self (sz := s.heap.size)
  generalize hAe : va_A (MW cI cJ cZ ad S) s.heap.size = A at hD ⊢
  have hA : ∀ q : Nat, s.heap.size ≤ q → A q := fun q h => by rw [← hAe]; exact Or.inr h
  have G : mG D cI cJ cZ ad A s.heap s.heap [] S := ⟨hP, hD, va_S.rf⟩
  have E : mE p c cX12_parseError s m ([.ref (ad 0)] : List Value).toArray (Cond.code yX12_parseError cX12_parseError 1 (some .int) :: wsM) D cI cJ cZ := ⟨hx, hb, hts, hown, hK, fun w h => .tail _ (iM_x h)⟩
  have hl := lv_entry ([.ref (ad 0)]) (n := 1) (Nat.le_of_ble_eq_true rfl)
  rw [lg_entry_eq]
  generalize (lg_sl ([.ref (ad 0)]) ++ List.replicate (1 - (lg_sl ([.ref (ad 0)])).length) Slot.unset).toArray = ls at hl ⊢
  have hl : lv_has ls 1 [(0, .ref (ad 0))] := hl
  unfold fr_parseError at h
  refine lv_aload_n hx hb dX12_parseError_0 rfl (lv_at hl 0 rfl) ?_
  refine lv_iconst (v := 0) hx hb dX12_parseError_1 (by decide) ?_
  refine m_put E G 0 (by decide) (.tail _ qM_26) (mw_i0 _ _ _ _ _ 0) dX12_parseError_2 ⟨rfl, rfl, rfl⟩ rfl rfl (fun H locs G => ?_)
  obtain ⟨S2, eS2, h⟩ := elet_some h
  rw [← eS2] at G
  clear eS2
  refine lv_aload_n hx hb dX12_parseError_5 rfl (lv_at hl 0 rfl) ?_
  refine m_get E G 5 (v := .int (S2.1 5)) (by decide) (.tail _ qM_38) rfl dX12_parseError_6 rfl ?_
  refine lv_topi (fun v3 ev3 => ?_)
  have h := elet_at ev3 h
  clear ev3
  exact W.iret (v := v3) hx hb hr (fun t ht hW => ⟨⟨v3, S2, rfl, osome2 h, ⟨by rw [ht]; exact G.1, va_K.moved hW.alike hK, G.2.1⟩⟩, G.2.2.F ht⟩) G.2.2.2.2 dX12_parseError_9
def fr_errorPosition (S : MS)  : Option (Int32 × MS) := elet (mi S 0 0) fun S2 => elet (S2.1 6) fun v3 => some (v3, S2)
set_option maxHeartbeats 4000000 in
set_option maxRecDepth 100000 in
theorem tr_errorPosition (l : Launch) (D : va_G) (cI cJ cZ : ClassId) (ad : Nat → Nat) (S : MS)  {r1 : Int32} {S1 : MS} (h : fr_errorPosition S = some (r1, S1)) : mCi l yX12_errorPosition (Cond.code yX12_errorPosition cX12_errorPosition 1 (some .int) :: wsM) 1 0 D cI cJ cZ ad S [] (fun r S9 => r = r1 ∧ S9 = S1) := by
  intro sz
  refine Met.ofW (cc := cX12_errorPosition) (maxL := 1) (ret := (some .int)) (by decide) rfl ?_
  intro p e s m args below meth c s₁ B hml hv
  obtain ⟨rfl, hsz, hP, hK, hD0, hR⟩ := hv
  have hx := B.exec
  have hb := B.bytes
  have hr := B.returns
  have hts := atoms_spec (ws := (Cond.code yX12_errorPosition cX12_errorPosition 1 (some .int) :: wsM)) B.pre
  have hown : s.vm.findClass RX12 = some m.cls := findClass_of_methodNamed B.named
  have hlocks := B.notSynchronized
  subst hsz
  have hD := hD0.self (sz := s.heap.size)
  generalize hAe : va_A (MW cI cJ cZ ad S) s.heap.size = A at hD ⊢
  have hA : ∀ q : Nat, s.heap.size ≤ q → A q := fun q h => by rw [← hAe]; exact Or.inr h
  have G : mG D cI cJ cZ ad A s.heap s.heap [] S := ⟨hP, hD, va_S.rf⟩
  have E : mE p c cX12_errorPosition s m ([.ref (ad 0)] : List Value).toArray (Cond.code yX12_errorPosition cX12_errorPosition 1 (some .int) :: wsM) D cI cJ cZ := ⟨hx, hb, hts, hown, hK, fun w h => .tail _ (iM_x h)⟩
  have hl := lv_entry ([.ref (ad 0)]) (n := 1) (Nat.le_of_ble_eq_true rfl)
  rw [lg_entry_eq]
  generalize (lg_sl ([.ref (ad 0)]) ++ List.replicate (1 - (lg_sl ([.ref (ad 0)])).length) Slot.unset).toArray = ls at hl ⊢
  have hl : lv_has ls 1 [(0, .ref (ad 0))] := hl
  unfold fr_errorPosition at h
  refine lv_aload_n hx hb dX12_errorPosition_0 rfl (lv_at hl 0 rfl) ?_
  refine lv_iconst (v := 0) hx hb dX12_errorPosition_1 (by decide) ?_
  refine m_put E G 0 (by decide) (.tail _ qM_26) (mw_i0 _ _ _ _ _ 0) dX12_errorPosition_2 ⟨rfl, rfl, rfl⟩ rfl rfl (fun H locs G => ?_)
  obtain ⟨S2, eS2, h⟩ := elet_some h
  rw [← eS2] at G
  clear eS2
  refine lv_aload_n hx hb dX12_errorPosition_5 rfl (lv_at hl 0 rfl) ?_
  refine m_get E G 6 (v := .int (S2.1 6)) (by decide) (.tail _ qM_6) rfl dX12_errorPosition_6 rfl ?_
  refine lv_topi (fun v3 ev3 => ?_)
  have h := elet_at ev3 h
  clear ev3
  exact W.iret (v := v3) hx hb hr (fun t ht hW => ⟨⟨v3, S2, rfl, osome2 h, ⟨by rw [ht]; exact G.1, va_K.moved hW.alike hK, G.2.1⟩⟩, G.2.2.F ht⟩) G.2.2.2.2 dX12_errorPosition_9
def fr_byteAt_b18  (S : MS) (s0 : Int32) : Option (Int32 × MS) := some (s0, S)
set_option maxHeartbeats 4000000 in
set_option maxRecDepth 100000 in
theorem tr_byteAt_b18 {p : Program} {l : Launch} {e : Env} {s : State} {m : MethodId} {args : Array Value} {below : List Frame} {meth : Method} {c : Code} {Q : State → Prop} {D : va_G} {A : Nat → Prop} {H0 : Heap} {cI cJ cZ : ClassId} {ad : Nat → Nat} {r1 : Int32} {S1 : MS} (E : mE p c cX12_byteAt s m args (Cond.code yX12_byteAt cX12_byteAt 2 (some .int) :: wsM) D cI cJ cZ) (hA : ∀ q : Nat, H0.size ≤ q → A q) (hR : sR s) (hml : c.maxLocals = 2) (kr18 : ∀ (H : Heap) (locs : List Loc) (ls : Array Slot), mG D cI cJ cZ ad A H0 H locs S1 → W p l e { frames := 1, cells := 0, slots := 0, locals := 0 } s m args below meth c H locs 0 0 Q (F0 m 18 ls [.int r1])) : ∀ (S : MS) (H : Heap) (locs : List Loc) (ls : Array Slot) (s0 : Int32), fr_byteAt_b18 S s0 = some (r1, S1) → mG D cI cJ cZ ad A H0 H locs S → lv_has ls 2 [] → W p l e { frames := 1, cells := 0, slots := 0, locals := 0 } s m args below meth c H locs 0 0 Q (F0 m 18 ls [.int s0]) := by
  have hx := E.1
  have hb := E.2.1
  have hts := E.2.2.1
  have hown := E.2.2.2.1
  have hK := E.2.2.2.2.1
  intro S H locs ls s0 h G hl
  unfold fr_byteAt_b18 at h
  rw [(osome2 h).2] at G
  refine lv_to (osome2 h).1 ?_
  exact kr18 _ _ _ G
def fr_byteAt (S : MS) (a0 : Int32) : Option (Int32 × MS) := elet (S.1 3) fun v2 => if v2 ≤ a0 then (fr_byteAt_b18 S (-1)) else (oif (inb a0 1000 = true) <| elet (S.2.1 1 a0.toNatClampNeg) fun v5 => fr_byteAt_b18 S v5)
set_option maxHeartbeats 4000000 in
set_option maxRecDepth 100000 in
theorem tr_byteAt (l : Launch) (D : va_G) (cI cJ cZ : ClassId) (ad : Nat → Nat) (S : MS) (a0 : Int32) {r1 : Int32} {S1 : MS} (h : fr_byteAt S a0 = some (r1, S1)) : mCi l yX12_byteAt (Cond.code yX12_byteAt cX12_byteAt 2 (some .int) :: wsM) 1 0 D cI cJ cZ ad S [.int a0] (fun r S9 => r = r1 ∧ S9 = S1) := by
  intro sz
  refine Met.ofW (cc := cX12_byteAt) (maxL := 2) (ret := (some .int)) (by decide) rfl ?_
  intro p e s m args below meth c s₁ B hml hv
  obtain ⟨rfl, hsz, hP, hK, hD0, hR⟩ := hv
  have hx := B.exec
  have hb := B.bytes
  have hr := B.returns
  have hts := atoms_spec (ws := (Cond.code yX12_byteAt cX12_byteAt 2 (some .int) :: wsM)) B.pre
  have hown : s.vm.findClass RX12 = some m.cls := findClass_of_methodNamed B.named
  have hlocks := B.notSynchronized
  subst hsz
  have hD := hD0.self (sz := s.heap.size)
  generalize hAe : va_A (MW cI cJ cZ ad S) s.heap.size = A at hD ⊢
  have hA : ∀ q : Nat, s.heap.size ≤ q → A q := fun q h => by rw [← hAe]; exact Or.inr h
  have G : mG D cI cJ cZ ad A s.heap s.heap [] S := ⟨hP, hD, va_S.rf⟩
  have E : mE p c cX12_byteAt s m ([.ref (ad 0), .int a0] : List Value).toArray (Cond.code yX12_byteAt cX12_byteAt 2 (some .int) :: wsM) D cI cJ cZ := ⟨hx, hb, hts, hown, hK, fun w h => .tail _ (iM_x h)⟩
  have hl := lv_entry ([.ref (ad 0), .int a0]) (n := 2) (Nat.le_of_ble_eq_true rfl)
  rw [lg_entry_eq]
  generalize (lg_sl ([.ref (ad 0), .int a0]) ++ List.replicate (2 - (lg_sl ([.ref (ad 0), .int a0])).length) Slot.unset).toArray = ls at hl ⊢
  have hl : lv_has ls 2 [(0, .ref (ad 0)), (1, .int a0)] := hl
  unfold fr_byteAt at h
  refine lv_iload_n hx hb dX12_byteAt_0 rfl (lv_at hl 1 rfl) ?_
  refine lv_aload_n hx hb dX12_byteAt_1 rfl (lv_at hl 0 rfl) ?_
  refine m_get E G 3 (v := .int (S.1 3)) (by decide) (.tail _ qM_41) rfl dX12_byteAt_2 rfl ?_
  refine lv_topi (fun v2 ev2 => ?_)
  have h := elet_at ev2 h
  clear ev2
  refine lv_icmp_ge (tgt := 17) hx hb dX12_byteAt_5 (by decide) (fun c3 => ?_) (fun c3 => ?_)
  · have h := oif_pos c3 h
    refine lv_iconst (v := (-1)) hx hb dX12_byteAt_17 (by decide) ?_
    have hl := lv_sub hl [] rfl
    exact tr_byteAt_b18 E hA hR hml (fun H locs ls G => W.iret (v := r1) hx hb hr (fun t ht hW => ⟨⟨r1, S1, rfl, ⟨rfl, rfl⟩, ⟨by rw [ht]; exact G.1, va_K.moved hW.alike hK, G.2.1⟩⟩, G.2.2.F ht⟩) G.2.2.2.2 dX12_byteAt_18) _ _ _ _ _ h G hl
  · have h := oif_neg c3 h
    refine lv_aload_n hx hb dX12_byteAt_8 rfl (lv_at hl 0 rfl) ?_
    refine m_get E G 1 (v := .ref (ad 1)) (by decide) (.tail _ qM_5) rfl dX12_byteAt_9 rfl ?_
    refine lv_iload_n hx hb dX12_byteAt_12 rfl (lv_at hl 1 rfl) ?_
    obtain ⟨g4, h⟩ := oif_some h
    refine m_iald E G 1 1 (n := 1000) (k := a0.toNatClampNeg) rfl (inb_k g4).1 (inb_k g4).2 (by decide) dX12_byteAt_13 ?_
    refine lv_topi (fun v5 ev5 => ?_)
    have h := elet_at ev5 h
    clear ev5
    refine lv_goto (tgt := 18) hx hb dX12_byteAt_14 (by decide) ?_
    have hl := lv_sub hl [] rfl
    exact tr_byteAt_b18 E hA hR hml (fun H locs ls G => W.iret (v := r1) hx hb hr (fun t ht hW => ⟨⟨r1, S1, rfl, ⟨rfl, rfl⟩, ⟨by rw [ht]; exact G.1, va_K.moved hW.alike hK, G.2.1⟩⟩, G.2.2.F ht⟩) G.2.2.2.2 dX12_byteAt_18) _ _ _ _ _ h G hl
def fr_faults (S : MS) (a0 : Int32) : Option (MS) := elet (S.1 5) fun v2 => if v2 ≤ 0 then (elet (mi S 5 a0) fun S4 => elet (S4.1 8) fun v5 => elet (mi S4 6 v5) fun S6 => some S6) else (some S)
set_option maxHeartbeats 4000000 in
set_option maxRecDepth 100000 in
theorem tr_faults (l : Launch) (D : va_G) (cI cJ cZ : ClassId) (ad : Nat → Nat) (S : MS) (a0 : Int32) {S1 : MS} (h : fr_faults S a0 = some S1) : mCv l yX12_faults (Cond.code yX12_faults cX12_faults 2 none :: wsM) 1 0 D cI cJ cZ ad S [.int a0] (fun S9 => S9 = S1) := by
  intro sz
  refine Met.ofW (cc := cX12_faults) (maxL := 2) (ret := none) (by decide) rfl ?_
  intro p e s m args below meth c s₁ B hml hv
  obtain ⟨rfl, hsz, hP, hK, hD0, hR⟩ := hv
  have hx := B.exec
  have hb := B.bytes
  have hr := B.returns
  have hts := atoms_spec (ws := (Cond.code yX12_faults cX12_faults 2 none :: wsM)) B.pre
  have hown : s.vm.findClass RX12 = some m.cls := findClass_of_methodNamed B.named
  have hlocks := B.notSynchronized
  subst hsz
  have hD := hD0.self (sz := s.heap.size)
  generalize hAe : va_A (MW cI cJ cZ ad S) s.heap.size = A at hD ⊢
  have hA : ∀ q : Nat, s.heap.size ≤ q → A q := fun q h => by rw [← hAe]; exact Or.inr h
  have G : mG D cI cJ cZ ad A s.heap s.heap [] S := ⟨hP, hD, va_S.rf⟩
  have E : mE p c cX12_faults s m ([.ref (ad 0), .int a0] : List Value).toArray (Cond.code yX12_faults cX12_faults 2 none :: wsM) D cI cJ cZ := ⟨hx, hb, hts, hown, hK, fun w h => .tail _ (iM_x h)⟩
  have hl := lv_entry ([.ref (ad 0), .int a0]) (n := 2) (Nat.le_of_ble_eq_true rfl)
  rw [lg_entry_eq]
  generalize (lg_sl ([.ref (ad 0), .int a0]) ++ List.replicate (2 - (lg_sl ([.ref (ad 0), .int a0])).length) Slot.unset).toArray = ls at hl ⊢
  have hl : lv_has ls 2 [(0, .ref (ad 0)), (1, .int a0)] := hl
  unfold fr_faults at h
  refine lv_aload_n hx hb dX12_faults_0 rfl (lv_at hl 0 rfl) ?_
  refine m_get E G 5 (v := .int (S.1 5)) (by decide) (.tail _ qM_38) rfl dX12_faults_1 rfl ?_
  refine lv_topi (fun v2 ev2 => ?_)
  have h := elet_at ev2 h
  clear ev2
  refine lv_if_le (tgt := 8) hx hb dX12_faults_4 (by decide) (fun c3 => ?_) (fun c3 => ?_)
  · have h := oif_pos c3 h
    refine lv_aload_n hx hb dX12_faults_8 rfl (lv_at hl 0 rfl) ?_
    refine lv_iload_n hx hb dX12_faults_9 rfl (lv_at hl 1 rfl) ?_
    refine m_put E G 5 (by decide) (.tail _ qM_38) (mw_i5 _ _ _ _ _ a0) dX12_faults_10 ⟨rfl, rfl, rfl⟩ rfl rfl (fun H locs G => ?_)
    obtain ⟨S4, eS4, h⟩ := elet_some h
    rw [← eS4] at G
    clear eS4
    refine lv_aload_n hx hb dX12_faults_13 rfl (lv_at hl 0 rfl) ?_
    refine lv_aload_n hx hb dX12_faults_14 rfl (lv_at hl 0 rfl) ?_
    refine m_get E G 8 (v := .int (S4.1 8)) (by decide) (.tail _ qM_43) rfl dX12_faults_15 rfl ?_
    refine lv_topi (fun v5 ev5 => ?_)
    have h := elet_at ev5 h
    clear ev5
    refine m_put E G 6 (by decide) (.tail _ qM_6) (mw_i6 _ _ _ _ _ v5) dX12_faults_18 ⟨rfl, rfl, rfl⟩ rfl rfl (fun H locs G => ?_)
    obtain ⟨S6, eS6, h⟩ := elet_some h
    rw [← eS6] at G
    clear eS6
    exact W.vret hx hb hr (fun t ht hW => ⟨⟨S6, rfl, osome1 h, ⟨by rw [ht]; exact G.1, va_K.moved hW.alike hK, G.2.1⟩⟩, G.2.2.F ht⟩) G.2.2.2.2 dX12_faults_21
  · have h := oif_neg c3 h
    exact W.vret hx hb hr (fun t ht hW => ⟨⟨S, rfl, osome1 h, ⟨by rw [ht]; exact G.1, va_K.moved hW.alike hK, G.2.1⟩⟩, G.2.2.F ht⟩) G.2.2.2.2 dX12_faults_7
def fr_isSign_b47   (s0 : Int32) : Option (Int32) := oif (s0 = 0 ∨ s0 = 1) <| some s0
set_option maxHeartbeats 4000000 in
set_option maxRecDepth 100000 in
theorem tr_isSign_b47 {p : Program} {l : Launch} {e : Env} {s : State} {m : MethodId} {args : Array Value} {below : List Frame} {meth : Method} {c : Code} {Q : State → Prop} {r1 : Int32} (E : p.tables.exec = Jvm.exec ∧ c.code = cX12_isSign ∧ (∀ w ∈ (Cond.code yX12_isSign cX12_isSign 1 (some .boolean) :: wsM), w.before args s = true) ∧ s.vm.findClass RX12 = some m.cls) (hml : c.maxLocals = 1) (kr47 : ∀ (ls : Array Slot), (r1 = 0 ∨ r1 = 1) → W p l e { frames := 1, cells := 0, slots := 0, locals := 0 } s m args below meth c s.heap [] 0 0 Q (F0 m 47 ls [.int r1])) : ∀ (ls : Array Slot) (s0 : Int32), fr_isSign_b47 s0 = some r1 → lv_has ls 1 [] → W p l e { frames := 1, cells := 0, slots := 0, locals := 0 } s m args below meth c s.heap [] 0 0 Q (F0 m 47 ls [.int s0]) := by
  have hx := E.1
  have hb := E.2.1
  have hts := E.2.2.1
  have hown := E.2.2.2
  intro ls s0 h hl
  unfold fr_isSign_b47 at h
  obtain ⟨gz, h⟩ := oif_some h
  have gr : r1 = 0 ∨ r1 = 1 := by rw [← osome1 h]; exact gz
  refine lv_to (osome1 h) ?_
  exact kr47 _ gr
def fr_isSign_b42    : Option (Int32) := fr_isSign_b47 1
set_option maxHeartbeats 4000000 in
set_option maxRecDepth 100000 in
theorem tr_isSign_b42 {p : Program} {l : Launch} {e : Env} {s : State} {m : MethodId} {args : Array Value} {below : List Frame} {meth : Method} {c : Code} {Q : State → Prop} {r1 : Int32} (E : p.tables.exec = Jvm.exec ∧ c.code = cX12_isSign ∧ (∀ w ∈ (Cond.code yX12_isSign cX12_isSign 1 (some .boolean) :: wsM), w.before args s = true) ∧ s.vm.findClass RX12 = some m.cls) (hml : c.maxLocals = 1) (kr47 : ∀ (ls : Array Slot), (r1 = 0 ∨ r1 = 1) → W p l e { frames := 1, cells := 0, slots := 0, locals := 0 } s m args below meth c s.heap [] 0 0 Q (F0 m 47 ls [.int r1])) : ∀ (ls : Array Slot), fr_isSign_b42 = some r1 → lv_has ls 1 [] → W p l e { frames := 1, cells := 0, slots := 0, locals := 0 } s m args below meth c s.heap [] 0 0 Q (F0 m 42 ls []) := by
  have hx := E.1
  have hb := E.2.1
  have hts := E.2.2.1
  have hown := E.2.2.2
  intro ls h hl
  unfold fr_isSign_b42 at h
  refine lv_iconst (v := 1) hx hb dX12_isSign_42 (by decide) ?_
  refine lv_goto (tgt := 47) hx hb dX12_isSign_43 (by decide) ?_
  have hl := lv_sub hl [] rfl
  exact tr_isSign_b47 E hml kr47 _ _ h hl
def fr_isSign  (a0 : Int32) : Option (Int32) := if a0 = 59 then (fr_isSign_b42) else (if a0 = 40 then (fr_isSign_b42) else (if a0 = 41 then (fr_isSign_b42) else (if a0 = 43 then (fr_isSign_b42) else (if a0 = 45 then (fr_isSign_b42) else (if a0 = 42 then (fr_isSign_b42) else (if a0 = 47 then (fr_isSign_b42) else (fr_isSign_b47 0)))))))
set_option maxHeartbeats 4000000 in
set_option maxRecDepth 100000 in
theorem tr_isSign (l : Launch) (a0 : Int32) {r1 : Int32} (h : fr_isSign a0 = some r1) : Met l yX12_isSign (Cond.code yX12_isSign cX12_isSign 1 (some .boolean) :: wsM) { frames := 1, cells := 0, slots := 0, locals := 0 } (va_Pc [.int a0] (fun _ => True)) (vp_Si (fun r => r = r1)) 0 0 (fun _ => False) := by
  refine Met.ofW (cc := cX12_isSign) (maxL := 1) (ret := (some .boolean)) (by decide) rfl ?_
  intro p e s m args below meth c s₁ B hml hv
  obtain ⟨rfl, -⟩ := hv
  have hx := B.exec
  have hb := B.bytes
  have hr := B.returns
  have hts := atoms_spec (ws := (Cond.code yX12_isSign cX12_isSign 1 (some .boolean) :: wsM)) B.pre
  have hown : s.vm.findClass RX12 = some m.cls := findClass_of_methodNamed B.named
  have hlocks := B.notSynchronized
  have E : p.tables.exec = Jvm.exec ∧ c.code = cX12_isSign ∧ (∀ w ∈ (Cond.code yX12_isSign cX12_isSign 1 (some .boolean) :: wsM), w.before ([.int a0] : List Value).toArray s = true) ∧ s.vm.findClass RX12 = some m.cls := ⟨hx, hb, hts, hown⟩
  have hl := lv_entry ([.int a0]) (n := 1) (Nat.le_of_ble_eq_true rfl)
  rw [lg_entry_eq]
  generalize (lg_sl ([.int a0]) ++ List.replicate (1 - (lg_sl ([.int a0])).length) Slot.unset).toArray = ls at hl ⊢
  have hl : lv_has ls 1 [(0, .int a0)] := hl
  unfold fr_isSign at h
  refine lv_iload_n hx hb dX12_isSign_0 rfl (lv_at hl 0 rfl) ?_
  refine lv_bipush (v := 59) hx hb dX12_isSign_1 (by decide) ?_
  refine lv_icmp_eq (tgt := 42) hx hb dX12_isSign_3 (by decide) (fun c2 => ?_) (fun c2 => ?_)
  · have h := oif_pos c2 h
    have hl := lv_sub hl [] rfl
    exact tr_isSign_b42 E hml (fun ls gz => W.zret (v := r1) hx hb hr (nar01 gz) (fun t ht hW => ⟨r1, rfl, rfl, ht⟩) (fun _ h => absurd h List.not_mem_nil) dX12_isSign_47) _ h hl
  · have h := oif_neg c2 h
    refine lv_iload_n hx hb dX12_isSign_6 rfl (lv_at hl 0 rfl) ?_
    refine lv_bipush (v := 40) hx hb dX12_isSign_7 (by decide) ?_
    refine lv_icmp_eq (tgt := 42) hx hb dX12_isSign_9 (by decide) (fun c3 => ?_) (fun c3 => ?_)
    · have h := oif_pos c3 h
      have hl := lv_sub hl [] rfl
      exact tr_isSign_b42 E hml (fun ls gz => W.zret (v := r1) hx hb hr (nar01 gz) (fun t ht hW => ⟨r1, rfl, rfl, ht⟩) (fun _ h => absurd h List.not_mem_nil) dX12_isSign_47) _ h hl
    · have h := oif_neg c3 h
      refine lv_iload_n hx hb dX12_isSign_12 rfl (lv_at hl 0 rfl) ?_
      refine lv_bipush (v := 41) hx hb dX12_isSign_13 (by decide) ?_
      refine lv_icmp_eq (tgt := 42) hx hb dX12_isSign_15 (by decide) (fun c4 => ?_) (fun c4 => ?_)
      · have h := oif_pos c4 h
        have hl := lv_sub hl [] rfl
        exact tr_isSign_b42 E hml (fun ls gz => W.zret (v := r1) hx hb hr (nar01 gz) (fun t ht hW => ⟨r1, rfl, rfl, ht⟩) (fun _ h => absurd h List.not_mem_nil) dX12_isSign_47) _ h hl
      · have h := oif_neg c4 h
        refine lv_iload_n hx hb dX12_isSign_18 rfl (lv_at hl 0 rfl) ?_
        refine lv_bipush (v := 43) hx hb dX12_isSign_19 (by decide) ?_
        refine lv_icmp_eq (tgt := 42) hx hb dX12_isSign_21 (by decide) (fun c5 => ?_) (fun c5 => ?_)
        · have h := oif_pos c5 h
          have hl := lv_sub hl [] rfl
          exact tr_isSign_b42 E hml (fun ls gz => W.zret (v := r1) hx hb hr (nar01 gz) (fun t ht hW => ⟨r1, rfl, rfl, ht⟩) (fun _ h => absurd h List.not_mem_nil) dX12_isSign_47) _ h hl
        · have h := oif_neg c5 h
          refine lv_iload_n hx hb dX12_isSign_24 rfl (lv_at hl 0 rfl) ?_
          refine lv_bipush (v := 45) hx hb dX12_isSign_25 (by decide) ?_
          refine lv_icmp_eq (tgt := 42) hx hb dX12_isSign_27 (by decide) (fun c6 => ?_) (fun c6 => ?_)
          · have h := oif_pos c6 h
            have hl := lv_sub hl [] rfl
            exact tr_isSign_b42 E hml (fun ls gz => W.zret (v := r1) hx hb hr (nar01 gz) (fun t ht hW => ⟨r1, rfl, rfl, ht⟩) (fun _ h => absurd h List.not_mem_nil) dX12_isSign_47) _ h hl
          · have h := oif_neg c6 h
            refine lv_iload_n hx hb dX12_isSign_30 rfl (lv_at hl 0 rfl) ?_
            refine lv_bipush (v := 42) hx hb dX12_isSign_31 (by decide) ?_
            refine lv_icmp_eq (tgt := 42) hx hb dX12_isSign_33 (by decide) (fun c7 => ?_) (fun c7 => ?_)
            · have h := oif_pos c7 h
              have hl := lv_sub hl [] rfl
              exact tr_isSign_b42 E hml (fun ls gz => W.zret (v := r1) hx hb hr (nar01 gz) (fun t ht hW => ⟨r1, rfl, rfl, ht⟩) (fun _ h => absurd h List.not_mem_nil) dX12_isSign_47) _ h hl
            · have h := oif_neg c7 h
              refine lv_iload_n hx hb dX12_isSign_36 rfl (lv_at hl 0 rfl) ?_
              refine lv_bipush (v := 47) hx hb dX12_isSign_37 (by decide) ?_
              refine lv_icmp_ne (tgt := 46) hx hb dX12_isSign_39 (by decide) (fun c8 => ?_) (fun c8 => ?_)
              · have h := oif_neg c8 h
                refine lv_iconst (v := 0) hx hb dX12_isSign_46 (by decide) ?_
                have hl := lv_sub hl [] rfl
                exact tr_isSign_b47 E hml (fun ls gz => W.zret (v := r1) hx hb hr (nar01 gz) (fun t ht hW => ⟨r1, rfl, rfl, ht⟩) (fun _ h => absurd h List.not_mem_nil) dX12_isSign_47) _ _ h hl
              · have h := oif_pos c8 h
                have hl := lv_sub hl [] rfl
                exact tr_isSign_b42 E hml (fun ls gz => W.zret (v := r1) hx hb hr (nar01 gz) (fun t ht hW => ⟨r1, rfl, rfl, ht⟩) (fun _ h => absurd h List.not_mem_nil) dX12_isSign_47) _ h hl
def fr_nextToken_b292  (S : MS)  : Option (MS) := some S
set_option maxHeartbeats 4000000 in
set_option maxRecDepth 100000 in
theorem tr_nextToken_b292 {p : Program} {l : Launch} {e : Env} {s : State} {m : MethodId} {args : Array Value} {below : List Frame} {meth : Method} {c : Code} {Q : State → Prop} {D : va_G} {A : Nat → Prop} {H0 : Heap} {cI cJ cZ : ClassId} {ad : Nat → Nat} {S1 : MS} (E : mE p c cX12_nextToken s m args (Cond.code yX12_nextToken cX12_nextToken 1 none :: wsM) D cI cJ cZ) (hA : ∀ q : Nat, H0.size ≤ q → A q) (hR : sR s) (hml : c.maxLocals = 1) (kr7 : ∀ (H : Heap) (locs : List Loc) (ls : Array Slot), mG D cI cJ cZ ad A H0 H locs S1 → W p l e { frames := 2, cells := 0, slots := 0, locals := 22 } s m args below meth c H locs 0 0 Q (F0 m 7 ls [])) (kr292 : ∀ (H : Heap) (locs : List Loc) (ls : Array Slot), mG D cI cJ cZ ad A H0 H locs S1 → W p l e { frames := 2, cells := 0, slots := 0, locals := 22 } s m args below meth c H locs 0 0 Q (F0 m 292 ls [])) : ∀ (S : MS) (H : Heap) (locs : List Loc) (ls : Array Slot), fr_nextToken_b292 S = some S1 → mG D cI cJ cZ ad A H0 H locs S → lv_has ls 1 [] → W p l e { frames := 2, cells := 0, slots := 0, locals := 22 } s m args below meth c H locs 0 0 Q (F0 m 292 ls []) := by
  have hx := E.1
  have hb := E.2.1
  have hts := E.2.2.1
  have hown := E.2.2.2.1
  have hK := E.2.2.2.2.1
  intro S H locs ls h G hl
  unfold fr_nextToken_b292 at h
  rw [osome1 h] at G
  exact kr292 _ _ _ G
def fr_nextToken_b279  (S : MS) (s0 : Int32) : Option (MS) := elet (mi S 7 s0) fun S2 => elet (S2.1 4) fun v3 => elet (v3 + 1) fun v4 => elet (mi S2 4 v4) fun S5 => fr_nextToken_b292 S5
set_option maxHeartbeats 4000000 in
set_option maxRecDepth 100000 in
theorem tr_nextToken_b279 {p : Program} {l : Launch} {e : Env} {s : State} {m : MethodId} {args : Array Value} {below : List Frame} {meth : Method} {c : Code} {Q : State → Prop} {D : va_G} {A : Nat → Prop} {H0 : Heap} {cI cJ cZ : ClassId} {ad : Nat → Nat} {S1 : MS} (E : mE p c cX12_nextToken s m args (Cond.code yX12_nextToken cX12_nextToken 1 none :: wsM) D cI cJ cZ) (hA : ∀ q : Nat, H0.size ≤ q → A q) (hR : sR s) (hml : c.maxLocals = 1) (kr7 : ∀ (H : Heap) (locs : List Loc) (ls : Array Slot), mG D cI cJ cZ ad A H0 H locs S1 → W p l e { frames := 2, cells := 0, slots := 0, locals := 22 } s m args below meth c H locs 0 0 Q (F0 m 7 ls [])) (kr292 : ∀ (H : Heap) (locs : List Loc) (ls : Array Slot), mG D cI cJ cZ ad A H0 H locs S1 → W p l e { frames := 2, cells := 0, slots := 0, locals := 22 } s m args below meth c H locs 0 0 Q (F0 m 292 ls [])) : ∀ (S : MS) (H : Heap) (locs : List Loc) (ls : Array Slot) (s0 : Int32), fr_nextToken_b279 S s0 = some S1 → mG D cI cJ cZ ad A H0 H locs S → lv_has ls 1 [(0, .ref (ad 0))] → W p l e { frames := 2, cells := 0, slots := 0, locals := 22 } s m args below meth c H locs 0 0 Q (F0 m 279 ls [.int s0, .ref (ad 0)]) := by
  have hx := E.1
  have hb := E.2.1
  have hts := E.2.2.1
  have hown := E.2.2.2.1
  have hK := E.2.2.2.2.1
  intro S H locs ls s0 h G hl
  unfold fr_nextToken_b279 at h
  refine m_put E G 7 (by decide) (.tail _ qM_47) (mw_i7 _ _ _ _ _ s0) dX12_nextToken_279 ⟨rfl, rfl, rfl⟩ rfl rfl (fun H locs G => ?_)
  obtain ⟨S2, eS2, h⟩ := elet_some h
  rw [← eS2] at G
  clear eS2
  refine lv_aload_n hx hb dX12_nextToken_282 rfl (lv_at hl 0 rfl) ?_
  refine lv_dup hx hb dX12_nextToken_283 rfl ?_
  refine m_get E G 4 (v := .int (S2.1 4)) (by decide) (.tail _ qM_46) rfl dX12_nextToken_284 rfl ?_
  refine lv_topi (fun v3 ev3 => ?_)
  have h := elet_at ev3 h
  clear ev3
  refine lv_iconst (v := 1) hx hb dX12_nextToken_287 (by decide) ?_
  refine lv_iadd hx hb dX12_nextToken_288 ?_
  refine lv_topi (fun v4 ev4 => ?_)
  have h := elet_at ev4 h
  clear ev4
  refine m_put E G 4 (by decide) (.tail _ qM_46) (mw_i4 _ _ _ _ _ v4) dX12_nextToken_289 ⟨rfl, rfl, rfl⟩ rfl rfl (fun H locs G => ?_)
  obtain ⟨S5, eS5, h⟩ := elet_some h
  rw [← eS5] at G
  clear eS5
  have hl := lv_sub hl [] rfl
  exact tr_nextToken_b292 E hA hR hml kr7 kr292 _ _ _ _ h G hl
def fr_nextToken_b245  (S : MS) (s0 : Int32) : Option (MS) := elet (mi S 7 s0) fun S2 => fr_nextToken_b292 S2
set_option maxHeartbeats 4000000 in
set_option maxRecDepth 100000 in
theorem tr_nextToken_b245 {p : Program} {l : Launch} {e : Env} {s : State} {m : MethodId} {args : Array Value} {below : List Frame} {meth : Method} {c : Code} {Q : State → Prop} {D : va_G} {A : Nat → Prop} {H0 : Heap} {cI cJ cZ : ClassId} {ad : Nat → Nat} {S1 : MS} (E : mE p c cX12_nextToken s m args (Cond.code yX12_nextToken cX12_nextToken 1 none :: wsM) D cI cJ cZ) (hA : ∀ q : Nat, H0.size ≤ q → A q) (hR : sR s) (hml : c.maxLocals = 1) (kr7 : ∀ (H : Heap) (locs : List Loc) (ls : Array Slot), mG D cI cJ cZ ad A H0 H locs S1 → W p l e { frames := 2, cells := 0, slots := 0, locals := 22 } s m args below meth c H locs 0 0 Q (F0 m 7 ls [])) (kr292 : ∀ (H : Heap) (locs : List Loc) (ls : Array Slot), mG D cI cJ cZ ad A H0 H locs S1 → W p l e { frames := 2, cells := 0, slots := 0, locals := 22 } s m args below meth c H locs 0 0 Q (F0 m 292 ls [])) : ∀ (S : MS) (H : Heap) (locs : List Loc) (ls : Array Slot) (s0 : Int32), fr_nextToken_b245 S s0 = some S1 → mG D cI cJ cZ ad A H0 H locs S → lv_has ls 1 [] → W p l e { frames := 2, cells := 0, slots := 0, locals := 22 } s m args below meth c H locs 0 0 Q (F0 m 245 ls [.int s0, .ref (ad 0)]) := by
  have hx := E.1
  have hb := E.2.1
  have hts := E.2.2.1
  have hown := E.2.2.2.1
  have hK := E.2.2.2.2.1
  intro S H locs ls s0 h G hl
  unfold fr_nextToken_b245 at h
  refine m_put E G 7 (by decide) (.tail _ qM_47) (mw_i7 _ _ _ _ _ s0) dX12_nextToken_245 ⟨rfl, rfl, rfl⟩ rfl rfl (fun H locs G => ?_)
  obtain ⟨S2, eS2, h⟩ := elet_some h
  rw [← eS2] at G
  clear eS2
  refine lv_goto (tgt := 292) hx hb dX12_nextToken_248 (by decide) ?_
  have hl := lv_sub hl [] rfl
  exact tr_nextToken_b292 E hA hR hml kr7 kr292 _ _ _ _ h G hl
def fr_nextToken_b213 (k159 : MS → Option (MS)) (S : MS)  : Option (MS) := elet (S.1 4) fun v2 => elet (v2 + 1) fun v3 => elet (mi S 4 v3) fun S4 => k159 S4
set_option maxHeartbeats 4000000 in
set_option maxRecDepth 100000 in
theorem tr_nextToken_b213 {p : Program} {l : Launch} {e : Env} {s : State} {m : MethodId} {args : Array Value} {below : List Frame} {meth : Method} {c : Code} {Q : State → Prop} {D : va_G} {A : Nat → Prop} {H0 : Heap} {cI cJ cZ : ClassId} {ad : Nat → Nat} {S1 : MS} (E : mE p c cX12_nextToken s m args (Cond.code yX12_nextToken cX12_nextToken 1 none :: wsM) D cI cJ cZ) (hA : ∀ q : Nat, H0.size ≤ q → A q) (hR : sR s) (hml : c.maxLocals = 1) (kr7 : ∀ (H : Heap) (locs : List Loc) (ls : Array Slot), mG D cI cJ cZ ad A H0 H locs S1 → W p l e { frames := 2, cells := 0, slots := 0, locals := 22 } s m args below meth c H locs 0 0 Q (F0 m 7 ls [])) (kr292 : ∀ (H : Heap) (locs : List Loc) (ls : Array Slot), mG D cI cJ cZ ad A H0 H locs S1 → W p l e { frames := 2, cells := 0, slots := 0, locals := 22 } s m args below meth c H locs 0 0 Q (F0 m 292 ls [])) {k159 : MS → Option (MS)} (hk159 : ∀ (S : MS) (H : Heap) (locs : List Loc) (ls : Array Slot), k159 S = some S1 → mG D cI cJ cZ ad A H0 H locs S → lv_has ls 1 [(0, .ref (ad 0))] → W p l e { frames := 2, cells := 0, slots := 0, locals := 22 } s m args below meth c H locs 0 0 Q (F0 m 159 ls [])) : ∀ (S : MS) (H : Heap) (locs : List Loc) (ls : Array Slot), fr_nextToken_b213 k159 S = some S1 → mG D cI cJ cZ ad A H0 H locs S → lv_has ls 1 [(0, .ref (ad 0))] → W p l e { frames := 2, cells := 0, slots := 0, locals := 22 } s m args below meth c H locs 0 0 Q (F0 m 213 ls []) := by
  have hx := E.1
  have hb := E.2.1
  have hts := E.2.2.1
  have hown := E.2.2.2.1
  have hK := E.2.2.2.2.1
  intro S H locs ls h G hl
  unfold fr_nextToken_b213 at h
  refine lv_aload_n hx hb dX12_nextToken_213 rfl (lv_at hl 0 rfl) ?_
  refine lv_dup hx hb dX12_nextToken_214 rfl ?_
  refine m_get E G 4 (v := .int (S.1 4)) (by decide) (.tail _ qM_46) rfl dX12_nextToken_215 rfl ?_
  refine lv_topi (fun v2 ev2 => ?_)
  have h := elet_at ev2 h
  clear ev2
  refine lv_iconst (v := 1) hx hb dX12_nextToken_218 (by decide) ?_
  refine lv_iadd hx hb dX12_nextToken_219 ?_
  refine lv_topi (fun v3 ev3 => ?_)
  have h := elet_at ev3 h
  clear ev3
  refine m_put E G 4 (by decide) (.tail _ qM_46) (mw_i4 _ _ _ _ _ v3) dX12_nextToken_220 ⟨rfl, rfl, rfl⟩ rfl rfl (fun H locs G => ?_)
  obtain ⟨S4, eS4, h⟩ := elet_some h
  rw [← eS4] at G
  clear eS4
  refine lv_goto (tgt := 159) hx hb dX12_nextToken_223 (by decide) ?_
  have hl := lv_sub hl [0] rfl
  exact hk159 _ _ _ _ h G hl
def fr_nextToken_b159  : Nat → MS → Option (MS)
  | 0, _ => none
  | n + 1, S => elet (S.1 4) fun v2 => obind2 (fr_byteAt S v2) fun r6 S3 => obind (fr_in r6 48 57) fun r7 => if r7 = 0 then (elet (S3.1 4) fun v10 => elet (S3.1 8) fun v11 => elet (v10 - v11) fun v12 => if v12 ≤ 4 then (fr_nextToken_b245 S3 3) else (fr_nextToken_b245 S3 0)) else (elet (S3.1 4) fun v14 => elet (S3.1 8) fun v15 => elet (v14 - v15) fun v16 => if 4 ≤ v16 then (fr_nextToken_b213 (fr_nextToken_b159 n) S3) else (elet (S3.1 9) fun v18 => elet (10 * v18) fun v19 => elet (S3.1 4) fun v20 => obind2 (fr_byteAt S3 v20) fun r24 S21 => elet (v19 + r24) fun v25 => elet (v25 - 48) fun v26 => elet (mi S21 9 v26) fun S27 => fr_nextToken_b213 (fr_nextToken_b159 n) S27))
set_option maxHeartbeats 4000000 in
set_option maxRecDepth 100000 in
theorem tr_nextToken_b159 {p : Program} {l : Launch} {e : Env} {s : State} {m : MethodId} {args : Array Value} {below : List Frame} {meth : Method} {c : Code} {Q : State → Prop} {D : va_G} {A : Nat → Prop} {H0 : Heap} {cI cJ cZ : ClassId} {ad : Nat → Nat} {S1 : MS} (E : mE p c cX12_nextToken s m args (Cond.code yX12_nextToken cX12_nextToken 1 none :: wsM) D cI cJ cZ) (hA : ∀ q : Nat, H0.size ≤ q → A q) (hR : sR s) (hml : c.maxLocals = 1) (kr7 : ∀ (H : Heap) (locs : List Loc) (ls : Array Slot), mG D cI cJ cZ ad A H0 H locs S1 → W p l e { frames := 2, cells := 0, slots := 0, locals := 22 } s m args below meth c H locs 0 0 Q (F0 m 7 ls [])) (kr292 : ∀ (H : Heap) (locs : List Loc) (ls : Array Slot), mG D cI cJ cZ ad A H0 H locs S1 → W p l e { frames := 2, cells := 0, slots := 0, locals := 22 } s m args below meth c H locs 0 0 Q (F0 m 292 ls [])) : ∀ n : Nat, ∀ (S : MS) (H : Heap) (locs : List Loc) (ls : Array Slot), fr_nextToken_b159 n S = some S1 → mG D cI cJ cZ ad A H0 H locs S → lv_has ls 1 [(0, .ref (ad 0))] → W p l e { frames := 2, cells := 0, slots := 0, locals := 22 } s m args below meth c H locs 0 0 Q (F0 m 159 ls []) := by
  have hx := E.1
  have hb := E.2.1
  have hts := E.2.2.1
  have hown := E.2.2.2.1
  have hK := E.2.2.2.2.1
  intro n
  induction n with
  | zero =>
    intro S H locs ls h
    have h : (none : Option (MS)) = some S1 := h
    cases h
  | succ n ih =>
    intro S H locs ls h G hl
    unfold fr_nextToken_b159 at h
    refine lv_aload_n hx hb dX12_nextToken_159 rfl (lv_at hl 0 rfl) ?_
    refine lv_aload_n hx hb dX12_nextToken_160 rfl (lv_at hl 0 rfl) ?_
    refine m_get E G 4 (v := .int (S.1 4)) (by decide) (.tail _ qM_46) rfl dX12_nextToken_161 rfl ?_
    refine lv_topi (fun v2 ev2 => ?_)
    have h := elet_at ev2 h
    clear ev2
    obtain ⟨r6, S3, eS3, h⟩ := obind2_some h
    refine m_calli (As := [.int v2]) (rest := []) E G hA hR hml (tr_byteAt l D cI cJ cZ ad S v2 eS3) (cwV 1 hts (gmV qM_49 qM_50 qM_51 qM_35 qM_40) rfl rfl rfl (by decide +kernel) ⟨Nat.le_of_ble_eq_true rfl, Nat.le_of_ble_eq_true rfl⟩) rfl hl.1 rfl (lv_room (Nat.le_of_ble_eq_true rfl)) dX12_nextToken_164 ⟨Nat.zero_le _, Nat.zero_le _⟩ (fun q4 S5 H locs hq G => ?_)
    obtain ⟨hq1, hq2⟩ := hq
    rw [hq2] at G
    refine lv_to hq1 ?_
    clear hq1 hq2 eS3
    refine lv_bipush (v := 48) hx hb dX12_nextToken_167 (by decide) ?_
    refine lv_bipush (v := 57) hx hb dX12_nextToken_169 (by decide) ?_
    obtain ⟨r7, er7, h⟩ := obind_some h
    refine m_stat (As := [.int r6, .int 48, .int 57]) (rest := []) ⟨hx, hb, hml, hown, hts⟩ (tr_in l r6 48 57 er7) (cwS 3 hts (gmS qM_52 qM_53 qM_35 qM_27) rfl rfl rfl (by decide +kernel) ⟨Nat.le_of_ble_eq_true rfl, Nat.le_of_ble_eq_true rfl⟩) rfl hl.1 rfl (lv_room (Nat.le_of_ble_eq_true rfl)) dX12_nextToken_171 ⟨Nat.zero_le _, Nat.zero_le _⟩ (fun q8 hq => ?_)
    refine lv_to hq ?_
    clear hq er7
    refine lv_if_eq (tgt := 226) hx hb dX12_nextToken_174 (by decide) (fun c9 => ?_) (fun c9 => ?_)
    · have h := oif_pos c9 h
      refine lv_aload_n hx hb dX12_nextToken_226 rfl (lv_at hl 0 rfl) ?_
      refine lv_aload_n hx hb dX12_nextToken_227 rfl (lv_at hl 0 rfl) ?_
      refine m_get E G 4 (v := .int (S3.1 4)) (by decide) (.tail _ qM_46) rfl dX12_nextToken_228 rfl ?_
      refine lv_topi (fun v10 ev10 => ?_)
      have h := elet_at ev10 h
      clear ev10
      refine lv_aload_n hx hb dX12_nextToken_231 rfl (lv_at hl 0 rfl) ?_
      refine m_get E G 8 (v := .int (S3.1 8)) (by decide) (.tail _ qM_43) rfl dX12_nextToken_232 rfl ?_
      refine lv_topi (fun v11 ev11 => ?_)
      have h := elet_at ev11 h
      clear ev11
      refine lv_isub hx hb dX12_nextToken_235 ?_
      refine lv_topi (fun v12 ev12 => ?_)
      have h := elet_at ev12 h
      clear ev12
      refine lv_iconst (v := 4) hx hb dX12_nextToken_236 (by decide) ?_
      refine lv_icmp_le (tgt := 244) hx hb dX12_nextToken_237 (by decide) (fun c13 => ?_) (fun c13 => ?_)
      · have h := oif_pos c13 h
        refine lv_iconst (v := 3) hx hb dX12_nextToken_244 (by decide) ?_
        have hl := lv_sub hl [] rfl
        exact tr_nextToken_b245 E hA hR hml kr7 kr292 _ _ _ _ _ h G hl
      · have h := oif_neg c13 h
        refine lv_iconst (v := 0) hx hb dX12_nextToken_240 (by decide) ?_
        refine lv_goto (tgt := 245) hx hb dX12_nextToken_241 (by decide) ?_
        have hl := lv_sub hl [] rfl
        exact tr_nextToken_b245 E hA hR hml kr7 kr292 _ _ _ _ _ h G hl
    · have h := oif_neg c9 h
      refine lv_aload_n hx hb dX12_nextToken_177 rfl (lv_at hl 0 rfl) ?_
      refine m_get E G 4 (v := .int (S3.1 4)) (by decide) (.tail _ qM_46) rfl dX12_nextToken_178 rfl ?_
      refine lv_topi (fun v14 ev14 => ?_)
      have h := elet_at ev14 h
      clear ev14
      refine lv_aload_n hx hb dX12_nextToken_181 rfl (lv_at hl 0 rfl) ?_
      refine m_get E G 8 (v := .int (S3.1 8)) (by decide) (.tail _ qM_43) rfl dX12_nextToken_182 rfl ?_
      refine lv_topi (fun v15 ev15 => ?_)
      have h := elet_at ev15 h
      clear ev15
      refine lv_isub hx hb dX12_nextToken_185 ?_
      refine lv_topi (fun v16 ev16 => ?_)
      have h := elet_at ev16 h
      clear ev16
      refine lv_iconst (v := 4) hx hb dX12_nextToken_186 (by decide) ?_
      refine lv_icmp_ge (tgt := 213) hx hb dX12_nextToken_187 (by decide) (fun c17 => ?_) (fun c17 => ?_)
      · have h := oif_pos c17 h
        have hl := lv_sub hl [0] rfl
        exact tr_nextToken_b213 E hA hR hml kr7 kr292 ih _ _ _ _ h G hl
      · have h := oif_neg c17 h
        refine lv_aload_n hx hb dX12_nextToken_190 rfl (lv_at hl 0 rfl) ?_
        refine lv_bipush (v := 10) hx hb dX12_nextToken_191 (by decide) ?_
        refine lv_aload_n hx hb dX12_nextToken_193 rfl (lv_at hl 0 rfl) ?_
        refine m_get E G 9 (v := .int (S3.1 9)) (by decide) (.tail _ qM_48) rfl dX12_nextToken_194 rfl ?_
        refine lv_topi (fun v18 ev18 => ?_)
        have h := elet_at ev18 h
        clear ev18
        refine lv_imul hx hb dX12_nextToken_197 ?_
        refine lv_topi (fun v19 ev19 => ?_)
        have h := elet_at ev19 h
        clear ev19
        refine lv_aload_n hx hb dX12_nextToken_198 rfl (lv_at hl 0 rfl) ?_
        refine lv_aload_n hx hb dX12_nextToken_199 rfl (lv_at hl 0 rfl) ?_
        refine m_get E G 4 (v := .int (S3.1 4)) (by decide) (.tail _ qM_46) rfl dX12_nextToken_200 rfl ?_
        refine lv_topi (fun v20 ev20 => ?_)
        have h := elet_at ev20 h
        clear ev20
        obtain ⟨r24, S21, eS21, h⟩ := obind2_some h
        refine m_calli (As := [.int v20]) (rest := [.int v19, .ref (ad 0)]) E G hA hR hml (tr_byteAt l D cI cJ cZ ad S3 v20 eS21) (cwV 1 hts (gmV qM_49 qM_50 qM_51 qM_35 qM_40) rfl rfl rfl (by decide +kernel) ⟨Nat.le_of_ble_eq_true rfl, Nat.le_of_ble_eq_true rfl⟩) rfl hl.1 rfl (lv_room (Nat.le_of_ble_eq_true rfl)) dX12_nextToken_203 ⟨Nat.zero_le _, Nat.zero_le _⟩ (fun q22 S23 H locs hq G => ?_)
        obtain ⟨hq1, hq2⟩ := hq
        rw [hq2] at G
        refine lv_to hq1 ?_
        clear hq1 hq2 eS21
        refine lv_iadd hx hb dX12_nextToken_206 ?_
        refine lv_topi (fun v25 ev25 => ?_)
        have h := elet_at ev25 h
        clear ev25
        refine lv_bipush (v := 48) hx hb dX12_nextToken_207 (by decide) ?_
        refine lv_isub hx hb dX12_nextToken_209 ?_
        refine lv_topi (fun v26 ev26 => ?_)
        have h := elet_at ev26 h
        clear ev26
        refine m_put E G 9 (by decide) (.tail _ qM_48) (mw_i9 _ _ _ _ _ v26) dX12_nextToken_210 ⟨rfl, rfl, rfl⟩ rfl rfl (fun H locs G => ?_)
        obtain ⟨S27, eS27, h⟩ := elet_some h
        rw [← eS27] at G
        clear eS27
        have hl := lv_sub hl [0] rfl
        exact tr_nextToken_b213 E hA hR hml kr7 kr292 ih _ _ _ _ h G hl
def fr_nextToken_b130  (S : MS) (s0 : Int32) : Option (MS) := elet (mi S 7 s0) fun S2 => fr_nextToken_b292 S2
set_option maxHeartbeats 4000000 in
set_option maxRecDepth 100000 in
theorem tr_nextToken_b130 {p : Program} {l : Launch} {e : Env} {s : State} {m : MethodId} {args : Array Value} {below : List Frame} {meth : Method} {c : Code} {Q : State → Prop} {D : va_G} {A : Nat → Prop} {H0 : Heap} {cI cJ cZ : ClassId} {ad : Nat → Nat} {S1 : MS} (E : mE p c cX12_nextToken s m args (Cond.code yX12_nextToken cX12_nextToken 1 none :: wsM) D cI cJ cZ) (hA : ∀ q : Nat, H0.size ≤ q → A q) (hR : sR s) (hml : c.maxLocals = 1) (kr7 : ∀ (H : Heap) (locs : List Loc) (ls : Array Slot), mG D cI cJ cZ ad A H0 H locs S1 → W p l e { frames := 2, cells := 0, slots := 0, locals := 22 } s m args below meth c H locs 0 0 Q (F0 m 7 ls [])) (kr292 : ∀ (H : Heap) (locs : List Loc) (ls : Array Slot), mG D cI cJ cZ ad A H0 H locs S1 → W p l e { frames := 2, cells := 0, slots := 0, locals := 22 } s m args below meth c H locs 0 0 Q (F0 m 292 ls [])) : ∀ (S : MS) (H : Heap) (locs : List Loc) (ls : Array Slot) (s0 : Int32), fr_nextToken_b130 S s0 = some S1 → mG D cI cJ cZ ad A H0 H locs S → lv_has ls 1 [] → W p l e { frames := 2, cells := 0, slots := 0, locals := 22 } s m args below meth c H locs 0 0 Q (F0 m 130 ls [.int s0, .ref (ad 0)]) := by
  have hx := E.1
  have hb := E.2.1
  have hts := E.2.2.1
  have hown := E.2.2.2.1
  have hK := E.2.2.2.2.1
  intro S H locs ls s0 h G hl
  unfold fr_nextToken_b130 at h
  refine m_put E G 7 (by decide) (.tail _ qM_47) (mw_i7 _ _ _ _ _ s0) dX12_nextToken_130 ⟨rfl, rfl, rfl⟩ rfl rfl (fun H locs G => ?_)
  obtain ⟨S2, eS2, h⟩ := elet_some h
  rw [← eS2] at G
  clear eS2
  refine lv_goto (tgt := 292) hx hb dX12_nextToken_133 (by decide) ?_
  have hl := lv_sub hl [] rfl
  exact tr_nextToken_b292 E hA hR hml kr7 kr292 _ _ _ _ h G hl
def fr_nextToken_b79  : Nat → MS → Option (MS)
  | 0, _ => none
  | n + 1, S => elet (S.1 4) fun v2 => obind2 (fr_byteAt S v2) fun r6 S3 => obind (fr_in r6 97 122) fun r7 => if r7 = 0 then (elet (S3.1 4) fun v10 => elet (S3.1 8) fun v11 => elet (v10 - v11) fun v12 => if v12 ≤ 8 then (fr_nextToken_b130 S3 2) else (fr_nextToken_b130 S3 0)) else (elet (S3.1 4) fun v14 => elet (v14 + 1) fun v15 => elet (mi S3 4 v15) fun S16 => fr_nextToken_b79 n S16)
set_option maxHeartbeats 4000000 in
set_option maxRecDepth 100000 in
theorem tr_nextToken_b79 {p : Program} {l : Launch} {e : Env} {s : State} {m : MethodId} {args : Array Value} {below : List Frame} {meth : Method} {c : Code} {Q : State → Prop} {D : va_G} {A : Nat → Prop} {H0 : Heap} {cI cJ cZ : ClassId} {ad : Nat → Nat} {S1 : MS} (E : mE p c cX12_nextToken s m args (Cond.code yX12_nextToken cX12_nextToken 1 none :: wsM) D cI cJ cZ) (hA : ∀ q : Nat, H0.size ≤ q → A q) (hR : sR s) (hml : c.maxLocals = 1) (kr7 : ∀ (H : Heap) (locs : List Loc) (ls : Array Slot), mG D cI cJ cZ ad A H0 H locs S1 → W p l e { frames := 2, cells := 0, slots := 0, locals := 22 } s m args below meth c H locs 0 0 Q (F0 m 7 ls [])) (kr292 : ∀ (H : Heap) (locs : List Loc) (ls : Array Slot), mG D cI cJ cZ ad A H0 H locs S1 → W p l e { frames := 2, cells := 0, slots := 0, locals := 22 } s m args below meth c H locs 0 0 Q (F0 m 292 ls [])) : ∀ n : Nat, ∀ (S : MS) (H : Heap) (locs : List Loc) (ls : Array Slot), fr_nextToken_b79 n S = some S1 → mG D cI cJ cZ ad A H0 H locs S → lv_has ls 1 [(0, .ref (ad 0))] → W p l e { frames := 2, cells := 0, slots := 0, locals := 22 } s m args below meth c H locs 0 0 Q (F0 m 79 ls []) := by
  have hx := E.1
  have hb := E.2.1
  have hts := E.2.2.1
  have hown := E.2.2.2.1
  have hK := E.2.2.2.2.1
  intro n
  induction n with
  | zero =>
    intro S H locs ls h
    have h : (none : Option (MS)) = some S1 := h
    cases h
  | succ n ih =>
    intro S H locs ls h G hl
    unfold fr_nextToken_b79 at h
    refine lv_aload_n hx hb dX12_nextToken_79 rfl (lv_at hl 0 rfl) ?_
    refine lv_aload_n hx hb dX12_nextToken_80 rfl (lv_at hl 0 rfl) ?_
    refine m_get E G 4 (v := .int (S.1 4)) (by decide) (.tail _ qM_46) rfl dX12_nextToken_81 rfl ?_
    refine lv_topi (fun v2 ev2 => ?_)
    have h := elet_at ev2 h
    clear ev2
    obtain ⟨r6, S3, eS3, h⟩ := obind2_some h
    refine m_calli (As := [.int v2]) (rest := []) E G hA hR hml (tr_byteAt l D cI cJ cZ ad S v2 eS3) (cwV 1 hts (gmV qM_49 qM_50 qM_51 qM_35 qM_40) rfl rfl rfl (by decide +kernel) ⟨Nat.le_of_ble_eq_true rfl, Nat.le_of_ble_eq_true rfl⟩) rfl hl.1 rfl (lv_room (Nat.le_of_ble_eq_true rfl)) dX12_nextToken_84 ⟨Nat.zero_le _, Nat.zero_le _⟩ (fun q4 S5 H locs hq G => ?_)
    obtain ⟨hq1, hq2⟩ := hq
    rw [hq2] at G
    refine lv_to hq1 ?_
    clear hq1 hq2 eS3
    refine lv_bipush (v := 97) hx hb dX12_nextToken_87 (by decide) ?_
    refine lv_bipush (v := 122) hx hb dX12_nextToken_89 (by decide) ?_
    obtain ⟨r7, er7, h⟩ := obind_some h
    refine m_stat (As := [.int r6, .int 97, .int 122]) (rest := []) ⟨hx, hb, hml, hown, hts⟩ (tr_in l r6 97 122 er7) (cwS 3 hts (gmS qM_52 qM_53 qM_35 qM_27) rfl rfl rfl (by decide +kernel) ⟨Nat.le_of_ble_eq_true rfl, Nat.le_of_ble_eq_true rfl⟩) rfl hl.1 rfl (lv_room (Nat.le_of_ble_eq_true rfl)) dX12_nextToken_91 ⟨Nat.zero_le _, Nat.zero_le _⟩ (fun q8 hq => ?_)
    refine lv_to hq ?_
    clear hq er7
    refine lv_if_eq (tgt := 110) hx hb dX12_nextToken_94 (by decide) (fun c9 => ?_) (fun c9 => ?_)
    · have h := oif_pos c9 h
      refine lv_aload_n hx hb dX12_nextToken_110 rfl (lv_at hl 0 rfl) ?_
      refine lv_aload_n hx hb dX12_nextToken_111 rfl (lv_at hl 0 rfl) ?_
      refine m_get E G 4 (v := .int (S3.1 4)) (by decide) (.tail _ qM_46) rfl dX12_nextToken_112 rfl ?_
      refine lv_topi (fun v10 ev10 => ?_)
      have h := elet_at ev10 h
      clear ev10
      refine lv_aload_n hx hb dX12_nextToken_115 rfl (lv_at hl 0 rfl) ?_
      refine m_get E G 8 (v := .int (S3.1 8)) (by decide) (.tail _ qM_43) rfl dX12_nextToken_116 rfl ?_
      refine lv_topi (fun v11 ev11 => ?_)
      have h := elet_at ev11 h
      clear ev11
      refine lv_isub hx hb dX12_nextToken_119 ?_
      refine lv_topi (fun v12 ev12 => ?_)
      have h := elet_at ev12 h
      clear ev12
      refine lv_bipush (v := 8) hx hb dX12_nextToken_120 (by decide) ?_
      refine lv_icmp_le (tgt := 129) hx hb dX12_nextToken_122 (by decide) (fun c13 => ?_) (fun c13 => ?_)
      · have h := oif_pos c13 h
        refine lv_iconst (v := 2) hx hb dX12_nextToken_129 (by decide) ?_
        have hl := lv_sub hl [] rfl
        exact tr_nextToken_b130 E hA hR hml kr7 kr292 _ _ _ _ _ h G hl
      · have h := oif_neg c13 h
        refine lv_iconst (v := 0) hx hb dX12_nextToken_125 (by decide) ?_
        refine lv_goto (tgt := 130) hx hb dX12_nextToken_126 (by decide) ?_
        have hl := lv_sub hl [] rfl
        exact tr_nextToken_b130 E hA hR hml kr7 kr292 _ _ _ _ _ h G hl
    · have h := oif_neg c9 h
      refine lv_aload_n hx hb dX12_nextToken_97 rfl (lv_at hl 0 rfl) ?_
      refine lv_dup hx hb dX12_nextToken_98 rfl ?_
      refine m_get E G 4 (v := .int (S3.1 4)) (by decide) (.tail _ qM_46) rfl dX12_nextToken_99 rfl ?_
      refine lv_topi (fun v14 ev14 => ?_)
      have h := elet_at ev14 h
      clear ev14
      refine lv_iconst (v := 1) hx hb dX12_nextToken_102 (by decide) ?_
      refine lv_iadd hx hb dX12_nextToken_103 ?_
      refine lv_topi (fun v15 ev15 => ?_)
      have h := elet_at ev15 h
      clear ev15
      refine m_put E G 4 (by decide) (.tail _ qM_46) (mw_i4 _ _ _ _ _ v15) dX12_nextToken_104 ⟨rfl, rfl, rfl⟩ rfl rfl (fun H locs G => ?_)
      obtain ⟨S16, eS16, h⟩ := elet_some h
      rw [← eS16] at G
      clear eS16
      refine lv_goto (tgt := 79) hx hb dX12_nextToken_107 (by decide) ?_
      have hl := lv_sub hl [0] rfl
      exact ih _ _ _ _ h G hl
def fr_nextToken_b8  : Nat → MS → Option (MS)
  | 0, _ => none
  | n + 1, S => elet (S.1 4) fun v2 => obind2 (fr_byteAt S v2) fun r6 S3 => if r6 = 32 then (elet (S3.1 4) fun v8 => elet (v8 + 1) fun v9 => elet (mi S3 4 v9) fun S10 => fr_nextToken_b8 n S10) else (elet (S3.1 4) fun v11 => elet (mi S3 8 v11) fun S12 => elet (S12.1 4) fun v13 => elet (S12.1 3) fun v14 => if v13 = v14 then (elet (mi S12 7 1) fun S16 => fr_nextToken_b292 S16) else (elet (S12.1 4) fun v17 => obind2 (fr_byteAt S12 v17) fun r21 S18 => obind (fr_in r21 97 122) fun r22 => if r22 = 0 then (elet (S18.1 4) fun v25 => obind2 (fr_byteAt S18 v25) fun r29 S26 => obind (fr_in r29 48 57) fun r30 => if r30 = 0 then (elet (S26.1 4) fun v33 => obind2 (fr_byteAt S26 v33) fun r37 S34 => elet (mi S34 9 r37) fun S38 => elet (S38.1 9) fun v39 => obind (fr_isSign v39) fun r40 => if r40 = 0 then (fr_nextToken_b279 S38 0) else (fr_nextToken_b279 S38 4)) else (elet (mi S26 9 0) fun S43 => fr_nextToken_b159 16384 S43)) else (fr_nextToken_b79 16384 S18)))
set_option maxHeartbeats 4000000 in
set_option maxRecDepth 100000 in
theorem tr_nextToken_b8 {p : Program} {l : Launch} {e : Env} {s : State} {m : MethodId} {args : Array Value} {below : List Frame} {meth : Method} {c : Code} {Q : State → Prop} {D : va_G} {A : Nat → Prop} {H0 : Heap} {cI cJ cZ : ClassId} {ad : Nat → Nat} {S1 : MS} (E : mE p c cX12_nextToken s m args (Cond.code yX12_nextToken cX12_nextToken 1 none :: wsM) D cI cJ cZ) (hA : ∀ q : Nat, H0.size ≤ q → A q) (hR : sR s) (hml : c.maxLocals = 1) (kr7 : ∀ (H : Heap) (locs : List Loc) (ls : Array Slot), mG D cI cJ cZ ad A H0 H locs S1 → W p l e { frames := 2, cells := 0, slots := 0, locals := 22 } s m args below meth c H locs 0 0 Q (F0 m 7 ls [])) (kr292 : ∀ (H : Heap) (locs : List Loc) (ls : Array Slot), mG D cI cJ cZ ad A H0 H locs S1 → W p l e { frames := 2, cells := 0, slots := 0, locals := 22 } s m args below meth c H locs 0 0 Q (F0 m 292 ls [])) : ∀ n : Nat, ∀ (S : MS) (H : Heap) (locs : List Loc) (ls : Array Slot), fr_nextToken_b8 n S = some S1 → mG D cI cJ cZ ad A H0 H locs S → lv_has ls 1 [(0, .ref (ad 0))] → W p l e { frames := 2, cells := 0, slots := 0, locals := 22 } s m args below meth c H locs 0 0 Q (F0 m 8 ls []) := by
  have hx := E.1
  have hb := E.2.1
  have hts := E.2.2.1
  have hown := E.2.2.2.1
  have hK := E.2.2.2.2.1
  intro n
  induction n with
  | zero =>
    intro S H locs ls h
    have h : (none : Option (MS)) = some S1 := h
    cases h
  | succ n ih =>
    intro S H locs ls h G hl
    unfold fr_nextToken_b8 at h
    refine lv_aload_n hx hb dX12_nextToken_8 rfl (lv_at hl 0 rfl) ?_
    refine lv_aload_n hx hb dX12_nextToken_9 rfl (lv_at hl 0 rfl) ?_
    refine m_get E G 4 (v := .int (S.1 4)) (by decide) (.tail _ qM_46) rfl dX12_nextToken_10 rfl ?_
    refine lv_topi (fun v2 ev2 => ?_)
    have h := elet_at ev2 h
    clear ev2
    obtain ⟨r6, S3, eS3, h⟩ := obind2_some h
    refine m_calli (As := [.int v2]) (rest := []) E G hA hR hml (tr_byteAt l D cI cJ cZ ad S v2 eS3) (cwV 1 hts (gmV qM_49 qM_50 qM_51 qM_35 qM_40) rfl rfl rfl (by decide +kernel) ⟨Nat.le_of_ble_eq_true rfl, Nat.le_of_ble_eq_true rfl⟩) rfl hl.1 rfl (lv_room (Nat.le_of_ble_eq_true rfl)) dX12_nextToken_13 ⟨Nat.zero_le _, Nat.zero_le _⟩ (fun q4 S5 H locs hq G => ?_)
    obtain ⟨hq1, hq2⟩ := hq
    rw [hq2] at G
    refine lv_to hq1 ?_
    clear hq1 hq2 eS3
    refine lv_bipush (v := 32) hx hb dX12_nextToken_16 (by decide) ?_
    refine lv_icmp_ne (tgt := 34) hx hb dX12_nextToken_18 (by decide) (fun c7 => ?_) (fun c7 => ?_)
    · have h := oif_neg c7 h
      refine lv_aload_n hx hb dX12_nextToken_34 rfl (lv_at hl 0 rfl) ?_
      refine lv_aload_n hx hb dX12_nextToken_35 rfl (lv_at hl 0 rfl) ?_
      refine m_get E G 4 (v := .int (S3.1 4)) (by decide) (.tail _ qM_46) rfl dX12_nextToken_36 rfl ?_
      refine lv_topi (fun v11 ev11 => ?_)
      have h := elet_at ev11 h
      clear ev11
      refine m_put E G 8 (by decide) (.tail _ qM_43) (mw_i8 _ _ _ _ _ v11) dX12_nextToken_39 ⟨rfl, rfl, rfl⟩ rfl rfl (fun H locs G => ?_)
      obtain ⟨S12, eS12, h⟩ := elet_some h
      rw [← eS12] at G
      clear eS12
      refine lv_aload_n hx hb dX12_nextToken_42 rfl (lv_at hl 0 rfl) ?_
      refine m_get E G 4 (v := .int (S12.1 4)) (by decide) (.tail _ qM_46) rfl dX12_nextToken_43 rfl ?_
      refine lv_topi (fun v13 ev13 => ?_)
      have h := elet_at ev13 h
      clear ev13
      refine lv_aload_n hx hb dX12_nextToken_46 rfl (lv_at hl 0 rfl) ?_
      refine m_get E G 3 (v := .int (S12.1 3)) (by decide) (.tail _ qM_41) rfl dX12_nextToken_47 rfl ?_
      refine lv_topi (fun v14 ev14 => ?_)
      have h := elet_at ev14 h
      clear ev14
      refine lv_icmp_ne (tgt := 61) hx hb dX12_nextToken_50 (by decide) (fun c15 => ?_) (fun c15 => ?_)
      · have h := oif_neg c15 h
        refine lv_aload_n hx hb dX12_nextToken_61 rfl (lv_at hl 0 rfl) ?_
        refine lv_aload_n hx hb dX12_nextToken_62 rfl (lv_at hl 0 rfl) ?_
        refine m_get E G 4 (v := .int (S12.1 4)) (by decide) (.tail _ qM_46) rfl dX12_nextToken_63 rfl ?_
        refine lv_topi (fun v17 ev17 => ?_)
        have h := elet_at ev17 h
        clear ev17
        obtain ⟨r21, S18, eS18, h⟩ := obind2_some h
        refine m_calli (As := [.int v17]) (rest := []) E G hA hR hml (tr_byteAt l D cI cJ cZ ad S12 v17 eS18) (cwV 1 hts (gmV qM_49 qM_50 qM_51 qM_35 qM_40) rfl rfl rfl (by decide +kernel) ⟨Nat.le_of_ble_eq_true rfl, Nat.le_of_ble_eq_true rfl⟩) rfl hl.1 rfl (lv_room (Nat.le_of_ble_eq_true rfl)) dX12_nextToken_66 ⟨Nat.zero_le _, Nat.zero_le _⟩ (fun q19 S20 H locs hq G => ?_)
        obtain ⟨hq1, hq2⟩ := hq
        rw [hq2] at G
        refine lv_to hq1 ?_
        clear hq1 hq2 eS18
        refine lv_bipush (v := 97) hx hb dX12_nextToken_69 (by decide) ?_
        refine lv_bipush (v := 122) hx hb dX12_nextToken_71 (by decide) ?_
        obtain ⟨r22, er22, h⟩ := obind_some h
        refine m_stat (As := [.int r21, .int 97, .int 122]) (rest := []) ⟨hx, hb, hml, hown, hts⟩ (tr_in l r21 97 122 er22) (cwS 3 hts (gmS qM_52 qM_53 qM_35 qM_27) rfl rfl rfl (by decide +kernel) ⟨Nat.le_of_ble_eq_true rfl, Nat.le_of_ble_eq_true rfl⟩) rfl hl.1 rfl (lv_room (Nat.le_of_ble_eq_true rfl)) dX12_nextToken_73 ⟨Nat.zero_le _, Nat.zero_le _⟩ (fun q23 hq => ?_)
        refine lv_to hq ?_
        clear hq er22
        refine lv_if_eq (tgt := 136) hx hb dX12_nextToken_76 (by decide) (fun c24 => ?_) (fun c24 => ?_)
        · have h := oif_pos c24 h
          refine lv_aload_n hx hb dX12_nextToken_136 rfl (lv_at hl 0 rfl) ?_
          refine lv_aload_n hx hb dX12_nextToken_137 rfl (lv_at hl 0 rfl) ?_
          refine m_get E G 4 (v := .int (S18.1 4)) (by decide) (.tail _ qM_46) rfl dX12_nextToken_138 rfl ?_
          refine lv_topi (fun v25 ev25 => ?_)
          have h := elet_at ev25 h
          clear ev25
          obtain ⟨r29, S26, eS26, h⟩ := obind2_some h
          refine m_calli (As := [.int v25]) (rest := []) E G hA hR hml (tr_byteAt l D cI cJ cZ ad S18 v25 eS26) (cwV 1 hts (gmV qM_49 qM_50 qM_51 qM_35 qM_40) rfl rfl rfl (by decide +kernel) ⟨Nat.le_of_ble_eq_true rfl, Nat.le_of_ble_eq_true rfl⟩) rfl hl.1 rfl (lv_room (Nat.le_of_ble_eq_true rfl)) dX12_nextToken_141 ⟨Nat.zero_le _, Nat.zero_le _⟩ (fun q27 S28 H locs hq G => ?_)
          obtain ⟨hq1, hq2⟩ := hq
          rw [hq2] at G
          refine lv_to hq1 ?_
          clear hq1 hq2 eS26
          refine lv_bipush (v := 48) hx hb dX12_nextToken_144 (by decide) ?_
          refine lv_bipush (v := 57) hx hb dX12_nextToken_146 (by decide) ?_
          obtain ⟨r30, er30, h⟩ := obind_some h
          refine m_stat (As := [.int r29, .int 48, .int 57]) (rest := []) ⟨hx, hb, hml, hown, hts⟩ (tr_in l r29 48 57 er30) (cwS 3 hts (gmS qM_52 qM_53 qM_35 qM_27) rfl rfl rfl (by decide +kernel) ⟨Nat.le_of_ble_eq_true rfl, Nat.le_of_ble_eq_true rfl⟩) rfl hl.1 rfl (lv_room (Nat.le_of_ble_eq_true rfl)) dX12_nextToken_148 ⟨Nat.zero_le _, Nat.zero_le _⟩ (fun q31 hq => ?_)
          refine lv_to hq ?_
          clear hq er30
          refine lv_if_eq (tgt := 251) hx hb dX12_nextToken_151 (by decide) (fun c32 => ?_) (fun c32 => ?_)
          · have h := oif_pos c32 h
            refine lv_aload_n hx hb dX12_nextToken_251 rfl (lv_at hl 0 rfl) ?_
            refine lv_aload_n hx hb dX12_nextToken_252 rfl (lv_at hl 0 rfl) ?_
            refine lv_aload_n hx hb dX12_nextToken_253 rfl (lv_at hl 0 rfl) ?_
            refine m_get E G 4 (v := .int (S26.1 4)) (by decide) (.tail _ qM_46) rfl dX12_nextToken_254 rfl ?_
            refine lv_topi (fun v33 ev33 => ?_)
            have h := elet_at ev33 h
            clear ev33
            obtain ⟨r37, S34, eS34, h⟩ := obind2_some h
            refine m_calli (As := [.int v33]) (rest := [.ref (ad 0)]) E G hA hR hml (tr_byteAt l D cI cJ cZ ad S26 v33 eS34) (cwV 1 hts (gmV qM_49 qM_50 qM_51 qM_35 qM_40) rfl rfl rfl (by decide +kernel) ⟨Nat.le_of_ble_eq_true rfl, Nat.le_of_ble_eq_true rfl⟩) rfl hl.1 rfl (lv_room (Nat.le_of_ble_eq_true rfl)) dX12_nextToken_257 ⟨Nat.zero_le _, Nat.zero_le _⟩ (fun q35 S36 H locs hq G => ?_)
            obtain ⟨hq1, hq2⟩ := hq
            rw [hq2] at G
            refine lv_to hq1 ?_
            clear hq1 hq2 eS34
            refine m_put E G 9 (by decide) (.tail _ qM_48) (mw_i9 _ _ _ _ _ r37) dX12_nextToken_260 ⟨rfl, rfl, rfl⟩ rfl rfl (fun H locs G => ?_)
            obtain ⟨S38, eS38, h⟩ := elet_some h
            rw [← eS38] at G
            clear eS38
            refine lv_aload_n hx hb dX12_nextToken_263 rfl (lv_at hl 0 rfl) ?_
            refine lv_aload_n hx hb dX12_nextToken_264 rfl (lv_at hl 0 rfl) ?_
            refine m_get E G 9 (v := .int (S38.1 9)) (by decide) (.tail _ qM_48) rfl dX12_nextToken_265 rfl ?_
            refine lv_topi (fun v39 ev39 => ?_)
            have h := elet_at ev39 h
            clear ev39
            obtain ⟨r40, er40, h⟩ := obind_some h
            refine m_stat (As := [.int v39]) (rest := [.ref (ad 0)]) ⟨hx, hb, hml, hown, hts⟩ (tr_isSign l v39 er40) (cwS 1 hts (gmS qM_54 qM_55 qM_35 qM_44) rfl rfl rfl (by decide +kernel) ⟨Nat.le_of_ble_eq_true rfl, Nat.le_of_ble_eq_true rfl⟩) rfl hl.1 rfl (lv_room (Nat.le_of_ble_eq_true rfl)) dX12_nextToken_268 ⟨Nat.zero_le _, Nat.zero_le _⟩ (fun q41 hq => ?_)
            refine lv_to hq ?_
            clear hq er40
            refine lv_if_eq (tgt := 278) hx hb dX12_nextToken_271 (by decide) (fun c42 => ?_) (fun c42 => ?_)
            · have h := oif_pos c42 h
              refine lv_iconst (v := 0) hx hb dX12_nextToken_278 (by decide) ?_
              have hl := lv_sub hl [0] rfl
              exact tr_nextToken_b279 E hA hR hml kr7 kr292 _ _ _ _ _ h G hl
            · have h := oif_neg c42 h
              refine lv_iconst (v := 4) hx hb dX12_nextToken_274 (by decide) ?_
              refine lv_goto (tgt := 279) hx hb dX12_nextToken_275 (by decide) ?_
              have hl := lv_sub hl [0] rfl
              exact tr_nextToken_b279 E hA hR hml kr7 kr292 _ _ _ _ _ h G hl
          · have h := oif_neg c32 h
            refine lv_aload_n hx hb dX12_nextToken_154 rfl (lv_at hl 0 rfl) ?_
            refine lv_iconst (v := 0) hx hb dX12_nextToken_155 (by decide) ?_
            refine m_put E G 9 (by decide) (.tail _ qM_48) (mw_i9 _ _ _ _ _ 0) dX12_nextToken_156 ⟨rfl, rfl, rfl⟩ rfl rfl (fun H locs G => ?_)
            obtain ⟨S43, eS43, h⟩ := elet_some h
            rw [← eS43] at G
            clear eS43
            have hl := lv_sub hl [0] rfl
            exact tr_nextToken_b159 E hA hR hml kr7 kr292 _ _ _ _ _ h G hl
        · have h := oif_neg c24 h
          have hl := lv_sub hl [0] rfl
          exact tr_nextToken_b79 E hA hR hml kr7 kr292 _ _ _ _ _ h G hl
      · have h := oif_pos c15 h
        refine lv_aload_n hx hb dX12_nextToken_53 rfl (lv_at hl 0 rfl) ?_
        refine lv_iconst (v := 1) hx hb dX12_nextToken_54 (by decide) ?_
        refine m_put E G 7 (by decide) (.tail _ qM_47) (mw_i7 _ _ _ _ _ 1) dX12_nextToken_55 ⟨rfl, rfl, rfl⟩ rfl rfl (fun H locs G => ?_)
        obtain ⟨S16, eS16, h⟩ := elet_some h
        rw [← eS16] at G
        clear eS16
        refine lv_goto (tgt := 292) hx hb dX12_nextToken_58 (by decide) ?_
        have hl := lv_sub hl [] rfl
        exact tr_nextToken_b292 E hA hR hml kr7 kr292 _ _ _ _ h G hl
    · have h := oif_pos c7 h
      refine lv_aload_n hx hb dX12_nextToken_21 rfl (lv_at hl 0 rfl) ?_
      refine lv_dup hx hb dX12_nextToken_22 rfl ?_
      refine m_get E G 4 (v := .int (S3.1 4)) (by decide) (.tail _ qM_46) rfl dX12_nextToken_23 rfl ?_
      refine lv_topi (fun v8 ev8 => ?_)
      have h := elet_at ev8 h
      clear ev8
      refine lv_iconst (v := 1) hx hb dX12_nextToken_26 (by decide) ?_
      refine lv_iadd hx hb dX12_nextToken_27 ?_
      refine lv_topi (fun v9 ev9 => ?_)
      have h := elet_at ev9 h
      clear ev9
      refine m_put E G 4 (by decide) (.tail _ qM_46) (mw_i4 _ _ _ _ _ v9) dX12_nextToken_28 ⟨rfl, rfl, rfl⟩ rfl rfl (fun H locs G => ?_)
      obtain ⟨S10, eS10, h⟩ := elet_some h
      rw [← eS10] at G
      clear eS10
      refine lv_goto (tgt := 8) hx hb dX12_nextToken_31 (by decide) ?_
      have hl := lv_sub hl [0] rfl
      exact ih _ _ _ _ h G hl
def fr_nextToken (S : MS)  : Option (MS) := elet (S.1 5) fun v2 => if v2 ≤ 0 then (fr_nextToken_b8 16384 S) else (some S)
set_option maxHeartbeats 4000000 in
set_option maxRecDepth 100000 in
theorem tr_nextToken (l : Launch) (D : va_G) (cI cJ cZ : ClassId) (ad : Nat → Nat) (S : MS)  {S1 : MS} (h : fr_nextToken S = some S1) : mCv l yX12_nextToken (Cond.code yX12_nextToken cX12_nextToken 1 none :: wsM) 2 22 D cI cJ cZ ad S [] (fun S9 => S9 = S1) := by
  intro sz
  refine Met.ofW (cc := cX12_nextToken) (maxL := 1) (ret := none) (by decide) rfl ?_
  intro p e s m args below meth c s₁ B hml hv
  obtain ⟨rfl, hsz, hP, hK, hD0, hR⟩ := hv
  have hx := B.exec
  have hb := B.bytes
  have hr := B.returns
  have hts := atoms_spec (ws := (Cond.code yX12_nextToken cX12_nextToken 1 none :: wsM)) B.pre
  have hown : s.vm.findClass RX12 = some m.cls := findClass_of_methodNamed B.named
  have hlocks := B.notSynchronized
  subst hsz
  have hD := hD0.self (sz := s.heap.size)
  generalize hAe : va_A (MW cI cJ cZ ad S) s.heap.size = A at hD ⊢
  have hA : ∀ q : Nat, s.heap.size ≤ q → A q := fun q h => by rw [← hAe]; exact Or.inr h
  have G : mG D cI cJ cZ ad A s.heap s.heap [] S := ⟨hP, hD, va_S.rf⟩
  have E : mE p c cX12_nextToken s m ([.ref (ad 0)] : List Value).toArray (Cond.code yX12_nextToken cX12_nextToken 1 none :: wsM) D cI cJ cZ := ⟨hx, hb, hts, hown, hK, fun w h => .tail _ (iM_x h)⟩
  have hl := lv_entry ([.ref (ad 0)]) (n := 1) (Nat.le_of_ble_eq_true rfl)
  rw [lg_entry_eq]
  generalize (lg_sl ([.ref (ad 0)]) ++ List.replicate (1 - (lg_sl ([.ref (ad 0)])).length) Slot.unset).toArray = ls at hl ⊢
  have hl : lv_has ls 1 [(0, .ref (ad 0))] := hl
  unfold fr_nextToken at h
  refine lv_aload_n hx hb dX12_nextToken_0 rfl (lv_at hl 0 rfl) ?_
  refine m_get E G 5 (v := .int (S.1 5)) (by decide) (.tail _ qM_38) rfl dX12_nextToken_1 rfl ?_
  refine lv_topi (fun v2 ev2 => ?_)
  have h := elet_at ev2 h
  clear ev2
  refine lv_if_le (tgt := 8) hx hb dX12_nextToken_4 (by decide) (fun c3 => ?_) (fun c3 => ?_)
  · have h := oif_pos c3 h
    have hl := lv_sub hl [0] rfl
    exact tr_nextToken_b8 E hA hR hml (fun H locs ls G => W.vret hx hb hr (fun t ht hW => ⟨⟨S1, rfl, rfl, ⟨by rw [ht]; exact G.1, va_K.moved hW.alike hK, G.2.1⟩⟩, G.2.2.F ht⟩) G.2.2.2.2 dX12_nextToken_7) (fun H locs ls G => W.vret hx hb hr (fun t ht hW => ⟨⟨S1, rfl, rfl, ⟨by rw [ht]; exact G.1, va_K.moved hW.alike hK, G.2.1⟩⟩, G.2.2.F ht⟩) G.2.2.2.2 dX12_nextToken_292) _ _ _ _ _ h G hl
  · have h := oif_neg c3 h
    exact W.vret hx hb hr (fun t ht hW => ⟨⟨S, rfl, osome1 h, ⟨by rw [ht]; exact G.1, va_K.moved hW.alike hK, G.2.1⟩⟩, G.2.2.F ht⟩) G.2.2.2.2 dX12_nextToken_7
def fr_isSignHere_b28  (S : MS) (s0 : Int32) : Option (Int32 × MS) := oif (s0 = 0 ∨ s0 = 1) <| some (s0, S)
set_option maxHeartbeats 4000000 in
set_option maxRecDepth 100000 in
theorem tr_isSignHere_b28 {p : Program} {l : Launch} {e : Env} {s : State} {m : MethodId} {args : Array Value} {below : List Frame} {meth : Method} {c : Code} {Q : State → Prop} {D : va_G} {A : Nat → Prop} {H0 : Heap} {cI cJ cZ : ClassId} {ad : Nat → Nat} {r1 : Int32} {S1 : MS} (E : mE p c cX12_isSignHere s m args (Cond.code yX12_isSignHere cX12_isSignHere 2 (some .boolean) :: wsM) D cI cJ cZ) (hA : ∀ q : Nat, H0.size ≤ q → A q) (hR : sR s) (hml : c.maxLocals = 2) (kr28 : ∀ (H : Heap) (locs : List Loc) (ls : Array Slot), (r1 = 0 ∨ r1 = 1) → mG D cI cJ cZ ad A H0 H locs S1 → W p l e { frames := 1, cells := 0, slots := 0, locals := 0 } s m args below meth c H locs 0 0 Q (F0 m 28 ls [.int r1])) : ∀ (S : MS) (H : Heap) (locs : List Loc) (ls : Array Slot) (s0 : Int32), fr_isSignHere_b28 S s0 = some (r1, S1) → mG D cI cJ cZ ad A H0 H locs S → lv_has ls 2 [] → W p l e { frames := 1, cells := 0, slots := 0, locals := 0 } s m args below meth c H locs 0 0 Q (F0 m 28 ls [.int s0]) := by
  have hx := E.1
  have hb := E.2.1
  have hts := E.2.2.1
  have hown := E.2.2.2.1
  have hK := E.2.2.2.2.1
  intro S H locs ls s0 h G hl
  unfold fr_isSignHere_b28 at h
  obtain ⟨gz, h⟩ := oif_some h
  have gr : r1 = 0 ∨ r1 = 1 := by rw [← (osome2 h).1]; exact gz
  rw [(osome2 h).2] at G
  refine lv_to (osome2 h).1 ?_
  exact kr28 _ _ _ gr G
def fr_isSignHere_b27  (S : MS)  : Option (Int32 × MS) := fr_isSignHere_b28 S 0
set_option maxHeartbeats 4000000 in
set_option maxRecDepth 100000 in
theorem tr_isSignHere_b27 {p : Program} {l : Launch} {e : Env} {s : State} {m : MethodId} {args : Array Value} {below : List Frame} {meth : Method} {c : Code} {Q : State → Prop} {D : va_G} {A : Nat → Prop} {H0 : Heap} {cI cJ cZ : ClassId} {ad : Nat → Nat} {r1 : Int32} {S1 : MS} (E : mE p c cX12_isSignHere s m args (Cond.code yX12_isSignHere cX12_isSignHere 2 (some .boolean) :: wsM) D cI cJ cZ) (hA : ∀ q : Nat, H0.size ≤ q → A q) (hR : sR s) (hml : c.maxLocals = 2) (kr28 : ∀ (H : Heap) (locs : List Loc) (ls : Array Slot), (r1 = 0 ∨ r1 = 1) → mG D cI cJ cZ ad A H0 H locs S1 → W p l e { frames := 1, cells := 0, slots := 0, locals := 0 } s m args below meth c H locs 0 0 Q (F0 m 28 ls [.int r1])) : ∀ (S : MS) (H : Heap) (locs : List Loc) (ls : Array Slot), fr_isSignHere_b27 S = some (r1, S1) → mG D cI cJ cZ ad A H0 H locs S → lv_has ls 2 [] → W p l e { frames := 1, cells := 0, slots := 0, locals := 0 } s m args below meth c H locs 0 0 Q (F0 m 27 ls []) := by
  have hx := E.1
  have hb := E.2.1
  have hts := E.2.2.1
  have hown := E.2.2.2.1
  have hK := E.2.2.2.2.1
  intro S H locs ls h G hl
  unfold fr_isSignHere_b27 at h
  refine lv_iconst (v := 0) hx hb dX12_isSignHere_27 (by decide) ?_
  have hl := lv_sub hl [] rfl
  exact tr_isSignHere_b28 E hA hR hml kr28 _ _ _ _ _ h G hl
def fr_isSignHere (S : MS) (a0 : Int32) : Option (Int32 × MS) := elet (S.1 5) fun v2 => if v2 = 0 then (elet (S.1 7) fun v4 => if v4 = 4 then (elet (S.1 9) fun v6 => if v6 = a0 then (fr_isSignHere_b28 S 1) else (fr_isSignHere_b27 S)) else (fr_isSignHere_b27 S)) else (fr_isSignHere_b27 S)
set_option maxHeartbeats 4000000 in
set_option maxRecDepth 100000 in
theorem tr_isSignHere (l : Launch) (D : va_G) (cI cJ cZ : ClassId) (ad : Nat → Nat) (S : MS) (a0 : Int32) {r1 : Int32} {S1 : MS} (h : fr_isSignHere S a0 = some (r1, S1)) : mCi l yX12_isSignHere (Cond.code yX12_isSignHere cX12_isSignHere 2 (some .boolean) :: wsM) 1 0 D cI cJ cZ ad S [.int a0] (fun r S9 => r = r1 ∧ S9 = S1) := by
  intro sz
  refine Met.ofW (cc := cX12_isSignHere) (maxL := 2) (ret := (some .boolean)) (by decide) rfl ?_
  intro p e s m args below meth c s₁ B hml hv
  obtain ⟨rfl, hsz, hP, hK, hD0, hR⟩ := hv
  have hx := B.exec
  have hb := B.bytes
  have hr := B.returns
  have hts := atoms_spec (ws := (Cond.code yX12_isSignHere cX12_isSignHere 2 (some .boolean) :: wsM)) B.pre
  have hown : s.vm.findClass RX12 = some m.cls := findClass_of_methodNamed B.named
  have hlocks := B.notSynchronized
  subst hsz
  have hD := hD0.self (sz := s.heap.size)
  generalize hAe : va_A (MW cI cJ cZ ad S) s.heap.size = A at hD ⊢
  have hA : ∀ q : Nat, s.heap.size ≤ q → A q := fun q h => by rw [← hAe]; exact Or.inr h
  have G : mG D cI cJ cZ ad A s.heap s.heap [] S := ⟨hP, hD, va_S.rf⟩
  have E : mE p c cX12_isSignHere s m ([.ref (ad 0), .int a0] : List Value).toArray (Cond.code yX12_isSignHere cX12_isSignHere 2 (some .boolean) :: wsM) D cI cJ cZ := ⟨hx, hb, hts, hown, hK, fun w h => .tail _ (iM_x h)⟩
  have hl := lv_entry ([.ref (ad 0), .int a0]) (n := 2) (Nat.le_of_ble_eq_true rfl)
  rw [lg_entry_eq]
  generalize (lg_sl ([.ref (ad 0), .int a0]) ++ List.replicate (2 - (lg_sl ([.ref (ad 0), .int a0])).length) Slot.unset).toArray = ls at hl ⊢
  have hl : lv_has ls 2 [(0, .ref (ad 0)), (1, .int a0)] := hl
  unfold fr_isSignHere at h
  refine lv_aload_n hx hb dX12_isSignHere_0 rfl (lv_at hl 0 rfl) ?_
  refine m_get E G 5 (v := .int (S.1 5)) (by decide) (.tail _ qM_38) rfl dX12_isSignHere_1 rfl ?_
  refine lv_topi (fun v2 ev2 => ?_)
  have h := elet_at ev2 h
  clear ev2
  refine lv_if_ne (tgt := 27) hx hb dX12_isSignHere_4 (by decide) (fun c3 => ?_) (fun c3 => ?_)
  · have h := oif_neg c3 h
    have hl := lv_sub hl [] rfl
    exact tr_isSignHere_b27 E hA hR hml (fun H locs ls gz G => W.zret (v := r1) hx hb hr (nar01 gz) (fun t ht hW => ⟨⟨r1, S1, rfl, ⟨rfl, rfl⟩, ⟨by rw [ht]; exact G.1, va_K.moved hW.alike hK, G.2.1⟩⟩, G.2.2.F ht⟩) G.2.2.2.2 dX12_isSignHere_28) _ _ _ _ h G hl
  · have h := oif_pos c3 h
    refine lv_aload_n hx hb dX12_isSignHere_7 rfl (lv_at hl 0 rfl) ?_
    refine m_get E G 7 (v := .int (S.1 7)) (by decide) (.tail _ qM_47) rfl dX12_isSignHere_8 rfl ?_
    refine lv_topi (fun v4 ev4 => ?_)
    have h := elet_at ev4 h
    clear ev4
    refine lv_iconst (v := 4) hx hb dX12_isSignHere_11 (by decide) ?_
    refine lv_icmp_ne (tgt := 27) hx hb dX12_isSignHere_12 (by decide) (fun c5 => ?_) (fun c5 => ?_)
    · have h := oif_neg c5 h
      have hl := lv_sub hl [] rfl
      exact tr_isSignHere_b27 E hA hR hml (fun H locs ls gz G => W.zret (v := r1) hx hb hr (nar01 gz) (fun t ht hW => ⟨⟨r1, S1, rfl, ⟨rfl, rfl⟩, ⟨by rw [ht]; exact G.1, va_K.moved hW.alike hK, G.2.1⟩⟩, G.2.2.F ht⟩) G.2.2.2.2 dX12_isSignHere_28) _ _ _ _ h G hl
    · have h := oif_pos c5 h
      refine lv_aload_n hx hb dX12_isSignHere_15 rfl (lv_at hl 0 rfl) ?_
      refine m_get E G 9 (v := .int (S.1 9)) (by decide) (.tail _ qM_48) rfl dX12_isSignHere_16 rfl ?_
      refine lv_topi (fun v6 ev6 => ?_)
      have h := elet_at ev6 h
      clear ev6
      refine lv_iload_n hx hb dX12_isSignHere_19 rfl (lv_at hl 1 rfl) ?_
      refine lv_icmp_ne (tgt := 27) hx hb dX12_isSignHere_20 (by decide) (fun c7 => ?_) (fun c7 => ?_)
      · have h := oif_neg c7 h
        have hl := lv_sub hl [] rfl
        exact tr_isSignHere_b27 E hA hR hml (fun H locs ls gz G => W.zret (v := r1) hx hb hr (nar01 gz) (fun t ht hW => ⟨⟨r1, S1, rfl, ⟨rfl, rfl⟩, ⟨by rw [ht]; exact G.1, va_K.moved hW.alike hK, G.2.1⟩⟩, G.2.2.F ht⟩) G.2.2.2.2 dX12_isSignHere_28) _ _ _ _ h G hl
      · have h := oif_pos c7 h
        refine lv_iconst (v := 1) hx hb dX12_isSignHere_23 (by decide) ?_
        refine lv_goto (tgt := 28) hx hb dX12_isSignHere_24 (by decide) ?_
        have hl := lv_sub hl [] rfl
        exact tr_isSignHere_b28 E hA hR hml (fun H locs ls gz G => W.zret (v := r1) hx hb hr (nar01 gz) (fun t ht hW => ⟨⟨r1, S1, rfl, ⟨rfl, rfl⟩, ⟨by rw [ht]; exact G.1, va_K.moved hW.alike hK, G.2.1⟩⟩, G.2.2.F ht⟩) G.2.2.2.2 dX12_isSignHere_28) _ _ _ _ _ h G hl
def fr_isWord_b31 (tx : Nat × (Nat → Int32))  (S : MS)  : Option (Int32 × MS) := some (0, S)
set_option maxHeartbeats 4000000 in
set_option maxRecDepth 100000 in
theorem tr_isWord_b31 {p : Program} {l : Launch} {e : Env} {s : State} {m : MethodId} {args : Array Value} {below : List Frame} {meth : Method} {c : Code} {Q : State → Prop} {D : va_G} {A : Nat → Prop} {cI cJ cZ : ClassId} {ad : Nat → Nat} {q : Nat} {tx : Nat × (Nat → Int32)} {r1 : Int32} {S1 : MS} (E : mE p c cX12_isWord s m args (Cond.code yX12_isWord cX12_isWord 3 (some .boolean) :: wsM) D cI cJ cZ) (hA : ∀ q : Nat, s.heap.size ≤ q → A q) (hR : sR s) (hml : c.maxLocals = 3) {h0 : Nat} (hA0 : ∀ a : Nat, A a → h0 ≤ a) (hT : sAll h0 s) (hO : sO tx q (fun a => h0 ≤ a) s s.heap) (hC : sT tx) (kr32 : ∀ (H : Heap) (locs : List Loc) (ls : Array Slot), (r1 = 0 ∨ r1 = 1) → mG D cI cJ cZ ad A s.heap H locs S1 → W p l e { frames := 5, cells := 0, slots := 0, locals := 87 } s m args below meth c H locs 0 0 Q (F0 m 32 ls [.int r1])) (kr63 : ∀ (H : Heap) (locs : List Loc) (ls : Array Slot), (r1 = 0 ∨ r1 = 1) → mG D cI cJ cZ ad A s.heap H locs S1 → W p l e { frames := 5, cells := 0, slots := 0, locals := 87 } s m args below meth c H locs 0 0 Q (F0 m 63 ls [.int r1])) (kr71 : ∀ (H : Heap) (locs : List Loc) (ls : Array Slot), (r1 = 0 ∨ r1 = 1) → mG D cI cJ cZ ad A s.heap H locs S1 → W p l e { frames := 5, cells := 0, slots := 0, locals := 87 } s m args below meth c H locs 0 0 Q (F0 m 71 ls [.int r1])) : ∀ (S : MS) (H : Heap) (locs : List Loc) (ls : Array Slot), fr_isWord_b31 tx S = some (r1, S1) → mG D cI cJ cZ ad A s.heap H locs S → lv_has ls 3 [] → W p l e { frames := 5, cells := 0, slots := 0, locals := 87 } s m args below meth c H locs 0 0 Q (F0 m 31 ls []) := by
  have hx := E.1
  have hb := E.2.1
  have hts := E.2.2.1
  have hown := E.2.2.2.1
  have hK := E.2.2.2.2.1
  intro S H locs ls h G hl
  unfold fr_isWord_b31 at h
  refine lv_iconst (v := 0) hx hb dX12_isWord_31 (by decide) ?_
  rw [(osome2 h).2] at G
  refine lv_to (osome2 h).1 ?_
  exact kr32 _ _ _ (.inl ((osome2 h).1).symm) G
def fr_isWord_b35 (tx : Nat × (Nat → Int32))  : Nat → MS → Int32 → Option (Int32 × MS)
  | 0, _, _ => none
  | n + 1, S, l2 => elet (nI tx.1 >>> (0 &&& 31)) fun v3 => if v3 ≤ l2 then (some (1, S)) else (elet (S.1 8) fun v5 => elet (v5 + l2) fun v6 => oif (inb v6 1000 = true) <| elet (S.2.1 1 v6.toNatClampNeg) fun v8 => oif (inb l2 tx.1 = true) <| elet (s_ch (tx.2 l2.toNatClampNeg)) fun v11 => if v8 = v11 then (elet (l2 + Int32.ofInt (1)) fun v13 => fr_isWord_b35 tx n S v13) else (some (0, S)))
set_option maxHeartbeats 4000000 in
set_option maxRecDepth 100000 in
theorem tr_isWord_b35 {p : Program} {l : Launch} {e : Env} {s : State} {m : MethodId} {args : Array Value} {below : List Frame} {meth : Method} {c : Code} {Q : State → Prop} {D : va_G} {A : Nat → Prop} {cI cJ cZ : ClassId} {ad : Nat → Nat} {q : Nat} {tx : Nat × (Nat → Int32)} {r1 : Int32} {S1 : MS} (E : mE p c cX12_isWord s m args (Cond.code yX12_isWord cX12_isWord 3 (some .boolean) :: wsM) D cI cJ cZ) (hA : ∀ q : Nat, s.heap.size ≤ q → A q) (hR : sR s) (hml : c.maxLocals = 3) {h0 : Nat} (hA0 : ∀ a : Nat, A a → h0 ≤ a) (hT : sAll h0 s) (hO : sO tx q (fun a => h0 ≤ a) s s.heap) (hC : sT tx) (kr32 : ∀ (H : Heap) (locs : List Loc) (ls : Array Slot), (r1 = 0 ∨ r1 = 1) → mG D cI cJ cZ ad A s.heap H locs S1 → W p l e { frames := 5, cells := 0, slots := 0, locals := 87 } s m args below meth c H locs 0 0 Q (F0 m 32 ls [.int r1])) (kr63 : ∀ (H : Heap) (locs : List Loc) (ls : Array Slot), (r1 = 0 ∨ r1 = 1) → mG D cI cJ cZ ad A s.heap H locs S1 → W p l e { frames := 5, cells := 0, slots := 0, locals := 87 } s m args below meth c H locs 0 0 Q (F0 m 63 ls [.int r1])) (kr71 : ∀ (H : Heap) (locs : List Loc) (ls : Array Slot), (r1 = 0 ∨ r1 = 1) → mG D cI cJ cZ ad A s.heap H locs S1 → W p l e { frames := 5, cells := 0, slots := 0, locals := 87 } s m args below meth c H locs 0 0 Q (F0 m 71 ls [.int r1])) : ∀ n : Nat, ∀ (S : MS) (H : Heap) (locs : List Loc) (ls : Array Slot) (l2 : Int32), fr_isWord_b35 tx n S l2 = some (r1, S1) → mG D cI cJ cZ ad A s.heap H locs S → lv_has ls 3 [(0, .ref (ad 0)), (1, .ref q), (2, .int l2)] → W p l e { frames := 5, cells := 0, slots := 0, locals := 87 } s m args below meth c H locs 0 0 Q (F0 m 35 ls []) := by
  have hx := E.1
  have hb := E.2.1
  have hts := E.2.2.1
  have hown := E.2.2.2.1
  have hK := E.2.2.2.2.1
  intro n
  induction n with
  | zero =>
    intro S H locs ls l2 h
    have h : (none : Option (Int32 × MS)) = some (r1, S1) := h
    cases h
  | succ n ih =>
    intro S H locs ls l2 h G hl
    unfold fr_isWord_b35 at h
    refine lv_iload_n hx hb dX12_isWord_35 rfl (lv_at hl 2 rfl) ?_
    refine lv_aload_n hx hb dX12_isWord_36 rfl (lv_at hl 1 rfl) ?_
    refine s_callV (As := []) (rest := [.int l2]) ⟨hx, hb, hml, hown, hts⟩ (j_length l (tx := tx) (q := q)) (cwV 0 hts (gmV qM_58 qM_59 qM_60 qM_61 qM_62) rfl rfl rfl (by decide +kernel) ⟨Nat.le_of_ble_eq_true rfl, Nat.le_of_ble_eq_true rfl⟩) (sO.recv hO hA0 G.2.2) (fun _ _ _ _ h => h.blind) (sP.go hO hT.2 hA0 G.2.2) rfl hl.1 rfl (lv_room (Nat.le_of_ble_eq_true rfl)) dX12_isWord_37 ⟨Nat.zero_le _, Nat.zero_le _⟩ (fun r2 hq => ?_)
    refine lv_to hq ?_
    clear hq
    refine lv_topi (fun v3 ev3 => ?_)
    have h := elet_at ev3 h
    clear ev3
    refine lv_icmp_ge (tgt := 70) hx hb dX12_isWord_40 (by decide) (fun c4 => ?_) (fun c4 => ?_)
    · have h := oif_pos c4 h
      refine lv_iconst (v := 1) hx hb dX12_isWord_70 (by decide) ?_
      rw [(osome2 h).2] at G
      refine lv_to (osome2 h).1 ?_
      exact kr71 _ _ _ (.inr ((osome2 h).1).symm) G
    · have h := oif_neg c4 h
      refine lv_aload_n hx hb dX12_isWord_43 rfl (lv_at hl 0 rfl) ?_
      refine m_get E G 1 (v := .ref (ad 1)) (by decide) (.tail _ qM_5) rfl dX12_isWord_44 rfl ?_
      refine lv_aload_n hx hb dX12_isWord_47 rfl (lv_at hl 0 rfl) ?_
      refine m_get E G 8 (v := .int (S.1 8)) (by decide) (.tail _ qM_43) rfl dX12_isWord_48 rfl ?_
      refine lv_topi (fun v5 ev5 => ?_)
      have h := elet_at ev5 h
      clear ev5
      refine lv_iload_n hx hb dX12_isWord_51 rfl (lv_at hl 2 rfl) ?_
      refine lv_iadd hx hb dX12_isWord_52 ?_
      refine lv_topi (fun v6 ev6 => ?_)
      have h := elet_at ev6 h
      clear ev6
      obtain ⟨g7, h⟩ := oif_some h
      refine m_iald E G 1 1 (n := 1000) (k := v6.toNatClampNeg) rfl (inb_k g7).1 (inb_k g7).2 (by decide) dX12_isWord_53 ?_
      refine lv_topi (fun v8 ev8 => ?_)
      have h := elet_at ev8 h
      clear ev8
      refine lv_aload_n hx hb dX12_isWord_54 rfl (lv_at hl 1 rfl) ?_
      refine lv_iload_n hx hb dX12_isWord_55 rfl (lv_at hl 2 rfl) ?_
      obtain ⟨g10, h⟩ := oif_some h
      refine lv_to (inb_k g10).1 ?_
      refine s_callV (As := [.int (nI l2.toNatClampNeg)]) (rest := [.int v8]) ⟨hx, hb, hml, hown, hts⟩ (j_charAt l (tx := tx) (q := q) (inb_k g10).2 hC.1 (hC.2 _ (inb_k g10).2)) (cwV 1 hts (gmV qM_70 qM_71 qM_72 qM_61 qM_73) rfl rfl rfl (by decide +kernel) ⟨Nat.le_of_ble_eq_true rfl, Nat.le_of_ble_eq_true rfl⟩) (sO.recv hO hA0 G.2.2) (fun _ _ _ _ h => h.blind) (sP.go hO hT.2 hA0 G.2.2) rfl hl.1 rfl (lv_room (Nat.le_of_ble_eq_true rfl)) dX12_isWord_56 ⟨Nat.zero_le _, Nat.zero_le _⟩ (fun r9 hq => ?_)
      refine lv_to hq ?_
      clear hq
      refine lv_topi (fun v11 ev11 => ?_)
      have h := elet_at ev11 h
      clear ev11
      refine lv_icmp_eq (tgt := 64) hx hb dX12_isWord_59 (by decide) (fun c12 => ?_) (fun c12 => ?_)
      · have h := oif_pos c12 h
        obtain ⟨v13, ev13, h⟩ := elet_some h
        refine lv_iinc (v := v13) (lv' := [(2, .int v13), (0, .ref (ad 0)), (1, .ref q)]) hx hb dX12_isWord_64 hl (k := 2) rfl ev13.symm (by decide) rfl (fun ls hl => ?_)
        refine lv_goto (tgt := 35) hx hb dX12_isWord_67 (by decide) ?_
        have hl := lv_sub hl [1, 2, 0] rfl
        exact ih _ _ _ _ _ h G hl
      · have h := oif_neg c12 h
        refine lv_iconst (v := 0) hx hb dX12_isWord_62 (by decide) ?_
        rw [(osome2 h).2] at G
        refine lv_to (osome2 h).1 ?_
        exact kr63 _ _ _ (.inl ((osome2 h).1).symm) G
def fr_isWord (S : MS) (tx : Nat × (Nat → Int32))  : Option (Int32 × MS) := elet (S.1 5) fun v2 => if 0 < v2 then (fr_isWord_b31 tx S) else (elet (S.1 7) fun v4 => if v4 = 2 then (elet (S.1 4) fun v6 => elet (S.1 8) fun v7 => elet (v6 - v7) fun v8 => elet (nI tx.1 >>> (0 &&& 31)) fun v10 => if v8 = v10 then (fr_isWord_b35 tx 16384 S 0) else (fr_isWord_b31 tx S)) else (fr_isWord_b31 tx S))
set_option maxHeartbeats 4000000 in
set_option maxRecDepth 100000 in
theorem tr_isWord (l : Launch) (D : va_G) (cI cJ cZ : ClassId) (ad : Nat → Nat) (S : MS) (h0 : Nat) {q : Nat} {tx : Nat × (Nat → Int32)} (hC : sT tx)  {r1 : Int32} {S1 : MS} (h : fr_isWord S tx = some (r1, S1)) : mCiX l yX12_isWord (Cond.code yX12_isWord cX12_isWord 3 (some .boolean) :: wsM) 5 87 D cI cJ cZ ad S [.ref q] (xT1 cI cJ cZ h0 ad S tx q) (fun r S9 => r = r1 ∧ S9 = S1) := by
  intro sz
  refine Met.ofW (cc := cX12_isWord) (maxL := 3) (ret := (some .boolean)) (by decide) rfl ?_
  intro p e s m args below meth c s₁ B hml hv
  obtain ⟨rfl, ⟨hsz, hP, hK, hD0, hR⟩, ⟨hA1, hT⟩, hO⟩ := hv
  have hx := B.exec
  have hb := B.bytes
  have hr := B.returns
  have hts := atoms_spec (ws := (Cond.code yX12_isWord cX12_isWord 3 (some .boolean) :: wsM)) B.pre
  have hown : s.vm.findClass RX12 = some m.cls := findClass_of_methodNamed B.named
  have hlocks := B.notSynchronized
  subst hsz
  have hD := hD0.self (sz := s.heap.size)
  generalize hAe : va_A (MW cI cJ cZ ad S) s.heap.size = A at hD hA1 ⊢
  have hA : ∀ q : Nat, s.heap.size ≤ q → A q := fun q h => by rw [← hAe]; exact Or.inr h
  have G : mG D cI cJ cZ ad A s.heap s.heap [] S := ⟨hP, hD, va_S.rf⟩
  have E : mE p c cX12_isWord s m ([.ref (ad 0), .ref q] : List Value).toArray (Cond.code yX12_isWord cX12_isWord 3 (some .boolean) :: wsM) D cI cJ cZ := ⟨hx, hb, hts, hown, hK, fun w h => .tail _ (iM_x h)⟩
  have hA0 : ∀ a : Nat, A a → h0 ≤ a := hA1
  have hl := lv_entry ([.ref (ad 0), .ref q]) (n := 3) (Nat.le_of_ble_eq_true rfl)
  rw [lg_entry_eq]
  generalize (lg_sl ([.ref (ad 0), .ref q]) ++ List.replicate (3 - (lg_sl ([.ref (ad 0), .ref q])).length) Slot.unset).toArray = ls at hl ⊢
  have hl : lv_has ls 3 [(0, .ref (ad 0)), (1, .ref q)] := hl
  unfold fr_isWord at h
  refine lv_aload_n hx hb dX12_isWord_0 rfl (lv_at hl 0 rfl) ?_
  refine m_get E G 5 (v := .int (S.1 5)) (by decide) (.tail _ qM_38) rfl dX12_isWord_1 rfl ?_
  refine lv_topi (fun v2 ev2 => ?_)
  have h := elet_at ev2 h
  clear ev2
  refine lv_if_gt (tgt := 31) hx hb dX12_isWord_4 (by decide) (fun c3 => ?_) (fun c3 => ?_)
  · have h := oif_pos c3 h
    have hl := lv_sub hl [] rfl
    exact tr_isWord_b31 E hA hR hml hA0 hT hO hC (fun H locs ls gz G => W.zret (v := r1) hx hb hr (nar01 gz) (fun t ht hW => ⟨⟨r1, S1, rfl, ⟨rfl, rfl⟩, ⟨by rw [ht]; exact G.1, va_K.moved hW.alike hK, G.2.1⟩⟩, G.2.2.F ht⟩) G.2.2.2.2 dX12_isWord_32) (fun H locs ls gz G => W.zret (v := r1) hx hb hr (nar01 gz) (fun t ht hW => ⟨⟨r1, S1, rfl, ⟨rfl, rfl⟩, ⟨by rw [ht]; exact G.1, va_K.moved hW.alike hK, G.2.1⟩⟩, G.2.2.F ht⟩) G.2.2.2.2 dX12_isWord_63) (fun H locs ls gz G => W.zret (v := r1) hx hb hr (nar01 gz) (fun t ht hW => ⟨⟨r1, S1, rfl, ⟨rfl, rfl⟩, ⟨by rw [ht]; exact G.1, va_K.moved hW.alike hK, G.2.1⟩⟩, G.2.2.F ht⟩) G.2.2.2.2 dX12_isWord_71) _ _ _ _ h G hl
  · have h := oif_neg c3 h
    refine lv_aload_n hx hb dX12_isWord_7 rfl (lv_at hl 0 rfl) ?_
    refine m_get E G 7 (v := .int (S.1 7)) (by decide) (.tail _ qM_47) rfl dX12_isWord_8 rfl ?_
    refine lv_topi (fun v4 ev4 => ?_)
    have h := elet_at ev4 h
    clear ev4
    refine lv_iconst (v := 2) hx hb dX12_isWord_11 (by decide) ?_
    refine lv_icmp_ne (tgt := 31) hx hb dX12_isWord_12 (by decide) (fun c5 => ?_) (fun c5 => ?_)
    · have h := oif_neg c5 h
      have hl := lv_sub hl [] rfl
      exact tr_isWord_b31 E hA hR hml hA0 hT hO hC (fun H locs ls gz G => W.zret (v := r1) hx hb hr (nar01 gz) (fun t ht hW => ⟨⟨r1, S1, rfl, ⟨rfl, rfl⟩, ⟨by rw [ht]; exact G.1, va_K.moved hW.alike hK, G.2.1⟩⟩, G.2.2.F ht⟩) G.2.2.2.2 dX12_isWord_32) (fun H locs ls gz G => W.zret (v := r1) hx hb hr (nar01 gz) (fun t ht hW => ⟨⟨r1, S1, rfl, ⟨rfl, rfl⟩, ⟨by rw [ht]; exact G.1, va_K.moved hW.alike hK, G.2.1⟩⟩, G.2.2.F ht⟩) G.2.2.2.2 dX12_isWord_63) (fun H locs ls gz G => W.zret (v := r1) hx hb hr (nar01 gz) (fun t ht hW => ⟨⟨r1, S1, rfl, ⟨rfl, rfl⟩, ⟨by rw [ht]; exact G.1, va_K.moved hW.alike hK, G.2.1⟩⟩, G.2.2.F ht⟩) G.2.2.2.2 dX12_isWord_71) _ _ _ _ h G hl
    · have h := oif_pos c5 h
      refine lv_aload_n hx hb dX12_isWord_15 rfl (lv_at hl 0 rfl) ?_
      refine m_get E G 4 (v := .int (S.1 4)) (by decide) (.tail _ qM_46) rfl dX12_isWord_16 rfl ?_
      refine lv_topi (fun v6 ev6 => ?_)
      have h := elet_at ev6 h
      clear ev6
      refine lv_aload_n hx hb dX12_isWord_19 rfl (lv_at hl 0 rfl) ?_
      refine m_get E G 8 (v := .int (S.1 8)) (by decide) (.tail _ qM_43) rfl dX12_isWord_20 rfl ?_
      refine lv_topi (fun v7 ev7 => ?_)
      have h := elet_at ev7 h
      clear ev7
      refine lv_isub hx hb dX12_isWord_23 ?_
      refine lv_topi (fun v8 ev8 => ?_)
      have h := elet_at ev8 h
      clear ev8
      refine lv_aload_n hx hb dX12_isWord_24 rfl (lv_at hl 1 rfl) ?_
      refine s_callV (As := []) (rest := [.int v8]) ⟨hx, hb, hml, hown, hts⟩ (j_length l (tx := tx) (q := q)) (cwV 0 hts (gmV qM_58 qM_59 qM_60 qM_61 qM_62) rfl rfl rfl (by decide +kernel) ⟨Nat.le_of_ble_eq_true rfl, Nat.le_of_ble_eq_true rfl⟩) (sO.recv hO hA0 G.2.2) (fun _ _ _ _ h => h.blind) (sP.go hO hT.2 hA0 G.2.2) rfl hl.1 rfl (lv_room (Nat.le_of_ble_eq_true rfl)) dX12_isWord_25 ⟨Nat.zero_le _, Nat.zero_le _⟩ (fun r9 hq => ?_)
      refine lv_to hq ?_
      clear hq
      refine lv_topi (fun v10 ev10 => ?_)
      have h := elet_at ev10 h
      clear ev10
      refine lv_icmp_eq (tgt := 33) hx hb dX12_isWord_28 (by decide) (fun c11 => ?_) (fun c11 => ?_)
      · have h := oif_pos c11 h
        refine lv_iconst (v := 0) hx hb dX12_isWord_33 (by decide) ?_
        refine lv_istore_n (lv' := [(2, .int 0), (0, .ref (ad 0)), (1, .ref q)]) hx hb dX12_isWord_34 rfl hl (by decide) rfl (fun ls hl => ?_)
        have hl := lv_sub hl [1, 2, 0] rfl
        exact tr_isWord_b35 E hA hR hml hA0 hT hO hC (fun H locs ls gz G => W.zret (v := r1) hx hb hr (nar01 gz) (fun t ht hW => ⟨⟨r1, S1, rfl, ⟨rfl, rfl⟩, ⟨by rw [ht]; exact G.1, va_K.moved hW.alike hK, G.2.1⟩⟩, G.2.2.F ht⟩) G.2.2.2.2 dX12_isWord_32) (fun H locs ls gz G => W.zret (v := r1) hx hb hr (nar01 gz) (fun t ht hW => ⟨⟨r1, S1, rfl, ⟨rfl, rfl⟩, ⟨by rw [ht]; exact G.1, va_K.moved hW.alike hK, G.2.1⟩⟩, G.2.2.F ht⟩) G.2.2.2.2 dX12_isWord_63) (fun H locs ls gz G => W.zret (v := r1) hx hb hr (nar01 gz) (fun t ht hW => ⟨⟨r1, S1, rfl, ⟨rfl, rfl⟩, ⟨by rw [ht]; exact G.1, va_K.moved hW.alike hK, G.2.1⟩⟩, G.2.2.F ht⟩) G.2.2.2.2 dX12_isWord_71) _ _ _ _ _ _ h G hl
      · have h := oif_neg c11 h
        have hl := lv_sub hl [] rfl
        exact tr_isWord_b31 E hA hR hml hA0 hT hO hC (fun H locs ls gz G => W.zret (v := r1) hx hb hr (nar01 gz) (fun t ht hW => ⟨⟨r1, S1, rfl, ⟨rfl, rfl⟩, ⟨by rw [ht]; exact G.1, va_K.moved hW.alike hK, G.2.1⟩⟩, G.2.2.F ht⟩) G.2.2.2.2 dX12_isWord_32) (fun H locs ls gz G => W.zret (v := r1) hx hb hr (nar01 gz) (fun t ht hW => ⟨⟨r1, S1, rfl, ⟨rfl, rfl⟩, ⟨by rw [ht]; exact G.1, va_K.moved hW.alike hK, G.2.1⟩⟩, G.2.2.F ht⟩) G.2.2.2.2 dX12_isWord_63) (fun H locs ls gz G => W.zret (v := r1) hx hb hr (nar01 gz) (fun t ht hW => ⟨⟨r1, S1, rfl, ⟨rfl, rfl⟩, ⟨by rw [ht]; exact G.1, va_K.moved hW.alike hK, G.2.1⟩⟩, G.2.2.F ht⟩) G.2.2.2.2 dX12_isWord_71) _ _ _ _ h G hl
def fr_takes_b14 (tx : Nat × (Nat → Int32))  (S : MS) (l2 : Int32) : Option (Int32 × MS) := oif (l2 = 0 ∨ l2 = 1) <| some (l2, S)
set_option maxHeartbeats 4000000 in
set_option maxRecDepth 100000 in
theorem tr_takes_b14 {p : Program} {l : Launch} {e : Env} {s : State} {m : MethodId} {args : Array Value} {below : List Frame} {meth : Method} {c : Code} {Q : State → Prop} {D : va_G} {A : Nat → Prop} {cI cJ cZ : ClassId} {ad : Nat → Nat} {q : Nat} {tx : Nat × (Nat → Int32)} {r1 : Int32} {S1 : MS} (E : mE p c cX12_takes s m args (Cond.code yX12_takes cX12_takes 3 (some .boolean) :: wsM) D cI cJ cZ) (hA : ∀ q : Nat, s.heap.size ≤ q → A q) (hR : sR s) (hml : c.maxLocals = 3) {h0 : Nat} (hA0 : ∀ a : Nat, A a → h0 ≤ a) (hT : sAll h0 s) (hO : sO tx q (fun a => h0 ≤ a) s s.heap) (hC : sT tx) (kr15 : ∀ (H : Heap) (locs : List Loc) (ls : Array Slot), (r1 = 0 ∨ r1 = 1) → mG D cI cJ cZ ad A s.heap H locs S1 → W p l e { frames := 6, cells := 0, slots := 0, locals := 109 } s m args below meth c H locs 0 0 Q (F0 m 15 ls [.int r1])) : ∀ (S : MS) (H : Heap) (locs : List Loc) (ls : Array Slot) (l2 : Int32), fr_takes_b14 tx S l2 = some (r1, S1) → mG D cI cJ cZ ad A s.heap H locs S → lv_has ls 3 [(2, .int l2)] → W p l e { frames := 6, cells := 0, slots := 0, locals := 109 } s m args below meth c H locs 0 0 Q (F0 m 14 ls []) := by
  have hx := E.1
  have hb := E.2.1
  have hts := E.2.2.1
  have hown := E.2.2.2.1
  have hK := E.2.2.2.2.1
  intro S H locs ls l2 h G hl
  unfold fr_takes_b14 at h
  refine lv_iload_n hx hb dX12_takes_14 rfl (lv_at hl 0 rfl) ?_
  obtain ⟨gz, h⟩ := oif_some h
  have gr : r1 = 0 ∨ r1 = 1 := by rw [← (osome2 h).1]; exact gz
  rw [(osome2 h).2] at G
  refine lv_to (osome2 h).1 ?_
  exact kr15 _ _ _ gr G
def fr_takes (S : MS) (tx : Nat × (Nat → Int32))  : Option (Int32 × MS) := obind2 (fr_isWord S tx) fun r5 S2 => if r5 = 0 then (fr_takes_b14 tx S2 r5) else (obind (fr_nextToken S2) fun S7 => fr_takes_b14 tx S7 r5)
set_option maxHeartbeats 4000000 in
set_option maxRecDepth 100000 in
theorem tr_takes (l : Launch) (D : va_G) (cI cJ cZ : ClassId) (ad : Nat → Nat) (S : MS) (h0 : Nat) {q : Nat} {tx : Nat × (Nat → Int32)} (hC : sT tx)  {r1 : Int32} {S1 : MS} (h : fr_takes S tx = some (r1, S1)) : mCiX l yX12_takes (Cond.code yX12_takes cX12_takes 3 (some .boolean) :: wsM) 6 109 D cI cJ cZ ad S [.ref q] (xT1 cI cJ cZ h0 ad S tx q) (fun r S9 => r = r1 ∧ S9 = S1) := by
  intro sz
  refine Met.ofW (cc := cX12_takes) (maxL := 3) (ret := (some .boolean)) (by decide) rfl ?_
  intro p e s m args below meth c s₁ B hml hv
  obtain ⟨rfl, ⟨hsz, hP, hK, hD0, hR⟩, ⟨hA1, hT⟩, hO⟩ := hv
  have hx := B.exec
  have hb := B.bytes
  have hr := B.returns
  have hts := atoms_spec (ws := (Cond.code yX12_takes cX12_takes 3 (some .boolean) :: wsM)) B.pre
  have hown : s.vm.findClass RX12 = some m.cls := findClass_of_methodNamed B.named
  have hlocks := B.notSynchronized
  subst hsz
  have hD := hD0.self (sz := s.heap.size)
  generalize hAe : va_A (MW cI cJ cZ ad S) s.heap.size = A at hD hA1 ⊢
  have hA : ∀ q : Nat, s.heap.size ≤ q → A q := fun q h => by rw [← hAe]; exact Or.inr h
  have G : mG D cI cJ cZ ad A s.heap s.heap [] S := ⟨hP, hD, va_S.rf⟩
  have E : mE p c cX12_takes s m ([.ref (ad 0), .ref q] : List Value).toArray (Cond.code yX12_takes cX12_takes 3 (some .boolean) :: wsM) D cI cJ cZ := ⟨hx, hb, hts, hown, hK, fun w h => .tail _ (iM_x h)⟩
  have hA0 : ∀ a : Nat, A a → h0 ≤ a := hA1
  have hl := lv_entry ([.ref (ad 0), .ref q]) (n := 3) (Nat.le_of_ble_eq_true rfl)
  rw [lg_entry_eq]
  generalize (lg_sl ([.ref (ad 0), .ref q]) ++ List.replicate (3 - (lg_sl ([.ref (ad 0), .ref q])).length) Slot.unset).toArray = ls at hl ⊢
  have hl : lv_has ls 3 [(0, .ref (ad 0)), (1, .ref q)] := hl
  unfold fr_takes at h
  refine lv_aload_n hx hb dX12_takes_0 rfl (lv_at hl 0 rfl) ?_
  refine lv_aload_n hx hb dX12_takes_1 rfl (lv_at hl 1 rfl) ?_
  obtain ⟨r5, S2, eS2, h⟩ := obind2_some h
  refine m_calliX (As := [.ref q]) (rest := []) E G hA hR hml (tr_isWord l D cI cJ cZ ad S h0 (q := q) hC eS2) (cwV 1 hts (gmV qM_108 qM_109 qM_110 qM_35 qM_57) rfl rfl rfl (by decide +kernel) ⟨Nat.le_of_ble_eq_true rfl, Nat.le_of_ble_eq_true rfl⟩) rfl hl.1 rfl (lv_room (Nat.le_of_ble_eq_true rfl)) dX12_takes_2 ⟨Nat.zero_le _, Nat.zero_le _⟩ (xT1.blind) (xT1.go hT hA0 hA G hO) (fun q3 S4 H locs hq G => ?_)
  obtain ⟨hq1, hq2⟩ := hq
  rw [hq2] at G
  refine lv_to hq1 ?_
  clear hq1 hq2 eS2
  refine lv_istore_n (lv' := [(2, .int r5), (0, .ref (ad 0)), (1, .ref q)]) hx hb dX12_takes_5 rfl hl (by decide) rfl (fun ls hl => ?_)
  refine lv_iload_n hx hb dX12_takes_6 rfl (lv_at hl 0 rfl) ?_
  refine lv_if_eq (tgt := 14) hx hb dX12_takes_7 (by decide) (fun c6 => ?_) (fun c6 => ?_)
  · have h := oif_pos c6 h
    have hl := lv_sub hl [0] rfl
    exact tr_takes_b14 E hA hR hml hA0 hT hO hC (fun H locs ls gz G => W.zret (v := r1) hx hb hr (nar01 gz) (fun t ht hW => ⟨⟨r1, S1, rfl, ⟨rfl, rfl⟩, ⟨by rw [ht]; exact G.1, va_K.moved hW.alike hK, G.2.1⟩⟩, G.2.2.F ht⟩) G.2.2.2.2 dX12_takes_15) _ _ _ _ _ h G hl
  · have h := oif_neg c6 h
    refine lv_aload_n hx hb dX12_takes_10 rfl (lv_at hl 1 rfl) ?_
    obtain ⟨S7, eS7, h⟩ := obind_some h
    refine m_callv (As := []) (rest := []) E G hA hR hml (tr_nextToken l D cI cJ cZ ad S2 eS7) (cwV 0 hts (gmV qM_111 qM_112 qM_113 qM_35 qM_45) rfl rfl rfl (by decide +kernel) ⟨Nat.le_of_ble_eq_true rfl, Nat.le_of_ble_eq_true rfl⟩) rfl hl.1 rfl (lv_room (Nat.le_of_ble_eq_true rfl)) dX12_takes_11 ⟨Nat.zero_le _, Nat.zero_le _⟩ (fun S9 H locs hq G => ?_)
    rw [hq] at G
    clear hq eS7
    have hl := lv_sub hl [0] rfl
    exact tr_takes_b14 E hA hR hml hA0 hT hO hC (fun H locs ls gz G => W.zret (v := r1) hx hb hr (nar01 gz) (fun t ht hW => ⟨⟨r1, S1, rfl, ⟨rfl, rfl⟩, ⟨by rw [ht]; exact G.1, va_K.moved hW.alike hK, G.2.1⟩⟩, G.2.2.F ht⟩) G.2.2.2.2 dX12_takes_15) _ _ _ _ _ h G hl
def fr_keyword_b13 (tx : Nat × (Nat → Int32))  (S : MS)  : Option (MS) := some S
set_option maxHeartbeats 4000000 in
set_option maxRecDepth 100000 in
theorem tr_keyword_b13 {p : Program} {l : Launch} {e : Env} {s : State} {m : MethodId} {args : Array Value} {below : List Frame} {meth : Method} {c : Code} {Q : State → Prop} {D : va_G} {A : Nat → Prop} {cI cJ cZ : ClassId} {ad : Nat → Nat} {q : Nat} {tx : Nat × (Nat → Int32)} {S1 : MS} (E : mE p c cX12_keyword s m args (Cond.code yX12_keyword cX12_keyword 2 none :: wsM) D cI cJ cZ) (hA : ∀ q : Nat, s.heap.size ≤ q → A q) (hR : sR s) (hml : c.maxLocals = 2) {h0 : Nat} (hA0 : ∀ a : Nat, A a → h0 ≤ a) (hT : sAll h0 s) (hO : sO tx q (fun a => h0 ≤ a) s s.heap) (hC : sT tx) (kr13 : ∀ (H : Heap) (locs : List Loc) (ls : Array Slot), mG D cI cJ cZ ad A s.heap H locs S1 → W p l e { frames := 7, cells := 0, slots := 0, locals := 131 } s m args below meth c H locs 0 0 Q (F0 m 13 ls [])) : ∀ (S : MS) (H : Heap) (locs : List Loc) (ls : Array Slot), fr_keyword_b13 tx S = some S1 → mG D cI cJ cZ ad A s.heap H locs S → lv_has ls 2 [] → W p l e { frames := 7, cells := 0, slots := 0, locals := 131 } s m args below meth c H locs 0 0 Q (F0 m 13 ls []) := by
  have hx := E.1
  have hb := E.2.1
  have hts := E.2.2.1
  have hown := E.2.2.2.1
  have hK := E.2.2.2.2.1
  intro S H locs ls h G hl
  unfold fr_keyword_b13 at h
  rw [osome1 h] at G
  exact kr13 _ _ _ G
def fr_keyword (S : MS) (tx : Nat × (Nat → Int32))  : Option (MS) := obind2 (fr_takes S tx) fun r5 S2 => if r5 = 0 then (obind (fr_faults S2 1) fun S7 => fr_keyword_b13 tx S7) else (fr_keyword_b13 tx S2)
set_option maxHeartbeats 4000000 in
set_option maxRecDepth 100000 in
theorem tr_keyword (l : Launch) (D : va_G) (cI cJ cZ : ClassId) (ad : Nat → Nat) (S : MS) (h0 : Nat) {q : Nat} {tx : Nat × (Nat → Int32)} (hC : sT tx)  {S1 : MS} (h : fr_keyword S tx = some S1) : mCvX l yX12_keyword (Cond.code yX12_keyword cX12_keyword 2 none :: wsM) 7 131 D cI cJ cZ ad S [.ref q] (xT1 cI cJ cZ h0 ad S tx q) (fun S9 => S9 = S1) := by
  intro sz
  refine Met.ofW (cc := cX12_keyword) (maxL := 2) (ret := none) (by decide) rfl ?_
  intro p e s m args below meth c s₁ B hml hv
  obtain ⟨rfl, ⟨hsz, hP, hK, hD0, hR⟩, ⟨hA1, hT⟩, hO⟩ := hv
  have hx := B.exec
  have hb := B.bytes
  have hr := B.returns
  have hts := atoms_spec (ws := (Cond.code yX12_keyword cX12_keyword 2 none :: wsM)) B.pre
  have hown : s.vm.findClass RX12 = some m.cls := findClass_of_methodNamed B.named
  have hlocks := B.notSynchronized
  subst hsz
  have hD := hD0.self (sz := s.heap.size)
  generalize hAe : va_A (MW cI cJ cZ ad S) s.heap.size = A at hD hA1 ⊢
  have hA : ∀ q : Nat, s.heap.size ≤ q → A q := fun q h => by rw [← hAe]; exact Or.inr h
  have G : mG D cI cJ cZ ad A s.heap s.heap [] S := ⟨hP, hD, va_S.rf⟩
  have E : mE p c cX12_keyword s m ([.ref (ad 0), .ref q] : List Value).toArray (Cond.code yX12_keyword cX12_keyword 2 none :: wsM) D cI cJ cZ := ⟨hx, hb, hts, hown, hK, fun w h => .tail _ (iM_x h)⟩
  have hA0 : ∀ a : Nat, A a → h0 ≤ a := hA1
  have hl := lv_entry ([.ref (ad 0), .ref q]) (n := 2) (Nat.le_of_ble_eq_true rfl)
  rw [lg_entry_eq]
  generalize (lg_sl ([.ref (ad 0), .ref q]) ++ List.replicate (2 - (lg_sl ([.ref (ad 0), .ref q])).length) Slot.unset).toArray = ls at hl ⊢
  have hl : lv_has ls 2 [(0, .ref (ad 0)), (1, .ref q)] := hl
  unfold fr_keyword at h
  refine lv_aload_n hx hb dX12_keyword_0 rfl (lv_at hl 0 rfl) ?_
  refine lv_aload_n hx hb dX12_keyword_1 rfl (lv_at hl 1 rfl) ?_
  obtain ⟨r5, S2, eS2, h⟩ := obind2_some h
  refine m_calliX (As := [.ref q]) (rest := []) E G hA hR hml (tr_takes l D cI cJ cZ ad S h0 (q := q) hC eS2) (cwV 1 hts (gmV qM_115 qM_116 qM_117 qM_35 qM_107) rfl rfl rfl (by decide +kernel) ⟨Nat.le_of_ble_eq_true rfl, Nat.le_of_ble_eq_true rfl⟩) rfl hl.1 rfl (lv_room (Nat.le_of_ble_eq_true rfl)) dX12_keyword_2 ⟨Nat.zero_le _, Nat.zero_le _⟩ (xT1.blind) (xT1.go hT hA0 hA G hO) (fun q3 S4 H locs hq G => ?_)
  obtain ⟨hq1, hq2⟩ := hq
  rw [hq2] at G
  refine lv_to hq1 ?_
  clear hq1 hq2 eS2
  refine lv_if_ne (tgt := 13) hx hb dX12_keyword_5 (by decide) (fun c6 => ?_) (fun c6 => ?_)
  · have h := oif_neg c6 h
    have hl := lv_sub hl [] rfl
    exact tr_keyword_b13 E hA hR hml hA0 hT hO hC (fun H locs ls G => W.vret hx hb hr (fun t ht hW => ⟨⟨S1, rfl, rfl, ⟨by rw [ht]; exact G.1, va_K.moved hW.alike hK, G.2.1⟩⟩, G.2.2.F ht⟩) G.2.2.2.2 dX12_keyword_13) _ _ _ _ h G hl
  · have h := oif_pos c6 h
    refine lv_aload_n hx hb dX12_keyword_8 rfl (lv_at hl 0 rfl) ?_
    refine lv_iconst (v := 1) hx hb dX12_keyword_9 (by decide) ?_
    obtain ⟨S7, eS7, h⟩ := obind_some h
    refine m_callv (As := [.int 1]) (rest := []) E G hA hR hml (tr_faults l D cI cJ cZ ad S2 1 eS7) (cwV 1 hts (gmV qM_118 qM_119 qM_120 qM_35 qM_42) rfl rfl rfl (by decide +kernel) ⟨Nat.le_of_ble_eq_true rfl, Nat.le_of_ble_eq_true rfl⟩) rfl hl.1 rfl (lv_room (Nat.le_of_ble_eq_true rfl)) dX12_keyword_10 ⟨Nat.zero_le _, Nat.zero_le _⟩ (fun S9 H locs hq G => ?_)
    rw [hq] at G
    clear hq eS7
    have hl := lv_sub hl [] rfl
    exact tr_keyword_b13 E hA hR hml hA0 hT hO hC (fun H locs ls G => W.vret hx hb hr (fun t ht hW => ⟨⟨S1, rfl, rfl, ⟨by rw [ht]; exact G.1, va_K.moved hW.alike hK, G.2.1⟩⟩, G.2.2.F ht⟩) G.2.2.2.2 dX12_keyword_13) _ _ _ _ h G hl
def fr_look_b57  (S : MS) (s0 : Int32) : Option (Int32 × MS) := some (s0, S)
set_option maxHeartbeats 4000000 in
set_option maxRecDepth 100000 in
theorem tr_look_b57 {p : Program} {l : Launch} {e : Env} {s : State} {m : MethodId} {args : Array Value} {below : List Frame} {meth : Method} {c : Code} {Q : State → Prop} {D : va_G} {A : Nat → Prop} {H0 : Heap} {cI cJ cZ : ClassId} {ad : Nat → Nat} {r1 : Int32} {S1 : MS} (E : mE p c cX12_look s m args (Cond.code yX12_look cX12_look 3 (some .int) :: wsM) D cI cJ cZ) (hA : ∀ q : Nat, H0.size ≤ q → A q) (hR : sR s) (hml : c.maxLocals = 3) (kr8 : ∀ (H : Heap) (locs : List Loc) (ls : Array Slot), mG D cI cJ cZ ad A H0 H locs S1 → W p l e { frames := 2, cells := 0, slots := 0, locals := 22 } s m args below meth c H locs 0 0 Q (F0 m 8 ls [.int r1])) (kr57 : ∀ (H : Heap) (locs : List Loc) (ls : Array Slot), mG D cI cJ cZ ad A H0 H locs S1 → W p l e { frames := 2, cells := 0, slots := 0, locals := 22 } s m args below meth c H locs 0 0 Q (F0 m 57 ls [.int r1])) : ∀ (S : MS) (H : Heap) (locs : List Loc) (ls : Array Slot) (s0 : Int32), fr_look_b57 S s0 = some (r1, S1) → mG D cI cJ cZ ad A H0 H locs S → lv_has ls 3 [] → W p l e { frames := 2, cells := 0, slots := 0, locals := 22 } s m args below meth c H locs 0 0 Q (F0 m 57 ls [.int s0]) := by
  have hx := E.1
  have hb := E.2.1
  have hts := E.2.2.1
  have hown := E.2.2.2.1
  have hK := E.2.2.2.2.1
  intro S H locs ls s0 h G hl
  unfold fr_look_b57 at h
  rw [(osome2 h).2] at G
  refine lv_to (osome2 h).1 ?_
  exact kr57 _ _ _ G
def fr_look_b42  (S : MS) (l1 : Int32) : Option (Int32 × MS) := elet (S.1 5) fun v2 => if v2 ≤ 0 then (elet (S.1 9) fun v4 => fr_look_b57 S v4) else (fr_look_b57 S l1)
set_option maxHeartbeats 4000000 in
set_option maxRecDepth 100000 in
theorem tr_look_b42 {p : Program} {l : Launch} {e : Env} {s : State} {m : MethodId} {args : Array Value} {below : List Frame} {meth : Method} {c : Code} {Q : State → Prop} {D : va_G} {A : Nat → Prop} {H0 : Heap} {cI cJ cZ : ClassId} {ad : Nat → Nat} {r1 : Int32} {S1 : MS} (E : mE p c cX12_look s m args (Cond.code yX12_look cX12_look 3 (some .int) :: wsM) D cI cJ cZ) (hA : ∀ q : Nat, H0.size ≤ q → A q) (hR : sR s) (hml : c.maxLocals = 3) (kr8 : ∀ (H : Heap) (locs : List Loc) (ls : Array Slot), mG D cI cJ cZ ad A H0 H locs S1 → W p l e { frames := 2, cells := 0, slots := 0, locals := 22 } s m args below meth c H locs 0 0 Q (F0 m 8 ls [.int r1])) (kr57 : ∀ (H : Heap) (locs : List Loc) (ls : Array Slot), mG D cI cJ cZ ad A H0 H locs S1 → W p l e { frames := 2, cells := 0, slots := 0, locals := 22 } s m args below meth c H locs 0 0 Q (F0 m 57 ls [.int r1])) : ∀ (S : MS) (H : Heap) (locs : List Loc) (ls : Array Slot) (l1 : Int32), fr_look_b42 S l1 = some (r1, S1) → mG D cI cJ cZ ad A H0 H locs S → lv_has ls 3 [(0, .ref (ad 0)), (1, .int l1)] → W p l e { frames := 2, cells := 0, slots := 0, locals := 22 } s m args below meth c H locs 0 0 Q (F0 m 42 ls []) := by
  have hx := E.1
  have hb := E.2.1
  have hts := E.2.2.1
  have hown := E.2.2.2.1
  have hK := E.2.2.2.2.1
  intro S H locs ls l1 h G hl
  unfold fr_look_b42 at h
  refine lv_aload_n hx hb dX12_look_42 rfl (lv_at hl 0 rfl) ?_
  refine m_get E G 5 (v := .int (S.1 5)) (by decide) (.tail _ qM_38) rfl dX12_look_43 rfl ?_
  refine lv_topi (fun v2 ev2 => ?_)
  have h := elet_at ev2 h
  clear ev2
  refine lv_if_le (tgt := 53) hx hb dX12_look_46 (by decide) (fun c3 => ?_) (fun c3 => ?_)
  · have h := oif_pos c3 h
    refine lv_aload_n hx hb dX12_look_53 rfl (lv_at hl 0 rfl) ?_
    refine m_get E G 9 (v := .int (S.1 9)) (by decide) (.tail _ qM_48) rfl dX12_look_54 rfl ?_
    refine lv_topi (fun v4 ev4 => ?_)
    have h := elet_at ev4 h
    clear ev4
    have hl := lv_sub hl [] rfl
    exact tr_look_b57 E hA hR hml kr8 kr57 _ _ _ _ _ h G hl
  · have h := oif_neg c3 h
    refine lv_iload_n hx hb dX12_look_49 rfl (lv_at hl 1 rfl) ?_
    refine lv_goto (tgt := 57) hx hb dX12_look_50 (by decide) ?_
    have hl := lv_sub hl [] rfl
    exact tr_look_b57 E hA hR hml kr8 kr57 _ _ _ _ _ h G hl
def fr_look (S : MS) (a0 : Int32) (a1 : Int32) : Option (Int32 × MS) := elet (S.1 5) fun v2 => if v2 ≤ 0 then (elet (S.1 7) fun v4 => if v4 = 3 then (elet (S.1 9) fun v6 => obind (fr_in v6 a0 a1) fun r7 => if r7 = 0 then (obind (fr_faults S 2) fun S10 => fr_look_b42 S10 a0) else (fr_look_b42 S a0)) else (obind (fr_faults S 1) fun S13 => fr_look_b42 S13 a0)) else (some (a0, S))
set_option maxHeartbeats 4000000 in
set_option maxRecDepth 100000 in
theorem tr_look (l : Launch) (D : va_G) (cI cJ cZ : ClassId) (ad : Nat → Nat) (S : MS) (a0 : Int32) (a1 : Int32) {r1 : Int32} {S1 : MS} (h : fr_look S a0 a1 = some (r1, S1)) : mCi l yX12_look (Cond.code yX12_look cX12_look 3 (some .int) :: wsM) 2 22 D cI cJ cZ ad S [.int a0, .int a1] (fun r S9 => r = r1 ∧ S9 = S1) := by
  intro sz
  refine Met.ofW (cc := cX12_look) (maxL := 3) (ret := (some .int)) (by decide) rfl ?_
  intro p e s m args below meth c s₁ B hml hv
  obtain ⟨rfl, hsz, hP, hK, hD0, hR⟩ := hv
  have hx := B.exec
  have hb := B.bytes
  have hr := B.returns
  have hts := atoms_spec (ws := (Cond.code yX12_look cX12_look 3 (some .int) :: wsM)) B.pre
  have hown : s.vm.findClass RX12 = some m.cls := findClass_of_methodNamed B.named
  have hlocks := B.notSynchronized
  subst hsz
  have hD := hD0.self (sz := s.heap.size)
  generalize hAe : va_A (MW cI cJ cZ ad S) s.heap.size = A at hD ⊢
  have hA : ∀ q : Nat, s.heap.size ≤ q → A q := fun q h => by rw [← hAe]; exact Or.inr h
  have G : mG D cI cJ cZ ad A s.heap s.heap [] S := ⟨hP, hD, va_S.rf⟩
  have E : mE p c cX12_look s m ([.ref (ad 0), .int a0, .int a1] : List Value).toArray (Cond.code yX12_look cX12_look 3 (some .int) :: wsM) D cI cJ cZ := ⟨hx, hb, hts, hown, hK, fun w h => .tail _ (iM_x h)⟩
  have hl := lv_entry ([.ref (ad 0), .int a0, .int a1]) (n := 3) (Nat.le_of_ble_eq_true rfl)
  rw [lg_entry_eq]
  generalize (lg_sl ([.ref (ad 0), .int a0, .int a1]) ++ List.replicate (3 - (lg_sl ([.ref (ad 0), .int a0, .int a1])).length) Slot.unset).toArray = ls at hl ⊢
  have hl : lv_has ls 3 [(0, .ref (ad 0)), (1, .int a0), (2, .int a1)] := hl
  unfold fr_look at h
  refine lv_aload_n hx hb dX12_look_0 rfl (lv_at hl 0 rfl) ?_
  refine m_get E G 5 (v := .int (S.1 5)) (by decide) (.tail _ qM_38) rfl dX12_look_1 rfl ?_
  refine lv_topi (fun v2 ev2 => ?_)
  have h := elet_at ev2 h
  clear ev2
  refine lv_if_le (tgt := 9) hx hb dX12_look_4 (by decide) (fun c3 => ?_) (fun c3 => ?_)
  · have h := oif_pos c3 h
    refine lv_aload_n hx hb dX12_look_9 rfl (lv_at hl 0 rfl) ?_
    refine m_get E G 7 (v := .int (S.1 7)) (by decide) (.tail _ qM_47) rfl dX12_look_10 rfl ?_
    refine lv_topi (fun v4 ev4 => ?_)
    have h := elet_at ev4 h
    clear ev4
    refine lv_iconst (v := 3) hx hb dX12_look_13 (by decide) ?_
    refine lv_icmp_eq (tgt := 25) hx hb dX12_look_14 (by decide) (fun c5 => ?_) (fun c5 => ?_)
    · have h := oif_pos c5 h
      refine lv_aload_n hx hb dX12_look_25 rfl (lv_at hl 0 rfl) ?_
      refine m_get E G 9 (v := .int (S.1 9)) (by decide) (.tail _ qM_48) rfl dX12_look_26 rfl ?_
      refine lv_topi (fun v6 ev6 => ?_)
      have h := elet_at ev6 h
      clear ev6
      refine lv_iload_n hx hb dX12_look_29 rfl (lv_at hl 1 rfl) ?_
      refine lv_iload_n hx hb dX12_look_30 rfl (lv_at hl 2 rfl) ?_
      obtain ⟨r7, er7, h⟩ := obind_some h
      refine m_stat (As := [.int v6, .int a0, .int a1]) (rest := []) ⟨hx, hb, hml, hown, hts⟩ (tr_in l v6 a0 a1 er7) (cwS 3 hts (gmS qM_52 qM_53 qM_35 qM_27) rfl rfl rfl (by decide +kernel) ⟨Nat.le_of_ble_eq_true rfl, Nat.le_of_ble_eq_true rfl⟩) rfl hl.1 rfl (lv_room (Nat.le_of_ble_eq_true rfl)) dX12_look_31 ⟨Nat.zero_le _, Nat.zero_le _⟩ (fun q8 hq => ?_)
      refine lv_to hq ?_
      clear hq er7
      refine lv_if_ne (tgt := 42) hx hb dX12_look_34 (by decide) (fun c9 => ?_) (fun c9 => ?_)
      · have h := oif_neg c9 h
        have hl := lv_sub hl [0, 1] rfl
        exact tr_look_b42 E hA hR hml (fun H locs ls G => W.iret (v := r1) hx hb hr (fun t ht hW => ⟨⟨r1, S1, rfl, ⟨rfl, rfl⟩, ⟨by rw [ht]; exact G.1, va_K.moved hW.alike hK, G.2.1⟩⟩, G.2.2.F ht⟩) G.2.2.2.2 dX12_look_8) (fun H locs ls G => W.iret (v := r1) hx hb hr (fun t ht hW => ⟨⟨r1, S1, rfl, ⟨rfl, rfl⟩, ⟨by rw [ht]; exact G.1, va_K.moved hW.alike hK, G.2.1⟩⟩, G.2.2.F ht⟩) G.2.2.2.2 dX12_look_57) _ _ _ _ _ h G hl
      · have h := oif_pos c9 h
        refine lv_aload_n hx hb dX12_look_37 rfl (lv_at hl 0 rfl) ?_
        refine lv_iconst (v := 2) hx hb dX12_look_38 (by decide) ?_
        obtain ⟨S10, eS10, h⟩ := obind_some h
        refine m_callv (As := [.int 2]) (rest := []) E G hA hR hml (tr_faults l D cI cJ cZ ad S 2 eS10) (cwV 1 hts (gmV qM_118 qM_119 qM_120 qM_35 qM_42) rfl rfl rfl (by decide +kernel) ⟨Nat.le_of_ble_eq_true rfl, Nat.le_of_ble_eq_true rfl⟩) rfl hl.1 rfl (lv_room (Nat.le_of_ble_eq_true rfl)) dX12_look_39 ⟨Nat.zero_le _, Nat.zero_le _⟩ (fun S12 H locs hq G => ?_)
        rw [hq] at G
        clear hq eS10
        have hl := lv_sub hl [0, 1] rfl
        exact tr_look_b42 E hA hR hml (fun H locs ls G => W.iret (v := r1) hx hb hr (fun t ht hW => ⟨⟨r1, S1, rfl, ⟨rfl, rfl⟩, ⟨by rw [ht]; exact G.1, va_K.moved hW.alike hK, G.2.1⟩⟩, G.2.2.F ht⟩) G.2.2.2.2 dX12_look_8) (fun H locs ls G => W.iret (v := r1) hx hb hr (fun t ht hW => ⟨⟨r1, S1, rfl, ⟨rfl, rfl⟩, ⟨by rw [ht]; exact G.1, va_K.moved hW.alike hK, G.2.1⟩⟩, G.2.2.F ht⟩) G.2.2.2.2 dX12_look_57) _ _ _ _ _ h G hl
    · have h := oif_neg c5 h
      refine lv_aload_n hx hb dX12_look_17 rfl (lv_at hl 0 rfl) ?_
      refine lv_iconst (v := 1) hx hb dX12_look_18 (by decide) ?_
      obtain ⟨S13, eS13, h⟩ := obind_some h
      refine m_callv (As := [.int 1]) (rest := []) E G hA hR hml (tr_faults l D cI cJ cZ ad S 1 eS13) (cwV 1 hts (gmV qM_118 qM_119 qM_120 qM_35 qM_42) rfl rfl rfl (by decide +kernel) ⟨Nat.le_of_ble_eq_true rfl, Nat.le_of_ble_eq_true rfl⟩) rfl hl.1 rfl (lv_room (Nat.le_of_ble_eq_true rfl)) dX12_look_19 ⟨Nat.zero_le _, Nat.zero_le _⟩ (fun S15 H locs hq G => ?_)
      rw [hq] at G
      clear hq eS13
      refine lv_goto (tgt := 42) hx hb dX12_look_22 (by decide) ?_
      have hl := lv_sub hl [0, 1] rfl
      exact tr_look_b42 E hA hR hml (fun H locs ls G => W.iret (v := r1) hx hb hr (fun t ht hW => ⟨⟨r1, S1, rfl, ⟨rfl, rfl⟩, ⟨by rw [ht]; exact G.1, va_K.moved hW.alike hK, G.2.1⟩⟩, G.2.2.F ht⟩) G.2.2.2.2 dX12_look_8) (fun H locs ls G => W.iret (v := r1) hx hb hr (fun t ht hW => ⟨⟨r1, S1, rfl, ⟨rfl, rfl⟩, ⟨by rw [ht]; exact G.1, va_K.moved hW.alike hK, G.2.1⟩⟩, G.2.2.F ht⟩) G.2.2.2.2 dX12_look_57) _ _ _ _ _ h G hl
  · have h := oif_neg c3 h
    refine lv_iload_n hx hb dX12_look_7 rfl (lv_at hl 1 rfl) ?_
    exact W.iret (v := a0) hx hb hr (fun t ht hW => ⟨⟨a0, S, rfl, osome2 h, ⟨by rw [ht]; exact G.1, va_K.moved hW.alike hK, G.2.1⟩⟩, G.2.2.F ht⟩) G.2.2.2.2 dX12_look_8
def fr_number (S : MS) (a0 : Int32) (a1 : Int32) : Option (Int32 × MS) := obind2 (fr_look S a0 a1) fun r5 S2 => obind (fr_nextToken S2) fun S6 => some (r5, S6)
set_option maxHeartbeats 4000000 in
set_option maxRecDepth 100000 in
theorem tr_number (l : Launch) (D : va_G) (cI cJ cZ : ClassId) (ad : Nat → Nat) (S : MS) (a0 : Int32) (a1 : Int32) {r1 : Int32} {S1 : MS} (h : fr_number S a0 a1 = some (r1, S1)) : mCi l yX12_number (Cond.code yX12_number cX12_number 4 (some .int) :: wsM) 3 44 D cI cJ cZ ad S [.int a0, .int a1] (fun r S9 => r = r1 ∧ S9 = S1) := by
  intro sz
  refine Met.ofW (cc := cX12_number) (maxL := 4) (ret := (some .int)) (by decide) rfl ?_
  intro p e s m args below meth c s₁ B hml hv
  obtain ⟨rfl, hsz, hP, hK, hD0, hR⟩ := hv
  have hx := B.exec
  have hb := B.bytes
  have hr := B.returns
  have hts := atoms_spec (ws := (Cond.code yX12_number cX12_number 4 (some .int) :: wsM)) B.pre
  have hown : s.vm.findClass RX12 = some m.cls := findClass_of_methodNamed B.named
  have hlocks := B.notSynchronized
  subst hsz
  have hD := hD0.self (sz := s.heap.size)
  generalize hAe : va_A (MW cI cJ cZ ad S) s.heap.size = A at hD ⊢
  have hA : ∀ q : Nat, s.heap.size ≤ q → A q := fun q h => by rw [← hAe]; exact Or.inr h
  have G : mG D cI cJ cZ ad A s.heap s.heap [] S := ⟨hP, hD, va_S.rf⟩
  have E : mE p c cX12_number s m ([.ref (ad 0), .int a0, .int a1] : List Value).toArray (Cond.code yX12_number cX12_number 4 (some .int) :: wsM) D cI cJ cZ := ⟨hx, hb, hts, hown, hK, fun w h => .tail _ (iM_x h)⟩
  have hl := lv_entry ([.ref (ad 0), .int a0, .int a1]) (n := 4) (Nat.le_of_ble_eq_true rfl)
  rw [lg_entry_eq]
  generalize (lg_sl ([.ref (ad 0), .int a0, .int a1]) ++ List.replicate (4 - (lg_sl ([.ref (ad 0), .int a0, .int a1])).length) Slot.unset).toArray = ls at hl ⊢
  have hl : lv_has ls 4 [(0, .ref (ad 0)), (1, .int a0), (2, .int a1)] := hl
  unfold fr_number at h
  refine lv_aload_n hx hb dX12_number_0 rfl (lv_at hl 0 rfl) ?_
  refine lv_iload_n hx hb dX12_number_1 rfl (lv_at hl 1 rfl) ?_
  refine lv_iload_n hx hb dX12_number_2 rfl (lv_at hl 2 rfl) ?_
  obtain ⟨r5, S2, eS2, h⟩ := obind2_some h
  refine m_calli (As := [.int a0, .int a1]) (rest := []) E G hA hR hml (tr_look l D cI cJ cZ ad S a0 a1 eS2) (cwV 2 hts (gmV qM_123 qM_124 qM_125 qM_35 qM_121) rfl rfl rfl (by decide +kernel) ⟨Nat.le_of_ble_eq_true rfl, Nat.le_of_ble_eq_true rfl⟩) rfl hl.1 rfl (lv_room (Nat.le_of_ble_eq_true rfl)) dX12_number_3 ⟨Nat.zero_le _, Nat.zero_le _⟩ (fun q3 S4 H locs hq G => ?_)
  obtain ⟨hq1, hq2⟩ := hq
  rw [hq2] at G
  refine lv_to hq1 ?_
  clear hq1 hq2 eS2
  refine lv_istore_n (lv' := [(3, .int r5), (0, .ref (ad 0)), (1, .int a0), (2, .int a1)]) hx hb dX12_number_6 rfl hl (by decide) rfl (fun ls hl => ?_)
  refine lv_aload_n hx hb dX12_number_7 rfl (lv_at hl 1 rfl) ?_
  obtain ⟨S6, eS6, h⟩ := obind_some h
  refine m_callv (As := []) (rest := []) E G hA hR hml (tr_nextToken l D cI cJ cZ ad S2 eS6) (cwV 0 hts (gmV qM_111 qM_112 qM_113 qM_35 qM_45) rfl rfl rfl (by decide +kernel) ⟨Nat.le_of_ble_eq_true rfl, Nat.le_of_ble_eq_true rfl⟩) rfl hl.1 rfl (lv_room (Nat.le_of_ble_eq_true rfl)) dX12_number_8 ⟨Nat.zero_le _, Nat.zero_le _⟩ (fun S8 H locs hq G => ?_)
  rw [hq] at G
  clear hq eS6
  refine lv_iload_n hx hb dX12_number_11 rfl (lv_at hl 0 rfl) ?_
  exact W.iret (v := r5) hx hb hr (fun t ht hW => ⟨⟨r5, S6, rfl, osome2 h, ⟨by rw [ht]; exact G.1, va_K.moved hW.alike hK, G.2.1⟩⟩, G.2.2.F ht⟩) G.2.2.2.2 dX12_number_12
def fr_gauge (S : MS) (tx : Nat × (Nat → Int32)) (a1 : Int32) (a2 : Int32) : Option (Int32 × MS) := obind (fr_keyword S tx) fun S2 => obind2 (fr_number S2 a1 a2) fun r8 S5 => some (r8, S5)
set_option maxHeartbeats 4000000 in
set_option maxRecDepth 100000 in
theorem tr_gauge (l : Launch) (D : va_G) (cI cJ cZ : ClassId) (ad : Nat → Nat) (S : MS) (h0 : Nat) {q : Nat} {tx : Nat × (Nat → Int32)} (hC : sT tx) (a1 : Int32) (a2 : Int32) {r1 : Int32} {S1 : MS} (h : fr_gauge S tx a1 a2 = some (r1, S1)) : mCiX l yX12_gauge (Cond.code yX12_gauge cX12_gauge 4 (some .int) :: wsM) 8 152 D cI cJ cZ ad S [.ref q, .int a1, .int a2] (xT1 cI cJ cZ h0 ad S tx q) (fun r S9 => r = r1 ∧ S9 = S1) := by
  intro sz
  refine Met.ofW (cc := cX12_gauge) (maxL := 4) (ret := (some .int)) (by decide) rfl ?_
  intro p e s m args below meth c s₁ B hml hv
  obtain ⟨rfl, ⟨hsz, hP, hK, hD0, hR⟩, ⟨hA1, hT⟩, hO⟩ := hv
  have hx := B.exec
  have hb := B.bytes
  have hr := B.returns
  have hts := atoms_spec (ws := (Cond.code yX12_gauge cX12_gauge 4 (some .int) :: wsM)) B.pre
  have hown : s.vm.findClass RX12 = some m.cls := findClass_of_methodNamed B.named
  have hlocks := B.notSynchronized
  subst hsz
  have hD := hD0.self (sz := s.heap.size)
  generalize hAe : va_A (MW cI cJ cZ ad S) s.heap.size = A at hD hA1 ⊢
  have hA : ∀ q : Nat, s.heap.size ≤ q → A q := fun q h => by rw [← hAe]; exact Or.inr h
  have G : mG D cI cJ cZ ad A s.heap s.heap [] S := ⟨hP, hD, va_S.rf⟩
  have E : mE p c cX12_gauge s m ([.ref (ad 0), .ref q, .int a1, .int a2] : List Value).toArray (Cond.code yX12_gauge cX12_gauge 4 (some .int) :: wsM) D cI cJ cZ := ⟨hx, hb, hts, hown, hK, fun w h => .tail _ (iM_x h)⟩
  have hA0 : ∀ a : Nat, A a → h0 ≤ a := hA1
  have hl := lv_entry ([.ref (ad 0), .ref q, .int a1, .int a2]) (n := 4) (Nat.le_of_ble_eq_true rfl)
  rw [lg_entry_eq]
  generalize (lg_sl ([.ref (ad 0), .ref q, .int a1, .int a2]) ++ List.replicate (4 - (lg_sl ([.ref (ad 0), .ref q, .int a1, .int a2])).length) Slot.unset).toArray = ls at hl ⊢
  have hl : lv_has ls 4 [(0, .ref (ad 0)), (1, .ref q), (2, .int a1), (3, .int a2)] := hl
  unfold fr_gauge at h
  refine lv_aload_n hx hb dX12_gauge_0 rfl (lv_at hl 0 rfl) ?_
  refine lv_aload_n hx hb dX12_gauge_1 rfl (lv_at hl 1 rfl) ?_
  obtain ⟨S2, eS2, h⟩ := obind_some h
  refine m_callvX (As := [.ref q]) (rest := []) E G hA hR hml (tr_keyword l D cI cJ cZ ad S h0 (q := q) hC eS2) (cwV 1 hts (gmV qM_127 qM_128 qM_129 qM_35 qM_114) rfl rfl rfl (by decide +kernel) ⟨Nat.le_of_ble_eq_true rfl, Nat.le_of_ble_eq_true rfl⟩) rfl hl.1 rfl (lv_room (Nat.le_of_ble_eq_true rfl)) dX12_gauge_2 ⟨Nat.zero_le _, Nat.zero_le _⟩ (xT1.blind) (xT1.go hT hA0 hA G hO) (fun S4 H locs hq G => ?_)
  rw [hq] at G
  clear hq eS2
  refine lv_aload_n hx hb dX12_gauge_5 rfl (lv_at hl 0 rfl) ?_
  refine lv_iload_n hx hb dX12_gauge_6 rfl (lv_at hl 2 rfl) ?_
  refine lv_iload_n hx hb dX12_gauge_7 rfl (lv_at hl 3 rfl) ?_
  obtain ⟨r8, S5, eS5, h⟩ := obind2_some h
  refine m_calli (As := [.int a1, .int a2]) (rest := []) E G hA hR hml (tr_number l D cI cJ cZ ad S2 a1 a2 eS5) (cwV 2 hts (gmV qM_130 qM_131 qM_132 qM_35 qM_122) rfl rfl rfl (by decide +kernel) ⟨Nat.le_of_ble_eq_true rfl, Nat.le_of_ble_eq_true rfl⟩) rfl hl.1 rfl (lv_room (Nat.le_of_ble_eq_true rfl)) dX12_gauge_8 ⟨Nat.zero_le _, Nat.zero_le _⟩ (fun q6 S7 H locs hq G => ?_)
  obtain ⟨hq1, hq2⟩ := hq
  rw [hq2] at G
  refine lv_to hq1 ?_
  clear hq1 hq2 eS5
  exact W.iret (v := r8) hx hb hr (fun t ht hW => ⟨⟨r8, S5, rfl, osome2 h, ⟨by rw [ht]; exact G.1, va_K.moved hW.alike hK, G.2.1⟩⟩, G.2.2.F ht⟩) G.2.2.2.2 dX12_gauge_11
def fr_signed_b37  (S : MS) (s0 : Int32) : Option (Int32 × MS) := some (s0, S)
set_option maxHeartbeats 4000000 in
set_option maxRecDepth 100000 in
theorem tr_signed_b37 {p : Program} {l : Launch} {e : Env} {s : State} {m : MethodId} {args : Array Value} {below : List Frame} {meth : Method} {c : Code} {Q : State → Prop} {D : va_G} {A : Nat → Prop} {H0 : Heap} {cI cJ cZ : ClassId} {ad : Nat → Nat} {r1 : Int32} {S1 : MS} (E : mE p c cX12_signed s m args (Cond.code yX12_signed cX12_signed 4 (some .int) :: wsM) D cI cJ cZ) (hA : ∀ q : Nat, H0.size ≤ q → A q) (hR : sR s) (hml : c.maxLocals = 4) (kr37 : ∀ (H : Heap) (locs : List Loc) (ls : Array Slot), mG D cI cJ cZ ad A H0 H locs S1 → W p l e { frames := 4, cells := 0, slots := 0, locals := 67 } s m args below meth c H locs 0 0 Q (F0 m 37 ls [.int r1])) : ∀ (S : MS) (H : Heap) (locs : List Loc) (ls : Array Slot) (s0 : Int32), fr_signed_b37 S s0 = some (r1, S1) → mG D cI cJ cZ ad A H0 H locs S → lv_has ls 4 [] → W p l e { frames := 4, cells := 0, slots := 0, locals := 67 } s m args below meth c H locs 0 0 Q (F0 m 37 ls [.int s0]) := by
  have hx := E.1
  have hb := E.2.1
  have hts := E.2.2.1
  have hown := E.2.2.2.1
  have hK := E.2.2.2.2.1
  intro S H locs ls s0 h G hl
  unfold fr_signed_b37 at h
  rw [(osome2 h).2] at G
  refine lv_to (osome2 h).1 ?_
  exact kr37 _ _ _ G
def fr_signed_b15  (S : MS) (l1 : Int32) (l2 : Int32) (l3 : Int32) : Option (Int32 × MS) := if l3 = 0 then (obind2 (fr_number S l1 l2) fun r6 S3 => fr_signed_b37 S3 r6) else (elet (-l2) fun v7 => elet (-l1) fun v8 => obind2 (fr_number S v7 v8) fun r12 S9 => elet (-r12) fun v13 => fr_signed_b37 S9 v13)
set_option maxHeartbeats 4000000 in
set_option maxRecDepth 100000 in
theorem tr_signed_b15 {p : Program} {l : Launch} {e : Env} {s : State} {m : MethodId} {args : Array Value} {below : List Frame} {meth : Method} {c : Code} {Q : State → Prop} {D : va_G} {A : Nat → Prop} {H0 : Heap} {cI cJ cZ : ClassId} {ad : Nat → Nat} {r1 : Int32} {S1 : MS} (E : mE p c cX12_signed s m args (Cond.code yX12_signed cX12_signed 4 (some .int) :: wsM) D cI cJ cZ) (hA : ∀ q : Nat, H0.size ≤ q → A q) (hR : sR s) (hml : c.maxLocals = 4) (kr37 : ∀ (H : Heap) (locs : List Loc) (ls : Array Slot), mG D cI cJ cZ ad A H0 H locs S1 → W p l e { frames := 4, cells := 0, slots := 0, locals := 67 } s m args below meth c H locs 0 0 Q (F0 m 37 ls [.int r1])) : ∀ (S : MS) (H : Heap) (locs : List Loc) (ls : Array Slot) (l1 : Int32) (l2 : Int32) (l3 : Int32), fr_signed_b15 S l1 l2 l3 = some (r1, S1) → mG D cI cJ cZ ad A H0 H locs S → lv_has ls 4 [(0, .ref (ad 0)), (1, .int l1), (2, .int l2), (3, .int l3)] → W p l e { frames := 4, cells := 0, slots := 0, locals := 67 } s m args below meth c H locs 0 0 Q (F0 m 15 ls []) := by
  have hx := E.1
  have hb := E.2.1
  have hts := E.2.2.1
  have hown := E.2.2.2.1
  have hK := E.2.2.2.2.1
  intro S H locs ls l1 l2 l3 h G hl
  unfold fr_signed_b15 at h
  refine lv_iload_n hx hb dX12_signed_15 rfl (lv_at hl 3 rfl) ?_
  refine lv_if_eq (tgt := 31) hx hb dX12_signed_16 (by decide) (fun c2 => ?_) (fun c2 => ?_)
  · have h := oif_pos c2 h
    refine lv_aload_n hx hb dX12_signed_31 rfl (lv_at hl 0 rfl) ?_
    refine lv_iload_n hx hb dX12_signed_32 rfl (lv_at hl 1 rfl) ?_
    refine lv_iload_n hx hb dX12_signed_33 rfl (lv_at hl 2 rfl) ?_
    obtain ⟨r6, S3, eS3, h⟩ := obind2_some h
    refine m_calli (As := [.int l1, .int l2]) (rest := []) E G hA hR hml (tr_number l D cI cJ cZ ad S l1 l2 eS3) (cwV 2 hts (gmV qM_130 qM_131 qM_132 qM_35 qM_122) rfl rfl rfl (by decide +kernel) ⟨Nat.le_of_ble_eq_true rfl, Nat.le_of_ble_eq_true rfl⟩) rfl hl.1 rfl (lv_room (Nat.le_of_ble_eq_true rfl)) dX12_signed_34 ⟨Nat.zero_le _, Nat.zero_le _⟩ (fun q4 S5 H locs hq G => ?_)
    obtain ⟨hq1, hq2⟩ := hq
    rw [hq2] at G
    refine lv_to hq1 ?_
    clear hq1 hq2 eS3
    have hl := lv_sub hl [] rfl
    exact tr_signed_b37 E hA hR hml kr37 _ _ _ _ _ h G hl
  · have h := oif_neg c2 h
    refine lv_aload_n hx hb dX12_signed_19 rfl (lv_at hl 0 rfl) ?_
    refine lv_iload_n hx hb dX12_signed_20 rfl (lv_at hl 2 rfl) ?_
    refine lv_ineg hx hb dX12_signed_21 ?_
    refine lv_topi (fun v7 ev7 => ?_)
    have h := elet_at ev7 h
    clear ev7
    refine lv_iload_n hx hb dX12_signed_22 rfl (lv_at hl 1 rfl) ?_
    refine lv_ineg hx hb dX12_signed_23 ?_
    refine lv_topi (fun v8 ev8 => ?_)
    have h := elet_at ev8 h
    clear ev8
    obtain ⟨r12, S9, eS9, h⟩ := obind2_some h
    refine m_calli (As := [.int v7, .int v8]) (rest := []) E G hA hR hml (tr_number l D cI cJ cZ ad S v7 v8 eS9) (cwV 2 hts (gmV qM_130 qM_131 qM_132 qM_35 qM_122) rfl rfl rfl (by decide +kernel) ⟨Nat.le_of_ble_eq_true rfl, Nat.le_of_ble_eq_true rfl⟩) rfl hl.1 rfl (lv_room (Nat.le_of_ble_eq_true rfl)) dX12_signed_24 ⟨Nat.zero_le _, Nat.zero_le _⟩ (fun q10 S11 H locs hq G => ?_)
    obtain ⟨hq1, hq2⟩ := hq
    rw [hq2] at G
    refine lv_to hq1 ?_
    clear hq1 hq2 eS9
    refine lv_ineg hx hb dX12_signed_27 ?_
    refine lv_topi (fun v13 ev13 => ?_)
    have h := elet_at ev13 h
    clear ev13
    refine lv_goto (tgt := 37) hx hb dX12_signed_28 (by decide) ?_
    have hl := lv_sub hl [] rfl
    exact tr_signed_b37 E hA hR hml kr37 _ _ _ _ _ h G hl
def fr_signed (S : MS) (a0 : Int32) (a1 : Int32) : Option (Int32 × MS) := obind2 (fr_isSignHere S 45) fun r5 S2 => if r5 = 0 then (fr_signed_b15 S2 a0 a1 r5) else (obind (fr_nextToken S2) fun S7 => fr_signed_b15 S7 a0 a1 r5)
set_option maxHeartbeats 4000000 in
set_option maxRecDepth 100000 in
theorem tr_signed (l : Launch) (D : va_G) (cI cJ cZ : ClassId) (ad : Nat → Nat) (S : MS) (a0 : Int32) (a1 : Int32) {r1 : Int32} {S1 : MS} (h : fr_signed S a0 a1 = some (r1, S1)) : mCi l yX12_signed (Cond.code yX12_signed cX12_signed 4 (some .int) :: wsM) 4 67 D cI cJ cZ ad S [.int a0, .int a1] (fun r S9 => r = r1 ∧ S9 = S1) := by
  intro sz
  refine Met.ofW (cc := cX12_signed) (maxL := 4) (ret := (some .int)) (by decide) rfl ?_
  intro p e s m args below meth c s₁ B hml hv
  obtain ⟨rfl, hsz, hP, hK, hD0, hR⟩ := hv
  have hx := B.exec
  have hb := B.bytes
  have hr := B.returns
  have hts := atoms_spec (ws := (Cond.code yX12_signed cX12_signed 4 (some .int) :: wsM)) B.pre
  have hown : s.vm.findClass RX12 = some m.cls := findClass_of_methodNamed B.named
  have hlocks := B.notSynchronized
  subst hsz
  have hD := hD0.self (sz := s.heap.size)
  generalize hAe : va_A (MW cI cJ cZ ad S) s.heap.size = A at hD ⊢
  have hA : ∀ q : Nat, s.heap.size ≤ q → A q := fun q h => by rw [← hAe]; exact Or.inr h
  have G : mG D cI cJ cZ ad A s.heap s.heap [] S := ⟨hP, hD, va_S.rf⟩
  have E : mE p c cX12_signed s m ([.ref (ad 0), .int a0, .int a1] : List Value).toArray (Cond.code yX12_signed cX12_signed 4 (some .int) :: wsM) D cI cJ cZ := ⟨hx, hb, hts, hown, hK, fun w h => .tail _ (iM_x h)⟩
  have hl := lv_entry ([.ref (ad 0), .int a0, .int a1]) (n := 4) (Nat.le_of_ble_eq_true rfl)
  rw [lg_entry_eq]
  generalize (lg_sl ([.ref (ad 0), .int a0, .int a1]) ++ List.replicate (4 - (lg_sl ([.ref (ad 0), .int a0, .int a1])).length) Slot.unset).toArray = ls at hl ⊢
  have hl : lv_has ls 4 [(0, .ref (ad 0)), (1, .int a0), (2, .int a1)] := hl
  unfold fr_signed at h
  refine lv_aload_n hx hb dX12_signed_0 rfl (lv_at hl 0 rfl) ?_
  refine lv_bipush (v := 45) hx hb dX12_signed_1 (by decide) ?_
  obtain ⟨r5, S2, eS2, h⟩ := obind2_some h
  refine m_calli (As := [.int 45]) (rest := []) E G hA hR hml (tr_isSignHere l D cI cJ cZ ad S 45 eS2) (cwV 1 hts (gmV qM_134 qM_135 qM_136 qM_35 qM_56) rfl rfl rfl (by decide +kernel) ⟨Nat.le_of_ble_eq_true rfl, Nat.le_of_ble_eq_true rfl⟩) rfl hl.1 rfl (lv_room (Nat.le_of_ble_eq_true rfl)) dX12_signed_3 ⟨Nat.zero_le _, Nat.zero_le _⟩ (fun q3 S4 H locs hq G => ?_)
  obtain ⟨hq1, hq2⟩ := hq
  rw [hq2] at G
  refine lv_to hq1 ?_
  clear hq1 hq2 eS2
  refine lv_istore_n (lv' := [(3, .int r5), (0, .ref (ad 0)), (1, .int a0), (2, .int a1)]) hx hb dX12_signed_6 rfl hl (by decide) rfl (fun ls hl => ?_)
  refine lv_iload_n hx hb dX12_signed_7 rfl (lv_at hl 0 rfl) ?_
  refine lv_if_eq (tgt := 15) hx hb dX12_signed_8 (by decide) (fun c6 => ?_) (fun c6 => ?_)
  · have h := oif_pos c6 h
    have hl := lv_sub hl [1, 2, 3, 0] rfl
    exact tr_signed_b15 E hA hR hml (fun H locs ls G => W.iret (v := r1) hx hb hr (fun t ht hW => ⟨⟨r1, S1, rfl, ⟨rfl, rfl⟩, ⟨by rw [ht]; exact G.1, va_K.moved hW.alike hK, G.2.1⟩⟩, G.2.2.F ht⟩) G.2.2.2.2 dX12_signed_37) _ _ _ _ _ _ _ h G hl
  · have h := oif_neg c6 h
    refine lv_aload_n hx hb dX12_signed_11 rfl (lv_at hl 1 rfl) ?_
    obtain ⟨S7, eS7, h⟩ := obind_some h
    refine m_callv (As := []) (rest := []) E G hA hR hml (tr_nextToken l D cI cJ cZ ad S2 eS7) (cwV 0 hts (gmV qM_111 qM_112 qM_113 qM_35 qM_45) rfl rfl rfl (by decide +kernel) ⟨Nat.le_of_ble_eq_true rfl, Nat.le_of_ble_eq_true rfl⟩) rfl hl.1 rfl (lv_room (Nat.le_of_ble_eq_true rfl)) dX12_signed_12 ⟨Nat.zero_le _, Nat.zero_le _⟩ (fun S9 H locs hq G => ?_)
    rw [hq] at G
    clear hq eS7
    have hl := lv_sub hl [1, 2, 3, 0] rfl
    exact tr_signed_b15 E hA hR hml (fun H locs ls G => W.iret (v := r1) hx hb hr (fun t ht hW => ⟨⟨r1, S1, rfl, ⟨rfl, rfl⟩, ⟨by rw [ht]; exact G.1, va_K.moved hW.alike hK, G.2.1⟩⟩, G.2.2.F ht⟩) G.2.2.2.2 dX12_signed_37) _ _ _ _ _ _ _ h G hl
def fr_readFirst (S : MS)  : Option (MS) := obind (fr_keyword S (sTx "camera")) fun S3 => obind2 (fr_gauge S3 (sTx "distance") 100 5000) fun r10 S7 => elet (mf S7 11 (upd (S7.2.1 11) 0 r10)) fun S11 => obind2 (fr_gauge S11 (sTx "step") 1 99) fun r16 S13 => elet (mf S13 11 (upd (S13.2.1 11) 1 r16)) fun S17 => obind2 (fr_gauge S17 (sTx "samples") 32 200) fun r22 S19 => elet (mf S19 11 (upd (S19.2.1 11) 2 r22)) fun S23 => obind2 (fr_gauge S23 (sTx "limit") 1 9999) fun r28 S25 => elet (mf S25 11 (upd (S25.2.1 11) 3 r28)) fun S29 => some S29
set_option maxHeartbeats 4000000 in
set_option maxRecDepth 100000 in
theorem tr_readFirst (l : Launch) (D : va_G) (cI cJ cZ : ClassId) (ad : Nat → Nat) (S : MS) (h0 : Nat)  {S1 : MS} (h : fr_readFirst S = some S1) : mCvX l yX12_readFirst (Cond.code yX12_readFirst cX12_readFirst 1 none :: wsM) 9 175 D cI cJ cZ ad S [] (xT0 cI cJ cZ h0 ad S) (fun S9 => S9 = S1) := by
  intro sz
  refine Met.ofW (cc := cX12_readFirst) (maxL := 1) (ret := none) (by decide) rfl ?_
  intro p e s m args below meth c s₁ B hml hv
  obtain ⟨rfl, ⟨hsz, hP, hK, hD0, hR⟩, hA1, hT⟩ := hv
  have hx := B.exec
  have hb := B.bytes
  have hr := B.returns
  have hts := atoms_spec (ws := (Cond.code yX12_readFirst cX12_readFirst 1 none :: wsM)) B.pre
  have hown : s.vm.findClass RX12 = some m.cls := findClass_of_methodNamed B.named
  have hlocks := B.notSynchronized
  subst hsz
  have hD := hD0.self (sz := s.heap.size)
  generalize hAe : va_A (MW cI cJ cZ ad S) s.heap.size = A at hD hA1 ⊢
  have hA : ∀ q : Nat, s.heap.size ≤ q → A q := fun q h => by rw [← hAe]; exact Or.inr h
  have G : mG D cI cJ cZ ad A s.heap s.heap [] S := ⟨hP, hD, va_S.rf⟩
  have E : mE p c cX12_readFirst s m ([.ref (ad 0)] : List Value).toArray (Cond.code yX12_readFirst cX12_readFirst 1 none :: wsM) D cI cJ cZ := ⟨hx, hb, hts, hown, hK, fun w h => .tail _ (iM_x h)⟩
  have hA0 : ∀ a : Nat, A a → h0 ≤ a := hA1
  have hl := lv_entry ([.ref (ad 0)]) (n := 1) (Nat.le_of_ble_eq_true rfl)
  rw [lg_entry_eq]
  generalize (lg_sl ([.ref (ad 0)]) ++ List.replicate (1 - (lg_sl ([.ref (ad 0)])).length) Slot.unset).toArray = ls at hl ⊢
  have hl : lv_has ls 1 [(0, .ref (ad 0))] := hl
  unfold fr_readFirst at h
  refine lv_aload_n hx hb dX12_readFirst_0 rfl (lv_at hl 0 rfl) ?_
  obtain ⟨w2, hw2, ow2⟩ := hT.1 ("AcousticCameraModel", 144, "camera") (List.mem_of_getElem? (i := 20) rfl)
  refine va_ldcS hx hb hown hw2 dX12_readFirst_1 ?_
  obtain ⟨S3, eS3, h⟩ := obind_some h
  refine m_callvX (As := [.ref w2]) (rest := []) E G hA hR hml (tr_keyword l D cI cJ cZ ad S h0 (q := w2) (sTx_ok (by decide +kernel)) eS3) (cwV 1 hts (gmV qM_127 qM_128 qM_129 qM_35 qM_114) rfl rfl rfl (by decide +kernel) ⟨Nat.le_of_ble_eq_true rfl, Nat.le_of_ble_eq_true rfl⟩) rfl hl.1 rfl (lv_room (Nat.le_of_ble_eq_true rfl)) dX12_readFirst_3 ⟨Nat.zero_le _, Nat.zero_le _⟩ (xT1.blind) (xT1.go hT hA0 hA G ow2) (fun S5 H locs hq G => ?_)
  rw [hq] at G
  clear hq eS3
  refine lv_aload_n hx hb dX12_readFirst_6 rfl (lv_at hl 0 rfl) ?_
  refine m_get E G 11 (v := .ref (ad 11)) (by decide) (.tail _ qM_8) rfl dX12_readFirst_7 rfl ?_
  refine lv_iconst (v := 0) hx hb dX12_readFirst_10 (by decide) ?_
  refine lv_aload_n hx hb dX12_readFirst_11 rfl (lv_at hl 0 rfl) ?_
  obtain ⟨w6, hw6, ow6⟩ := hT.1 ("AcousticCameraModel", 146, "distance") (List.mem_of_getElem? (i := 21) rfl)
  refine va_ldcS hx hb hown hw6 dX12_readFirst_12 ?_
  refine lv_bipush (v := 100) hx hb dX12_readFirst_14 (by decide) ?_
  refine lv_sipush (v := 5000) hx hb dX12_readFirst_16 (by decide) ?_
  obtain ⟨r10, S7, eS7, h⟩ := obind2_some h
  refine m_calliX (As := [.ref w6, .int 100, .int 5000]) (rest := [.int 0, .ref (ad 11)]) E G hA hR hml (tr_gauge l D cI cJ cZ ad S3 h0 (q := w6) (sTx_ok (by decide +kernel)) 100 5000 eS7) (cwV 3 hts (gmV qM_138 qM_139 qM_140 qM_35 qM_126) rfl rfl rfl (by decide +kernel) ⟨Nat.le_of_ble_eq_true rfl, Nat.le_of_ble_eq_true rfl⟩) rfl hl.1 rfl (lv_room (Nat.le_of_ble_eq_true rfl)) dX12_readFirst_19 ⟨Nat.zero_le _, Nat.zero_le _⟩ (xT1.blind) (xT1.go hT hA0 hA G ow6) (fun q8 S9 H locs hq G => ?_)
  obtain ⟨hq1, hq2⟩ := hq
  rw [hq2] at G
  refine lv_to hq1 ?_
  clear hq1 hq2 eS7
  refine m_iast E G 11 3 (k := 0) (v := r10) rfl (fun _ => rfl) rfl (by decide) (by decide) dX12_readFirst_22 (fun H locs G => ?_)
  obtain ⟨S11, eS11, h⟩ := elet_some h
  rw [← eS11] at G
  clear eS11
  refine lv_aload_n hx hb dX12_readFirst_23 rfl (lv_at hl 0 rfl) ?_
  refine m_get E G 11 (v := .ref (ad 11)) (by decide) (.tail _ qM_8) rfl dX12_readFirst_24 rfl ?_
  refine lv_iconst (v := 1) hx hb dX12_readFirst_27 (by decide) ?_
  refine lv_aload_n hx hb dX12_readFirst_28 rfl (lv_at hl 0 rfl) ?_
  obtain ⟨w12, hw12, ow12⟩ := hT.1 ("AcousticCameraModel", 152, "step") (List.mem_of_getElem? (i := 22) rfl)
  refine va_ldcS hx hb hown hw12 dX12_readFirst_29 ?_
  refine lv_iconst (v := 1) hx hb dX12_readFirst_31 (by decide) ?_
  refine lv_bipush (v := 99) hx hb dX12_readFirst_32 (by decide) ?_
  obtain ⟨r16, S13, eS13, h⟩ := obind2_some h
  refine m_calliX (As := [.ref w12, .int 1, .int 99]) (rest := [.int 1, .ref (ad 11)]) E G hA hR hml (tr_gauge l D cI cJ cZ ad S11 h0 (q := w12) (sTx_ok (by decide +kernel)) 1 99 eS13) (cwV 3 hts (gmV qM_138 qM_139 qM_140 qM_35 qM_126) rfl rfl rfl (by decide +kernel) ⟨Nat.le_of_ble_eq_true rfl, Nat.le_of_ble_eq_true rfl⟩) rfl hl.1 rfl (lv_room (Nat.le_of_ble_eq_true rfl)) dX12_readFirst_34 ⟨Nat.zero_le _, Nat.zero_le _⟩ (xT1.blind) (xT1.go hT hA0 hA G ow12) (fun q14 S15 H locs hq G => ?_)
  obtain ⟨hq1, hq2⟩ := hq
  rw [hq2] at G
  refine lv_to hq1 ?_
  clear hq1 hq2 eS13
  refine m_iast E G 11 3 (k := 1) (v := r16) rfl (fun _ => rfl) rfl (by decide) (by decide) dX12_readFirst_37 (fun H locs G => ?_)
  obtain ⟨S17, eS17, h⟩ := elet_some h
  rw [← eS17] at G
  clear eS17
  refine lv_aload_n hx hb dX12_readFirst_38 rfl (lv_at hl 0 rfl) ?_
  refine m_get E G 11 (v := .ref (ad 11)) (by decide) (.tail _ qM_8) rfl dX12_readFirst_39 rfl ?_
  refine lv_iconst (v := 2) hx hb dX12_readFirst_42 (by decide) ?_
  refine lv_aload_n hx hb dX12_readFirst_43 rfl (lv_at hl 0 rfl) ?_
  obtain ⟨w18, hw18, ow18⟩ := hT.1 ("AcousticCameraModel", 154, "samples") (List.mem_of_getElem? (i := 23) rfl)
  refine va_ldcS hx hb hown hw18 dX12_readFirst_44 ?_
  refine lv_bipush (v := 32) hx hb dX12_readFirst_46 (by decide) ?_
  refine lv_sipush (v := 200) hx hb dX12_readFirst_48 (by decide) ?_
  obtain ⟨r22, S19, eS19, h⟩ := obind2_some h
  refine m_calliX (As := [.ref w18, .int 32, .int 200]) (rest := [.int 2, .ref (ad 11)]) E G hA hR hml (tr_gauge l D cI cJ cZ ad S17 h0 (q := w18) (sTx_ok (by decide +kernel)) 32 200 eS19) (cwV 3 hts (gmV qM_138 qM_139 qM_140 qM_35 qM_126) rfl rfl rfl (by decide +kernel) ⟨Nat.le_of_ble_eq_true rfl, Nat.le_of_ble_eq_true rfl⟩) rfl hl.1 rfl (lv_room (Nat.le_of_ble_eq_true rfl)) dX12_readFirst_51 ⟨Nat.zero_le _, Nat.zero_le _⟩ (xT1.blind) (xT1.go hT hA0 hA G ow18) (fun q20 S21 H locs hq G => ?_)
  obtain ⟨hq1, hq2⟩ := hq
  rw [hq2] at G
  refine lv_to hq1 ?_
  clear hq1 hq2 eS19
  refine m_iast E G 11 3 (k := 2) (v := r22) rfl (fun _ => rfl) rfl (by decide) (by decide) dX12_readFirst_54 (fun H locs G => ?_)
  obtain ⟨S23, eS23, h⟩ := elet_some h
  rw [← eS23] at G
  clear eS23
  refine lv_aload_n hx hb dX12_readFirst_55 rfl (lv_at hl 0 rfl) ?_
  refine m_get E G 11 (v := .ref (ad 11)) (by decide) (.tail _ qM_8) rfl dX12_readFirst_56 rfl ?_
  refine lv_iconst (v := 3) hx hb dX12_readFirst_59 (by decide) ?_
  refine lv_aload_n hx hb dX12_readFirst_60 rfl (lv_at hl 0 rfl) ?_
  obtain ⟨w24, hw24, ow24⟩ := hT.1 ("AcousticCameraModel", 156, "limit") (List.mem_of_getElem? (i := 24) rfl)
  refine va_ldcS hx hb hown hw24 dX12_readFirst_61 ?_
  refine lv_iconst (v := 1) hx hb dX12_readFirst_63 (by decide) ?_
  refine lv_sipush (v := 9999) hx hb dX12_readFirst_64 (by decide) ?_
  obtain ⟨r28, S25, eS25, h⟩ := obind2_some h
  refine m_calliX (As := [.ref w24, .int 1, .int 9999]) (rest := [.int 3, .ref (ad 11)]) E G hA hR hml (tr_gauge l D cI cJ cZ ad S23 h0 (q := w24) (sTx_ok (by decide +kernel)) 1 9999 eS25) (cwV 3 hts (gmV qM_138 qM_139 qM_140 qM_35 qM_126) rfl rfl rfl (by decide +kernel) ⟨Nat.le_of_ble_eq_true rfl, Nat.le_of_ble_eq_true rfl⟩) rfl hl.1 rfl (lv_room (Nat.le_of_ble_eq_true rfl)) dX12_readFirst_67 ⟨Nat.zero_le _, Nat.zero_le _⟩ (xT1.blind) (xT1.go hT hA0 hA G ow24) (fun q26 S27 H locs hq G => ?_)
  obtain ⟨hq1, hq2⟩ := hq
  rw [hq2] at G
  refine lv_to hq1 ?_
  clear hq1 hq2 eS25
  refine m_iast E G 11 3 (k := 3) (v := r28) rfl (fun _ => rfl) rfl (by decide) (by decide) dX12_readFirst_70 (fun H locs G => ?_)
  obtain ⟨S29, eS29, h⟩ := elet_some h
  rw [← eS29] at G
  clear eS29
  exact W.vret hx hb hr (fun t ht hW => ⟨⟨S29, rfl, osome1 h, ⟨by rw [ht]; exact G.1, va_K.moved hW.alike hK, G.2.1⟩⟩, G.2.2.F ht⟩) G.2.2.2.2 dX12_readFirst_71
def fr_readMic_b18  (S : MS) (l1 : Int32) : Option (MS) := obind (fr_nextToken S) fun S2 => obind2 (fr_signed S2 (-500) 500) fun r8 S5 => obind2 (fr_signed S5 (-500) 500) fun r12 S9 => obind2 (fr_number S9 1 9) fun r16 S13 => elet (S13.1 5) fun v17 => if v17 ≤ 0 then (elet (11 + l1) fun v19 => oif (inb v19 131 = true) <| elet (mf S13 11 (upd (S13.2.1 11) v19.toNatClampNeg r8)) fun S21 => elet (23 + l1) fun v22 => oif (inb v22 131 = true) <| elet (mf S21 11 (upd (S21.2.1 11) v22.toNatClampNeg r12)) fun S24 => elet (35 + l1) fun v25 => oif (inb v25 131 = true) <| elet (mf S24 11 (upd (S24.2.1 11) v25.toNatClampNeg r16)) fun S27 => elet (S27.2.1 11 4) fun v28 => elet (v28 + 1) fun v29 => elet (mf S27 11 (upd (S27.2.1 11) 4 v29)) fun S30 => some S30) else (some S13)
set_option maxHeartbeats 4000000 in
set_option maxRecDepth 100000 in
theorem tr_readMic_b18 {p : Program} {l : Launch} {e : Env} {s : State} {m : MethodId} {args : Array Value} {below : List Frame} {meth : Method} {c : Code} {Q : State → Prop} {D : va_G} {A : Nat → Prop} {H0 : Heap} {cI cJ cZ : ClassId} {ad : Nat → Nat} {S1 : MS} (E : mE p c cX12_readMic s m args (Cond.code yX12_readMic cX12_readMic 5 none :: wsM) D cI cJ cZ) (hA : ∀ q : Nat, H0.size ≤ q → A q) (hR : sR s) (hml : c.maxLocals = 5) (kr60 : ∀ (H : Heap) (locs : List Loc) (ls : Array Slot), mG D cI cJ cZ ad A H0 H locs S1 → W p l e { frames := 5, cells := 0, slots := 0, locals := 90 } s m args below meth c H locs 0 0 Q (F0 m 60 ls [])) (kr102 : ∀ (H : Heap) (locs : List Loc) (ls : Array Slot), mG D cI cJ cZ ad A H0 H locs S1 → W p l e { frames := 5, cells := 0, slots := 0, locals := 90 } s m args below meth c H locs 0 0 Q (F0 m 102 ls [])) : ∀ (S : MS) (H : Heap) (locs : List Loc) (ls : Array Slot) (l1 : Int32), fr_readMic_b18 S l1 = some S1 → mG D cI cJ cZ ad A H0 H locs S → lv_has ls 5 [(0, .ref (ad 0)), (1, .int l1)] → W p l e { frames := 5, cells := 0, slots := 0, locals := 90 } s m args below meth c H locs 0 0 Q (F0 m 18 ls []) := by
  have hx := E.1
  have hb := E.2.1
  have hts := E.2.2.1
  have hown := E.2.2.2.1
  have hK := E.2.2.2.2.1
  intro S H locs ls l1 h G hl
  unfold fr_readMic_b18 at h
  refine lv_aload_n hx hb dX12_readMic_18 rfl (lv_at hl 0 rfl) ?_
  obtain ⟨S2, eS2, h⟩ := obind_some h
  refine m_callv (As := []) (rest := []) E G hA hR hml (tr_nextToken l D cI cJ cZ ad S eS2) (cwV 0 hts (gmV qM_111 qM_112 qM_113 qM_35 qM_45) rfl rfl rfl (by decide +kernel) ⟨Nat.le_of_ble_eq_true rfl, Nat.le_of_ble_eq_true rfl⟩) rfl hl.1 rfl (lv_room (Nat.le_of_ble_eq_true rfl)) dX12_readMic_19 ⟨Nat.zero_le _, Nat.zero_le _⟩ (fun S4 H locs hq G => ?_)
  rw [hq] at G
  clear hq eS2
  refine lv_aload_n hx hb dX12_readMic_22 rfl (lv_at hl 0 rfl) ?_
  refine lv_sipush (v := (-500)) hx hb dX12_readMic_23 (by decide) ?_
  refine lv_sipush (v := 500) hx hb dX12_readMic_26 (by decide) ?_
  obtain ⟨r8, S5, eS5, h⟩ := obind2_some h
  refine m_calli (As := [.int (-500), .int 500]) (rest := []) E G hA hR hml (tr_signed l D cI cJ cZ ad S2 (-500) 500 eS5) (cwV 2 hts (gmV qM_142 qM_143 qM_144 qM_35 qM_133) rfl rfl rfl (by decide +kernel) ⟨Nat.le_of_ble_eq_true rfl, Nat.le_of_ble_eq_true rfl⟩) rfl hl.1 rfl (lv_room (Nat.le_of_ble_eq_true rfl)) dX12_readMic_29 ⟨Nat.zero_le _, Nat.zero_le _⟩ (fun q6 S7 H locs hq G => ?_)
  obtain ⟨hq1, hq2⟩ := hq
  rw [hq2] at G
  refine lv_to hq1 ?_
  clear hq1 hq2 eS5
  refine lv_istore_n (lv' := [(2, .int r8), (0, .ref (ad 0)), (1, .int l1)]) hx hb dX12_readMic_32 rfl hl (by decide) rfl (fun ls hl => ?_)
  refine lv_aload_n hx hb dX12_readMic_33 rfl (lv_at hl 1 rfl) ?_
  refine lv_sipush (v := (-500)) hx hb dX12_readMic_34 (by decide) ?_
  refine lv_sipush (v := 500) hx hb dX12_readMic_37 (by decide) ?_
  obtain ⟨r12, S9, eS9, h⟩ := obind2_some h
  refine m_calli (As := [.int (-500), .int 500]) (rest := []) E G hA hR hml (tr_signed l D cI cJ cZ ad S5 (-500) 500 eS9) (cwV 2 hts (gmV qM_142 qM_143 qM_144 qM_35 qM_133) rfl rfl rfl (by decide +kernel) ⟨Nat.le_of_ble_eq_true rfl, Nat.le_of_ble_eq_true rfl⟩) rfl hl.1 rfl (lv_room (Nat.le_of_ble_eq_true rfl)) dX12_readMic_40 ⟨Nat.zero_le _, Nat.zero_le _⟩ (fun q10 S11 H locs hq G => ?_)
  obtain ⟨hq1, hq2⟩ := hq
  rw [hq2] at G
  refine lv_to hq1 ?_
  clear hq1 hq2 eS9
  refine lv_istore_n (lv' := [(3, .int r12), (2, .int r8), (0, .ref (ad 0)), (1, .int l1)]) hx hb dX12_readMic_43 rfl hl (by decide) rfl (fun ls hl => ?_)
  refine lv_aload_n hx hb dX12_readMic_44 rfl (lv_at hl 2 rfl) ?_
  refine lv_iconst (v := 1) hx hb dX12_readMic_45 (by decide) ?_
  refine lv_bipush (v := 9) hx hb dX12_readMic_46 (by decide) ?_
  obtain ⟨r16, S13, eS13, h⟩ := obind2_some h
  refine m_calli (As := [.int 1, .int 9]) (rest := []) E G hA hR hml (tr_number l D cI cJ cZ ad S9 1 9 eS13) (cwV 2 hts (gmV qM_130 qM_131 qM_132 qM_35 qM_122) rfl rfl rfl (by decide +kernel) ⟨Nat.le_of_ble_eq_true rfl, Nat.le_of_ble_eq_true rfl⟩) rfl hl.1 rfl (lv_room (Nat.le_of_ble_eq_true rfl)) dX12_readMic_48 ⟨Nat.zero_le _, Nat.zero_le _⟩ (fun q14 S15 H locs hq G => ?_)
  obtain ⟨hq1, hq2⟩ := hq
  rw [hq2] at G
  refine lv_to hq1 ?_
  clear hq1 hq2 eS13
  refine lv_istore (lv' := [(4, .int r16), (3, .int r12), (2, .int r8), (0, .ref (ad 0)), (1, .int l1)]) hx hb dX12_readMic_51 hl (by decide) rfl (fun ls hl => ?_)
  refine lv_aload_n hx hb dX12_readMic_53 rfl (lv_at hl 3 rfl) ?_
  refine m_get E G 5 (v := .int (S13.1 5)) (by decide) (.tail _ qM_38) rfl dX12_readMic_54 rfl ?_
  refine lv_topi (fun v17 ev17 => ?_)
  have h := elet_at ev17 h
  clear ev17
  refine lv_if_le (tgt := 61) hx hb dX12_readMic_57 (by decide) (fun c18 => ?_) (fun c18 => ?_)
  · have h := oif_pos c18 h
    refine lv_aload_n hx hb dX12_readMic_61 rfl (lv_at hl 3 rfl) ?_
    refine m_get E G 11 (v := .ref (ad 11)) (by decide) (.tail _ qM_8) rfl dX12_readMic_62 rfl ?_
    refine lv_bipush (v := 11) hx hb dX12_readMic_65 (by decide) ?_
    refine lv_iload_n hx hb dX12_readMic_67 rfl (lv_at hl 4 rfl) ?_
    refine lv_iadd hx hb dX12_readMic_68 ?_
    refine lv_topi (fun v19 ev19 => ?_)
    have h := elet_at ev19 h
    clear ev19
    refine lv_iload_n hx hb dX12_readMic_69 rfl (lv_at hl 2 rfl) ?_
    obtain ⟨g20, h⟩ := oif_some h
    refine m_iast E G 11 3 (k := v19.toNatClampNeg) (v := r8) rfl (fun _ => rfl) (inb_k g20).1 (inb_k g20).2 (by decide) dX12_readMic_70 (fun H locs G => ?_)
    obtain ⟨S21, eS21, h⟩ := elet_some h
    rw [← eS21] at G
    clear eS21
    refine lv_aload_n hx hb dX12_readMic_71 rfl (lv_at hl 3 rfl) ?_
    refine m_get E G 11 (v := .ref (ad 11)) (by decide) (.tail _ qM_8) rfl dX12_readMic_72 rfl ?_
    refine lv_bipush (v := 23) hx hb dX12_readMic_75 (by decide) ?_
    refine lv_iload_n hx hb dX12_readMic_77 rfl (lv_at hl 4 rfl) ?_
    refine lv_iadd hx hb dX12_readMic_78 ?_
    refine lv_topi (fun v22 ev22 => ?_)
    have h := elet_at ev22 h
    clear ev22
    refine lv_iload_n hx hb dX12_readMic_79 rfl (lv_at hl 1 rfl) ?_
    obtain ⟨g23, h⟩ := oif_some h
    refine m_iast E G 11 3 (k := v22.toNatClampNeg) (v := r12) rfl (fun _ => rfl) (inb_k g23).1 (inb_k g23).2 (by decide) dX12_readMic_80 (fun H locs G => ?_)
    obtain ⟨S24, eS24, h⟩ := elet_some h
    rw [← eS24] at G
    clear eS24
    refine lv_aload_n hx hb dX12_readMic_81 rfl (lv_at hl 3 rfl) ?_
    refine m_get E G 11 (v := .ref (ad 11)) (by decide) (.tail _ qM_8) rfl dX12_readMic_82 rfl ?_
    refine lv_bipush (v := 35) hx hb dX12_readMic_85 (by decide) ?_
    refine lv_iload_n hx hb dX12_readMic_87 rfl (lv_at hl 4 rfl) ?_
    refine lv_iadd hx hb dX12_readMic_88 ?_
    refine lv_topi (fun v25 ev25 => ?_)
    have h := elet_at ev25 h
    clear ev25
    refine lv_iload hx hb dX12_readMic_89 (lv_at hl 0 rfl) ?_
    obtain ⟨g26, h⟩ := oif_some h
    refine m_iast E G 11 3 (k := v25.toNatClampNeg) (v := r16) rfl (fun _ => rfl) (inb_k g26).1 (inb_k g26).2 (by decide) dX12_readMic_91 (fun H locs G => ?_)
    obtain ⟨S27, eS27, h⟩ := elet_some h
    rw [← eS27] at G
    clear eS27
    refine lv_aload_n hx hb dX12_readMic_92 rfl (lv_at hl 3 rfl) ?_
    refine m_get E G 11 (v := .ref (ad 11)) (by decide) (.tail _ qM_8) rfl dX12_readMic_93 rfl ?_
    refine lv_iconst (v := 4) hx hb dX12_readMic_96 (by decide) ?_
    refine lv_dup2_11 hx hb dX12_readMic_97 rfl rfl ?_
    refine m_iald E G 11 3 (n := 131) (k := 4) rfl rfl (by decide) (by decide) dX12_readMic_98 ?_
    refine lv_topi (fun v28 ev28 => ?_)
    have h := elet_at ev28 h
    clear ev28
    refine lv_iconst (v := 1) hx hb dX12_readMic_99 (by decide) ?_
    refine lv_iadd hx hb dX12_readMic_100 ?_
    refine lv_topi (fun v29 ev29 => ?_)
    have h := elet_at ev29 h
    clear ev29
    refine m_iast E G 11 3 (k := 4) (v := v29) rfl (fun _ => rfl) rfl (by decide) (by decide) dX12_readMic_101 (fun H locs G => ?_)
    obtain ⟨S30, eS30, h⟩ := elet_some h
    rw [← eS30] at G
    clear eS30
    rw [osome1 h] at G
    exact kr102 _ _ _ G
  · have h := oif_neg c18 h
    rw [osome1 h] at G
    exact kr60 _ _ _ G
def fr_readMic (S : MS)  : Option (MS) := elet (S.2.1 11 4) fun v2 => if v2 = 12 then (obind (fr_faults S 4) fun S4 => fr_readMic_b18 S4 v2) else (fr_readMic_b18 S v2)
set_option maxHeartbeats 4000000 in
set_option maxRecDepth 100000 in
theorem tr_readMic (l : Launch) (D : va_G) (cI cJ cZ : ClassId) (ad : Nat → Nat) (S : MS)  {S1 : MS} (h : fr_readMic S = some S1) : mCv l yX12_readMic (Cond.code yX12_readMic cX12_readMic 5 none :: wsM) 5 90 D cI cJ cZ ad S [] (fun S9 => S9 = S1) := by
  intro sz
  refine Met.ofW (cc := cX12_readMic) (maxL := 5) (ret := none) (by decide) rfl ?_
  intro p e s m args below meth c s₁ B hml hv
  obtain ⟨rfl, hsz, hP, hK, hD0, hR⟩ := hv
  have hx := B.exec
  have hb := B.bytes
  have hr := B.returns
  have hts := atoms_spec (ws := (Cond.code yX12_readMic cX12_readMic 5 none :: wsM)) B.pre
  have hown : s.vm.findClass RX12 = some m.cls := findClass_of_methodNamed B.named
  have hlocks := B.notSynchronized
  subst hsz
  have hD := hD0.self (sz := s.heap.size)
  generalize hAe : va_A (MW cI cJ cZ ad S) s.heap.size = A at hD ⊢
  have hA : ∀ q : Nat, s.heap.size ≤ q → A q := fun q h => by rw [← hAe]; exact Or.inr h
  have G : mG D cI cJ cZ ad A s.heap s.heap [] S := ⟨hP, hD, va_S.rf⟩
  have E : mE p c cX12_readMic s m ([.ref (ad 0)] : List Value).toArray (Cond.code yX12_readMic cX12_readMic 5 none :: wsM) D cI cJ cZ := ⟨hx, hb, hts, hown, hK, fun w h => .tail _ (iM_x h)⟩
  have hl := lv_entry ([.ref (ad 0)]) (n := 5) (Nat.le_of_ble_eq_true rfl)
  rw [lg_entry_eq]
  generalize (lg_sl ([.ref (ad 0)]) ++ List.replicate (5 - (lg_sl ([.ref (ad 0)])).length) Slot.unset).toArray = ls at hl ⊢
  have hl : lv_has ls 5 [(0, .ref (ad 0))] := hl
  unfold fr_readMic at h
  refine lv_aload_n hx hb dX12_readMic_0 rfl (lv_at hl 0 rfl) ?_
  refine m_get E G 11 (v := .ref (ad 11)) (by decide) (.tail _ qM_8) rfl dX12_readMic_1 rfl ?_
  refine lv_iconst (v := 4) hx hb dX12_readMic_4 (by decide) ?_
  refine m_iald E G 11 3 (n := 131) (k := 4) rfl rfl (by decide) (by decide) dX12_readMic_5 ?_
  refine lv_topi (fun v2 ev2 => ?_)
  have h := elet_at ev2 h
  clear ev2
  refine lv_istore_n (lv' := [(1, .int v2), (0, .ref (ad 0))]) hx hb dX12_readMic_6 rfl hl (by decide) rfl (fun ls hl => ?_)
  refine lv_iload_n hx hb dX12_readMic_7 rfl (lv_at hl 0 rfl) ?_
  refine lv_bipush (v := 12) hx hb dX12_readMic_8 (by decide) ?_
  refine lv_icmp_ne (tgt := 18) hx hb dX12_readMic_10 (by decide) (fun c3 => ?_) (fun c3 => ?_)
  · have h := oif_neg c3 h
    have hl := lv_sub hl [1, 0] rfl
    exact tr_readMic_b18 E hA hR hml (fun H locs ls G => W.vret hx hb hr (fun t ht hW => ⟨⟨S1, rfl, rfl, ⟨by rw [ht]; exact G.1, va_K.moved hW.alike hK, G.2.1⟩⟩, G.2.2.F ht⟩) G.2.2.2.2 dX12_readMic_60) (fun H locs ls G => W.vret hx hb hr (fun t ht hW => ⟨⟨S1, rfl, rfl, ⟨by rw [ht]; exact G.1, va_K.moved hW.alike hK, G.2.1⟩⟩, G.2.2.F ht⟩) G.2.2.2.2 dX12_readMic_102) _ _ _ _ _ h G hl
  · have h := oif_pos c3 h
    refine lv_aload_n hx hb dX12_readMic_13 rfl (lv_at hl 1 rfl) ?_
    refine lv_iconst (v := 4) hx hb dX12_readMic_14 (by decide) ?_
    obtain ⟨S4, eS4, h⟩ := obind_some h
    refine m_callv (As := [.int 4]) (rest := []) E G hA hR hml (tr_faults l D cI cJ cZ ad S 4 eS4) (cwV 1 hts (gmV qM_118 qM_119 qM_120 qM_35 qM_42) rfl rfl rfl (by decide +kernel) ⟨Nat.le_of_ble_eq_true rfl, Nat.le_of_ble_eq_true rfl⟩) rfl hl.1 rfl (lv_room (Nat.le_of_ble_eq_true rfl)) dX12_readMic_15 ⟨Nat.zero_le _, Nat.zero_le _⟩ (fun S6 H locs hq G => ?_)
    rw [hq] at G
    clear hq eS4
    have hl := lv_sub hl [1, 0] rfl
    exact tr_readMic_b18 E hA hR hml (fun H locs ls G => W.vret hx hb hr (fun t ht hW => ⟨⟨S1, rfl, rfl, ⟨by rw [ht]; exact G.1, va_K.moved hW.alike hK, G.2.1⟩⟩, G.2.2.F ht⟩) G.2.2.2.2 dX12_readMic_60) (fun H locs ls G => W.vret hx hb hr (fun t ht hW => ⟨⟨S1, rfl, rfl, ⟨by rw [ht]; exact G.1, va_K.moved hW.alike hK, G.2.1⟩⟩, G.2.2.F ht⟩) G.2.2.2.2 dX12_readMic_102) _ _ _ _ _ h G hl
def fr_readMap_b15  (S : MS)  : Option (MS) := obind (fr_nextToken S) fun S2 => obind2 (fr_signed S2 (-999) 999) fun r8 S5 => obind2 (fr_signed S5 (-999) 999) fun r12 S9 => obind2 (fr_number S9 1 99) fun r16 S13 => obind2 (fr_number S13 1 12) fun r20 S17 => obind2 (fr_number S17 1 12) fun r24 S21 => elet (S21.1 5) fun v25 => if v25 ≤ 0 then (elet (mf S21 11 (upd (S21.2.1 11) 6 r8)) fun S27 => elet (mf S27 11 (upd (S27.2.1 11) 7 r12)) fun S28 => elet (mf S28 11 (upd (S28.2.1 11) 8 r16)) fun S29 => elet (mf S29 11 (upd (S29.2.1 11) 9 r20)) fun S30 => elet (mf S30 11 (upd (S30.2.1 11) 10 r24)) fun S31 => some S31) else (some S21)
set_option maxHeartbeats 4000000 in
set_option maxRecDepth 100000 in
theorem tr_readMap_b15 {p : Program} {l : Launch} {e : Env} {s : State} {m : MethodId} {args : Array Value} {below : List Frame} {meth : Method} {c : Code} {Q : State → Prop} {D : va_G} {A : Nat → Prop} {H0 : Heap} {cI cJ cZ : ClassId} {ad : Nat → Nat} {S1 : MS} (E : mE p c cX12_readMap s m args (Cond.code yX12_readMap cX12_readMap 6 none :: wsM) D cI cJ cZ) (hA : ∀ q : Nat, H0.size ≤ q → A q) (hR : sR s) (hml : c.maxLocals = 6) (kr74 : ∀ (H : Heap) (locs : List Loc) (ls : Array Slot), mG D cI cJ cZ ad A H0 H locs S1 → W p l e { frames := 5, cells := 0, slots := 0, locals := 90 } s m args below meth c H locs 0 0 Q (F0 m 74 ls [])) (kr117 : ∀ (H : Heap) (locs : List Loc) (ls : Array Slot), mG D cI cJ cZ ad A H0 H locs S1 → W p l e { frames := 5, cells := 0, slots := 0, locals := 90 } s m args below meth c H locs 0 0 Q (F0 m 117 ls [])) : ∀ (S : MS) (H : Heap) (locs : List Loc) (ls : Array Slot), fr_readMap_b15 S = some S1 → mG D cI cJ cZ ad A H0 H locs S → lv_has ls 6 [(0, .ref (ad 0))] → W p l e { frames := 5, cells := 0, slots := 0, locals := 90 } s m args below meth c H locs 0 0 Q (F0 m 15 ls []) := by
  have hx := E.1
  have hb := E.2.1
  have hts := E.2.2.1
  have hown := E.2.2.2.1
  have hK := E.2.2.2.2.1
  intro S H locs ls h G hl
  unfold fr_readMap_b15 at h
  refine lv_aload_n hx hb dX12_readMap_15 rfl (lv_at hl 0 rfl) ?_
  obtain ⟨S2, eS2, h⟩ := obind_some h
  refine m_callv (As := []) (rest := []) E G hA hR hml (tr_nextToken l D cI cJ cZ ad S eS2) (cwV 0 hts (gmV qM_111 qM_112 qM_113 qM_35 qM_45) rfl rfl rfl (by decide +kernel) ⟨Nat.le_of_ble_eq_true rfl, Nat.le_of_ble_eq_true rfl⟩) rfl hl.1 rfl (lv_room (Nat.le_of_ble_eq_true rfl)) dX12_readMap_16 ⟨Nat.zero_le _, Nat.zero_le _⟩ (fun S4 H locs hq G => ?_)
  rw [hq] at G
  clear hq eS2
  refine lv_aload_n hx hb dX12_readMap_19 rfl (lv_at hl 0 rfl) ?_
  refine lv_sipush (v := (-999)) hx hb dX12_readMap_20 (by decide) ?_
  refine lv_sipush (v := 999) hx hb dX12_readMap_23 (by decide) ?_
  obtain ⟨r8, S5, eS5, h⟩ := obind2_some h
  refine m_calli (As := [.int (-999), .int 999]) (rest := []) E G hA hR hml (tr_signed l D cI cJ cZ ad S2 (-999) 999 eS5) (cwV 2 hts (gmV qM_142 qM_143 qM_144 qM_35 qM_133) rfl rfl rfl (by decide +kernel) ⟨Nat.le_of_ble_eq_true rfl, Nat.le_of_ble_eq_true rfl⟩) rfl hl.1 rfl (lv_room (Nat.le_of_ble_eq_true rfl)) dX12_readMap_26 ⟨Nat.zero_le _, Nat.zero_le _⟩ (fun q6 S7 H locs hq G => ?_)
  obtain ⟨hq1, hq2⟩ := hq
  rw [hq2] at G
  refine lv_to hq1 ?_
  clear hq1 hq2 eS5
  refine lv_istore_n (lv' := [(1, .int r8), (0, .ref (ad 0))]) hx hb dX12_readMap_29 rfl hl (by decide) rfl (fun ls hl => ?_)
  refine lv_aload_n hx hb dX12_readMap_30 rfl (lv_at hl 1 rfl) ?_
  refine lv_sipush (v := (-999)) hx hb dX12_readMap_31 (by decide) ?_
  refine lv_sipush (v := 999) hx hb dX12_readMap_34 (by decide) ?_
  obtain ⟨r12, S9, eS9, h⟩ := obind2_some h
  refine m_calli (As := [.int (-999), .int 999]) (rest := []) E G hA hR hml (tr_signed l D cI cJ cZ ad S5 (-999) 999 eS9) (cwV 2 hts (gmV qM_142 qM_143 qM_144 qM_35 qM_133) rfl rfl rfl (by decide +kernel) ⟨Nat.le_of_ble_eq_true rfl, Nat.le_of_ble_eq_true rfl⟩) rfl hl.1 rfl (lv_room (Nat.le_of_ble_eq_true rfl)) dX12_readMap_37 ⟨Nat.zero_le _, Nat.zero_le _⟩ (fun q10 S11 H locs hq G => ?_)
  obtain ⟨hq1, hq2⟩ := hq
  rw [hq2] at G
  refine lv_to hq1 ?_
  clear hq1 hq2 eS9
  refine lv_istore_n (lv' := [(2, .int r12), (1, .int r8), (0, .ref (ad 0))]) hx hb dX12_readMap_40 rfl hl (by decide) rfl (fun ls hl => ?_)
  refine lv_aload_n hx hb dX12_readMap_41 rfl (lv_at hl 2 rfl) ?_
  refine lv_iconst (v := 1) hx hb dX12_readMap_42 (by decide) ?_
  refine lv_bipush (v := 99) hx hb dX12_readMap_43 (by decide) ?_
  obtain ⟨r16, S13, eS13, h⟩ := obind2_some h
  refine m_calli (As := [.int 1, .int 99]) (rest := []) E G hA hR hml (tr_number l D cI cJ cZ ad S9 1 99 eS13) (cwV 2 hts (gmV qM_130 qM_131 qM_132 qM_35 qM_122) rfl rfl rfl (by decide +kernel) ⟨Nat.le_of_ble_eq_true rfl, Nat.le_of_ble_eq_true rfl⟩) rfl hl.1 rfl (lv_room (Nat.le_of_ble_eq_true rfl)) dX12_readMap_45 ⟨Nat.zero_le _, Nat.zero_le _⟩ (fun q14 S15 H locs hq G => ?_)
  obtain ⟨hq1, hq2⟩ := hq
  rw [hq2] at G
  refine lv_to hq1 ?_
  clear hq1 hq2 eS13
  refine lv_istore_n (lv' := [(3, .int r16), (2, .int r12), (1, .int r8), (0, .ref (ad 0))]) hx hb dX12_readMap_48 rfl hl (by decide) rfl (fun ls hl => ?_)
  refine lv_aload_n hx hb dX12_readMap_49 rfl (lv_at hl 3 rfl) ?_
  refine lv_iconst (v := 1) hx hb dX12_readMap_50 (by decide) ?_
  refine lv_bipush (v := 12) hx hb dX12_readMap_51 (by decide) ?_
  obtain ⟨r20, S17, eS17, h⟩ := obind2_some h
  refine m_calli (As := [.int 1, .int 12]) (rest := []) E G hA hR hml (tr_number l D cI cJ cZ ad S13 1 12 eS17) (cwV 2 hts (gmV qM_130 qM_131 qM_132 qM_35 qM_122) rfl rfl rfl (by decide +kernel) ⟨Nat.le_of_ble_eq_true rfl, Nat.le_of_ble_eq_true rfl⟩) rfl hl.1 rfl (lv_room (Nat.le_of_ble_eq_true rfl)) dX12_readMap_53 ⟨Nat.zero_le _, Nat.zero_le _⟩ (fun q18 S19 H locs hq G => ?_)
  obtain ⟨hq1, hq2⟩ := hq
  rw [hq2] at G
  refine lv_to hq1 ?_
  clear hq1 hq2 eS17
  refine lv_istore (lv' := [(4, .int r20), (3, .int r16), (2, .int r12), (1, .int r8), (0, .ref (ad 0))]) hx hb dX12_readMap_56 hl (by decide) rfl (fun ls hl => ?_)
  refine lv_aload_n hx hb dX12_readMap_58 rfl (lv_at hl 4 rfl) ?_
  refine lv_iconst (v := 1) hx hb dX12_readMap_59 (by decide) ?_
  refine lv_bipush (v := 12) hx hb dX12_readMap_60 (by decide) ?_
  obtain ⟨r24, S21, eS21, h⟩ := obind2_some h
  refine m_calli (As := [.int 1, .int 12]) (rest := []) E G hA hR hml (tr_number l D cI cJ cZ ad S17 1 12 eS21) (cwV 2 hts (gmV qM_130 qM_131 qM_132 qM_35 qM_122) rfl rfl rfl (by decide +kernel) ⟨Nat.le_of_ble_eq_true rfl, Nat.le_of_ble_eq_true rfl⟩) rfl hl.1 rfl (lv_room (Nat.le_of_ble_eq_true rfl)) dX12_readMap_62 ⟨Nat.zero_le _, Nat.zero_le _⟩ (fun q22 S23 H locs hq G => ?_)
  obtain ⟨hq1, hq2⟩ := hq
  rw [hq2] at G
  refine lv_to hq1 ?_
  clear hq1 hq2 eS21
  refine lv_istore (lv' := [(5, .int r24), (4, .int r20), (3, .int r16), (2, .int r12), (1, .int r8), (0, .ref (ad 0))]) hx hb dX12_readMap_65 hl (by decide) rfl (fun ls hl => ?_)
  refine lv_aload_n hx hb dX12_readMap_67 rfl (lv_at hl 5 rfl) ?_
  refine m_get E G 5 (v := .int (S21.1 5)) (by decide) (.tail _ qM_38) rfl dX12_readMap_68 rfl ?_
  refine lv_topi (fun v25 ev25 => ?_)
  have h := elet_at ev25 h
  clear ev25
  refine lv_if_le (tgt := 75) hx hb dX12_readMap_71 (by decide) (fun c26 => ?_) (fun c26 => ?_)
  · have h := oif_pos c26 h
    refine lv_aload_n hx hb dX12_readMap_75 rfl (lv_at hl 5 rfl) ?_
    refine m_get E G 11 (v := .ref (ad 11)) (by decide) (.tail _ qM_8) rfl dX12_readMap_76 rfl ?_
    refine lv_bipush (v := 6) hx hb dX12_readMap_79 (by decide) ?_
    refine lv_iload_n hx hb dX12_readMap_81 rfl (lv_at hl 4 rfl) ?_
    refine m_iast E G 11 3 (k := 6) (v := r8) rfl (fun _ => rfl) rfl (by decide) (by decide) dX12_readMap_82 (fun H locs G => ?_)
    obtain ⟨S27, eS27, h⟩ := elet_some h
    rw [← eS27] at G
    clear eS27
    refine lv_aload_n hx hb dX12_readMap_83 rfl (lv_at hl 5 rfl) ?_
    refine m_get E G 11 (v := .ref (ad 11)) (by decide) (.tail _ qM_8) rfl dX12_readMap_84 rfl ?_
    refine lv_bipush (v := 7) hx hb dX12_readMap_87 (by decide) ?_
    refine lv_iload_n hx hb dX12_readMap_89 rfl (lv_at hl 3 rfl) ?_
    refine m_iast E G 11 3 (k := 7) (v := r12) rfl (fun _ => rfl) rfl (by decide) (by decide) dX12_readMap_90 (fun H locs G => ?_)
    obtain ⟨S28, eS28, h⟩ := elet_some h
    rw [← eS28] at G
    clear eS28
    refine lv_aload_n hx hb dX12_readMap_91 rfl (lv_at hl 5 rfl) ?_
    refine m_get E G 11 (v := .ref (ad 11)) (by decide) (.tail _ qM_8) rfl dX12_readMap_92 rfl ?_
    refine lv_bipush (v := 8) hx hb dX12_readMap_95 (by decide) ?_
    refine lv_iload_n hx hb dX12_readMap_97 rfl (lv_at hl 2 rfl) ?_
    refine m_iast E G 11 3 (k := 8) (v := r16) rfl (fun _ => rfl) rfl (by decide) (by decide) dX12_readMap_98 (fun H locs G => ?_)
    obtain ⟨S29, eS29, h⟩ := elet_some h
    rw [← eS29] at G
    clear eS29
    refine lv_aload_n hx hb dX12_readMap_99 rfl (lv_at hl 5 rfl) ?_
    refine m_get E G 11 (v := .ref (ad 11)) (by decide) (.tail _ qM_8) rfl dX12_readMap_100 rfl ?_
    refine lv_bipush (v := 9) hx hb dX12_readMap_103 (by decide) ?_
    refine lv_iload hx hb dX12_readMap_105 (lv_at hl 1 rfl) ?_
    refine m_iast E G 11 3 (k := 9) (v := r20) rfl (fun _ => rfl) rfl (by decide) (by decide) dX12_readMap_107 (fun H locs G => ?_)
    obtain ⟨S30, eS30, h⟩ := elet_some h
    rw [← eS30] at G
    clear eS30
    refine lv_aload_n hx hb dX12_readMap_108 rfl (lv_at hl 5 rfl) ?_
    refine m_get E G 11 (v := .ref (ad 11)) (by decide) (.tail _ qM_8) rfl dX12_readMap_109 rfl ?_
    refine lv_bipush (v := 10) hx hb dX12_readMap_112 (by decide) ?_
    refine lv_iload hx hb dX12_readMap_114 (lv_at hl 0 rfl) ?_
    refine m_iast E G 11 3 (k := 10) (v := r24) rfl (fun _ => rfl) rfl (by decide) (by decide) dX12_readMap_116 (fun H locs G => ?_)
    obtain ⟨S31, eS31, h⟩ := elet_some h
    rw [← eS31] at G
    clear eS31
    rw [osome1 h] at G
    exact kr117 _ _ _ G
  · have h := oif_neg c26 h
    rw [osome1 h] at G
    exact kr74 _ _ _ G
def fr_readMap (S : MS)  : Option (MS) := elet (S.2.1 11 8) fun v2 => if v2 ≤ 0 then (fr_readMap_b15 S) else (obind (fr_faults S 3) fun S4 => fr_readMap_b15 S4)
set_option maxHeartbeats 4000000 in
set_option maxRecDepth 100000 in
theorem tr_readMap (l : Launch) (D : va_G) (cI cJ cZ : ClassId) (ad : Nat → Nat) (S : MS)  {S1 : MS} (h : fr_readMap S = some S1) : mCv l yX12_readMap (Cond.code yX12_readMap cX12_readMap 6 none :: wsM) 5 90 D cI cJ cZ ad S [] (fun S9 => S9 = S1) := by
  intro sz
  refine Met.ofW (cc := cX12_readMap) (maxL := 6) (ret := none) (by decide) rfl ?_
  intro p e s m args below meth c s₁ B hml hv
  obtain ⟨rfl, hsz, hP, hK, hD0, hR⟩ := hv
  have hx := B.exec
  have hb := B.bytes
  have hr := B.returns
  have hts := atoms_spec (ws := (Cond.code yX12_readMap cX12_readMap 6 none :: wsM)) B.pre
  have hown : s.vm.findClass RX12 = some m.cls := findClass_of_methodNamed B.named
  have hlocks := B.notSynchronized
  subst hsz
  have hD := hD0.self (sz := s.heap.size)
  generalize hAe : va_A (MW cI cJ cZ ad S) s.heap.size = A at hD ⊢
  have hA : ∀ q : Nat, s.heap.size ≤ q → A q := fun q h => by rw [← hAe]; exact Or.inr h
  have G : mG D cI cJ cZ ad A s.heap s.heap [] S := ⟨hP, hD, va_S.rf⟩
  have E : mE p c cX12_readMap s m ([.ref (ad 0)] : List Value).toArray (Cond.code yX12_readMap cX12_readMap 6 none :: wsM) D cI cJ cZ := ⟨hx, hb, hts, hown, hK, fun w h => .tail _ (iM_x h)⟩
  have hl := lv_entry ([.ref (ad 0)]) (n := 6) (Nat.le_of_ble_eq_true rfl)
  rw [lg_entry_eq]
  generalize (lg_sl ([.ref (ad 0)]) ++ List.replicate (6 - (lg_sl ([.ref (ad 0)])).length) Slot.unset).toArray = ls at hl ⊢
  have hl : lv_has ls 6 [(0, .ref (ad 0))] := hl
  unfold fr_readMap at h
  refine lv_aload_n hx hb dX12_readMap_0 rfl (lv_at hl 0 rfl) ?_
  refine m_get E G 11 (v := .ref (ad 11)) (by decide) (.tail _ qM_8) rfl dX12_readMap_1 rfl ?_
  refine lv_bipush (v := 8) hx hb dX12_readMap_4 (by decide) ?_
  refine m_iald E G 11 3 (n := 131) (k := 8) rfl rfl (by decide) (by decide) dX12_readMap_6 ?_
  refine lv_topi (fun v2 ev2 => ?_)
  have h := elet_at ev2 h
  clear ev2
  refine lv_if_le (tgt := 15) hx hb dX12_readMap_7 (by decide) (fun c3 => ?_) (fun c3 => ?_)
  · have h := oif_pos c3 h
    have hl := lv_sub hl [0] rfl
    exact tr_readMap_b15 E hA hR hml (fun H locs ls G => W.vret hx hb hr (fun t ht hW => ⟨⟨S1, rfl, rfl, ⟨by rw [ht]; exact G.1, va_K.moved hW.alike hK, G.2.1⟩⟩, G.2.2.F ht⟩) G.2.2.2.2 dX12_readMap_74) (fun H locs ls G => W.vret hx hb hr (fun t ht hW => ⟨⟨S1, rfl, rfl, ⟨by rw [ht]; exact G.1, va_K.moved hW.alike hK, G.2.1⟩⟩, G.2.2.F ht⟩) G.2.2.2.2 dX12_readMap_117) _ _ _ _ h G hl
  · have h := oif_neg c3 h
    refine lv_aload_n hx hb dX12_readMap_10 rfl (lv_at hl 0 rfl) ?_
    refine lv_iconst (v := 3) hx hb dX12_readMap_11 (by decide) ?_
    obtain ⟨S4, eS4, h⟩ := obind_some h
    refine m_callv (As := [.int 3]) (rest := []) E G hA hR hml (tr_faults l D cI cJ cZ ad S 3 eS4) (cwV 1 hts (gmV qM_118 qM_119 qM_120 qM_35 qM_42) rfl rfl rfl (by decide +kernel) ⟨Nat.le_of_ble_eq_true rfl, Nat.le_of_ble_eq_true rfl⟩) rfl hl.1 rfl (lv_room (Nat.le_of_ble_eq_true rfl)) dX12_readMap_12 ⟨Nat.zero_le _, Nat.zero_le _⟩ (fun S6 H locs hq G => ?_)
    rw [hq] at G
    clear hq eS4
    have hl := lv_sub hl [0] rfl
    exact tr_readMap_b15 E hA hR hml (fun H locs ls G => W.vret hx hb hr (fun t ht hW => ⟨⟨S1, rfl, rfl, ⟨by rw [ht]; exact G.1, va_K.moved hW.alike hK, G.2.1⟩⟩, G.2.2.F ht⟩) G.2.2.2.2 dX12_readMap_74) (fun H locs ls G => W.vret hx hb hr (fun t ht hW => ⟨⟨S1, rfl, rfl, ⟨by rw [ht]; exact G.1, va_K.moved hW.alike hK, G.2.1⟩⟩, G.2.2.F ht⟩) G.2.2.2.2 dX12_readMap_117) _ _ _ _ h G hl
def fr_readSource_b186  (S : MS) (s0 : Int32) (l1 : Int32) (l2 : Int32) (l3 : Int32) (l4 : Int32) (l5 : Int32) (l6 : Int32) (l7 : Int32) (l8 : Int32) (l9 : Int32) : Option (MS) := elet (S.1 5) fun v2 => if v2 ≤ 0 then (elet (95 + l1) fun v4 => oif (inb v4 131 = true) <| elet (mf S 11 (upd (S.2.1 11) v4.toNatClampNeg s0)) fun S6 => elet (25 + l1) fun v7 => oif (inb v7 2455 = true) <| elet (mf S6 13 (upd (S6.2.1 13) v7.toNatClampNeg 1)) fun S9 => elet (31 + l1) fun v10 => oif (inb v10 2455 = true) <| elet (mf S9 13 (upd (S9.2.1 13) v10.toNatClampNeg l3)) fun S12 => elet (37 + l1) fun v13 => oif (inb v13 2455 = true) <| elet (mf S12 13 (upd (S12.2.1 13) v13.toNatClampNeg l4)) fun S15 => elet (43 + l1) fun v16 => oif (inb v16 2455 = true) <| elet (mf S15 13 (upd (S15.2.1 13) v16.toNatClampNeg l5)) fun S18 => elet (49 + l1) fun v19 => oif (inb v19 2455 = true) <| elet (mf S18 13 (upd (S18.2.1 13) v19.toNatClampNeg l6)) fun S21 => elet (47 + l1) fun v22 => oif (inb v22 131 = true) <| elet (mf S21 11 (upd (S21.2.1 11) v22.toNatClampNeg l2)) fun S24 => elet (53 + l1) fun v25 => oif (inb v25 131 = true) <| elet (mf S24 11 (upd (S24.2.1 11) v25.toNatClampNeg l7)) fun S27 => elet (59 + l1) fun v28 => oif (inb v28 131 = true) <| elet (mf S27 11 (upd (S27.2.1 11) v28.toNatClampNeg l8)) fun S30 => elet (65 + l1) fun v31 => oif (inb v31 131 = true) <| elet (mf S30 11 (upd (S30.2.1 11) v31.toNatClampNeg l9)) fun S33 => elet (S33.2.1 11 5) fun v34 => elet (v34 + 1) fun v35 => elet (mf S33 11 (upd (S33.2.1 11) 5 v35)) fun S36 => some S36) else (some S)
set_option maxHeartbeats 4000000 in
set_option maxRecDepth 100000 in
theorem tr_readSource_b186 {p : Program} {l : Launch} {e : Env} {s : State} {m : MethodId} {args : Array Value} {below : List Frame} {meth : Method} {c : Code} {Q : State → Prop} {D : va_G} {A : Nat → Prop} {cI cJ cZ : ClassId} {ad : Nat → Nat} {S1 : MS} (E : mE p c cX12_readSource s m args (Cond.code yX12_readSource cX12_readSource 11 none :: wsM) D cI cJ cZ) (hA : ∀ q : Nat, s.heap.size ≤ q → A q) (hR : sR s) (hml : c.maxLocals = 11) {h0 : Nat} (hA0 : ∀ a : Nat, A a → h0 ≤ a) (hT : sAll h0 s) (kr195 : ∀ (H : Heap) (locs : List Loc) (ls : Array Slot), mG D cI cJ cZ ad A s.heap H locs S1 → W p l e { frames := 7, cells := 0, slots := 0, locals := 131 } s m args below meth c H locs 0 0 Q (F0 m 195 ls [])) (kr313 : ∀ (H : Heap) (locs : List Loc) (ls : Array Slot), mG D cI cJ cZ ad A s.heap H locs S1 → W p l e { frames := 7, cells := 0, slots := 0, locals := 131 } s m args below meth c H locs 0 0 Q (F0 m 313 ls [])) : ∀ (S : MS) (H : Heap) (locs : List Loc) (ls : Array Slot) (s0 : Int32) (l1 : Int32) (l2 : Int32) (l3 : Int32) (l4 : Int32) (l5 : Int32) (l6 : Int32) (l7 : Int32) (l8 : Int32) (l9 : Int32), fr_readSource_b186 S s0 l1 l2 l3 l4 l5 l6 l7 l8 l9 = some S1 → mG D cI cJ cZ ad A s.heap H locs S → lv_has ls 11 [(0, .ref (ad 0)), (1, .int l1), (2, .int l2), (3, .int l3), (4, .int l4), (5, .int l5), (6, .int l6), (7, .int l7), (8, .int l8), (9, .int l9)] → W p l e { frames := 7, cells := 0, slots := 0, locals := 131 } s m args below meth c H locs 0 0 Q (F0 m 186 ls [.int s0]) := by
  have hx := E.1
  have hb := E.2.1
  have hts := E.2.2.1
  have hown := E.2.2.2.1
  have hK := E.2.2.2.2.1
  intro S H locs ls s0 l1 l2 l3 l4 l5 l6 l7 l8 l9 h G hl
  unfold fr_readSource_b186 at h
  refine lv_istore (lv' := [(10, .int s0), (0, .ref (ad 0)), (1, .int l1), (2, .int l2), (3, .int l3), (4, .int l4), (5, .int l5), (6, .int l6), (7, .int l7), (8, .int l8), (9, .int l9)]) hx hb dX12_readSource_186 hl (by decide) rfl (fun ls hl => ?_)
  refine lv_aload_n hx hb dX12_readSource_188 rfl (lv_at hl 1 rfl) ?_
  refine m_get E G 5 (v := .int (S.1 5)) (by decide) (.tail _ qM_38) rfl dX12_readSource_189 rfl ?_
  refine lv_topi (fun v2 ev2 => ?_)
  have h := elet_at ev2 h
  clear ev2
  refine lv_if_le (tgt := 196) hx hb dX12_readSource_192 (by decide) (fun c3 => ?_) (fun c3 => ?_)
  · have h := oif_pos c3 h
    refine lv_aload_n hx hb dX12_readSource_196 rfl (lv_at hl 1 rfl) ?_
    refine m_get E G 11 (v := .ref (ad 11)) (by decide) (.tail _ qM_8) rfl dX12_readSource_197 rfl ?_
    refine lv_bipush (v := 95) hx hb dX12_readSource_200 (by decide) ?_
    refine lv_iload_n hx hb dX12_readSource_202 rfl (lv_at hl 2 rfl) ?_
    refine lv_iadd hx hb dX12_readSource_203 ?_
    refine lv_topi (fun v4 ev4 => ?_)
    have h := elet_at ev4 h
    clear ev4
    refine lv_iload hx hb dX12_readSource_204 (lv_at hl 0 rfl) ?_
    obtain ⟨g5, h⟩ := oif_some h
    refine m_iast E G 11 3 (k := v4.toNatClampNeg) (v := s0) rfl (fun _ => rfl) (inb_k g5).1 (inb_k g5).2 (by decide) dX12_readSource_206 (fun H locs G => ?_)
    obtain ⟨S6, eS6, h⟩ := elet_some h
    rw [← eS6] at G
    clear eS6
    refine lv_aload_n hx hb dX12_readSource_207 rfl (lv_at hl 1 rfl) ?_
    refine m_get E G 13 (v := .ref (ad 13)) (by decide) (.tail _ qM_10) rfl dX12_readSource_208 rfl ?_
    refine lv_bipush (v := 25) hx hb dX12_readSource_211 (by decide) ?_
    refine lv_iload_n hx hb dX12_readSource_213 rfl (lv_at hl 2 rfl) ?_
    refine lv_iadd hx hb dX12_readSource_214 ?_
    refine lv_topi (fun v7 ev7 => ?_)
    have h := elet_at ev7 h
    clear ev7
    refine lv_iconst (v := 1) hx hb dX12_readSource_215 (by decide) ?_
    obtain ⟨g8, h⟩ := oif_some h
    refine m_iast E G 13 5 (k := v7.toNatClampNeg) (v := 1) rfl (fun _ => rfl) (inb_k g8).1 (inb_k g8).2 (by decide) dX12_readSource_216 (fun H locs G => ?_)
    obtain ⟨S9, eS9, h⟩ := elet_some h
    rw [← eS9] at G
    clear eS9
    refine lv_aload_n hx hb dX12_readSource_217 rfl (lv_at hl 1 rfl) ?_
    refine m_get E G 13 (v := .ref (ad 13)) (by decide) (.tail _ qM_10) rfl dX12_readSource_218 rfl ?_
    refine lv_bipush (v := 31) hx hb dX12_readSource_221 (by decide) ?_
    refine lv_iload_n hx hb dX12_readSource_223 rfl (lv_at hl 2 rfl) ?_
    refine lv_iadd hx hb dX12_readSource_224 ?_
    refine lv_topi (fun v10 ev10 => ?_)
    have h := elet_at ev10 h
    clear ev10
    refine lv_iload_n hx hb dX12_readSource_225 rfl (lv_at hl 4 rfl) ?_
    obtain ⟨g11, h⟩ := oif_some h
    refine m_iast E G 13 5 (k := v10.toNatClampNeg) (v := l3) rfl (fun _ => rfl) (inb_k g11).1 (inb_k g11).2 (by decide) dX12_readSource_226 (fun H locs G => ?_)
    obtain ⟨S12, eS12, h⟩ := elet_some h
    rw [← eS12] at G
    clear eS12
    refine lv_aload_n hx hb dX12_readSource_227 rfl (lv_at hl 1 rfl) ?_
    refine m_get E G 13 (v := .ref (ad 13)) (by decide) (.tail _ qM_10) rfl dX12_readSource_228 rfl ?_
    refine lv_bipush (v := 37) hx hb dX12_readSource_231 (by decide) ?_
    refine lv_iload_n hx hb dX12_readSource_233 rfl (lv_at hl 2 rfl) ?_
    refine lv_iadd hx hb dX12_readSource_234 ?_
    refine lv_topi (fun v13 ev13 => ?_)
    have h := elet_at ev13 h
    clear ev13
    refine lv_iload hx hb dX12_readSource_235 (lv_at hl 5 rfl) ?_
    obtain ⟨g14, h⟩ := oif_some h
    refine m_iast E G 13 5 (k := v13.toNatClampNeg) (v := l4) rfl (fun _ => rfl) (inb_k g14).1 (inb_k g14).2 (by decide) dX12_readSource_237 (fun H locs G => ?_)
    obtain ⟨S15, eS15, h⟩ := elet_some h
    rw [← eS15] at G
    clear eS15
    refine lv_aload_n hx hb dX12_readSource_238 rfl (lv_at hl 1 rfl) ?_
    refine m_get E G 13 (v := .ref (ad 13)) (by decide) (.tail _ qM_10) rfl dX12_readSource_239 rfl ?_
    refine lv_bipush (v := 43) hx hb dX12_readSource_242 (by decide) ?_
    refine lv_iload_n hx hb dX12_readSource_244 rfl (lv_at hl 2 rfl) ?_
    refine lv_iadd hx hb dX12_readSource_245 ?_
    refine lv_topi (fun v16 ev16 => ?_)
    have h := elet_at ev16 h
    clear ev16
    refine lv_iload hx hb dX12_readSource_246 (lv_at hl 6 rfl) ?_
    obtain ⟨g17, h⟩ := oif_some h
    refine m_iast E G 13 5 (k := v16.toNatClampNeg) (v := l5) rfl (fun _ => rfl) (inb_k g17).1 (inb_k g17).2 (by decide) dX12_readSource_248 (fun H locs G => ?_)
    obtain ⟨S18, eS18, h⟩ := elet_some h
    rw [← eS18] at G
    clear eS18
    refine lv_aload_n hx hb dX12_readSource_249 rfl (lv_at hl 1 rfl) ?_
    refine m_get E G 13 (v := .ref (ad 13)) (by decide) (.tail _ qM_10) rfl dX12_readSource_250 rfl ?_
    refine lv_bipush (v := 49) hx hb dX12_readSource_253 (by decide) ?_
    refine lv_iload_n hx hb dX12_readSource_255 rfl (lv_at hl 2 rfl) ?_
    refine lv_iadd hx hb dX12_readSource_256 ?_
    refine lv_topi (fun v19 ev19 => ?_)
    have h := elet_at ev19 h
    clear ev19
    refine lv_iload hx hb dX12_readSource_257 (lv_at hl 7 rfl) ?_
    obtain ⟨g20, h⟩ := oif_some h
    refine m_iast E G 13 5 (k := v19.toNatClampNeg) (v := l6) rfl (fun _ => rfl) (inb_k g20).1 (inb_k g20).2 (by decide) dX12_readSource_259 (fun H locs G => ?_)
    obtain ⟨S21, eS21, h⟩ := elet_some h
    rw [← eS21] at G
    clear eS21
    refine lv_aload_n hx hb dX12_readSource_260 rfl (lv_at hl 1 rfl) ?_
    refine m_get E G 11 (v := .ref (ad 11)) (by decide) (.tail _ qM_8) rfl dX12_readSource_261 rfl ?_
    refine lv_bipush (v := 47) hx hb dX12_readSource_264 (by decide) ?_
    refine lv_iload_n hx hb dX12_readSource_266 rfl (lv_at hl 2 rfl) ?_
    refine lv_iadd hx hb dX12_readSource_267 ?_
    refine lv_topi (fun v22 ev22 => ?_)
    have h := elet_at ev22 h
    clear ev22
    refine lv_iload_n hx hb dX12_readSource_268 rfl (lv_at hl 3 rfl) ?_
    obtain ⟨g23, h⟩ := oif_some h
    refine m_iast E G 11 3 (k := v22.toNatClampNeg) (v := l2) rfl (fun _ => rfl) (inb_k g23).1 (inb_k g23).2 (by decide) dX12_readSource_269 (fun H locs G => ?_)
    obtain ⟨S24, eS24, h⟩ := elet_some h
    rw [← eS24] at G
    clear eS24
    refine lv_aload_n hx hb dX12_readSource_270 rfl (lv_at hl 1 rfl) ?_
    refine m_get E G 11 (v := .ref (ad 11)) (by decide) (.tail _ qM_8) rfl dX12_readSource_271 rfl ?_
    refine lv_bipush (v := 53) hx hb dX12_readSource_274 (by decide) ?_
    refine lv_iload_n hx hb dX12_readSource_276 rfl (lv_at hl 2 rfl) ?_
    refine lv_iadd hx hb dX12_readSource_277 ?_
    refine lv_topi (fun v25 ev25 => ?_)
    have h := elet_at ev25 h
    clear ev25
    refine lv_iload hx hb dX12_readSource_278 (lv_at hl 8 rfl) ?_
    obtain ⟨g26, h⟩ := oif_some h
    refine m_iast E G 11 3 (k := v25.toNatClampNeg) (v := l7) rfl (fun _ => rfl) (inb_k g26).1 (inb_k g26).2 (by decide) dX12_readSource_280 (fun H locs G => ?_)
    obtain ⟨S27, eS27, h⟩ := elet_some h
    rw [← eS27] at G
    clear eS27
    refine lv_aload_n hx hb dX12_readSource_281 rfl (lv_at hl 1 rfl) ?_
    refine m_get E G 11 (v := .ref (ad 11)) (by decide) (.tail _ qM_8) rfl dX12_readSource_282 rfl ?_
    refine lv_bipush (v := 59) hx hb dX12_readSource_285 (by decide) ?_
    refine lv_iload_n hx hb dX12_readSource_287 rfl (lv_at hl 2 rfl) ?_
    refine lv_iadd hx hb dX12_readSource_288 ?_
    refine lv_topi (fun v28 ev28 => ?_)
    have h := elet_at ev28 h
    clear ev28
    refine lv_iload hx hb dX12_readSource_289 (lv_at hl 9 rfl) ?_
    obtain ⟨g29, h⟩ := oif_some h
    refine m_iast E G 11 3 (k := v28.toNatClampNeg) (v := l8) rfl (fun _ => rfl) (inb_k g29).1 (inb_k g29).2 (by decide) dX12_readSource_291 (fun H locs G => ?_)
    obtain ⟨S30, eS30, h⟩ := elet_some h
    rw [← eS30] at G
    clear eS30
    refine lv_aload_n hx hb dX12_readSource_292 rfl (lv_at hl 1 rfl) ?_
    refine m_get E G 11 (v := .ref (ad 11)) (by decide) (.tail _ qM_8) rfl dX12_readSource_293 rfl ?_
    refine lv_bipush (v := 65) hx hb dX12_readSource_296 (by decide) ?_
    refine lv_iload_n hx hb dX12_readSource_298 rfl (lv_at hl 2 rfl) ?_
    refine lv_iadd hx hb dX12_readSource_299 ?_
    refine lv_topi (fun v31 ev31 => ?_)
    have h := elet_at ev31 h
    clear ev31
    refine lv_iload hx hb dX12_readSource_300 (lv_at hl 10 rfl) ?_
    obtain ⟨g32, h⟩ := oif_some h
    refine m_iast E G 11 3 (k := v31.toNatClampNeg) (v := l9) rfl (fun _ => rfl) (inb_k g32).1 (inb_k g32).2 (by decide) dX12_readSource_302 (fun H locs G => ?_)
    obtain ⟨S33, eS33, h⟩ := elet_some h
    rw [← eS33] at G
    clear eS33
    refine lv_aload_n hx hb dX12_readSource_303 rfl (lv_at hl 1 rfl) ?_
    refine m_get E G 11 (v := .ref (ad 11)) (by decide) (.tail _ qM_8) rfl dX12_readSource_304 rfl ?_
    refine lv_iconst (v := 5) hx hb dX12_readSource_307 (by decide) ?_
    refine lv_dup2_11 hx hb dX12_readSource_308 rfl rfl ?_
    refine m_iald E G 11 3 (n := 131) (k := 5) rfl rfl (by decide) (by decide) dX12_readSource_309 ?_
    refine lv_topi (fun v34 ev34 => ?_)
    have h := elet_at ev34 h
    clear ev34
    refine lv_iconst (v := 1) hx hb dX12_readSource_310 (by decide) ?_
    refine lv_iadd hx hb dX12_readSource_311 ?_
    refine lv_topi (fun v35 ev35 => ?_)
    have h := elet_at ev35 h
    clear ev35
    refine m_iast E G 11 3 (k := 5) (v := v35) rfl (fun _ => rfl) rfl (by decide) (by decide) dX12_readSource_312 (fun H locs G => ?_)
    obtain ⟨S36, eS36, h⟩ := elet_some h
    rw [← eS36] at G
    clear eS36
    rw [osome1 h] at G
    exact kr313 _ _ _ G
  · have h := oif_neg c3 h
    rw [osome1 h] at G
    exact kr195 _ _ _ G
def fr_readSource_b86  (S : MS) (l1 : Int32) (l2 : Int32) : Option (MS) := obind (fr_nextToken S) fun S2 => obind2 (fr_signed S2 (-2000) 2000) fun r8 S5 => obind2 (fr_signed S5 (-2000) 2000) fun r12 S9 => obind2 (fr_signed S9 (-999) 999) fun r16 S13 => obind2 (fr_signed S13 (-999) 999) fun r20 S17 => obind2 (fr_number S17 1 999) fun r24 S21 => obind2 (fr_number S21 2 99) fun r28 S25 => obind2 (fr_number S25 0 99) fun r32 S29 => obind2 (fr_takes S29 (sTx "from")) fun r37 S34 => if r37 = 0 then (fr_readSource_b186 S34 0 l1 l2 r8 r12 r16 r20 r24 r28 r32) else (obind2 (fr_number S34 0 199) fun r42 S39 => fr_readSource_b186 S39 r42 l1 l2 r8 r12 r16 r20 r24 r28 r32)
set_option maxHeartbeats 4000000 in
set_option maxRecDepth 100000 in
theorem tr_readSource_b86 {p : Program} {l : Launch} {e : Env} {s : State} {m : MethodId} {args : Array Value} {below : List Frame} {meth : Method} {c : Code} {Q : State → Prop} {D : va_G} {A : Nat → Prop} {cI cJ cZ : ClassId} {ad : Nat → Nat} {S1 : MS} (E : mE p c cX12_readSource s m args (Cond.code yX12_readSource cX12_readSource 11 none :: wsM) D cI cJ cZ) (hA : ∀ q : Nat, s.heap.size ≤ q → A q) (hR : sR s) (hml : c.maxLocals = 11) {h0 : Nat} (hA0 : ∀ a : Nat, A a → h0 ≤ a) (hT : sAll h0 s) (kr195 : ∀ (H : Heap) (locs : List Loc) (ls : Array Slot), mG D cI cJ cZ ad A s.heap H locs S1 → W p l e { frames := 7, cells := 0, slots := 0, locals := 131 } s m args below meth c H locs 0 0 Q (F0 m 195 ls [])) (kr313 : ∀ (H : Heap) (locs : List Loc) (ls : Array Slot), mG D cI cJ cZ ad A s.heap H locs S1 → W p l e { frames := 7, cells := 0, slots := 0, locals := 131 } s m args below meth c H locs 0 0 Q (F0 m 313 ls [])) : ∀ (S : MS) (H : Heap) (locs : List Loc) (ls : Array Slot) (l1 : Int32) (l2 : Int32), fr_readSource_b86 S l1 l2 = some S1 → mG D cI cJ cZ ad A s.heap H locs S → lv_has ls 11 [(0, .ref (ad 0)), (1, .int l1), (2, .int l2)] → W p l e { frames := 7, cells := 0, slots := 0, locals := 131 } s m args below meth c H locs 0 0 Q (F0 m 86 ls []) := by
  have hx := E.1
  have hb := E.2.1
  have hts := E.2.2.1
  have hown := E.2.2.2.1
  have hK := E.2.2.2.2.1
  intro S H locs ls l1 l2 h G hl
  unfold fr_readSource_b86 at h
  refine lv_aload_n hx hb dX12_readSource_86 rfl (lv_at hl 0 rfl) ?_
  obtain ⟨S2, eS2, h⟩ := obind_some h
  refine m_callv (As := []) (rest := []) E G hA hR hml (tr_nextToken l D cI cJ cZ ad S eS2) (cwV 0 hts (gmV qM_111 qM_112 qM_113 qM_35 qM_45) rfl rfl rfl (by decide +kernel) ⟨Nat.le_of_ble_eq_true rfl, Nat.le_of_ble_eq_true rfl⟩) rfl hl.1 rfl (lv_room (Nat.le_of_ble_eq_true rfl)) dX12_readSource_87 ⟨Nat.zero_le _, Nat.zero_le _⟩ (fun S4 H locs hq G => ?_)
  rw [hq] at G
  clear hq eS2
  refine lv_aload_n hx hb dX12_readSource_90 rfl (lv_at hl 0 rfl) ?_
  refine lv_sipush (v := (-2000)) hx hb dX12_readSource_91 (by decide) ?_
  refine lv_sipush (v := 2000) hx hb dX12_readSource_94 (by decide) ?_
  obtain ⟨r8, S5, eS5, h⟩ := obind2_some h
  refine m_calli (As := [.int (-2000), .int 2000]) (rest := []) E G hA hR hml (tr_signed l D cI cJ cZ ad S2 (-2000) 2000 eS5) (cwV 2 hts (gmV qM_142 qM_143 qM_144 qM_35 qM_133) rfl rfl rfl (by decide +kernel) ⟨Nat.le_of_ble_eq_true rfl, Nat.le_of_ble_eq_true rfl⟩) rfl hl.1 rfl (lv_room (Nat.le_of_ble_eq_true rfl)) dX12_readSource_97 ⟨Nat.zero_le _, Nat.zero_le _⟩ (fun q6 S7 H locs hq G => ?_)
  obtain ⟨hq1, hq2⟩ := hq
  rw [hq2] at G
  refine lv_to hq1 ?_
  clear hq1 hq2 eS5
  refine lv_istore_n (lv' := [(3, .int r8), (0, .ref (ad 0)), (1, .int l1), (2, .int l2)]) hx hb dX12_readSource_100 rfl hl (by decide) rfl (fun ls hl => ?_)
  refine lv_aload_n hx hb dX12_readSource_101 rfl (lv_at hl 1 rfl) ?_
  refine lv_sipush (v := (-2000)) hx hb dX12_readSource_102 (by decide) ?_
  refine lv_sipush (v := 2000) hx hb dX12_readSource_105 (by decide) ?_
  obtain ⟨r12, S9, eS9, h⟩ := obind2_some h
  refine m_calli (As := [.int (-2000), .int 2000]) (rest := []) E G hA hR hml (tr_signed l D cI cJ cZ ad S5 (-2000) 2000 eS9) (cwV 2 hts (gmV qM_142 qM_143 qM_144 qM_35 qM_133) rfl rfl rfl (by decide +kernel) ⟨Nat.le_of_ble_eq_true rfl, Nat.le_of_ble_eq_true rfl⟩) rfl hl.1 rfl (lv_room (Nat.le_of_ble_eq_true rfl)) dX12_readSource_108 ⟨Nat.zero_le _, Nat.zero_le _⟩ (fun q10 S11 H locs hq G => ?_)
  obtain ⟨hq1, hq2⟩ := hq
  rw [hq2] at G
  refine lv_to hq1 ?_
  clear hq1 hq2 eS9
  refine lv_istore (lv' := [(4, .int r12), (3, .int r8), (0, .ref (ad 0)), (1, .int l1), (2, .int l2)]) hx hb dX12_readSource_111 hl (by decide) rfl (fun ls hl => ?_)
  refine lv_aload_n hx hb dX12_readSource_113 rfl (lv_at hl 2 rfl) ?_
  refine lv_sipush (v := (-999)) hx hb dX12_readSource_114 (by decide) ?_
  refine lv_sipush (v := 999) hx hb dX12_readSource_117 (by decide) ?_
  obtain ⟨r16, S13, eS13, h⟩ := obind2_some h
  refine m_calli (As := [.int (-999), .int 999]) (rest := []) E G hA hR hml (tr_signed l D cI cJ cZ ad S9 (-999) 999 eS13) (cwV 2 hts (gmV qM_142 qM_143 qM_144 qM_35 qM_133) rfl rfl rfl (by decide +kernel) ⟨Nat.le_of_ble_eq_true rfl, Nat.le_of_ble_eq_true rfl⟩) rfl hl.1 rfl (lv_room (Nat.le_of_ble_eq_true rfl)) dX12_readSource_120 ⟨Nat.zero_le _, Nat.zero_le _⟩ (fun q14 S15 H locs hq G => ?_)
  obtain ⟨hq1, hq2⟩ := hq
  rw [hq2] at G
  refine lv_to hq1 ?_
  clear hq1 hq2 eS13
  refine lv_istore (lv' := [(5, .int r16), (4, .int r12), (3, .int r8), (0, .ref (ad 0)), (1, .int l1), (2, .int l2)]) hx hb dX12_readSource_123 hl (by decide) rfl (fun ls hl => ?_)
  refine lv_aload_n hx hb dX12_readSource_125 rfl (lv_at hl 3 rfl) ?_
  refine lv_sipush (v := (-999)) hx hb dX12_readSource_126 (by decide) ?_
  refine lv_sipush (v := 999) hx hb dX12_readSource_129 (by decide) ?_
  obtain ⟨r20, S17, eS17, h⟩ := obind2_some h
  refine m_calli (As := [.int (-999), .int 999]) (rest := []) E G hA hR hml (tr_signed l D cI cJ cZ ad S13 (-999) 999 eS17) (cwV 2 hts (gmV qM_142 qM_143 qM_144 qM_35 qM_133) rfl rfl rfl (by decide +kernel) ⟨Nat.le_of_ble_eq_true rfl, Nat.le_of_ble_eq_true rfl⟩) rfl hl.1 rfl (lv_room (Nat.le_of_ble_eq_true rfl)) dX12_readSource_132 ⟨Nat.zero_le _, Nat.zero_le _⟩ (fun q18 S19 H locs hq G => ?_)
  obtain ⟨hq1, hq2⟩ := hq
  rw [hq2] at G
  refine lv_to hq1 ?_
  clear hq1 hq2 eS17
  refine lv_istore (lv' := [(6, .int r20), (5, .int r16), (4, .int r12), (3, .int r8), (0, .ref (ad 0)), (1, .int l1), (2, .int l2)]) hx hb dX12_readSource_135 hl (by decide) rfl (fun ls hl => ?_)
  refine lv_aload_n hx hb dX12_readSource_137 rfl (lv_at hl 4 rfl) ?_
  refine lv_iconst (v := 1) hx hb dX12_readSource_138 (by decide) ?_
  refine lv_sipush (v := 999) hx hb dX12_readSource_139 (by decide) ?_
  obtain ⟨r24, S21, eS21, h⟩ := obind2_some h
  refine m_calli (As := [.int 1, .int 999]) (rest := []) E G hA hR hml (tr_number l D cI cJ cZ ad S17 1 999 eS21) (cwV 2 hts (gmV qM_130 qM_131 qM_132 qM_35 qM_122) rfl rfl rfl (by decide +kernel) ⟨Nat.le_of_ble_eq_true rfl, Nat.le_of_ble_eq_true rfl⟩) rfl hl.1 rfl (lv_room (Nat.le_of_ble_eq_true rfl)) dX12_readSource_142 ⟨Nat.zero_le _, Nat.zero_le _⟩ (fun q22 S23 H locs hq G => ?_)
  obtain ⟨hq1, hq2⟩ := hq
  rw [hq2] at G
  refine lv_to hq1 ?_
  clear hq1 hq2 eS21
  refine lv_istore (lv' := [(7, .int r24), (6, .int r20), (5, .int r16), (4, .int r12), (3, .int r8), (0, .ref (ad 0)), (1, .int l1), (2, .int l2)]) hx hb dX12_readSource_145 hl (by decide) rfl (fun ls hl => ?_)
  refine lv_aload_n hx hb dX12_readSource_147 rfl (lv_at hl 5 rfl) ?_
  refine lv_iconst (v := 2) hx hb dX12_readSource_148 (by decide) ?_
  refine lv_bipush (v := 99) hx hb dX12_readSource_149 (by decide) ?_
  obtain ⟨r28, S25, eS25, h⟩ := obind2_some h
  refine m_calli (As := [.int 2, .int 99]) (rest := []) E G hA hR hml (tr_number l D cI cJ cZ ad S21 2 99 eS25) (cwV 2 hts (gmV qM_130 qM_131 qM_132 qM_35 qM_122) rfl rfl rfl (by decide +kernel) ⟨Nat.le_of_ble_eq_true rfl, Nat.le_of_ble_eq_true rfl⟩) rfl hl.1 rfl (lv_room (Nat.le_of_ble_eq_true rfl)) dX12_readSource_151 ⟨Nat.zero_le _, Nat.zero_le _⟩ (fun q26 S27 H locs hq G => ?_)
  obtain ⟨hq1, hq2⟩ := hq
  rw [hq2] at G
  refine lv_to hq1 ?_
  clear hq1 hq2 eS25
  refine lv_istore (lv' := [(8, .int r28), (7, .int r24), (6, .int r20), (5, .int r16), (4, .int r12), (3, .int r8), (0, .ref (ad 0)), (1, .int l1), (2, .int l2)]) hx hb dX12_readSource_154 hl (by decide) rfl (fun ls hl => ?_)
  refine lv_aload_n hx hb dX12_readSource_156 rfl (lv_at hl 6 rfl) ?_
  refine lv_iconst (v := 0) hx hb dX12_readSource_157 (by decide) ?_
  refine lv_bipush (v := 99) hx hb dX12_readSource_158 (by decide) ?_
  obtain ⟨r32, S29, eS29, h⟩ := obind2_some h
  refine m_calli (As := [.int 0, .int 99]) (rest := []) E G hA hR hml (tr_number l D cI cJ cZ ad S25 0 99 eS29) (cwV 2 hts (gmV qM_130 qM_131 qM_132 qM_35 qM_122) rfl rfl rfl (by decide +kernel) ⟨Nat.le_of_ble_eq_true rfl, Nat.le_of_ble_eq_true rfl⟩) rfl hl.1 rfl (lv_room (Nat.le_of_ble_eq_true rfl)) dX12_readSource_160 ⟨Nat.zero_le _, Nat.zero_le _⟩ (fun q30 S31 H locs hq G => ?_)
  obtain ⟨hq1, hq2⟩ := hq
  rw [hq2] at G
  refine lv_to hq1 ?_
  clear hq1 hq2 eS29
  refine lv_istore (lv' := [(9, .int r32), (8, .int r28), (7, .int r24), (6, .int r20), (5, .int r16), (4, .int r12), (3, .int r8), (0, .ref (ad 0)), (1, .int l1), (2, .int l2)]) hx hb dX12_readSource_163 hl (by decide) rfl (fun ls hl => ?_)
  refine lv_aload_n hx hb dX12_readSource_165 rfl (lv_at hl 7 rfl) ?_
  obtain ⟨w33, hw33, ow33⟩ := hT.1 ("AcousticCameraModel", 169, "from") (List.mem_of_getElem? (i := 39) rfl)
  refine va_ldcS hx hb hown hw33 dX12_readSource_166 ?_
  obtain ⟨r37, S34, eS34, h⟩ := obind2_some h
  refine m_calliX (As := [.ref w33]) (rest := []) E G hA hR hml (tr_takes l D cI cJ cZ ad S29 h0 (q := w33) (sTx_ok (by decide +kernel)) eS34) (cwV 1 hts (gmV qM_115 qM_116 qM_117 qM_35 qM_107) rfl rfl rfl (by decide +kernel) ⟨Nat.le_of_ble_eq_true rfl, Nat.le_of_ble_eq_true rfl⟩) rfl hl.1 rfl (lv_room (Nat.le_of_ble_eq_true rfl)) dX12_readSource_168 ⟨Nat.zero_le _, Nat.zero_le _⟩ (xT1.blind) (xT1.go hT hA0 hA G ow33) (fun q35 S36 H locs hq G => ?_)
  obtain ⟨hq1, hq2⟩ := hq
  rw [hq2] at G
  refine lv_to hq1 ?_
  clear hq1 hq2 eS34
  refine lv_if_eq (tgt := 185) hx hb dX12_readSource_171 (by decide) (fun c38 => ?_) (fun c38 => ?_)
  · have h := oif_pos c38 h
    refine lv_iconst (v := 0) hx hb dX12_readSource_185 (by decide) ?_
    have hl := lv_sub hl [7, 8, 9, 6, 5, 4, 3, 2, 1, 0] rfl
    exact tr_readSource_b186 E hA hR hml hA0 hT kr195 kr313 _ _ _ _ _ _ _ _ _ _ _ _ _ _ h G hl
  · have h := oif_neg c38 h
    refine lv_aload_n hx hb dX12_readSource_174 rfl (lv_at hl 7 rfl) ?_
    refine lv_iconst (v := 0) hx hb dX12_readSource_175 (by decide) ?_
    refine lv_sipush (v := 199) hx hb dX12_readSource_176 (by decide) ?_
    obtain ⟨r42, S39, eS39, h⟩ := obind2_some h
    refine m_calli (As := [.int 0, .int 199]) (rest := []) E G hA hR hml (tr_number l D cI cJ cZ ad S34 0 199 eS39) (cwV 2 hts (gmV qM_130 qM_131 qM_132 qM_35 qM_122) rfl rfl rfl (by decide +kernel) ⟨Nat.le_of_ble_eq_true rfl, Nat.le_of_ble_eq_true rfl⟩) rfl hl.1 rfl (lv_room (Nat.le_of_ble_eq_true rfl)) dX12_readSource_179 ⟨Nat.zero_le _, Nat.zero_le _⟩ (fun q40 S41 H locs hq G => ?_)
    obtain ⟨hq1, hq2⟩ := hq
    rw [hq2] at G
    refine lv_to hq1 ?_
    clear hq1 hq2 eS39
    refine lv_goto (tgt := 186) hx hb dX12_readSource_182 (by decide) ?_
    have hl := lv_sub hl [7, 8, 9, 6, 5, 4, 3, 2, 1, 0] rfl
    exact tr_readSource_b186 E hA hR hml hA0 hT kr195 kr313 _ _ _ _ _ _ _ _ _ _ _ _ _ _ h G hl
def fr_readSource_b75  (S : MS) (s0 : Int32) (l1 : Int32) : Option (MS) := if s0 = (-1) then (obind (fr_faults S 1) fun S3 => fr_readSource_b86 S3 l1 s0) else (fr_readSource_b86 S l1 s0)
set_option maxHeartbeats 4000000 in
set_option maxRecDepth 100000 in
theorem tr_readSource_b75 {p : Program} {l : Launch} {e : Env} {s : State} {m : MethodId} {args : Array Value} {below : List Frame} {meth : Method} {c : Code} {Q : State → Prop} {D : va_G} {A : Nat → Prop} {cI cJ cZ : ClassId} {ad : Nat → Nat} {S1 : MS} (E : mE p c cX12_readSource s m args (Cond.code yX12_readSource cX12_readSource 11 none :: wsM) D cI cJ cZ) (hA : ∀ q : Nat, s.heap.size ≤ q → A q) (hR : sR s) (hml : c.maxLocals = 11) {h0 : Nat} (hA0 : ∀ a : Nat, A a → h0 ≤ a) (hT : sAll h0 s) (kr195 : ∀ (H : Heap) (locs : List Loc) (ls : Array Slot), mG D cI cJ cZ ad A s.heap H locs S1 → W p l e { frames := 7, cells := 0, slots := 0, locals := 131 } s m args below meth c H locs 0 0 Q (F0 m 195 ls [])) (kr313 : ∀ (H : Heap) (locs : List Loc) (ls : Array Slot), mG D cI cJ cZ ad A s.heap H locs S1 → W p l e { frames := 7, cells := 0, slots := 0, locals := 131 } s m args below meth c H locs 0 0 Q (F0 m 313 ls [])) : ∀ (S : MS) (H : Heap) (locs : List Loc) (ls : Array Slot) (s0 : Int32) (l1 : Int32), fr_readSource_b75 S s0 l1 = some S1 → mG D cI cJ cZ ad A s.heap H locs S → lv_has ls 11 [(0, .ref (ad 0)), (1, .int l1)] → W p l e { frames := 7, cells := 0, slots := 0, locals := 131 } s m args below meth c H locs 0 0 Q (F0 m 75 ls [.int s0]) := by
  have hx := E.1
  have hb := E.2.1
  have hts := E.2.2.1
  have hown := E.2.2.2.1
  have hK := E.2.2.2.2.1
  intro S H locs ls s0 l1 h G hl
  unfold fr_readSource_b75 at h
  refine lv_istore_n (lv' := [(2, .int s0), (0, .ref (ad 0)), (1, .int l1)]) hx hb dX12_readSource_75 rfl hl (by decide) rfl (fun ls hl => ?_)
  refine lv_iload_n hx hb dX12_readSource_76 rfl (lv_at hl 0 rfl) ?_
  refine lv_iconst (v := (-1)) hx hb dX12_readSource_77 (by decide) ?_
  refine lv_icmp_ne (tgt := 86) hx hb dX12_readSource_78 (by decide) (fun c2 => ?_) (fun c2 => ?_)
  · have h := oif_neg c2 h
    have hl := lv_sub hl [1, 2, 0] rfl
    exact tr_readSource_b86 E hA hR hml hA0 hT kr195 kr313 _ _ _ _ _ _ h G hl
  · have h := oif_pos c2 h
    refine lv_aload_n hx hb dX12_readSource_81 rfl (lv_at hl 1 rfl) ?_
    refine lv_iconst (v := 1) hx hb dX12_readSource_82 (by decide) ?_
    obtain ⟨S3, eS3, h⟩ := obind_some h
    refine m_callv (As := [.int 1]) (rest := []) E G hA hR hml (tr_faults l D cI cJ cZ ad S 1 eS3) (cwV 1 hts (gmV qM_118 qM_119 qM_120 qM_35 qM_42) rfl rfl rfl (by decide +kernel) ⟨Nat.le_of_ble_eq_true rfl, Nat.le_of_ble_eq_true rfl⟩) rfl hl.1 rfl (lv_room (Nat.le_of_ble_eq_true rfl)) dX12_readSource_83 ⟨Nat.zero_le _, Nat.zero_le _⟩ (fun S5 H locs hq G => ?_)
    rw [hq] at G
    clear hq eS3
    have hl := lv_sub hl [1, 2, 0] rfl
    exact tr_readSource_b86 E hA hR hml hA0 hT kr195 kr313 _ _ _ _ _ _ h G hl
def fr_readSource_b18  (S : MS) (l1 : Int32) : Option (MS) := obind (fr_nextToken S) fun S2 => obind2 (fr_isWord S2 (sTx "square")) fun r9 S6 => if r9 = 0 then (obind2 (fr_isWord S6 (sTx "triangle")) fun r15 S12 => if r15 = 0 then (obind2 (fr_isWord S12 (sTx "pulse")) fun r21 S18 => if r21 = 0 then (obind2 (fr_isWord S18 (sTx "noise")) fun r27 S24 => if r27 = 0 then (fr_readSource_b75 S24 (-1) l1) else (fr_readSource_b75 S24 3 l1)) else (fr_readSource_b75 S18 2 l1)) else (fr_readSource_b75 S12 1 l1)) else (fr_readSource_b75 S6 0 l1)
set_option maxHeartbeats 4000000 in
set_option maxRecDepth 100000 in
theorem tr_readSource_b18 {p : Program} {l : Launch} {e : Env} {s : State} {m : MethodId} {args : Array Value} {below : List Frame} {meth : Method} {c : Code} {Q : State → Prop} {D : va_G} {A : Nat → Prop} {cI cJ cZ : ClassId} {ad : Nat → Nat} {S1 : MS} (E : mE p c cX12_readSource s m args (Cond.code yX12_readSource cX12_readSource 11 none :: wsM) D cI cJ cZ) (hA : ∀ q : Nat, s.heap.size ≤ q → A q) (hR : sR s) (hml : c.maxLocals = 11) {h0 : Nat} (hA0 : ∀ a : Nat, A a → h0 ≤ a) (hT : sAll h0 s) (kr195 : ∀ (H : Heap) (locs : List Loc) (ls : Array Slot), mG D cI cJ cZ ad A s.heap H locs S1 → W p l e { frames := 7, cells := 0, slots := 0, locals := 131 } s m args below meth c H locs 0 0 Q (F0 m 195 ls [])) (kr313 : ∀ (H : Heap) (locs : List Loc) (ls : Array Slot), mG D cI cJ cZ ad A s.heap H locs S1 → W p l e { frames := 7, cells := 0, slots := 0, locals := 131 } s m args below meth c H locs 0 0 Q (F0 m 313 ls [])) : ∀ (S : MS) (H : Heap) (locs : List Loc) (ls : Array Slot) (l1 : Int32), fr_readSource_b18 S l1 = some S1 → mG D cI cJ cZ ad A s.heap H locs S → lv_has ls 11 [(0, .ref (ad 0)), (1, .int l1)] → W p l e { frames := 7, cells := 0, slots := 0, locals := 131 } s m args below meth c H locs 0 0 Q (F0 m 18 ls []) := by
  have hx := E.1
  have hb := E.2.1
  have hts := E.2.2.1
  have hown := E.2.2.2.1
  have hK := E.2.2.2.2.1
  intro S H locs ls l1 h G hl
  unfold fr_readSource_b18 at h
  refine lv_aload_n hx hb dX12_readSource_18 rfl (lv_at hl 0 rfl) ?_
  obtain ⟨S2, eS2, h⟩ := obind_some h
  refine m_callv (As := []) (rest := []) E G hA hR hml (tr_nextToken l D cI cJ cZ ad S eS2) (cwV 0 hts (gmV qM_111 qM_112 qM_113 qM_35 qM_45) rfl rfl rfl (by decide +kernel) ⟨Nat.le_of_ble_eq_true rfl, Nat.le_of_ble_eq_true rfl⟩) rfl hl.1 rfl (lv_room (Nat.le_of_ble_eq_true rfl)) dX12_readSource_19 ⟨Nat.zero_le _, Nat.zero_le _⟩ (fun S4 H locs hq G => ?_)
  rw [hq] at G
  clear hq eS2
  refine lv_aload_n hx hb dX12_readSource_22 rfl (lv_at hl 0 rfl) ?_
  obtain ⟨w5, hw5, ow5⟩ := hT.1 ("AcousticCameraModel", 161, "square") (List.mem_of_getElem? (i := 35) rfl)
  refine va_ldcS hx hb hown hw5 dX12_readSource_23 ?_
  obtain ⟨r9, S6, eS6, h⟩ := obind2_some h
  refine m_calliX (As := [.ref w5]) (rest := []) E G hA hR hml (tr_isWord l D cI cJ cZ ad S2 h0 (q := w5) (sTx_ok (by decide +kernel)) eS6) (cwV 1 hts (gmV qM_108 qM_109 qM_110 qM_35 qM_57) rfl rfl rfl (by decide +kernel) ⟨Nat.le_of_ble_eq_true rfl, Nat.le_of_ble_eq_true rfl⟩) rfl hl.1 rfl (lv_room (Nat.le_of_ble_eq_true rfl)) dX12_readSource_25 ⟨Nat.zero_le _, Nat.zero_le _⟩ (xT1.blind) (xT1.go hT hA0 hA G ow5) (fun q7 S8 H locs hq G => ?_)
  obtain ⟨hq1, hq2⟩ := hq
  rw [hq2] at G
  refine lv_to hq1 ?_
  clear hq1 hq2 eS6
  refine lv_if_eq (tgt := 35) hx hb dX12_readSource_28 (by decide) (fun c10 => ?_) (fun c10 => ?_)
  · have h := oif_pos c10 h
    refine lv_aload_n hx hb dX12_readSource_35 rfl (lv_at hl 0 rfl) ?_
    obtain ⟨w11, hw11, ow11⟩ := hT.1 ("AcousticCameraModel", 163, "triangle") (List.mem_of_getElem? (i := 36) rfl)
    refine va_ldcS hx hb hown hw11 dX12_readSource_36 ?_
    obtain ⟨r15, S12, eS12, h⟩ := obind2_some h
    refine m_calliX (As := [.ref w11]) (rest := []) E G hA hR hml (tr_isWord l D cI cJ cZ ad S6 h0 (q := w11) (sTx_ok (by decide +kernel)) eS12) (cwV 1 hts (gmV qM_108 qM_109 qM_110 qM_35 qM_57) rfl rfl rfl (by decide +kernel) ⟨Nat.le_of_ble_eq_true rfl, Nat.le_of_ble_eq_true rfl⟩) rfl hl.1 rfl (lv_room (Nat.le_of_ble_eq_true rfl)) dX12_readSource_38 ⟨Nat.zero_le _, Nat.zero_le _⟩ (xT1.blind) (xT1.go hT hA0 hA G ow11) (fun q13 S14 H locs hq G => ?_)
    obtain ⟨hq1, hq2⟩ := hq
    rw [hq2] at G
    refine lv_to hq1 ?_
    clear hq1 hq2 eS12
    refine lv_if_eq (tgt := 48) hx hb dX12_readSource_41 (by decide) (fun c16 => ?_) (fun c16 => ?_)
    · have h := oif_pos c16 h
      refine lv_aload_n hx hb dX12_readSource_48 rfl (lv_at hl 0 rfl) ?_
      obtain ⟨w17, hw17, ow17⟩ := hT.1 ("AcousticCameraModel", 165, "pulse") (List.mem_of_getElem? (i := 37) rfl)
      refine va_ldcS hx hb hown hw17 dX12_readSource_49 ?_
      obtain ⟨r21, S18, eS18, h⟩ := obind2_some h
      refine m_calliX (As := [.ref w17]) (rest := []) E G hA hR hml (tr_isWord l D cI cJ cZ ad S12 h0 (q := w17) (sTx_ok (by decide +kernel)) eS18) (cwV 1 hts (gmV qM_108 qM_109 qM_110 qM_35 qM_57) rfl rfl rfl (by decide +kernel) ⟨Nat.le_of_ble_eq_true rfl, Nat.le_of_ble_eq_true rfl⟩) rfl hl.1 rfl (lv_room (Nat.le_of_ble_eq_true rfl)) dX12_readSource_51 ⟨Nat.zero_le _, Nat.zero_le _⟩ (xT1.blind) (xT1.go hT hA0 hA G ow17) (fun q19 S20 H locs hq G => ?_)
      obtain ⟨hq1, hq2⟩ := hq
      rw [hq2] at G
      refine lv_to hq1 ?_
      clear hq1 hq2 eS18
      refine lv_if_eq (tgt := 61) hx hb dX12_readSource_54 (by decide) (fun c22 => ?_) (fun c22 => ?_)
      · have h := oif_pos c22 h
        refine lv_aload_n hx hb dX12_readSource_61 rfl (lv_at hl 0 rfl) ?_
        obtain ⟨w23, hw23, ow23⟩ := hT.1 ("AcousticCameraModel", 167, "noise") (List.mem_of_getElem? (i := 38) rfl)
        refine va_ldcS hx hb hown hw23 dX12_readSource_62 ?_
        obtain ⟨r27, S24, eS24, h⟩ := obind2_some h
        refine m_calliX (As := [.ref w23]) (rest := []) E G hA hR hml (tr_isWord l D cI cJ cZ ad S18 h0 (q := w23) (sTx_ok (by decide +kernel)) eS24) (cwV 1 hts (gmV qM_108 qM_109 qM_110 qM_35 qM_57) rfl rfl rfl (by decide +kernel) ⟨Nat.le_of_ble_eq_true rfl, Nat.le_of_ble_eq_true rfl⟩) rfl hl.1 rfl (lv_room (Nat.le_of_ble_eq_true rfl)) dX12_readSource_64 ⟨Nat.zero_le _, Nat.zero_le _⟩ (xT1.blind) (xT1.go hT hA0 hA G ow23) (fun q25 S26 H locs hq G => ?_)
        obtain ⟨hq1, hq2⟩ := hq
        rw [hq2] at G
        refine lv_to hq1 ?_
        clear hq1 hq2 eS24
        refine lv_if_eq (tgt := 74) hx hb dX12_readSource_67 (by decide) (fun c28 => ?_) (fun c28 => ?_)
        · have h := oif_pos c28 h
          refine lv_iconst (v := (-1)) hx hb dX12_readSource_74 (by decide) ?_
          have hl := lv_sub hl [0, 1] rfl
          exact tr_readSource_b75 E hA hR hml hA0 hT kr195 kr313 _ _ _ _ _ _ h G hl
        · have h := oif_neg c28 h
          refine lv_iconst (v := 3) hx hb dX12_readSource_70 (by decide) ?_
          refine lv_goto (tgt := 75) hx hb dX12_readSource_71 (by decide) ?_
          have hl := lv_sub hl [0, 1] rfl
          exact tr_readSource_b75 E hA hR hml hA0 hT kr195 kr313 _ _ _ _ _ _ h G hl
      · have h := oif_neg c22 h
        refine lv_iconst (v := 2) hx hb dX12_readSource_57 (by decide) ?_
        refine lv_goto (tgt := 75) hx hb dX12_readSource_58 (by decide) ?_
        have hl := lv_sub hl [0, 1] rfl
        exact tr_readSource_b75 E hA hR hml hA0 hT kr195 kr313 _ _ _ _ _ _ h G hl
    · have h := oif_neg c16 h
      refine lv_iconst (v := 1) hx hb dX12_readSource_44 (by decide) ?_
      refine lv_goto (tgt := 75) hx hb dX12_readSource_45 (by decide) ?_
      have hl := lv_sub hl [0, 1] rfl
      exact tr_readSource_b75 E hA hR hml hA0 hT kr195 kr313 _ _ _ _ _ _ h G hl
  · have h := oif_neg c10 h
    refine lv_iconst (v := 0) hx hb dX12_readSource_31 (by decide) ?_
    refine lv_goto (tgt := 75) hx hb dX12_readSource_32 (by decide) ?_
    have hl := lv_sub hl [0, 1] rfl
    exact tr_readSource_b75 E hA hR hml hA0 hT kr195 kr313 _ _ _ _ _ _ h G hl
def fr_readSource (S : MS)  : Option (MS) := elet (S.2.1 11 5) fun v2 => if v2 = 6 then (obind (fr_faults S 4) fun S4 => fr_readSource_b18 S4 v2) else (fr_readSource_b18 S v2)
set_option maxHeartbeats 4000000 in
set_option maxRecDepth 100000 in
theorem tr_readSource (l : Launch) (D : va_G) (cI cJ cZ : ClassId) (ad : Nat → Nat) (S : MS) (h0 : Nat)  {S1 : MS} (h : fr_readSource S = some S1) : mCvX l yX12_readSource (Cond.code yX12_readSource cX12_readSource 11 none :: wsM) 7 131 D cI cJ cZ ad S [] (xT0 cI cJ cZ h0 ad S) (fun S9 => S9 = S1) := by
  intro sz
  refine Met.ofW (cc := cX12_readSource) (maxL := 11) (ret := none) (by decide) rfl ?_
  intro p e s m args below meth c s₁ B hml hv
  obtain ⟨rfl, ⟨hsz, hP, hK, hD0, hR⟩, hA1, hT⟩ := hv
  have hx := B.exec
  have hb := B.bytes
  have hr := B.returns
  have hts := atoms_spec (ws := (Cond.code yX12_readSource cX12_readSource 11 none :: wsM)) B.pre
  have hown : s.vm.findClass RX12 = some m.cls := findClass_of_methodNamed B.named
  have hlocks := B.notSynchronized
  subst hsz
  have hD := hD0.self (sz := s.heap.size)
  generalize hAe : va_A (MW cI cJ cZ ad S) s.heap.size = A at hD hA1 ⊢
  have hA : ∀ q : Nat, s.heap.size ≤ q → A q := fun q h => by rw [← hAe]; exact Or.inr h
  have G : mG D cI cJ cZ ad A s.heap s.heap [] S := ⟨hP, hD, va_S.rf⟩
  have E : mE p c cX12_readSource s m ([.ref (ad 0)] : List Value).toArray (Cond.code yX12_readSource cX12_readSource 11 none :: wsM) D cI cJ cZ := ⟨hx, hb, hts, hown, hK, fun w h => .tail _ (iM_x h)⟩
  have hA0 : ∀ a : Nat, A a → h0 ≤ a := hA1
  have hl := lv_entry ([.ref (ad 0)]) (n := 11) (Nat.le_of_ble_eq_true rfl)
  rw [lg_entry_eq]
  generalize (lg_sl ([.ref (ad 0)]) ++ List.replicate (11 - (lg_sl ([.ref (ad 0)])).length) Slot.unset).toArray = ls at hl ⊢
  have hl : lv_has ls 11 [(0, .ref (ad 0))] := hl
  unfold fr_readSource at h
  refine lv_aload_n hx hb dX12_readSource_0 rfl (lv_at hl 0 rfl) ?_
  refine m_get E G 11 (v := .ref (ad 11)) (by decide) (.tail _ qM_8) rfl dX12_readSource_1 rfl ?_
  refine lv_iconst (v := 5) hx hb dX12_readSource_4 (by decide) ?_
  refine m_iald E G 11 3 (n := 131) (k := 5) rfl rfl (by decide) (by decide) dX12_readSource_5 ?_
  refine lv_topi (fun v2 ev2 => ?_)
  have h := elet_at ev2 h
  clear ev2
  refine lv_istore_n (lv' := [(1, .int v2), (0, .ref (ad 0))]) hx hb dX12_readSource_6 rfl hl (by decide) rfl (fun ls hl => ?_)
  refine lv_iload_n hx hb dX12_readSource_7 rfl (lv_at hl 0 rfl) ?_
  refine lv_bipush (v := 6) hx hb dX12_readSource_8 (by decide) ?_
  refine lv_icmp_ne (tgt := 18) hx hb dX12_readSource_10 (by decide) (fun c3 => ?_) (fun c3 => ?_)
  · have h := oif_neg c3 h
    have hl := lv_sub hl [1, 0] rfl
    exact tr_readSource_b18 E hA hR hml hA0 hT (fun H locs ls G => W.vret hx hb hr (fun t ht hW => ⟨⟨S1, rfl, rfl, ⟨by rw [ht]; exact G.1, va_K.moved hW.alike hK, G.2.1⟩⟩, G.2.2.F ht⟩) G.2.2.2.2 dX12_readSource_195) (fun H locs ls G => W.vret hx hb hr (fun t ht hW => ⟨⟨S1, rfl, rfl, ⟨by rw [ht]; exact G.1, va_K.moved hW.alike hK, G.2.1⟩⟩, G.2.2.F ht⟩) G.2.2.2.2 dX12_readSource_313) _ _ _ _ _ h G hl
  · have h := oif_pos c3 h
    refine lv_aload_n hx hb dX12_readSource_13 rfl (lv_at hl 1 rfl) ?_
    refine lv_iconst (v := 4) hx hb dX12_readSource_14 (by decide) ?_
    obtain ⟨S4, eS4, h⟩ := obind_some h
    refine m_callv (As := [.int 4]) (rest := []) E G hA hR hml (tr_faults l D cI cJ cZ ad S 4 eS4) (cwV 1 hts (gmV qM_118 qM_119 qM_120 qM_35 qM_42) rfl rfl rfl (by decide +kernel) ⟨Nat.le_of_ble_eq_true rfl, Nat.le_of_ble_eq_true rfl⟩) rfl hl.1 rfl (lv_room (Nat.le_of_ble_eq_true rfl)) dX12_readSource_15 ⟨Nat.zero_le _, Nat.zero_le _⟩ (fun S6 H locs hq G => ?_)
    rw [hq] at G
    clear hq eS4
    have hl := lv_sub hl [1, 0] rfl
    exact tr_readSource_b18 E hA hR hml hA0 hT (fun H locs ls G => W.vret hx hb hr (fun t ht hW => ⟨⟨S1, rfl, rfl, ⟨by rw [ht]; exact G.1, va_K.moved hW.alike hK, G.2.1⟩⟩, G.2.2.F ht⟩) G.2.2.2.2 dX12_readSource_195) (fun H locs ls G => W.vret hx hb hr (fun t ht hW => ⟨⟨S1, rfl, rfl, ⟨by rw [ht]; exact G.1, va_K.moved hW.alike hK, G.2.1⟩⟩, G.2.2.F ht⟩) G.2.2.2.2 dX12_readSource_313) _ _ _ _ _ h G hl
end
