theorem lk_0 {args : Array Value} {s : State} (hts : ∀ w ∈ lw_tbl, w.before args s = true) : ∃ (cC : ClassId) (iS : Nat → Nat), u_Kn s RX0 TX0 1 cC iS := u_known (n := 1) hts tA_13 (hts _ (t_of [Cond.instantiable RX0 1] [(1, 155)] (by decide +kernel) _ List.mem_cons_self))
theorem lk_1 {args : Array Value} {s : State} (hts : ∀ w ∈ lw_tbl, w.before args s = true) : ∃ (cC : ClassId) (iS : Nat → Nat), u_Kn s RX1 TX1 9 cC iS := u_known (n := 9) hts tA_15 (hts _ (t_of [Cond.instantiable RX1 9] [(2, 54)] (by decide +kernel) _ List.mem_cons_self))
theorem lk_2 {args : Array Value} {s : State} (hts : ∀ w ∈ lw_tbl, w.before args s = true) : ∃ (cC : ClassId) (iS : Nat → Nat), u_Kn s RX2 TX2 4 cC iS := u_known (n := 4) hts tA_19 (hts _ (t_of [Cond.instantiable RX2 4] [(2, 106)] (by decide +kernel) _ List.mem_cons_self))
theorem lk_3 {args : Array Value} {s : State} (hts : ∀ w ∈ lw_tbl, w.before args s = true) : ∃ (cC : ClassId) (iS : Nat → Nat), u_Kn s RX3 TX3 4 cC iS := u_known (n := 4) hts tA_17 (hts _ (t_of [Cond.instantiable RX3 4] [(1, 69)] (by decide +kernel) _ List.mem_cons_self))
theorem lk_4 {args : Array Value} {s : State} (hts : ∀ w ∈ lw_tbl, w.before args s = true) : ∃ (cC : ClassId) (iS : Nat → Nat), u_Kn s RX4 TX4 6 cC iS := u_known (n := 6) hts tA_21 (hts _ (t_of [Cond.instantiable RX4 6] [(1, 190)] (by decide +kernel) _ List.mem_cons_self))
theorem lk_5 {args : Array Value} {s : State} (hts : ∀ w ∈ lw_tbl, w.before args s = true) : ∃ (cC : ClassId) (iS : Nat → Nat), u_Kn s RX5 TX5 2 cC iS := u_known (n := 2) hts tA_22 (hts _ (t_of [Cond.instantiable RX5 2] [(1, 90)] (by decide +kernel) _ List.mem_cons_self))
theorem lk_6 {args : Array Value} {s : State} (hts : ∀ w ∈ lw_tbl, w.before args s = true) : ∃ (cC : ClassId) (iS : Nat → Nat), u_Kn s RX6 TX6 18 cC iS := u_known (n := 18) hts tA_14 (hts _ (t_of [Cond.instantiable RX6 18] [(2, 46)] (by decide +kernel) _ List.mem_cons_self))
theorem lk_7 {args : Array Value} {s : State} (hts : ∀ w ∈ lw_tbl, w.before args s = true) : ∃ (cC : ClassId) (iS : Nat → Nat), u_Kn s RX7 TX7 10 cC iS := u_known (n := 10) hts tA_20 (hts _ (t_of [Cond.instantiable RX7 10] [(1, 98)] (by decide +kernel) _ List.mem_cons_self))
theorem lk_8 {args : Array Value} {s : State} (hts : ∀ w ∈ lw_tbl, w.before args s = true) : ∃ (cC : ClassId) (iS : Nat → Nat), u_Kn s RX8 TX8 12 cC iS := u_known (n := 12) hts tA_16 (hts _ (t_of [Cond.instantiable RX8 12] [(1, 220)] (by decide +kernel) _ List.mem_cons_self))
theorem lk_9 {args : Array Value} {s : State} (hts : ∀ w ∈ lw_tbl, w.before args s = true) : ∃ (cC : ClassId) (iS : Nat → Nat), u_Kn s RX9 TX9 6 cC iS := u_known (n := 6) hts tA_18 (hts _ (t_of [Cond.instantiable RX9 6] [(1, 37)] (by decide +kernel) _ List.mem_cons_self))
theorem lk_10 {args : Array Value} {s : State} (hts : ∀ w ∈ lw_tbl, w.before args s = true) : ∃ (cC : ClassId) (iS : Nat → Nat), u_Kn s RX10 TX10 3 cC iS := u_known (n := 3) hts tA_12 (hts _ (t_of [Cond.instantiable RX10 3] [(1, 161)] (by decide +kernel) _ List.mem_cons_self))
theorem lk_11 {args : Array Value} {s : State} (hts : ∀ w ∈ lw_tbl, w.before args s = true) : ∃ (cC : ClassId) (iS : Nat → Nat), u_Kn s RX11 TX11 19 cC iS := u_known (n := 19) hts tA_23 (hts _ (t_of [Cond.instantiable RX11 19] [(1, 29)] (by decide +kernel) _ List.mem_cons_self))
theorem lk_12 {args : Array Value} {s : State} (hts : ∀ w ∈ lw_tbl, w.before args s = true) : ∃ (cC : ClassId) (iS : Nat → Nat), u_Kn s RX12 TX12 30 cC iS := u_known (n := 30) hts tM_x (hts _ (t_of [Cond.instantiable RX12 30] [(7, 209)] (by decide +kernel) _ List.mem_cons_self))
theorem kn_prim {args : Array Value} {s : State} {ty : FieldType} (h : (Cond.arrayClass ty).before args s = true) (hr : ∀ cA, s.vm.findClass ("[" ++ ty.toString) = some cA → va_RA s cA ty) : ∃ cA : ClassId, ArrOfT s cA ty ∧ va_RA s cA ty := by
  obtain ⟨cA, kA, comp, h1, h2, h3⟩ := Cond.arrayClass_spec h
  exact ⟨cA, fun n z => ⟨fun k h => (by cases h), kA, h2, comp, h3⟩, hr cA h1⟩
theorem kn_obj {args : Array Value} {s : State} {C : String} (h : (Cond.arrayOver (.object C)).before args s = true) : ∃ cA : ClassId, ArrOfT s cA (.object C) ∧ va_RA s cA (.object C) := by
  obtain ⟨comp, cA, kA, f1, f4, f2, f3, f5⟩ := Cond.arrayOver_spec h
  exact ⟨cA, fun n z => ⟨fun k h => (by cases h), kA, f2, comp, f3⟩, kA, comp, f2, f3, f1, f5⟩
theorem kn_arr {args : Array Value} {s : State} {t : FieldType} (h : (Cond.arrayOver (.array t)).before args s = true) : ∃ cA : ClassId, ArrOfT s cA (.array t) ∧ va_RA s cA (.array t) := by
  obtain ⟨comp, cA, kA, f1, f2, f3, f4⟩ := Cond.arrayOver_specA h
  exact ⟨cA, fun n z => ⟨fun k h => (by cases h), kA, f2, comp, f3⟩, f4⟩
theorem kn_one {D : va_G} {cl : List vw_C} {s : State} {cA : ClassId} {ty : FieldType} (h1 : ∀ (c : Nat) (q : vw_C), cl[c]? = some q → u_Kn s q.1 q.2.1 q.2.2 (D.1 c) (D.2 c)) (h : ArrOfT s cA ty ∧ va_RA s cA ty) : va_K D cl [(cA, ty)] s := by
  refine ⟨h1, fun k q hk => ?_⟩
  cases k with
  | zero => cases hk; exact h
  | succ k => cases hk
theorem l_D {args : Array Value} {s : State} (hts : ∀ w ∈ lw_tbl, w.before args s = true) : ∃ D : va_G, ∀ (c : Nat) (q : vw_C), vwCl[c]? = some q → u_Kn s q.1 q.2.1 q.2.2 (D.1 c) (D.2 c) := by
  have H : ∀ c : Nat, ∃ y : ClassId × (Nat → Nat), ∀ q : vw_C, vwCl[c]? = some q → u_Kn s q.1 q.2.1 q.2.2 y.1 y.2 := by
    intro c
    match c with
    | 0 => obtain ⟨cC, iS, h⟩ := lk_0 hts; exact ⟨(cC, iS), fun q hq => by cases hq; exact h⟩
    | 1 => obtain ⟨cC, iS, h⟩ := lk_1 hts; exact ⟨(cC, iS), fun q hq => by cases hq; exact h⟩
    | 2 => obtain ⟨cC, iS, h⟩ := lk_2 hts; exact ⟨(cC, iS), fun q hq => by cases hq; exact h⟩
    | 3 => obtain ⟨cC, iS, h⟩ := lk_3 hts; exact ⟨(cC, iS), fun q hq => by cases hq; exact h⟩
    | 4 => obtain ⟨cC, iS, h⟩ := lk_4 hts; exact ⟨(cC, iS), fun q hq => by cases hq; exact h⟩
    | 5 => obtain ⟨cC, iS, h⟩ := lk_5 hts; exact ⟨(cC, iS), fun q hq => by cases hq; exact h⟩
    | 6 => obtain ⟨cC, iS, h⟩ := lk_6 hts; exact ⟨(cC, iS), fun q hq => by cases hq; exact h⟩
    | 7 => obtain ⟨cC, iS, h⟩ := lk_7 hts; exact ⟨(cC, iS), fun q hq => by cases hq; exact h⟩
    | 8 => obtain ⟨cC, iS, h⟩ := lk_8 hts; exact ⟨(cC, iS), fun q hq => by cases hq; exact h⟩
    | 9 => obtain ⟨cC, iS, h⟩ := lk_9 hts; exact ⟨(cC, iS), fun q hq => by cases hq; exact h⟩
    | 10 => obtain ⟨cC, iS, h⟩ := lk_10 hts; exact ⟨(cC, iS), fun q hq => by cases hq; exact h⟩
    | 11 => obtain ⟨cC, iS, h⟩ := lk_11 hts; exact ⟨(cC, iS), fun q hq => by cases hq; exact h⟩
    | 12 => obtain ⟨cC, iS, h⟩ := lk_12 hts; exact ⟨(cC, iS), fun q hq => by cases hq; exact h⟩
    | (c + 13) => exact ⟨(0, fun _ => 0), fun q hq => absurd (List.getElem?_eq_some_iff.mp hq).1 (by show ¬ c + 13 < 13; omega)⟩
  obtain ⟨f, hf⟩ := Classical.axiomOfChoice H
  exact ⟨(fun c => (f c).1, fun c => (f c).2), hf⟩
theorem l_K {args : Array Value} {s : State} (hts : ∀ w ∈ lw_tbl, w.before args s = true) : ∃ (D : va_G) (cI cJ cZ cMic cSrc cSt cAI cAJ cD : ClassId), va_K D vwCl (CT cI cJ cZ cMic cSrc cSt cAI cAJ ++ [(cD, .double)]) s := by
  obtain ⟨D, hD⟩ := l_D hts
  obtain ⟨cI, hcI⟩ := kn_prim (hts _ (t_of [Cond.arrayClass .int] [(1, 67)] (by decide +kernel) _ List.mem_cons_self)) (fun cA h => h)
  obtain ⟨cJ, hcJ⟩ := kn_prim (hts _ (t_of [Cond.arrayClass .long] [(1, 183)] (by decide +kernel) _ List.mem_cons_self)) (fun cA h => h)
  obtain ⟨cZ, hcZ⟩ := kn_prim (hts _ (t_of [Cond.arrayClass .boolean] [(2, 41)] (by decide +kernel) _ List.mem_cons_self)) (fun cA h => h)
  obtain ⟨cMic, hcMic⟩ := kn_obj (hts _ (t_of [Cond.arrayOver (.object "AcousticCamera$Mic")] [(2, 52)] (by decide +kernel) _ List.mem_cons_self))
  obtain ⟨cSrc, hcSrc⟩ := kn_obj (hts _ (t_of [Cond.arrayOver (.object "AcousticCamera$Source")] [(2, 104)] (by decide +kernel) _ List.mem_cons_self))
  obtain ⟨cSt, hcSt⟩ := kn_obj (hts _ (t_of [Cond.arrayOver (.object "AcousticCamera$State")] [(2, 42)] (by decide +kernel) _ List.mem_cons_self))
  obtain ⟨cAI, hcAI⟩ := kn_arr (hts _ (t_of [Cond.arrayOver (.array .int)] [(1, 96)] (by decide +kernel) _ List.mem_cons_self))
  obtain ⟨cAJ, hcAJ⟩ := kn_arr (hts _ (t_of [Cond.arrayOver (.array .long)] [(1, 167)] (by decide +kernel) _ List.mem_cons_self))
  obtain ⟨cD, hcD⟩ := kn_prim (hts _ (t_of [Cond.arrayClass .double] [(10, 213)] (by decide +kernel) _ List.mem_cons_self)) (fun cA h => h)
  exact ⟨D, cI, cJ, cZ, cMic, cSrc, cSt, cAI, cAJ, cD, ((kn_one hD hcI).app ((kn_one hD hcJ).app ((kn_one hD hcZ).app ((kn_one hD hcMic).app ((kn_one hD hcSrc).app ((kn_one hD hcSt).app ((kn_one hD hcAI).app ((kn_one hD hcAJ).app (kn_one hD hcD)))))))))⟩
theorem l_nX {args : Array Value} {s : State} (hts : ∀ w ∈ lw_tbl, w.before args s = true) : nX s := by
  have h := t_of xN [(1, 38), (1, 91), (1, 99), (1, 156), (1, 191), (1, 221), (2, 55), (2, 107), (2, 131), (4, 152), (4, 163), (4, 174), (4, 177), (4, 193), (4, 208), (4, 212), (4, 214), (6, 204)] (by decide +kernel)
  exact ⟨hts _ (t_of [Cond.arrayOver (.object "AcousticCamera$Mic")] [(2, 52)] (by decide +kernel) _ List.mem_cons_self), hts _ (t_of [Cond.arrayOver (.object "AcousticCamera$Source")] [(2, 104)] (by decide +kernel) _ List.mem_cons_self), hts _ (t_of [Cond.arrayOver (.object "AcousticCamera$State")] [(2, 42)] (by decide +kernel) _ List.mem_cons_self), hts _ (t_of [Cond.arrayOver (.array .int)] [(1, 96)] (by decide +kernel) _ List.mem_cons_self), hts _ (t_of [Cond.arrayOver (.array .long)] [(1, 167)] (by decide +kernel) _ List.mem_cons_self), fun w hw => va_tabs (xN_tab w hw) rfl (hts w (h w hw))⟩
