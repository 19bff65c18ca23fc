def sgF (x : String × Nat × String) : Term := .field (.string x.1 x.2.1) "java/lang/String" "value" "[B"
def sgS (x : String × Nat × String) : List Cond := [Cond.exactly (.string x.1 x.2.1) "java/lang/String", Cond.eq (.field (.string x.1 x.2.1) "java/lang/String" "coder" "B") (.int 0), Cond.arrayOf (sgF x) .byte, Cond.eq (.length (sgF x)) (.int (Int32.ofNat x.2.2.length))] ++ (List.range x.2.2.length).map (fun j => Cond.eq (.elem (sgF x) (.int (Int32.ofNat j))) (.int ((sTx x.2.2).2 j)))
def sgX : List ((String × Nat × String) ⊕ (String × Nat × String × Nat)) := [.inl ("AcousticCamera$Parser", 66, "camera"), .inl ("AcousticCamera$Parser", 72, "distance"), .inl ("AcousticCamera$Parser", 80, "step"), .inl ("AcousticCamera$Parser", 84, "samples"), .inl ("AcousticCamera$Parser", 88, "limit"), .inl ("AcousticCamera$Parser", 92, "mic"), .inl ("AcousticCamera$Parser", 101, "map"), .inl ("AcousticCamera$Parser", 107, "source"), .inl ("AcousticCamera$Parser", 217, "triangle"), .inl ("AcousticCamera$Parser", 219, "pulse"), .inl ("AcousticCamera$Parser", 221, "noise"), .inl ("AcousticCamera$Parser", 223, "square"), .inl ("AcousticCamera$Parser", 216, "from"), .inl ("AcousticCamera$Parser", 112, "wall"), .inl ("AcousticCamera$Parser", 117, "fade"), .inl ("AcousticCamera$Parser", 125, "filter"), .inl ("AcousticCamera$Parser", 130, "clock"), .inl ("AcousticCamera$Parser", 135, "zone"), .inl ("AcousticCamera$Parser", 140, "shade"), .inl ("AcousticCamera$Parser", 145, "off"), .inl ("AcousticCameraModel", 144, "camera"), .inr ("AcousticCamera$Parser", 66, "AcousticCameraModel", 144), .inl ("AcousticCameraModel", 146, "distance"), .inr ("AcousticCamera$Parser", 72, "AcousticCameraModel", 146), .inl ("AcousticCameraModel", 152, "step"), .inr ("AcousticCamera$Parser", 80, "AcousticCameraModel", 152), .inl ("AcousticCameraModel", 154, "samples"), .inr ("AcousticCamera$Parser", 84, "AcousticCameraModel", 154), .inl ("AcousticCameraModel", 156, "limit"), .inr ("AcousticCamera$Parser", 88, "AcousticCameraModel", 156), .inl ("AcousticCameraModel", 171, "wall"), .inr ("AcousticCamera$Parser", 112, "AcousticCameraModel", 171), .inl ("AcousticCameraModel", 176, "fade"), .inr ("AcousticCamera$Parser", 117, "AcousticCameraModel", 176), .inl ("AcousticCameraModel", 181, "filter"), .inr ("AcousticCamera$Parser", 125, "AcousticCameraModel", 181), .inl ("AcousticCameraModel", 186, "clock"), .inr ("AcousticCamera$Parser", 130, "AcousticCameraModel", 186), .inl ("AcousticCameraModel", 191, "zone"), .inr ("AcousticCamera$Parser", 135, "AcousticCameraModel", 191), .inl ("AcousticCameraModel", 196, "shade"), .inr ("AcousticCamera$Parser", 140, "AcousticCameraModel", 196), .inl ("AcousticCameraModel", 201, "off"), .inr ("AcousticCamera$Parser", 145, "AcousticCameraModel", 201), .inl ("AcousticCameraModel", 206, "mic"), .inr ("AcousticCamera$Parser", 92, "AcousticCameraModel", 206), .inl ("AcousticCameraModel", 211, "map"), .inr ("AcousticCamera$Parser", 101, "AcousticCameraModel", 211), .inl ("AcousticCameraModel", 216, "source"), .inr ("AcousticCamera$Parser", 107, "AcousticCameraModel", 216), .inl ("AcousticCameraModel", 161, "square"), .inr ("AcousticCamera$Parser", 223, "AcousticCameraModel", 161), .inl ("AcousticCameraModel", 163, "triangle"), .inr ("AcousticCamera$Parser", 217, "AcousticCameraModel", 163), .inl ("AcousticCameraModel", 165, "pulse"), .inr ("AcousticCamera$Parser", 219, "AcousticCameraModel", 165), .inl ("AcousticCameraModel", 167, "noise"), .inr ("AcousticCamera$Parser", 221, "AcousticCameraModel", 167), .inl ("AcousticCameraModel", 169, "from"), .inr ("AcousticCamera$Parser", 216, "AcousticCameraModel", 169)]
def sgC (x : (String × Nat × String) ⊕ (String × Nat × String × Nat)) : List Cond := match x with
  | .inl x => sgS x
  | .inr (a, i, b, j) => [Cond.eq (.string a i) (.string b j)]
set_option maxRecDepth 100000 in
set_option maxHeartbeats 4000000 in
theorem l_flatS : ((flatC (Jvm.Cond.and given_1 narrow_1)).drop 107).take 382 = sgX.flatMap sgC := by decide +kernel
def sgI (x : String × Nat × String) (y : (String × Nat × String) ⊕ (String × Nat × String × Nat)) : Bool := match y with
  | .inl z => decide (z.1 = x.1) && (decide (z.2.1 = x.2.1) && decide (z.2.2 = x.2.2))
  | .inr _ => false
theorem sgI_k {x : String × Nat × String} {y : (String × Nat × String) ⊕ (String × Nat × String × Nat)} (h : sgI x y = true) : y = .inl x := by
  cases y with
  | inr z => cases h
  | inl z =>
    obtain ⟨a, h⟩ := (Bool.and_eq_true _ _).mp h
    obtain ⟨b, c⟩ := (Bool.and_eq_true _ _).mp h
    obtain ⟨x1, x2, x3⟩ := x
    obtain ⟨z1, z2, z3⟩ := z
    have a : z1 = x1 := of_decide_eq_true a
    have b : z2 = x2 := of_decide_eq_true b
    have c : z3 = x3 := of_decide_eq_true c
    rw [a, b, c]
theorem l_inX : sL.all (fun x => sgX.any (sgI x) && decide (x.2.2.length < 2 ^ 31)) = true := by decide +kernel
theorem l_S {b : Nat} {s : State} (hts : ∀ w ∈ lw_tbl, w.before #[Value.ref b] s = true) (hg : (Jvm.Cond.and given_1 narrow_1).before #[Value.ref b] s = true) : sAll s.heap.size s ∧ nC s := by
  have hs := flat_of_before _ hg
  have hz := t_of (sL.map (fun x => Cond.stringRef x.1 x.2.1 x.2.2)) [(3, 196), (4, 37), (4, 46), (4, 47), (4, 48), (4, 53), (4, 66), (4, 75), (4, 84), (4, 85), (4, 86), (4, 87), (4, 88), (4, 89), (4, 94), (4, 95), (4, 108), (4, 113), (4, 118), (4, 127), (8, 119), (8, 138), (8, 151), (8, 152), (8, 153), (8, 162), (8, 171), (8, 176), (8, 181), (8, 186), (8, 191), (8, 196), (8, 201), (8, 206), (8, 211), (8, 216), (8, 217), (8, 218), (8, 219), (8, 220)] (by decide +kernel)
  have hA : ∀ a : Nat, a < s.heap.size → ¬ s.heap.size ≤ a := fun a h => Nat.not_le.mpr h
  have hin : ∀ x ∈ sL, x.2.2.length < 2 ^ 31 ∧ ∀ w ∈ sgS x, w.before #[Value.ref b] s = true := fun x hx => by
    obtain ⟨c1, c2⟩ := (Bool.and_eq_true _ _).mp (List.all_eq_true.mp l_inX x hx)
    obtain ⟨y, hy, ey⟩ := List.any_eq_true.mp c1
    have ey := sgI_k ey
    rw [ey] at hy
    exact ⟨of_decide_eq_true c2, fun w hw => hs w (List.mem_of_mem_drop (List.mem_of_mem_take (by rw [l_flatS]; exact List.mem_flatMap.mpr ⟨.inl x, hy, hw⟩)))⟩
  refine ⟨⟨fun x hx => ?_, va_Zof (hts _ (t_of [Cond.laysStatic "java/lang/String" "COMPACT_STRINGS" "Z"] [(3, 218)] (by decide +kernel) _ List.mem_cons_self)) (hts _ (t_of [Cond.initialized "java/lang/String"] [(1, 19)] (by decide +kernel) _ List.mem_cons_self)) (va_eqi (hs _ (by decide +kernel))) hA, va_Zqof (hts _ (t_of [Cond.laysStatic "jdk/internal/util/Preconditions" "SIOOBE_FORMATTER" "Ljava/util/function/BiFunction;"] [(3, 234)] (by decide +kernel) _ List.mem_cons_self)) (hts _ (t_of [Cond.initialized "jdk/internal/util/Preconditions"] [(1, 21)] (by decide +kernel) _ List.mem_cons_self)) (hs _ (by decide +kernel)) hA⟩, va_Nc.of (hs _ (by decide +kernel)), va_Nc.of (hs _ (by decide +kernel)), va_Nc.of (hs _ (by decide +kernel)), va_Nc.of (hs _ (by decide +kernel))⟩
  obtain ⟨hN, h⟩ := hin x hx
  obtain ⟨a, c, cA, kA, q1, q2, q3, q4, q5, q6, -⟩ := Cond.exactly_spec (args := #[Value.ref b]) (first := s) (o := none) (s := s) (idx := []) (t := .string x.1 x.2.1) (cls := "java/lang/String") (h _ (List.mem_append_left _ (.head _)))
  obtain ⟨t, ht, hT⟩ := va_Tof (f := fun j => .int ((sTx x.2.2).2 j)) (A := fun a => s.heap.size ≤ a) hN (h _ (List.mem_append_left _ (.tail _ (.tail _ (.head _))))) (va_eqt (h _ (List.mem_append_left _ (.tail _ (.tail _ (.tail _ (.head _))))))) (fun j hj => va_eqt (h _ (List.mem_append_right _ (List.mem_map.mpr ⟨j, List.mem_range.mpr hj, rfl⟩)))) hA
  exact ⟨a, vk_R.of (hts _ (hz _ (List.mem_map_of_mem hx))) q1, t, ⟨cA, q3, q5, by rw [q6]; exact q2, hA a (Array.getElem?_eq_some_iff.mp q3).1⟩, vk_OFof q1 (va_eqt (h _ (List.mem_append_left _ (.tail _ (.head _))))) hA, vk_OFof q1 ht hA, hT⟩
