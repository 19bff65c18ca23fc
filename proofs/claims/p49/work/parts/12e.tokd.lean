theorem KP.rf {S : MS} (h : TK S) : KP S S := ⟨KS.rf h, rfl⟩
theorem tin (a0 a1 a2 : Int32) : Tot (fr_in a0 a1 a2) (fun r => r.toInt = 0 ∧ (a0.toInt < a1.toInt ∨ a2.toInt < a0.toInt) ∨ r.toInt = 1 ∧ a1.toInt ≤ a0.toInt ∧ a0.toInt ≤ a2.toInt) := by
  have z0 : (0 : Int32).toInt = 0 := by decide
  have z1 : (1 : Int32).toInt = 1 := by decide
  unfold fr_in fr_in_b14 fr_in_b15
  refine tot_if (fun c => ?_) (fun c => ?_)
  · replace c := i_lt c
    exact tot_oif (.inl rfl) (tot_some (by omega))
  · replace c := i_nlt c
    refine tot_if (fun c2 => ?_) (fun c2 => ?_)
    · replace c2 := i_lt c2
      exact tot_oif (.inl rfl) (tot_some (by omega))
    · replace c2 := i_nlt c2
      exact tot_oif (.inr rfl) (tot_some (by omega))
theorem tsign (a0 : Int32) : Tot (fr_isSign a0) (fun _ => True) := by
  have h1 : Tot (fr_isSign_b42) (fun _ => True) := by
    unfold fr_isSign_b42 fr_isSign_b47
    exact tot_oif (.inr rfl) (tot_some trivial)
  unfold fr_isSign
  refine tot_if (fun _ => h1) (fun _ => tot_if (fun _ => h1) (fun _ => tot_if (fun _ => h1) (fun _ => tot_if (fun _ => h1) (fun _ => tot_if (fun _ => h1) (fun _ => tot_if (fun _ => h1) (fun _ => tot_if (fun _ => h1) (fun _ => ?_)))))))
  unfold fr_isSign_b47
  exact tot_oif (.inl rfl) (tot_some trivial)
