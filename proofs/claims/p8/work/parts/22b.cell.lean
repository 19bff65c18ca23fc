/-! answers of the scene alone: where a cell lies -/
section
variable {T T1 : AT} {S S1 : MS} {k1 : Nat} {r1 r2 : Int32}
theorem r_thr {v r : Int32} (hf : fr_throwsAt S v = some (r, S1)) : S1 = mi S 0 v := by
  unfold fr_throwsAt at hf
  obtain ⟨S2, e2, hf⟩ := elet_some hf
  rw [← (osome2 hf).2, e2]
theorem r_pl (hJ : JJ S) (h : S.1 20 = 1) : PL (S.2.1 10) := by
  rcases hJ with ⟨P, hP, h1⟩ | h1
  · rw [h1.1]
    exact hP
  · have q := h1.1.2.1
    rw [h] at q
    exact absurd q (by decide)
theorem pl_cell (hP : PL (S.2.1 10)) : (S.2.1 10 9 * S.2.1 10 10).toInt = (S.2.1 10 9).toInt * (S.2.1 10 10).toInt ∧ 1 ≤ (S.2.1 10 9 * S.2.1 10 10).toInt ∧ (S.2.1 10 9 * S.2.1 10 10).toInt ≤ 144 ∧ (S.2.1 10 9 * S.2.1 10 10 - 1).toInt = (S.2.1 10 9 * S.2.1 10 10).toInt - 1 := by
  obtain ⟨a, b⟩ := pl_cells hP
  have e : (S.2.1 10 9 * S.2.1 10 10).toInt = (S.2.1 10 9).toInt * (S.2.1 10 10).toInt := by
    rw [Int32.toInt_mul, bm32 (by omega) (by omega)]
  have z1 : (1 : Int32).toInt = 1 := by decide
  have e2 := i_sub (v := S.2.1 10 9 * S.2.1 10 10 - 1) rfl (by omega) (by omega)
  exact ⟨e, by omega, by omega, by omega⟩
/-- a question of a cell, in both: the reference's word and the class's code -/
theorem a_row {a v : Int32} {T : AT} {o : Nat} {r : Int32} (ha : 0 ≤ a.toInt) (hv : 1 ≤ v.toInt) (e : T.2.2.1 o 3 = v) (hg : g_X1_rowOf T o a = some (r, T1)) : T1 = T ∧ r = a / v := by
  unfold g_X1_rowOf at hg
  obtain ⟨v2, e2, hg⟩ := elet_some hg
  obtain ⟨-, hg⟩ := oif_some hg
  obtain ⟨v4, e4, hg⟩ := elet_some hg
  obtain ⟨v5, e5, hg⟩ := elet_some hg
  obtain ⟨r6, g6, hg⟩ := obind_some hg
  obtain ⟨v8, e8, hg⟩ := elet_some hg
  have q := tgo (cs_X11_quotient2 _ _) g6 a v e2 (by rw [e5, e4, e]) ha (by omega)
  have g := osome2 hg
  rw [← g.1, ← g.2, e8]
  refine ⟨rfl, Int32.toInt_inj.mp ?_⟩
  rw [q]
  have hd := i_div (v := a / v) rfl ha hv (Int.le_refl _)
  have h2 := i_any a
  rw [Int32.toInt_div, Int.tdiv_eq_ediv_of_nonneg ha]
  have h3 : a.toInt / v.toInt ≤ a.toInt := Int.ediv_le_self _ ha
  have h4 : 0 ≤ a.toInt / v.toInt := Int.ediv_nonneg ha (by omega)
  exact (bm32 (by omega) (by omega)).symm
theorem a_col {a v : Int32} {T : AT} {o : Nat} {r : Int32} (hv : ¬ v = 0) (e : T.2.2.1 o 3 = v) (hg : g_X1_columnOf T o a = some (r, T1)) : T1 = T ∧ r = a - a / v * v := by
  unfold g_X1_columnOf at hg
  obtain ⟨-, hg⟩ := oif_some hg
  obtain ⟨v3, e3, hg⟩ := elet_some hg
  obtain ⟨r4, g4, hg⟩ := obind_some hg
  unfold g_X11_remainder g_X11_remainder_b11 at g4
  rw [e3, e, if_neg hv] at g4
  obtain ⟨-, g4⟩ := oif_some g4
  obtain ⟨v4, e4, g4⟩ := elet_some g4
  have g := osome2 hg
  rw [← g.1, ← g.2, ← Option.some.inj g4, e4]
  exact ⟨rfl, rfl⟩
end
