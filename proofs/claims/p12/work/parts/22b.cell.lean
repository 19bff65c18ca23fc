/-! answers of the scene alone: where a cell lies -/
section
variable {T T1 : AT} {S S1 : MS} {k1 : Nat} {r1 r2 : Int32}
theorem r_thr {v r : Int32} (hf : fr_throwsAt S v = some (r, S1)) : S1 = mi S 0 v := by
  unfold fr_throwsAt at hf
  obtain ⟨S2, e2, hf⟩ := elet_some hf
  rw [← (osome2 hf).2, e2]
theorem r_pl (hJ : JJ S) (h : S.1 20 = 1) : PL (S.2.1 10) := by
  rcases hJ with ⟨P, hP, h1⟩ | h1
  · rw [h1.1]
    exact hP
  · have q := h1.1.2.1
    rw [h] at q
    exact absurd q (by decide)
theorem pl_cell (hP : PL (S.2.1 10)) : (S.2.1 10 9 * S.2.1 10 10).toInt = (S.2.1 10 9).toInt * (S.2.1 10 10).toInt ∧ 1 ≤ (S.2.1 10 9 * S.2.1 10 10).toInt ∧ (S.2.1 10 9 * S.2.1 10 10).toInt ≤ 144 ∧ (S.2.1 10 9 * S.2.1 10 10 - 1).toInt = (S.2.1 10 9 * S.2.1 10 10).toInt - 1 := by
  obtain ⟨a, b⟩ := pl_cells hP
  have e : (S.2.1 10 9 * S.2.1 10 10).toInt = (S.2.1 10 9).toInt * (S.2.1 10 10).toInt := by
    rw [Int32.toInt_mul, bm32 (by omega) (by omega)]
  have z1 : (1 : Int32).toInt = 1 := by decide
  have e2 := i_sub (v := S.2.1 10 9 * S.2.1 10 10 - 1) rfl (by omega) (by omega)
  exact ⟨e, by omega, by omega, by omega⟩
/-- a question of a cell, in both: the reference's word and the class's code -/
theorem a_row {a v : Int32} {T : AT} {o : Nat} {r : Int32} (ha : 0 ≤ a.toInt) (hv : 1 ≤ v.toInt) (e : T.2.2.1 o 3 = v) (hg : g_X1_rowOf T o a = some (r, T1)) : T1 = T ∧ r = a / v := by
  unfold g_X1_rowOf at hg
  obtain ⟨v2, e2, hg⟩ := elet_some hg
  obtain ⟨-, hg⟩ := oif_some hg
  obtain ⟨v4, e4, hg⟩ := elet_some hg
  obtain ⟨v5, e5, hg⟩ := elet_some hg
  obtain ⟨r6, g6, hg⟩ := obind_some hg
  obtain ⟨v8, e8, hg⟩ := elet_some hg
  have q := tgo (cs_X11_quotient2 _ _) g6 a v e2 (by rw [e5, e4, e]) ha (by omega)
  have g := osome2 hg
  rw [← g.1, ← g.2, e8]
  refine ⟨rfl, Int32.toInt_inj.mp ?_⟩
  rw [q]
  have hd := i_div (v := a / v) rfl ha hv (Int.le_refl _)
  have h2 := i_any a
  rw [Int32.toInt_div, Int.tdiv_eq_ediv_of_nonneg ha]
  have h3 : a.toInt / v.toInt ≤ a.toInt := Int.ediv_le_self _ ha
  have h4 : 0 ≤ a.toInt / v.toInt := Int.ediv_nonneg ha (by omega)
  exact (bm32 (by omega) (by omega)).symm
theorem a_col {a v : Int32} {T : AT} {o : Nat} {r : Int32} (hv : ¬ v = 0) (e : T.2.2.1 o 3 = v) (hg : g_X1_columnOf T o a = some (r, T1)) : T1 = T ∧ r = a - a / v * v := by
  unfold g_X1_columnOf at hg
  obtain ⟨-, hg⟩ := oif_some hg
  obtain ⟨v3, e3, hg⟩ := elet_some hg
  obtain ⟨r4, g4, hg⟩ := obind_some hg
  unfold g_X11_remainder g_X11_remainder_b11 at g4
  rw [e3, e, if_neg hv] at g4
  obtain ⟨-, g4⟩ := oif_some g4
  obtain ⟨v4, e4, g4⟩ := elet_some g4
  have g := osome2 hg
  rw [← g.1, ← g.2, ← Option.some.inj g4, e4]
  exact ⟨rfl, rfl⟩
theorem r1h_cellAt {a0 a1 : Int32} (hV : IV aR0 1586 aK1 aK2 T) (hJ : JJ S) (h : R1 T S) (hg : g_X11_cellAt T 0 a0 a1 = some (k1, r1, T1)) (hf : fr_cellAt S a0 a1 = some (r2, S1)) : S1.1 0 = vck 1 2 3 k1 ∧ (vck 1 2 3 k1 = 0 → k1 = 0 ∧ r1 = r2) := by
  have z0 : (0 : Int32).toInt = 0 := by decide
  have z1 : (1 : Int32).toInt = 1 := by decide
  obtain ⟨s, hs, h14, hr⟩ := h.2.2.2.2
  have hF := h.1.srf hs
  unfold fr_cellAt at hf
  obtain ⟨r5, S2, f5, hf⟩ := obind2_some hf
  obtain ⟨eS2, er5⟩ := r_cell f5
  rw [eS2] at hf
  obtain ⟨r9, S6, f9, hf⟩ := obind2_some hf
  obtain ⟨eS6, er9⟩ := r_ask f9
  unfold g_X11_cellAt at hg
  obtain ⟨-, hg⟩ := oif_some hg
  rcases othr_k hg with ⟨rc, gc, hc⟩ | ⟨rc, Tc, gc, hg⟩
  · obtain ⟨-, ⟨q, -⟩ | ⟨q, q5⟩⟩ := c_cam h14 gc
    · exact absurd q hc
    · rw [q]
      rcases hr with ⟨a, b, b4, b8⟩ | ⟨a, -⟩
      · obtain ⟨c, -, x, y, -⟩ := b.2.1
        exact absurd (y.trans (x.symm.trans q5)) b4
      · have w : wAsk S r5 = 1 := by unfold wAsk; rw [if_pos a]
        rw [w] at eS6 er9
        rw [if_pos (show r9 = 0 from er9)] at hf
        rw [← (osome2 hf).2, eS6, mi_at]
        exact ⟨rfl, fun q => absurd q (by decide)⟩
  · obtain ⟨eT, ⟨-, q5⟩ | ⟨q, -⟩⟩ := c_cam h14 gc
    case inr => exact absurd q (by decide)
    rw [eT] at hg
    rcases hr with ⟨a, b, b4, b8⟩ | ⟨-, -, a, -⟩
    case inr => exact absurd a q5
    have hP := r_pl hJ a
    obtain ⟨p1, p2, p3, p4⟩ := pl_cell hP
    have p9 := hP.2.2.1.2.1
    obtain ⟨y3, y4, y⟩ := b.2.2.1
    have y : T.2.2.1 (s + 2) 0 = S.2.1 10 6 ∧ T.2.2.1 (s + 2) 1 = S.2.1 10 7 ∧ T.2.2.1 (s + 2) 2 = S.2.1 10 8 := by
      rcases y with ⟨y, -⟩ | ⟨-, -, u, v, w, -⟩
      · exact absurd y b8
      · exact ⟨u, v, w⟩
    have a20 : ¬ S.1 20 = 0 := by rw [a]; decide
    obtain ⟨-, hg⟩ := oif_some hg
    rcases othr_k hg with ⟨rc2, gc2, hc⟩ | ⟨rc2, Tc2, gc2, hg⟩
    · obtain ⟨-, ⟨q, -⟩ | ⟨q, qc⟩⟩ := c_cell hF h14 gc2
      · exact absurd q hc
      · rw [y3, y4] at qc
        have e0 : r5 = 0 := by
          rw [er5, if_neg]
          intro u
          have u1 := i_le u.1
          have u2 := i_le u.2
          exact qc ⟨by omega, by omega⟩
        have w : wAsk S r5 = 2 := by unfold wAsk; rw [if_neg a20, if_pos e0]
        rw [w] at eS6 er9
        rw [if_pos (show r9 = 0 from er9)] at hf
        rw [q, ← (osome2 hf).2, eS6, mi_at]
        exact ⟨rfl, fun q => absurd q (by decide)⟩
    · obtain ⟨eT2, ⟨-, qc⟩ | ⟨q, -⟩⟩ := c_cell hF h14 gc2
      case inr => exact absurd q (by decide)
      rw [eT2] at hg
      rw [y3, y4] at qc
      have e1 : r5 = 1 := by
        rw [er5, if_pos]
        exact ⟨Int32.le_iff_toInt_le.mpr (by omega), Int32.le_iff_toInt_le.mpr (by omega)⟩
      have w : wAsk S r5 = 0 := by unfold wAsk; rw [if_neg a20, if_neg (by rw [e1]; decide)]
      rw [w] at eS6 er9
      rw [if_neg (show ¬ r9 = 0 by rw [er9]; decide)] at hf
      obtain ⟨r11, f11, hf⟩ := obind_some hf
      have e11 := r_in f11
      rcases othr_k hg with ⟨rc3, gc3, hc⟩ | ⟨rc3, Tc3, gc3, hg⟩
      · obtain ⟨-, ⟨q, -⟩ | ⟨q, qr⟩⟩ := c_rng gc3
        · exact absurd q hc
        · have e0 : r11 = 0 := by
            rw [e11, if_neg]
            intro u
            exact qr ⟨i_le u.1, i_le u.2⟩
          rw [if_pos e0] at hf
          obtain ⟨r17, S14, f17, hf⟩ := obind2_some hf
          unfold fr_cellAt_b37 at hf
          rw [q, ← (osome2 hf).2, r_thr f17, mi_at]
          exact ⟨rfl, fun q => absurd q (by decide)⟩
      · obtain ⟨eT3, ⟨-, qr⟩ | ⟨q, -⟩⟩ := c_rng gc3
        case inr => exact absurd q (by decide)
        rw [eT3] at hg
        have e2 : ¬ r11 = 0 := by
          rw [e11, if_pos ⟨Int32.le_iff_toInt_le.mpr qr.1, Int32.le_iff_toInt_le.mpr qr.2⟩]
          decide
        rw [if_neg e2] at hf
        obtain ⟨r21, S18, f21, hf⟩ := obind2_some hf
        unfold fr_cellAt_b37 at hf
        unfold fr_centre at f21
        have n9 : ¬ S.2.1 10 9 = 0 := i_nz (by omega)
        have m10 : ∀ j, S6.2.1 10 j = S.2.1 10 j := fun j => by rw [eS6]; rfl
        by_cases c : a1 = 0
        · rw [if_pos c] at hg f21
          obtain ⟨v3, d3, f21⟩ := elet_some f21
          obtain ⟨v4, d4, f21⟩ := elet_some f21
          obtain ⟨v5, d5, f21⟩ := elet_some f21
          obtain ⟨-, f21⟩ := oif_some f21
          obtain ⟨v7, d7, f21⟩ := elet_some f21
          obtain ⟨v8, d8, f21⟩ := elet_some f21
          obtain ⟨v9, d9, f21⟩ := elet_some f21
          unfold fr_centre_b57 at f21
          obtain ⟨-, hg⟩ := oif_some hg
          obtain ⟨n18, e18, hg⟩ := obind_some hg
          rw [h14] at e18
          cases e18
          obtain ⟨-, hg⟩ := oif_some hg
          obtain ⟨n20, e20, hg⟩ := obind_some hg
          rw [hF.2.1] at e20
          cases e20
          obtain ⟨-, hg⟩ := oif_some hg
          obtain ⟨r24, T22, g24, hg⟩ := obind2_some hg
          unfold g_X1_centreX at g24
          obtain ⟨-, g24⟩ := oif_some g24
          obtain ⟨x3, t3, g24⟩ := elet_some g24
          obtain ⟨-, g24⟩ := oif_some g24
          obtain ⟨x5, t5, g24⟩ := elet_some g24
          obtain ⟨-, g24⟩ := oif_some g24
          obtain ⟨x9, T7, t9, g24⟩ := obind2_some g24
          obtain ⟨x11, t11, g24⟩ := elet_some g24
          obtain ⟨x12, t12, g24⟩ := elet_some g24
          obtain ⟨-, t9⟩ := a_col n9 y3 t9
          unfold g_X11_cellAt_b44 at hg
          have g := osome3 hg
          rw [← g.1, ← (osome2 hf).2, ← (osome2 f21).2, eS6, mi_at]
          refine ⟨rfl, fun _ => ⟨rfl, ?_⟩⟩
          rw [← g.2.1, ← (osome2 g24).1, ← (osome2 hf).1, ← (osome2 f21).1, t12, t11, t9, t3, t5, d9, d8, d7, d5, d4, d3, m10, m10, m10, y.1, y.2.2]
        · rw [if_neg c] at hg f21
          obtain ⟨v3, d3, f21⟩ := elet_some f21
          obtain ⟨v4, d4, f21⟩ := elet_some f21
          obtain ⟨v5, d5, f21⟩ := elet_some f21
          obtain ⟨-, f21⟩ := oif_some f21
          obtain ⟨v7, d7, f21⟩ := elet_some f21
          obtain ⟨v8, d8, f21⟩ := elet_some f21
          obtain ⟨v9, d9, f21⟩ := elet_some f21
          unfold fr_centre_b57 at f21
          obtain ⟨-, hg⟩ := oif_some hg
          obtain ⟨n18, e18, hg⟩ := obind_some hg
          rw [h14] at e18
          cases e18
          obtain ⟨-, hg⟩ := oif_some hg
          obtain ⟨n20, e20, hg⟩ := obind_some hg
          rw [hF.2.1] at e20
          cases e20
          obtain ⟨-, hg⟩ := oif_some hg
          obtain ⟨r24, T22, g24, hg⟩ := obind2_some hg
          unfold g_X1_centreY at g24
          obtain ⟨-, g24⟩ := oif_some g24
          obtain ⟨x3, t3, g24⟩ := elet_some g24
          obtain ⟨-, g24⟩ := oif_some g24
          obtain ⟨x5, t5, g24⟩ := elet_some g24
          obtain ⟨-, g24⟩ := oif_some g24
          obtain ⟨x9, T7, t9, g24⟩ := obind2_some g24
          obtain ⟨x11, t11, g24⟩ := elet_some g24
          obtain ⟨x12, t12, g24⟩ := elet_some g24
          obtain ⟨-, t9⟩ := a_row qc.1 p9.1 y3 t9
          unfold g_X11_cellAt_b44 at hg
          have g := osome3 hg
          rw [← g.1, ← (osome2 hf).2, ← (osome2 f21).2, eS6, mi_at]
          refine ⟨rfl, fun _ => ⟨rfl, ?_⟩⟩
          rw [← g.2.1, ← (osome2 g24).1, ← (osome2 hf).1, ← (osome2 f21).1, t12, t11, t9, t3, t5, d9, d8, d7, d5, d4, d3, m10, m10, m10, y.2.1, y.2.2]
end
