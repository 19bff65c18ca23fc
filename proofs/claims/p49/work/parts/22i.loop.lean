/-! the map's bytes: as many in both -/
section
theorem rem_nat {j c : Nat} (hj : j ≤ 200) (hc : 1 ≤ c ∧ c ≤ 12) (h : nI j - nI j / nI c * nI c = 0) : c * (j / c) = j := by
  have z0 : (0 : Int32).toInt = 0 := by decide
  have a : (nI j).toInt = (j : Int) := nI_toInt (by omega)
  have b : (nI c).toInt = (c : Int) := nI_toInt (by omega)
  have hd : j / c ≤ j := Nat.div_le_self _ _
  have hm : c * (j / c) ≤ j := Nat.mul_div_le _ _
  have hz := Int.natCast_nonneg (j / c)
  have d : (nI j / nI c).toInt = ((j / c : Nat) : Int) := by
    rw [Int32.toInt_div, a, b, Int.tdiv_eq_ediv_of_nonneg (by omega), ← Int.natCast_ediv, bm32 (by omega) (by omega)]
  have m : (nI j / nI c * nI c).toInt = ((c * (j / c) : Nat) : Int) := by
    rw [Int32.toInt_mul, d, b, ← Int.natCast_mul, Nat.mul_comm, bm32 (by omega) (by omega)]
  have e := i_sub (v := nI j - nI j / nI c * nI c) rfl (by omega) (by omega)
  rw [h] at e
  omega
theorem nI_p1 (x : Nat) : nI x + 1 = nI (x + 1) := nI_add x 1
theorem map_loop {S0 : MS} {l1 : Nat} {lg : Int64} {c r N : Nat} (hc : 1 ≤ c ∧ c ≤ 12) (hr : 1 ≤ r ∧ r ≤ 12) (hN : N = c * r) (h144 : N ≤ 144) (P9 : S0.2.1 10 9 = nI c) (P10 : S0.2.1 10 10 = nI r) (hm : (nI c * nI r).toInt = (N : Int)) (h20 : S0.1 20 = 1) (hl : aR0 l1 = 4) : ∀ (n j q : Nat) (T : AT) (S : MS), IV aR0 1586 aK1 aK2 T → R1 T S0 → S.2.1 10 = S0.2.1 10 → T.2.2.1 0 18 = nI (j + q) → S.1 28 = nI (j + q) → j ≤ N → (j = 0 ∧ q = 0 ∨ c * q + 1 ≤ j) → ∀ (k1 : Nat) (r1 r2 : Int32) (T1 : AT) (S1 : MS), g_X11_writeMap_b16 n T 0 l1 (nI j) = some (k1, r1, T1) → fr_writeMap_b31 n S lg (nI j) = some (r2, S1) → k1 = 0 ∧ r1 = r2 := by
  have z0 : (0 : Int32).toInt = 0 := by decide
  intro n
  induction n with
  | zero =>
    intro j q T S hV hR e10 e18 e28 hj hq k1 r1 r2 T1 S1 hg hf
    unfold g_X11_writeMap_b16 at hg
    cases hg
  | succ n ih =>
    intro j q T S hV hR e10 e18 e28 hj hq k1 r1 r2 T1 S1 hg hf
    obtain ⟨s, hs, h14, hrr⟩ := hR.2.2.2.2
    have hF := hR.1.srf hs
    have n9 : ¬ nI c = 0 := i_nz (by rw [nI_toInt (by omega)]; omega)
    rcases hrr with ⟨-, b, -, -⟩ | ⟨a, -⟩
    case inr => rw [h20] at a; exact absurd a (by decide)
    obtain ⟨y3, y4, -⟩ := b.2.2.1
    rw [P9] at y3
    rw [P10] at y4
    have jI : (nI j).toInt = (j : Int) := nI_toInt (by omega)
    have step : ∀ (T2 : AT) (S2 : MS) (q2 : Nat), IV aR0 1586 aK1 aK2 T2 → R1 T2 S0 → S2.2.1 10 = S0.2.1 10 → T2.2.2.1 0 18 = nI (j + q2) → S2.1 28 = nI (j + q2) → j < N → j + q2 < 155 → c * q2 + 1 ≤ j + 1 → g_X11_writeMap_b54 (g_X11_writeMap_b16 n) T2 0 l1 (nI j) = some (k1, r1, T1) → fr_writeMap_b76 (fr_writeMap_b31 n) S2 lg (nI j) = some (r2, S1) → k1 = 0 ∧ r1 = r2 := by
      intro T2 S2 q2 hV2 hR2 f10 f18 f28 hjN hlt hq2 hg2 hf2
      obtain ⟨T4, hV4, hR4, c4, g4⟩ := c_b54 hV2 hR2 hl ⟨by omega, by omega⟩ (by rw [f18, nI_toInt (by omega)]; omega) hg2
      obtain ⟨S7, d10, d28, f7⟩ := r_b76 hf2
      rw [nI_p1] at g4 f7
      exact ih (j + 1) q2 T4 S7 hV4 hR4 (d10.trans f10) (by rw [c4, f18, nI_p1, show j + q2 + 1 = j + 1 + q2 by omega]) (by rw [d28, f28, nI_p1, show j + q2 + 1 = j + 1 + q2 by omega]) (by omega) (.inr hq2) k1 r1 r2 T1 S1 g4 f7
    unfold g_X11_writeMap_b16 at hg
    obtain ⟨-, hg⟩ := oif_some hg
    obtain ⟨n3, e3, hg⟩ := obind_some hg
    rw [h14] at e3
    cases e3
    obtain ⟨-, hg⟩ := oif_some hg
    obtain ⟨n5, e5, hg⟩ := obind_some hg
    rw [hF.2.1] at e5
    cases e5
    obtain ⟨-, hg⟩ := oif_some hg
    obtain ⟨r9, T7, g7, hg⟩ := obind2_some hg
    unfold g_X1_cells at g7
    obtain ⟨-, g7⟩ := oif_some g7
    obtain ⟨x3, t3, g7⟩ := elet_some g7
    obtain ⟨-, g7⟩ := oif_some g7
    obtain ⟨x5, t5, g7⟩ := elet_some g7
    obtain ⟨x6, t6, g7⟩ := elet_some g7
    have gg := osome2 g7
    rw [← gg.2, ← gg.1, t6, t3, t5, y3, y4] at hg
    unfold fr_writeMap_b31 at hf
    obtain ⟨r5, S2, f5, hf⟩ := obind2_some hf
    unfold fr_cellCount at f5
    obtain ⟨v2, d2, f5⟩ := elet_some f5
    obtain ⟨v3, d3, f5⟩ := elet_some f5
    obtain ⟨v4, d4, f5⟩ := elet_some f5
    have ff := osome2 f5
    rw [← ff.2, ← ff.1, d4, d2, d3, e10, P9, P10] at hf
    by_cases e : N ≤ j
    · have le : nI c * nI r ≤ nI j := Int32.le_iff_toInt_le.mpr (by omega)
      rw [if_pos le] at hg hf
      obtain ⟨-, hg⟩ := oif_some hg
      obtain ⟨v13, e13, hg⟩ := elet_some hg
      obtain ⟨v7, e7, hf⟩ := elet_some hf
      have g := osome3 hg
      rw [← g.1, ← g.2.1, ← (osome2 hf).1, e13, e7, e18, e28]
      exact ⟨rfl, rfl⟩
    · have nle : ¬ nI c * nI r ≤ nI j := fun u => by have := i_le u; omega
      rw [if_neg nle] at hg hf
      have qr : q < r := by
        rcases hq with ⟨u, v⟩ | hq
        · omega
        · exact Nat.lt_of_mul_lt_mul_left (a := c) (by omega)
      by_cases j0 : j = 0
      · have le : nI j ≤ 0 := Int32.le_iff_toInt_le.mpr (by omega)
        rw [if_pos le] at hg hf
        have q0 : q = 0 := by
          rcases hq with ⟨u, v⟩ | hq
          · exact v
          · omega
        exact step T S q hV hR e10 e18 e28 (by omega) (by omega) (by rw [q0]; omega) hg hf
      · have nle : ¬ nI j ≤ 0 := fun u => by have := i_le u; omega
        have hq : c * q + 1 ≤ j := by
          rcases hq with ⟨u, v⟩ | hq
          · omega
          · exact hq
        rw [if_neg nle] at hg hf
        obtain ⟨-, hg⟩ := oif_some hg
        obtain ⟨n16, e16, hg⟩ := obind_some hg
        rw [h14] at e16
        cases e16
        obtain ⟨-, hg⟩ := oif_some hg
        obtain ⟨n18, e18', hg⟩ := obind_some hg
        rw [hF.2.1] at e18'
        cases e18'
        obtain ⟨-, hg⟩ := oif_some hg
        obtain ⟨r22, T20, g22, hg⟩ := obind2_some hg
        obtain ⟨eT, er⟩ := a_col n9 y3 g22
        rw [eT, er] at hg
        obtain ⟨v9, d9, hf⟩ := elet_some hf
        obtain ⟨-, hf⟩ := oif_some hf
        obtain ⟨v11, d11, hf⟩ := elet_some hf
        rw [d9] at d11
        rw [d11] at hf
        by_cases cz : nI j - nI j / nI c * nI c = 0
        · rw [if_pos cz] at hg hf
          have hd := rem_nat (by omega) hc cz
          have hq1 : q < j / c := Nat.lt_of_mul_lt_mul_left (a := c) (by omega)
          have hq2 : c * (q + 1) ≤ c * (j / c) := Nat.mul_le_mul_left c hq1
          have qr2 : q + 1 < r := Nat.lt_of_mul_lt_mul_left (a := c) (by omega)
          obtain ⟨-, hg⟩ := oif_some hg
          obtain ⟨T26, g26, hg⟩ := obind_some hg
          have q4 := tgo (cs_X11_addMapByte T 0 59 hV rrole.2.2.2 (by decide)) g26
          obtain ⟨v13, d13, hf⟩ := elet_some hf
          obtain ⟨-, hf⟩ := oif_some hf
          obtain ⟨S15, d15, hf⟩ := elet_some hf
          obtain ⟨v16, d16, hf⟩ := elet_some hf
          obtain ⟨v17, d17, hf⟩ := elet_some hf
          obtain ⟨S18, d18, hf⟩ := elet_some hf
          refine step T26 S18 (q + 1) q4.1 (r1_keep hR hV q4.2 (by decide +kernel) (gr_sp (s_X11_addMapByte g26)) fk_rf) ?_ ?_ ?_ (by omega) (by omega) (by omega) hg hf
          · rw [d18, d15]
            exact e10
          · rw [a_byte hV (by rw [e18, nI_toInt (by omega)]; omega) g26, e18, nI_p1]
            rfl
          · rw [d18, mi_at, d17, d16, d15, show (mf S 27 (upd (S.2.1 27) v13.toNatClampNeg 59)).1 28 = S.1 28 from rfl, e28, nI_p1]
            rfl
        · rw [if_neg cz] at hg hf
          exact step T S q hV hR e10 e18 e28 (by omega) (by omega) (by omega) hg hf
end
