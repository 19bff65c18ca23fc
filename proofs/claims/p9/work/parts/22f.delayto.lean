/-! answers of the scene alone: delayTo -/
section
variable {T T1 : AT} {S S1 : MS} {k1 : Nat} {r1 r2 : Int32}
theorem r_pt {a b r : Int32} (hf : fr_isPoint a b = some r) : r = if (-9999 ≤ a ∧ a ≤ 9999) ∧ -9999 ≤ b ∧ b ≤ 9999 then 1 else 0 := by
  unfold fr_isPoint fr_isPoint_b30 fr_isPoint_b31 at hf
  obtain ⟨r2, f2, hf⟩ := obind_some hf
  have e2 := r_in f2
  by_cases c : -9999 ≤ a ∧ a ≤ 9999
  · rw [if_pos c] at e2
    rw [e2, if_neg (by decide)] at hf
    obtain ⟨r5, f5, hf⟩ := obind_some hf
    have e5 := r_in f5
    by_cases c2 : -9999 ≤ b ∧ b ≤ 9999
    · rw [if_pos c2] at e5
      rw [e5, if_neg (by decide)] at hf
      obtain ⟨-, hf⟩ := oif_some hf
      rw [if_pos ⟨c, c2⟩]
      exact (Option.some.inj hf).symm
    · rw [if_neg c2] at e5
      rw [e5, if_pos rfl] at hf
      obtain ⟨-, hf⟩ := oif_some hf
      rw [if_neg (fun q => c2 q.2)]
      exact (Option.some.inj hf).symm
  · rw [if_neg c] at e2
    rw [e2, if_pos rfl] at hf
    obtain ⟨-, hf⟩ := oif_some hf
    rw [if_neg (fun q => c q.1)]
    exact (Option.some.inj hf).symm
theorem r1h_delayTo {a0 a1 a2 : Int32} (hV : IV aR0 1586 aK1 aK2 T) (hJ : JJ S) (h : R1 T S) (hg : g_X11_delayTo T 0 a0 a1 a2 = some (k1, r1, T1)) (hf : fr_delayTo S a0 a1 a2 = some (r2, S1)) : S1.1 0 = vck 1 2 3 k1 ∧ (vck 1 2 3 k1 = 0 → k1 = 0 ∧ r1 = r2) := by
  have z0 : (0 : Int32).toInt = 0 := by decide
  have z1 : (1 : Int32).toInt = 1 := by decide
  obtain ⟨s, hs, h14, hr⟩ := h.2.2.2.2
  have hF := h.1.srf hs
  unfold fr_delayTo at hf
  obtain ⟨r5, S2, f5, hf⟩ := obind2_some hf
  obtain ⟨eS2, er5⟩ := r_mic f5
  rw [eS2] at hf
  obtain ⟨r9, S6, f9, hf⟩ := obind2_some hf
  obtain ⟨eS6, er9⟩ := r_ask f9
  unfold g_X11_delayTo at hg
  obtain ⟨-, hg⟩ := oif_some hg
  rcases othr_k hg with ⟨rc, gc, hc⟩ | ⟨rc, Tc, gc, hg⟩
  · obtain ⟨-, ⟨q, -⟩ | ⟨q, q5⟩⟩ := c_cam h14 gc
    · exact absurd q hc
    · rw [q]
      rcases hr with ⟨a, b, b4, b8⟩ | ⟨a, -⟩
      · obtain ⟨c, -, x, y, -⟩ := b.2.1
        exact absurd (y.trans (x.symm.trans q5)) b4
      · have w : wAsk S r5 = 1 := by unfold wAsk; rw [if_pos a]
        rw [w] at eS6 er9
        rw [if_pos (show r9 = 0 from er9)] at hf
        rw [← (osome2 hf).2, eS6, mi_at]
        exact ⟨rfl, fun q => absurd q (by decide)⟩
  · obtain ⟨eT, ⟨-, q5⟩ | ⟨q, -⟩⟩ := c_cam h14 gc
    case inr => exact absurd q (by decide)
    rw [eT] at hg
    rcases hr with ⟨a, b, b4, b8⟩ | ⟨-, -, a, -⟩
    case inr => exact absurd a q5
    have hP := r_pl hJ a
    have p4 := hP.2.1.1
    obtain ⟨c, c12, y5, y4, hmic, -⟩ := b.2.1
    have m4 := i_sub (v := S.2.1 10 4 - 1) rfl (by omega) (by omega)
    have a20 : ¬ S.1 20 = 0 := by rw [a]; decide
    obtain ⟨-, hg⟩ := oif_some hg
    rcases othr_k hg with ⟨rc2, gc2, hc⟩ | ⟨rc2, Tc2, gc2, hg⟩
    · obtain ⟨-, ⟨q, -⟩ | ⟨q, qc⟩⟩ := c_mic h14 gc2
      · exact absurd q hc
      · rw [y5, ← y4] at qc
        have e0 : r5 = 0 := by
          rw [er5, if_neg]
          intro u
          have u1 := i_le u.1
          have u2 := i_le u.2
          exact qc ⟨by omega, by omega⟩
        have w : wAsk S r5 = 2 := by unfold wAsk; rw [if_neg a20, if_pos e0]
        rw [w] at eS6 er9
        rw [if_pos (show r9 = 0 from er9)] at hf
        rw [q, ← (osome2 hf).2, eS6, mi_at]
        exact ⟨rfl, fun q => absurd q (by decide)⟩
    · obtain ⟨eT2, ⟨-, qc⟩ | ⟨q, -⟩⟩ := c_mic h14 gc2
      case inr => exact absurd q (by decide)
      rw [eT2] at hg
      rw [y5, ← y4] at qc
      have e1 : r5 = 1 := by
        rw [er5, if_pos]
        exact ⟨Int32.le_iff_toInt_le.mpr (by omega), Int32.le_iff_toInt_le.mpr (by omega)⟩
      have w : wAsk S r5 = 0 := by unfold wAsk; rw [if_neg a20, if_neg (by rw [e1]; decide)]
      rw [w] at eS6 er9
      rw [if_neg (show ¬ r9 = 0 by rw [er9]; decide)] at hf
      obtain ⟨r11, f11, hf⟩ := obind_some hf
      have e11 := r_pt f11
      have m10 : S6.2.1 10 = S.2.1 10 := by rw [eS6]; rfl
      have zm : (-9999 : Int32).toInt = -9999 := by decide
      have zp : (9999 : Int32).toInt = 9999 := by decide
      rcases othr_k hg with ⟨rc3, gc3, hc⟩ | ⟨rc3, Tc3, gc3, hg⟩
      · obtain ⟨-, ⟨q, -⟩ | ⟨q, qr⟩⟩ := c_rng gc3
        · exact absurd q hc
        · have e0 : r11 = 0 := by
            rw [e11, if_neg]
            intro u
            exact qr ⟨i_le u.1.1, i_le u.1.2⟩
          rw [if_pos e0] at hf
          obtain ⟨r17, S14, f17, hf⟩ := obind2_some hf
          unfold fr_delayTo_b37 at hf
          rw [q, ← (osome2 hf).2, r_thr f17, mi_at]
          exact ⟨rfl, fun q => absurd q (by decide)⟩
      · obtain ⟨eT3, ⟨-, qx⟩ | ⟨q, -⟩⟩ := c_rng gc3
        case inr => exact absurd q (by decide)
        rw [eT3] at hg
        rcases othr_k hg with ⟨rc4, gc4, hc⟩ | ⟨rc4, Tc4, gc4, hg⟩
        · obtain ⟨-, ⟨q, -⟩ | ⟨q, qr⟩⟩ := c_rng gc4
          · exact absurd q hc
          · have e0 : r11 = 0 := by
              rw [e11, if_neg]
              intro u
              exact qr ⟨i_le u.2.1, i_le u.2.2⟩
            rw [if_pos e0] at hf
            obtain ⟨r17, S14, f17, hf⟩ := obind2_some hf
            unfold fr_delayTo_b37 at hf
            rw [q, ← (osome2 hf).2, r_thr f17, mi_at]
            exact ⟨rfl, fun q => absurd q (by decide)⟩
        · obtain ⟨eT4, ⟨-, qy⟩ | ⟨q, -⟩⟩ := c_rng gc4
          case inr => exact absurd q (by decide)
          rw [eT4] at hg
          have e2 : ¬ r11 = 0 := by
            rw [e11, if_pos ⟨⟨Int32.le_iff_toInt_le.mpr qx.1, Int32.le_iff_toInt_le.mpr qx.2⟩, Int32.le_iff_toInt_le.mpr qy.1, Int32.le_iff_toInt_le.mpr qy.2⟩]
            decide
          rw [if_neg e2] at hf
          obtain ⟨r21, S18, f21, hf⟩ := obind2_some hf
          unfold fr_delayTo_b37 at hf
          obtain ⟨-, hg⟩ := oif_some hg
          obtain ⟨n21, e21, hg⟩ := obind_some hg
          rw [h14] at e21
          cases e21
          obtain ⟨-, hg⟩ := oif_some hg
          obtain ⟨n23, e23, hg⟩ := obind_some hg
          rw [h14] at e23
          cases e23
          obtain ⟨-, hg⟩ := oif_some hg
          obtain ⟨n25, e25, hg⟩ := obind_some hg
          rw [hF.1] at e25
          cases e25
          obtain ⟨-, hg⟩ := oif_some hg
          obtain ⟨-, hg⟩ := oif_some hg
          obtain ⟨n28, e28, hg⟩ := obind_some hg
          have k0 := i_cl qc.1
          have y4' : (S.2.1 10 4).toInt = (c : Int) := by rw [y4]; exact nI_toInt (by omega)
          rw [hF.2.2.2.2.2.2.2.2.1 a0.toNatClampNeg (by omega)] at e28
          cases e28
          obtain ⟨-, hg⟩ := oif_some hg
          obtain ⟨r32, T30, g32, hg⟩ := obind2_some hg
          obtain ⟨v0, v1, -⟩ := hmic a0.toNatClampNeg (by omega)
          have k := k_from (S := S6) (by rw [m10]; exact hP) qc.1 (by omega) (by omega) (by omega) (by rw [m10]; exact b.1.1) (by rw [m10]; exact b.1.2.1) (by rw [m10]; exact v0) (by rw [m10]; exact v1) g32 f21
          have g := osome3 hg
          rw [← g.1, ← (osome2 hf).2, k.1, eS6, mi_at]
          refine ⟨rfl, fun _ => ⟨rfl, ?_⟩⟩
          rw [← g.2.1, ← (osome2 hf).1]
          exact k.2
end
