/-! answers of the scene alone: waveAt -/
section
variable {T T1 : AT} {S S1 : MS} {k1 : Nat} {r1 r2 : Int32}
theorem r1h_waveAt {a0 a1 : Int32} (hV : IV aR0 1586 aK1 aK2 T) (hJ : JJ S) (h : R1 T S) (hg : g_X11_waveAt T 0 a0 a1 = some (k1, r1, T1)) (hf : fr_waveAt S a0 a1 = some (r2, S1)) : S1.1 0 = vck 1 2 3 k1 ∧ (vck 1 2 3 k1 = 0 → k1 = 0 ∧ r1 = r2) := by
  have z0 : (0 : Int32).toInt = 0 := by decide
  have z1 : (1 : Int32).toInt = 1 := by decide
  obtain ⟨s, hs, h14, hr⟩ := h.2.2.2.2
  have hF := h.1.srf hs
  unfold fr_waveAt at hf
  obtain ⟨r5, S2, f5, hf⟩ := obind2_some hf
  obtain ⟨eS2, er5⟩ := r_isSrc f5
  rw [eS2] at hf
  obtain ⟨r9, S6, f9, hf⟩ := obind2_some hf
  obtain ⟨eS6, er9⟩ := r_ask f9
  unfold g_X11_waveAt at hg
  obtain ⟨-, hg⟩ := oif_some hg
  rcases othr_k hg with ⟨rc, gc, hc⟩ | ⟨rc, Tc, gc, hg⟩
  · obtain ⟨-, ⟨q, -⟩ | ⟨q, q5⟩⟩ := c_cam h14 gc
    · exact absurd q hc
    · rw [q]
      rcases hr with ⟨a, b, b4, b8⟩ | ⟨a, -⟩
      · obtain ⟨c, -, x, y, -⟩ := b.2.1
        exact absurd (y.trans (x.symm.trans q5)) b4
      · have w : wAsk S r5 = 1 := by unfold wAsk; rw [if_pos a]
        rw [w] at eS6 er9
        rw [if_pos (show r9 = 0 from er9)] at hf
        rw [← (osome2 hf).2, eS6, mi_at]
        exact ⟨rfl, fun q => absurd q (by decide)⟩
  · obtain ⟨eT, ⟨-, q5⟩ | ⟨q, -⟩⟩ := c_cam h14 gc
    case inr => exact absurd q (by decide)
    rw [eT] at hg
    rcases hr with ⟨a, b, b4, b8⟩ | ⟨-, -, a, -⟩
    case inr => exact absurd a q5
    have hP := r_pl hJ a
    have p5 := hP.2.1.2.1
    have p2 := hP.1.2.2.1
    obtain ⟨c, c6, y8, y5, hsrc⟩ := b.2.2.2.1
    have y2 : T.2.2.1 s 2 = S.2.1 10 2 := b.1.2.2.1
    have m5 := i_sub (v := S.2.1 10 5 - 1) rfl (by omega) (by omega)
    have m2 := i_sub (v := S.2.1 10 2 - 1) rfl (by omega) (by omega)
    have a20 : ¬ S.1 20 = 0 := by rw [a]; decide
    obtain ⟨-, hg⟩ := oif_some hg
    rcases othr_k hg with ⟨rc2, gc2, hc⟩ | ⟨rc2, Tc2, gc2, hg⟩
    · obtain ⟨-, ⟨q, -⟩ | ⟨q, qc⟩⟩ := c_src h14 gc2
      · exact absurd q hc
      · rw [y8, ← y5] at qc
        have e0 : r5 = 0 := by
          rw [er5, if_neg]
          intro u
          have u1 := i_le u.1
          have u2 := i_le u.2
          exact qc ⟨by omega, by omega⟩
        have w : wAsk S r5 = 2 := by unfold wAsk; rw [if_neg a20, if_pos e0]
        rw [w] at eS6 er9
        rw [if_pos (show r9 = 0 from er9)] at hf
        rw [q, ← (osome2 hf).2, eS6, mi_at]
        exact ⟨rfl, fun q => absurd q (by decide)⟩
    · obtain ⟨eT2, ⟨-, qc⟩ | ⟨q, -⟩⟩ := c_src h14 gc2
      case inr => exact absurd q (by decide)
      rw [eT2] at hg
      rw [y8, ← y5] at qc
      have e1 : r5 = 1 := by
        rw [er5, if_pos]
        exact ⟨Int32.le_iff_toInt_le.mpr (by omega), Int32.le_iff_toInt_le.mpr (by omega)⟩
      have w : wAsk S r5 = 0 := by unfold wAsk; rw [if_neg a20, if_neg (by rw [e1]; decide)]
      rw [w] at eS6 er9
      rw [if_neg (show ¬ r9 = 0 by rw [er9]; decide)] at hf
      obtain ⟨r14, S11, f14, hf⟩ := obind2_some hf
      obtain ⟨eS11, e14⟩ := r_isTime f14
      have m10 : ∀ j, S6.2.1 10 j = S.2.1 10 j := fun j => by rw [eS6]; rfl
      rw [m10] at e14
      rw [eS11] at hf
      obtain ⟨-, hg⟩ := oif_some hg
      obtain ⟨n13, e13, hg⟩ := obind_some hg
      rw [h14] at e13
      cases e13
      obtain ⟨-, hg⟩ := oif_some hg
      obtain ⟨x15, t15, hg⟩ := elet_some hg
      obtain ⟨x16, t16, hg⟩ := elet_some hg
      rw [t16, t15, y2] at hg
      rcases othr_k hg with ⟨rc3, gc3, hc⟩ | ⟨rc3, Tc3, gc3, hg⟩
      · obtain ⟨-, ⟨q, -⟩ | ⟨q, qr⟩⟩ := c_rng gc3
        · exact absurd q hc
        · have e0 : r14 = 0 := by
            rw [e14, if_neg]
            intro u
            exact qr ⟨i_le u.1, i_le u.2⟩
          rw [if_pos e0] at hf
          obtain ⟨r17, S14, f17, hf⟩ := obind2_some hf
          unfold fr_waveAt_b36 at hf
          rw [q, ← (osome2 hf).2, r_thr f17, mi_at]
          exact ⟨rfl, fun q => absurd q (by decide)⟩
      · obtain ⟨eT3, ⟨-, qr⟩ | ⟨q, -⟩⟩ := c_rng gc3
        case inr => exact absurd q (by decide)
        rw [eT3] at hg
        have e2 : ¬ r14 = 0 := by
          rw [e14, if_pos ⟨Int32.le_iff_toInt_le.mpr qr.1, Int32.le_iff_toInt_le.mpr qr.2⟩]
          decide
        rw [if_neg e2] at hf
        obtain ⟨r21, S18, f21, hf⟩ := obind2_some hf
        unfold fr_waveAt_b36 at hf
        obtain ⟨-, hg⟩ := oif_some hg
        obtain ⟨n22, e22, hg⟩ := obind_some hg
        rw [h14] at e22
        cases e22
        obtain ⟨-, hg⟩ := oif_some hg
        obtain ⟨n24, e24, hg⟩ := obind_some hg
        rw [hF.2.2.1] at e24
        cases e24
        obtain ⟨-, hg⟩ := oif_some hg
        obtain ⟨-, hg⟩ := oif_some hg
        obtain ⟨n27, e27, hg⟩ := obind_some hg
        have k0 := i_cl qc.1
        have y5' : (S.2.1 10 5).toInt = (c : Int) := by rw [y5]; exact nI_toInt (by omega)
        rw [hF.2.2.2.2.2.2.2.2.2.1 a0.toNatClampNeg (by omega)] at e27
        cases e27
        obtain ⟨-, hg⟩ := oif_some hg
        obtain ⟨r31, T29, g31, hg⟩ := obind2_some hg
        obtain ⟨v0, v5, v6, v7, v8⟩ := hsrc a0.toNatClampNeg (by omega)
        have k := k_wave (S := S6) qc.1 (by omega) (v0.trans (m10 _).symm) (v5.trans (m10 _).symm) (v6.trans (m10 _).symm) (v7.trans (m10 _).symm) (v8.trans (m10 _).symm) g31 f21
        have g := osome3 hg
        rw [← g.1, ← (osome2 hf).2, k.1, eS6, mi_at]
        refine ⟨rfl, fun _ => ⟨rfl, ?_⟩⟩
        rw [← g.2.1, ← (osome2 hf).1]
        exact k.2
end
