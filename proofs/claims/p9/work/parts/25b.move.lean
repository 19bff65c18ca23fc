/-! moveSource, setVelocity: R2 is kept -/
section
variable {T T1 : AT} {S S1 : MS} {k1 : Nat} {r1 r2 : Int32}
theorem q_vel {a b r : Int32} (hf : fr_isVelocity a b = some r) : r = 1 ∧ ((-999 ≤ a.toInt ∧ a.toInt ≤ 999) ∧ -999 ≤ b.toInt ∧ b.toInt ≤ 999) ∨ r = 0 ∧ ¬ ((-999 ≤ a.toInt ∧ a.toInt ≤ 999) ∧ -999 ≤ b.toInt ∧ b.toInt ≤ 999) := by
  have zm : ((-999) : Int32).toInt = -999 := by decide
  have zp : (999 : Int32).toInt = 999 := by decide
  unfold fr_isVelocity at hf
  obtain ⟨w, g, hf⟩ := obind_some hf
  have q := q_in g
  rcases q with ⟨e, q⟩ | ⟨e, q⟩
  · rw [if_neg (by rw [e]; decide)] at hf
    obtain ⟨w2, g2, hf⟩ := obind_some hf
    have q2 := q_in g2
    rcases q2 with ⟨e2, q2⟩ | ⟨e2, q2⟩
    · rw [if_neg (by rw [e2]; decide)] at hf
      unfold fr_isVelocity_b31 at hf
      exact .inl ⟨(osome1 (oif_some hf).2).symm, ⟨by omega, by omega⟩, by omega, by omega⟩
    · rw [if_pos e2] at hf
      unfold fr_isVelocity_b30 fr_isVelocity_b31 at hf
      exact .inr ⟨(osome1 (oif_some hf).2).symm, fun u => q2 ⟨by omega, by omega⟩⟩
  · rw [if_pos e] at hf
    unfold fr_isVelocity_b30 fr_isVelocity_b31 at hf
    exact .inr ⟨(osome1 (oif_some hf).2).symm, fun u => q ⟨by omega, by omega⟩⟩
theorem r2_moveSource {a0 a1 a2 : Int32} (hV : IV aR0 1586 aK1 aK2 T) (hJ : JJ S) (h : R2 T S) (hg : g_X11_moveSource T 0 a0 a1 a2 = some (k1, r1, T1)) (hf : fr_moveSource S a0 a1 a2 = some (r2, S1)) : R2 T1 S1 := by
  have zm : ((-2000) : Int32).toInt = -2000 := by decide
  have zp : (2000 : Int32).toInt = 2000 := by decide
  unfold fr_moveSource at hf
  obtain ⟨r5, S2, f5, hf⟩ := obind2_some hf
  obtain ⟨r9, S6, f9, hf⟩ := obind2_some hf
  have eS := src_same f5
  rw [eS] at f9
  unfold g_X11_moveSource at hg
  obtain ⟨-, hg⟩ := oif_some hg
  rcases othr_k hg with ⟨rc, gc, hc⟩ | ⟨rc, Tc, gc, hg⟩
  · obtain ⟨eT, ⟨q, -⟩ | ⟨q, q20⟩⟩ := p_cam h.1 gc
    · exact absurd q hc
    · obtain ⟨e, er⟩ := ask_0 q20 f9
      rw [if_pos er] at hf
      rw [eT, ← (osome2 hf).2, e]
      exact r2_mi0 h
  · obtain ⟨eT, ⟨-, q20⟩ | ⟨q, -⟩⟩ := p_cam h.1 gc
    case inr => exact absurd q (by decide)
    rw [eT] at hg
    have hP := r_pl hJ q20
    have p5 := pl_5 hP
    obtain ⟨-, hg⟩ := oif_some hg
    rcases othr_k hg with ⟨rc2, gc2, hc⟩ | ⟨rc2, Tc2, gc2, hg⟩
    · obtain ⟨eT2, ⟨q, -⟩ | ⟨q, qc⟩⟩ := p_src h.1 q20 gc2
      · exact absurd q hc
      · rcases (q_src hP f5).2 with ⟨-, z⟩ | ⟨z, -⟩
        · exact absurd z qc
        · rw [z] at f9
          obtain ⟨e, er⟩ := ask_2 q20 f9
          rw [if_pos er] at hf
          rw [eT2, ← (osome2 hf).2, e]
          exact r2_mi0 h
    · obtain ⟨eT2, ⟨-, qc⟩ | ⟨q, -⟩⟩ := p_src h.1 q20 gc2
      case inr => exact absurd q (by decide)
      rw [eT2] at hg
      rcases (q_src hP f5).2 with ⟨z, -⟩ | ⟨-, z⟩
      case inr => exact absurd qc z
      rw [z] at f9
      obtain ⟨e, er⟩ := ask_1 q20 f9
      rw [if_neg (by rw [er]; decide)] at hf
      have no : ∀ {U : MS}, fr_moveSource_b53 U = some (r2, S1) → S1 = mi U 0 3 := by
        intro U hf
        unfold fr_moveSource_b53 at hf
        obtain ⟨r5, V, f5, hf⟩ := obind2_some hf
        unfold fr_moveSource_b58 at hf
        rw [← (osome2 hf).2, r_thr f5]
      obtain ⟨r11, f11, hf⟩ := obind_some hf
      have q11 := q_in f11
      rcases othr_k hg with ⟨rc3, gc3, hc⟩ | ⟨rc3, Tc3, gc3, hg⟩
      · obtain ⟨eT3, ⟨q, -⟩ | ⟨q, qd⟩⟩ := c_rng gc3
        · exact absurd q hc
        · rcases q11 with ⟨-, z⟩ | ⟨z, -⟩
          · exact absurd z qd
          · rw [if_pos z] at hf
            rw [eT3, no hf, e]
            exact r2_mi0 (r2_mi0 h)
      obtain ⟨eT3, ⟨-, qd⟩ | ⟨q, -⟩⟩ := c_rng gc3
      case inr => exact absurd q (by decide)
      rw [eT3] at hg
      rcases q11 with ⟨z, -⟩ | ⟨-, z⟩
      case inr => exact absurd qd z
      rw [if_neg (by rw [z]; decide)] at hf
      obtain ⟨r14, f14, hf⟩ := obind_some hf
      have q14 := q_in f14
      rcases othr_k hg with ⟨rc4, gc4, hc⟩ | ⟨rc4, Tc4, gc4, hg⟩
      · obtain ⟨eT4, ⟨q, -⟩ | ⟨q, qe⟩⟩ := c_rng gc4
        · exact absurd q hc
        · rcases q14 with ⟨-, z⟩ | ⟨z, -⟩
          · exact absurd z qe
          · rw [if_pos z] at hf
            rw [eT4, no hf, e]
            exact r2_mi0 (r2_mi0 h)
      obtain ⟨eT4, ⟨-, qe⟩ | ⟨q, -⟩⟩ := c_rng gc4
      case inr => exact absurd q (by decide)
      rw [eT4] at hg
      rcases q14 with ⟨z, -⟩ | ⟨-, z⟩
      case inr => exact absurd qe z
      rw [if_neg (by rw [z]; decide)] at hf
      obtain ⟨v17, d17, hf⟩ := elet_some hf
      obtain ⟨r21, S18, f18, hf⟩ := obind2_some hf
      unfold fr_moveSource_b58 at hf
      have ef := osome2 hf
      have k17 := cl_ad (n := 31) (by decide) qc.1 (by omega) d17
      have ka := i_cl qc.1
      obtain ⟨-, hg⟩ := oif_some hg
      obtain ⟨T21, g21, hg⟩ := obind_some hg
      unfold fr_setsTwo at f18
      obtain ⟨r5', S2', f5', f18⟩ := obind2_some f18
      obtain ⟨v6, d6, f18⟩ := elet_some f18
      obtain ⟨-, f18⟩ := oif_some f18
      obtain ⟨S8, e8', f18⟩ := elet_some f18
      obtain ⟨S9, f9', f18⟩ := obind_some f18
      obtain ⟨r15, S12, f12, f18⟩ := obind2_some f18
      obtain ⟨U, fU, -, eU⟩ := x_sets f5'
      rw [k17] at eU
      have i17 : v17.toInt = 31 + a0.toInt := by
        have z : (31 : Int32).toInt = 31 := by decide
        have := i_add d17 (by omega) (by omega)
        omega
      have k6 : v6.toNatClampNeg = 37 + a0.toNatClampNeg := by
        have z : (6 : Int32).toInt = 6 := by decide
        have q := i_add d6 (by omega) (by omega)
        have q2 := i_cl (i := v6) (by omega)
        omega
      rw [k6] at e8'
      obtain ⟨K1, K2, K3, K4, K5, K6, -⟩ := r2_keepu (S := S6) (by rw [e]; exact hP) (by rw [e]; exact q20) hV (by rw [e]; exact r2_mi0 h) g21 fU
      unfold g_X11_moveSource_b33 at hg
      obtain ⟨-, hg⟩ := oif_some hg
      obtain ⟨n3, en, hg⟩ := obind_some hg
      rw [(c_fld K1.1.1).2.1] at en
      cases en
      obtain ⟨-, hg⟩ := oif_some hg
      obtain ⟨n5, en, hg⟩ := obind_some hg
      rw [(sd_rf K1.1.1 d242).2.2.2.1] at en
      cases en
      obtain ⟨-, hg⟩ := oif_some hg
      obtain ⟨-, hg⟩ := oif_some hg
      obtain ⟨T8, e8, hg⟩ := elet_some hg
      have hPU : PL (U.2.1 10) := by rw [K4, e]; exact hP
      have ra : rowat 4 31 6 := .inr (.inr (.inr (.inl ⟨rfl, rfl, rfl⟩)))
      have R := r2_set (k := a0.toNatClampNeg) (x := a1) hPU K2 ra (by omega) K1
      have V := iv_now (k := a0.toNatClampNeg) (x := a1) K2 ra (.inr (.inr (.inr (.inl ⟨.inl rfl, by omega⟩))))
      rw [show uI T21 (242 + 4) a0.toNatClampNeg a1 = T8 from e8.symm] at R V
      rw [← eU] at R
      obtain ⟨-, hg⟩ := oif_some hg
      obtain ⟨n10, en, hg⟩ := obind_some hg
      rw [(c_fld R.1.1).2.1] at en
      cases en
      obtain ⟨-, hg⟩ := oif_some hg
      obtain ⟨n12, en, hg⟩ := obind_some hg
      rw [(sd_rf R.1.1 d242).2.2.2.2.1] at en
      cases en
      obtain ⟨-, hg⟩ := oif_some hg
      obtain ⟨-, hg⟩ := oif_some hg
      obtain ⟨T15, e15, hg⟩ := elet_some hg
      have hP2 : PL (S2'.2.1 10) := by rw [eU, mf_ne (by decide)]; exact hPU
      have rb : rowat 5 37 6 := .inr (.inr (.inr (.inr (.inl ⟨rfl, rfl, rfl⟩))))
      have R2' := r2_set (k := a0.toNatClampNeg) (x := a2) hP2 V rb (by omega) R
      have V2 := iv_now (k := a0.toNatClampNeg) (x := a2) V rb (.inr (.inr (.inr (.inl ⟨.inr rfl, by omega⟩))))
      rw [show uI T8 (242 + 5) a0.toNatClampNeg a2 = T15 from e15.symm] at R2' V2
      rw [← e8'] at R2'
      obtain ⟨s, hs, h14⟩ := crf_14 R2'.1.1
      obtain ⟨-, hg⟩ := oif_some hg
      obtain ⟨n17, en, hg⟩ := obind_some hg
      rw [(c_fld2 R2'.1.1).2.2.2] at en
      cases en
      obtain ⟨-, hg⟩ := oif_some hg
      obtain ⟨n19, en, hg⟩ := obind_some hg
      rw [h14] at en
      cases en
      obtain ⟨-, hg⟩ := oif_some hg
      obtain ⟨n21, en, hg⟩ := obind_some hg
      rw [(c_fld R2'.1.1).2.1] at en
      cases en
      obtain ⟨-, hg⟩ := oif_some hg
      obtain ⟨T23, g23, hg⟩ := obind_some hg
      have hP8 : PL (S8.2.1 10) := by rw [e8', mf_ne (by decide)]; exact hP2
      have W := r2_rec hP8 V2 R2' h14 g23 f9'
      have k9 := w_fr_records_12 f9'
      unfold g_X11_moveSource_b68 at hg
      obtain ⟨-, hg⟩ := oif_some hg
      obtain ⟨r4, T3, g3, hg⟩ := obind2_some hg
      obtain ⟨-, hg⟩ := oif_some hg
      unfold g_X11_moveSource_b72 at hg
      obtain ⟨-, hg⟩ := oif_some hg
      obtain ⟨v3, -, hg⟩ := elet_some hg
      have Q := (r2_pb (fun _ => by rw [k9.2 10 (by decide)]; exact hP8) W.2 W.1 g3 (w_fr_bestIn_12 f12)).1
      rw [← (osome3 hg).2.2, ← ef.2, ← (osome2 f18).2]
      exact Q
theorem r2_setVelocity {a0 a1 a2 : Int32} (hV : IV aR0 1586 aK1 aK2 T) (hJ : JJ S) (h : R2 T S) (hg : g_X11_setVelocity T 0 a0 a1 a2 = some (k1, r1, T1)) (hf : fr_setVelocity S a0 a1 a2 = some (r2, S1)) : R2 T1 S1 := by
  have zm : ((-999) : Int32).toInt = -999 := by decide
  have zp : (999 : Int32).toInt = 999 := by decide
  unfold fr_setVelocity at hf
  obtain ⟨r5, S2, f5, hf⟩ := obind2_some hf
  obtain ⟨r9, S6, f9, hf⟩ := obind2_some hf
  have eS := src_same f5
  rw [eS] at f9
  unfold g_X11_setVelocity at hg
  obtain ⟨-, hg⟩ := oif_some hg
  rcases othr_k hg with ⟨rc, gc, hc⟩ | ⟨rc, Tc, gc, hg⟩
  · obtain ⟨eT, ⟨q, -⟩ | ⟨q, q20⟩⟩ := p_cam h.1 gc
    · exact absurd q hc
    · obtain ⟨e, er⟩ := ask_0 q20 f9
      rw [if_pos er] at hf
      rw [eT, ← (osome2 hf).2, e]
      exact r2_mi0 h
  · obtain ⟨eT, ⟨-, q20⟩ | ⟨q, -⟩⟩ := p_cam h.1 gc
    case inr => exact absurd q (by decide)
    rw [eT] at hg
    have hP := r_pl hJ q20
    have p5 := pl_5 hP
    obtain ⟨-, hg⟩ := oif_some hg
    rcases othr_k hg with ⟨rc2, gc2, hc⟩ | ⟨rc2, Tc2, gc2, hg⟩
    · obtain ⟨eT2, ⟨q, -⟩ | ⟨q, qc⟩⟩ := p_src h.1 q20 gc2
      · exact absurd q hc
      · rcases (q_src hP f5).2 with ⟨-, z⟩ | ⟨z, -⟩
        · exact absurd z qc
        · rw [z] at f9
          obtain ⟨e, er⟩ := ask_2 q20 f9
          rw [if_pos er] at hf
          rw [eT2, ← (osome2 hf).2, e]
          exact r2_mi0 h
    · obtain ⟨eT2, ⟨-, qc⟩ | ⟨q, -⟩⟩ := p_src h.1 q20 gc2
      case inr => exact absurd q (by decide)
      rw [eT2] at hg
      rcases (q_src hP f5).2 with ⟨z, -⟩ | ⟨-, z⟩
      case inr => exact absurd qc z
      rw [z] at f9
      obtain ⟨e, er⟩ := ask_1 q20 f9
      rw [if_neg (by rw [er]; decide)] at hf
      obtain ⟨r11, f11, hf⟩ := obind_some hf
      have q11 := q_vel f11
      have out : ∀ {U : AT}, ¬ ((-999 ≤ a1.toInt ∧ a1.toInt ≤ 999) ∧ -999 ≤ a2.toInt ∧ a2.toInt ≤ 999) → U = T → R2 U S1 := by
        intro U n eU
        rcases q11 with ⟨-, z⟩ | ⟨z, -⟩
        · exact absurd z n
        · rw [if_pos z] at hf
          obtain ⟨r17, S14, f14, hf⟩ := obind2_some hf
          unfold fr_setVelocity_b40 at hf
          rw [eU, ← (osome2 hf).2, r_thr f14, e]
          exact r2_mi0 (r2_mi0 h)
      rcases othr_k hg with ⟨rc3, gc3, hc⟩ | ⟨rc3, Tc3, gc3, hg⟩
      · obtain ⟨eT3, ⟨q, -⟩ | ⟨q, qd⟩⟩ := c_rng gc3
        · exact absurd q hc
        · exact out (fun u => qd (by omega)) eT3
      obtain ⟨eT3, ⟨-, qd⟩ | ⟨q, -⟩⟩ := c_rng gc3
      case inr => exact absurd q (by decide)
      rw [eT3] at hg
      rcases othr_k hg with ⟨rc4, gc4, hc⟩ | ⟨rc4, Tc4, gc4, hg⟩
      · obtain ⟨eT4, ⟨q, -⟩ | ⟨q, qe⟩⟩ := c_rng gc4
        · exact absurd q hc
        · exact out (fun u => qe (by omega)) eT4
      obtain ⟨eT4, ⟨-, qe⟩ | ⟨q, -⟩⟩ := c_rng gc4
      case inr => exact absurd q (by decide)
      rw [eT4] at hg
      rcases q11 with ⟨z, -⟩ | ⟨-, z⟩
      case inr => exact absurd ⟨by omega, by omega⟩ z
      rw [if_neg (by rw [z]; decide)] at hf
      obtain ⟨v17, d17, hf⟩ := elet_some hf
      obtain ⟨r21, S18, f18, hf⟩ := obind2_some hf
      unfold fr_setVelocity_b40 at hf
      have ef := osome2 hf
      have k17 := cl_ad (n := 43) (by decide) qc.1 (by omega) d17
      have ka := i_cl qc.1
      obtain ⟨-, hg⟩ := oif_some hg
      obtain ⟨T21, g21, hg⟩ := obind_some hg
      unfold fr_setsTwo at f18
      obtain ⟨r5', S2', f5', f18⟩ := obind2_some f18
      obtain ⟨v6, d6, f18⟩ := elet_some f18
      obtain ⟨-, f18⟩ := oif_some f18
      obtain ⟨S8, e8', f18⟩ := elet_some f18
      obtain ⟨S9, f9', f18⟩ := obind_some f18
      obtain ⟨r15, S12, f12, f18⟩ := obind2_some f18
      obtain ⟨U, fU, -, eU⟩ := x_sets f5'
      rw [k17] at eU
      have i17 : v17.toInt = 43 + a0.toInt := by
        have z : (43 : Int32).toInt = 43 := by decide
        have := i_add d17 (by omega) (by omega)
        omega
      have k6 : v6.toNatClampNeg = 49 + a0.toNatClampNeg := by
        have z : (6 : Int32).toInt = 6 := by decide
        have q := i_add d6 (by omega) (by omega)
        have q2 := i_cl (i := v6) (by omega)
        omega
      rw [k6] at e8'
      obtain ⟨K1, K2, K3, K4, K5, K6, -⟩ := r2_keepu (S := S6) (by rw [e]; exact hP) (by rw [e]; exact q20) hV (by rw [e]; exact r2_mi0 h) g21 fU
      unfold g_X11_setVelocity_b33 at hg
      obtain ⟨-, hg⟩ := oif_some hg
      obtain ⟨n3, en, hg⟩ := obind_some hg
      rw [(c_fld K1.1.1).2.1] at en
      cases en
      obtain ⟨-, hg⟩ := oif_some hg
      obtain ⟨n5, en, hg⟩ := obind_some hg
      rw [(sd_rf K1.1.1 d242).2.2.2.2.2.1] at en
      cases en
      obtain ⟨-, hg⟩ := oif_some hg
      obtain ⟨-, hg⟩ := oif_some hg
      obtain ⟨T8, e8, hg⟩ := elet_some hg
      have hPU : PL (U.2.1 10) := by rw [K4, e]; exact hP
      have ra : rowat 6 43 6 := .inr (.inr (.inr (.inr (.inr (.inl ⟨rfl, rfl, rfl⟩)))))
      have R := r2_set (k := a0.toNatClampNeg) (x := a1) hPU K2 ra (by omega) K1
      have V := iv_now (k := a0.toNatClampNeg) (x := a1) K2 ra (.inr (.inr (.inr (.inr ⟨.inl rfl, by omega⟩))))
      rw [show uI T21 (242 + 6) a0.toNatClampNeg a1 = T8 from e8.symm] at R V
      rw [← eU] at R
      obtain ⟨-, hg⟩ := oif_some hg
      obtain ⟨n10, en, hg⟩ := obind_some hg
      rw [(c_fld R.1.1).2.1] at en
      cases en
      obtain ⟨-, hg⟩ := oif_some hg
      obtain ⟨n12, en, hg⟩ := obind_some hg
      rw [(sd_rf R.1.1 d242).2.2.2.2.2.2.1] at en
      cases en
      obtain ⟨-, hg⟩ := oif_some hg
      obtain ⟨-, hg⟩ := oif_some hg
      obtain ⟨T15, e15, hg⟩ := elet_some hg
      have hP2 : PL (S2'.2.1 10) := by rw [eU, mf_ne (by decide)]; exact hPU
      have rb : rowat 7 49 6 := .inr (.inr (.inr (.inr (.inr (.inr (⟨rfl, rfl, rfl⟩))))))
      have R2' := r2_set (k := a0.toNatClampNeg) (x := a2) hP2 V rb (by omega) R
      have V2 := iv_now (k := a0.toNatClampNeg) (x := a2) V rb (.inr (.inr (.inr (.inr ⟨.inr rfl, by omega⟩))))
      rw [show uI T8 (242 + 7) a0.toNatClampNeg a2 = T15 from e15.symm] at R2' V2
      rw [← e8'] at R2'
      obtain ⟨s, hs, h14⟩ := crf_14 R2'.1.1
      obtain ⟨-, hg⟩ := oif_some hg
      obtain ⟨n17, en, hg⟩ := obind_some hg
      rw [(c_fld2 R2'.1.1).2.2.2] at en
      cases en
      obtain ⟨-, hg⟩ := oif_some hg
      obtain ⟨n19, en, hg⟩ := obind_some hg
      rw [h14] at en
      cases en
      obtain ⟨-, hg⟩ := oif_some hg
      obtain ⟨n21, en, hg⟩ := obind_some hg
      rw [(c_fld R2'.1.1).2.1] at en
      cases en
      obtain ⟨-, hg⟩ := oif_some hg
      obtain ⟨T23, g23, hg⟩ := obind_some hg
      have hP8 : PL (S8.2.1 10) := by rw [e8', mf_ne (by decide)]; exact hP2
      have W := r2_rec hP8 V2 R2' h14 g23 f9'
      have k9 := w_fr_records_12 f9'
      unfold g_X11_setVelocity_b68 at hg
      obtain ⟨-, hg⟩ := oif_some hg
      obtain ⟨r4, T3, g3, hg⟩ := obind2_some hg
      obtain ⟨-, hg⟩ := oif_some hg
      unfold g_X11_setVelocity_b72 at hg
      obtain ⟨-, hg⟩ := oif_some hg
      obtain ⟨v3, -, hg⟩ := elet_some hg
      have Q := (r2_pb (fun _ => by rw [k9.2 10 (by decide)]; exact hP8) W.2 W.1 g3 (w_fr_bestIn_12 f12)).1
      rw [← (osome3 hg).2.2, ← ef.2, ← (osome2 f18).2]
      exact Q
end
