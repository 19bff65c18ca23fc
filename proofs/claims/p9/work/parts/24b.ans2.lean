/-! answers that follow from R2: micAt, sourceAt -/
section
variable {T T1 : AT} {S S1 : MS} {k1 : Nat} {r1 r2 : Int32}
theorem i03 {x : Int32} (h : (0 : Int32).toInt ≤ x.toInt ∧ x.toInt ≤ (3 : Int32).toInt) : x = 0 ∨ x = 1 ∨ x = 2 ∨ x = 3 := by
  have z0 : (0 : Int32).toInt = 0 := by decide
  have z1 : (1 : Int32).toInt = 1 := by decide
  have z2 : (2 : Int32).toInt = 2 := by decide
  have z3 : (3 : Int32).toInt = 3 := by decide
  rcases (show x.toInt = 0 ∨ x.toInt = 1 ∨ x.toInt = 2 ∨ x.toInt = 3 by omega) with q | q | q | q
  · exact .inl (Int32.toInt_inj.mp (by omega))
  · exact .inr (.inl (Int32.toInt_inj.mp (by omega)))
  · exact .inr (.inr (.inl (Int32.toInt_inj.mp (by omega))))
  · exact .inr (.inr (.inr (Int32.toInt_inj.mp (by omega))))
theorem r2h_micAt {a0 a1 : Int32} (hV : IV aR0 1586 aK1 aK2 T) (hJ : JJ S) (h : R2 T S) (hg : g_X11_micAt T 0 a0 a1 = some (k1, r1, T1)) (hf : fr_micAt S a0 a1 = some (r2, S1)) : S1.1 0 = vck 1 2 3 k1 ∧ (vck 1 2 3 k1 = 0 → k1 = 0 ∧ r1 = r2) := by
  have z0 : (0 : Int32).toInt = 0 := by decide
  have z1 : (1 : Int32).toInt = 1 := by decide
  have z2 : (2 : Int32).toInt = 2 := by decide
  have z3 : (3 : Int32).toInt = 3 := by decide
  unfold fr_micAt at hf
  obtain ⟨r5, S2, f5, hf⟩ := obind2_some hf
  obtain ⟨r9, S6, f9, hf⟩ := obind2_some hf
  have eS := (r_mic f5).1
  rw [eS] at f9
  unfold g_X11_micAt at hg
  obtain ⟨-, hg⟩ := oif_some hg
  rcases othr_k hg with ⟨rc, gc, hc⟩ | ⟨rc, Tc, gc, hg⟩
  · obtain ⟨-, ⟨q, -⟩ | ⟨q, q20⟩⟩ := p_cam h.1 gc
    · exact absurd q hc
    · obtain ⟨e, er⟩ := ask_0 q20 f9
      rw [if_pos er] at hf
      rw [q, ← (osome2 hf).2, e, mi_at]
      exact ⟨rfl, fun q => absurd q (by decide)⟩
  · obtain ⟨eT, ⟨-, q20⟩ | ⟨q, -⟩⟩ := p_cam h.1 gc
    case inr => exact absurd q (by decide)
    rw [eT] at hg
    have hP := r_pl hJ q20
    have p4 := pl_4 hP
    obtain ⟨-, hg⟩ := oif_some hg
    rcases othr_k hg with ⟨rc2, gc2, hc⟩ | ⟨rc2, Tc2, gc2, hg⟩
    · obtain ⟨-, ⟨q, -⟩ | ⟨q, qc⟩⟩ := p_mic h.1 q20 gc2
      · exact absurd q hc
      · rcases (q_mic hP f5).2 with ⟨-, z⟩ | ⟨z, -⟩
        · exact absurd z qc
        · rw [z] at f9
          obtain ⟨e, er⟩ := ask_2 q20 f9
          rw [if_pos er] at hf
          rw [q, ← (osome2 hf).2, e, mi_at]
          exact ⟨rfl, fun q => absurd q (by decide)⟩
    · obtain ⟨eT2, ⟨-, qc⟩ | ⟨q, -⟩⟩ := p_mic h.1 q20 gc2
      case inr => exact absurd q (by decide)
      rw [eT2] at hg
      rcases (q_mic hP f5).2 with ⟨z, -⟩ | ⟨-, z⟩
      case inr => exact absurd qc z
      rw [z] at f9
      obtain ⟨e, er⟩ := ask_1 q20 f9
      rw [if_neg (by rw [er]; decide)] at hf
      rcases othr_k hg with ⟨rc3, gc3, hc⟩ | ⟨rc3, Tc3, gc3, hg⟩
      · obtain ⟨-, ⟨q, -⟩ | ⟨q, qd⟩⟩ := c_rng gc3
        · exact absurd q hc
        · rw [if_neg (fun u => qd (by rw [u]; decide)), if_neg (fun u => qd (by rw [u]; decide)), if_neg (fun u => qd (by rw [u]; decide)), if_neg (fun u => qd (by rw [u]; decide))] at hf
          obtain ⟨r30, S27, f27, hf⟩ := obind2_some hf
          rw [q, ← (osome2 hf).2, r_thr f27, mi_at]
          exact ⟨rfl, fun q => absurd q (by decide)⟩
      · obtain ⟨eT3, ⟨-, qd⟩ | ⟨q, -⟩⟩ := c_rng gc3
        case inr => exact absurd q (by decide)
        rw [eT3] at hg
        obtain ⟨s, hs, h14, hF, b, -⟩ := r1_sce h.1 q20
        have ka := i_cl qc.1
        obtain ⟨c, hc12, x5, y4, mm, -⟩ := b.2.1
        rw [y4, nI_toInt (by omega)] at qc
        have mm := mm a0.toNatClampNeg (by omega)
        have eM : T.2.2.2.2 (s + 1) a0.toNatClampNeg = some (s + 160 + a0.toNatClampNeg) := by unfold SRF at hF; exact hF.2.2.2.2.2.2.2.2.1 _ (by omega)
        rcases i03 qd with u | u | u | u
        · subst u
          rw [if_pos rfl] at hf hg
          obtain ⟨v12, d12, hf⟩ := elet_some hf
          obtain ⟨-, hf⟩ := oif_some hf
          obtain ⟨v14, d14, hf⟩ := elet_some hf
          have k12 := cl_ad (n := 11) (by decide) qc.1 (by omega) d12
          obtain ⟨-, hg⟩ := oif_some hg
          obtain ⟨n18, en, hg⟩ := obind_some hg
          rw [h14] at en
          cases en
          obtain ⟨-, hg⟩ := oif_some hg
          obtain ⟨n20, en, hg⟩ := obind_some hg
          rw [hF.1] at en
          cases en
          obtain ⟨-, hg⟩ := oif_some hg
          obtain ⟨-, hg⟩ := oif_some hg
          obtain ⟨n23, en, hg⟩ := obind_some hg
          rw [eM] at en
          cases en
          obtain ⟨-, hg⟩ := oif_some hg
          obtain ⟨v25, e25, hg⟩ := elet_some hg
          have g := osome3 hg
          have f := osome2 hf
          rw [← g.1, ← g.2.1, ← f.1, ← f.2, e, mi_at, e25, d14, k12, e]
          exact ⟨rfl, fun _ => ⟨rfl, mm.1⟩⟩
        · subst u
          rw [if_neg (by decide), if_pos rfl] at hf hg
          obtain ⟨v12, d12, hf⟩ := elet_some hf
          obtain ⟨-, hf⟩ := oif_some hf
          obtain ⟨v14, d14, hf⟩ := elet_some hf
          have k12 := cl_ad (n := 23) (by decide) qc.1 (by omega) d12
          obtain ⟨-, hg⟩ := oif_some hg
          obtain ⟨n18, en, hg⟩ := obind_some hg
          rw [h14] at en
          cases en
          obtain ⟨-, hg⟩ := oif_some hg
          obtain ⟨n20, en, hg⟩ := obind_some hg
          rw [hF.1] at en
          cases en
          obtain ⟨-, hg⟩ := oif_some hg
          obtain ⟨-, hg⟩ := oif_some hg
          obtain ⟨n23, en, hg⟩ := obind_some hg
          rw [eM] at en
          cases en
          obtain ⟨-, hg⟩ := oif_some hg
          obtain ⟨v25, e25, hg⟩ := elet_some hg
          have g := osome3 hg
          have f := osome2 hf
          rw [← g.1, ← g.2.1, ← f.1, ← f.2, e, mi_at, e25, d14, k12, e]
          exact ⟨rfl, fun _ => ⟨rfl, mm.2.1⟩⟩
        · subst u
          rw [if_neg (by decide), if_neg (by decide), if_pos rfl] at hf hg
          obtain ⟨v12, d12, hf⟩ := elet_some hf
          obtain ⟨-, hf⟩ := oif_some hf
          obtain ⟨v14, d14, hf⟩ := elet_some hf
          have k12 := cl_ad (n := 35) (by decide) qc.1 (by omega) d12
          obtain ⟨-, hg⟩ := oif_some hg
          obtain ⟨n18, en, hg⟩ := obind_some hg
          rw [h14] at en
          cases en
          obtain ⟨-, hg⟩ := oif_some hg
          obtain ⟨n20, en, hg⟩ := obind_some hg
          rw [hF.1] at en
          cases en
          obtain ⟨-, hg⟩ := oif_some hg
          obtain ⟨-, hg⟩ := oif_some hg
          obtain ⟨n23, en, hg⟩ := obind_some hg
          rw [eM] at en
          cases en
          obtain ⟨-, hg⟩ := oif_some hg
          obtain ⟨v25, e25, hg⟩ := elet_some hg
          have g := osome3 hg
          have f := osome2 hf
          rw [← g.1, ← g.2.1, ← f.1, ← f.2, e, mi_at, e25, d14, k12, e]
          exact ⟨rfl, fun _ => ⟨rfl, mm.2.2.1⟩⟩
        · subst u
          rw [if_neg (by decide), if_neg (by decide), if_neg (by decide)] at hf hg
          rw [if_pos rfl] at hf
          obtain ⟨v12, d12, hf⟩ := elet_some hf
          obtain ⟨-, hf⟩ := oif_some hf
          obtain ⟨v14, d14, hf⟩ := elet_some hf
          have k12 := cl_ad (n := 13) (by decide) qc.1 (by omega) d12
          obtain ⟨-, hg⟩ := oif_some hg
          obtain ⟨n47, en, hg⟩ := obind_some hg
          rw [(c_fld h.1.1).2.1] at en
          cases en
          obtain ⟨-, hg⟩ := oif_some hg
          obtain ⟨n49, en, hg⟩ := obind_some hg
          rw [(sd_rf h.1.1 d242).2.1] at en
          cases en
          obtain ⟨-, hg⟩ := oif_some hg
          obtain ⟨-, hg⟩ := oif_some hg
          obtain ⟨v25, e25, hg⟩ := elet_some hg
          have g := osome3 hg
          have f := osome2 hf
          have ww := (((h.2.2.2 q20).1).2.2.2.1 a0.toNatClampNeg (by rw [y4, nI_toInt (by omega)]; omega)).2
          rw [Nat.zero_add] at ww
          rw [← g.1, ← g.2.1, ← f.1, ← f.2, e, mi_at, e25, d14, k12, e]
          exact ⟨rfl, fun _ => ⟨rfl, ww⟩⟩
theorem k_place {a0 a1 a2 v32 v39 r : Int32} (h1 : 0 ≤ a0.toInt) (h2 : a0.toInt < 6) (hm : g_X11_moved v32 v39 a2 = some r) (hf : fr_sourcePlace_12 S a0 a1 a2 = some (r2, S1)) (e : a1 = 0 ∧ v32 = S.2.1 12 (31 + a0.toNatClampNeg) ∧ v39 = S.2.1 12 (43 + a0.toNatClampNeg) ∨ a1 = 1 ∧ v32 = S.2.1 12 (37 + a0.toNatClampNeg) ∧ v39 = S.2.1 12 (49 + a0.toNatClampNeg)) : r = r2 ∧ S1 = S := by
  unfold g_X11_moved at hm
  obtain ⟨w2, f2, hm⟩ := elet_some hm
  obtain ⟨w3, f3, hm⟩ := elet_some hm
  obtain ⟨w4, f4, hm⟩ := elet_some hm
  rw [← osome1 hm, f4, f3, f2]
  unfold fr_sourcePlace_12 at hf
  rcases e with ⟨ea, e1, e2⟩ | ⟨ea, e1, e2⟩
  · rw [if_pos ea] at hf
    obtain ⟨v3, d3, hf⟩ := elet_some hf
    obtain ⟨-, hf⟩ := oif_some hf
    obtain ⟨v5, d5, hf⟩ := elet_some hf
    obtain ⟨v6, d6, hf⟩ := elet_some hf
    obtain ⟨-, hf⟩ := oif_some hf
    obtain ⟨v8, d8, hf⟩ := elet_some hf
    obtain ⟨v9, d9, hf⟩ := elet_some hf
    obtain ⟨v10, d10, hf⟩ := elet_some hf
    obtain ⟨v11, d11, hf⟩ := elet_some hf
    unfold fr_sourcePlace_12_b45 at hf
    have f := osome2 hf
    have k3 := cl_ad (n := 31) (by decide) h1 (by omega) d3
    have k6 := cl_ad (n := 43) (by decide) h1 (by omega) d6
    rw [← f.1, ← f.2, d11, d10, d9, d8, d5, k3, k6, e1, e2]
    exact ⟨rfl, rfl⟩
  · rw [if_neg (by rw [ea]; decide)] at hf
    obtain ⟨v3, d3, hf⟩ := elet_some hf
    obtain ⟨-, hf⟩ := oif_some hf
    obtain ⟨v5, d5, hf⟩ := elet_some hf
    obtain ⟨v6, d6, hf⟩ := elet_some hf
    obtain ⟨-, hf⟩ := oif_some hf
    obtain ⟨v8, d8, hf⟩ := elet_some hf
    obtain ⟨v9, d9, hf⟩ := elet_some hf
    obtain ⟨v10, d10, hf⟩ := elet_some hf
    obtain ⟨v11, d11, hf⟩ := elet_some hf
    unfold fr_sourcePlace_12_b45 at hf
    have f := osome2 hf
    have k3 := cl_ad (n := 37) (by decide) h1 (by omega) d3
    have k6 := cl_ad (n := 49) (by decide) h1 (by omega) d6
    rw [← f.1, ← f.2, d11, d10, d9, d8, d5, k3, k6, e1, e2]
    exact ⟨rfl, rfl⟩
theorem r2h_sourceAt {a0 a1 a2 : Int32} (hV : IV aR0 1586 aK1 aK2 T) (hJ : JJ S) (h : R2 T S) (hg : g_X11_sourceAt T 0 a0 a1 a2 = some (k1, r1, T1)) (hf : fr_sourceAt S a0 a1 a2 = some (r2, S1)) : S1.1 0 = vck 1 2 3 k1 ∧ (vck 1 2 3 k1 = 0 → k1 = 0 ∧ r1 = r2) := by
  have z0 : (0 : Int32).toInt = 0 := by decide
  have z1 : (1 : Int32).toInt = 1 := by decide
  unfold fr_sourceAt at hf
  obtain ⟨r5, S2, f5, hf⟩ := obind2_some hf
  obtain ⟨r9, S6, f9, hf⟩ := obind2_some hf
  have eS : S2 = S := by
    unfold fr_isSource at f5
    obtain ⟨v2, d2, f5⟩ := elet_some f5
    obtain ⟨v3, d3, f5⟩ := elet_some f5
    obtain ⟨r4, f4, f5⟩ := obind_some f5
    exact (osome2 (oif_some f5).2).2.symm
  rw [eS] at f9
  unfold g_X11_sourceAt at hg
  obtain ⟨-, hg⟩ := oif_some hg
  rcases othr_k hg with ⟨rc, gc, hc⟩ | ⟨rc, Tc, gc, hg⟩
  · obtain ⟨-, ⟨q, -⟩ | ⟨q, q20⟩⟩ := p_cam h.1 gc
    · exact absurd q hc
    · obtain ⟨e, er⟩ := ask_0 q20 f9
      rw [if_pos er] at hf
      rw [q, ← (osome2 hf).2, e, mi_at]
      exact ⟨rfl, fun q => absurd q (by decide)⟩
  · obtain ⟨eT, ⟨-, q20⟩ | ⟨q, -⟩⟩ := p_cam h.1 gc
    case inr => exact absurd q (by decide)
    rw [eT] at hg
    have hP := r_pl hJ q20
    have p5 := pl_5 hP
    have p2 := pl_2 hP
    obtain ⟨-, hg⟩ := oif_some hg
    rcases othr_k hg with ⟨rc2, gc2, hc⟩ | ⟨rc2, Tc2, gc2, hg⟩
    · obtain ⟨-, ⟨q, -⟩ | ⟨q, qc⟩⟩ := p_src h.1 q20 gc2
      · exact absurd q hc
      · rcases (q_src hP f5).2 with ⟨-, z⟩ | ⟨z, -⟩
        · exact absurd z qc
        · rw [z] at f9
          obtain ⟨e, er⟩ := ask_2 q20 f9
          rw [if_pos er] at hf
          rw [q, ← (osome2 hf).2, e, mi_at]
          exact ⟨rfl, fun q => absurd q (by decide)⟩
    · obtain ⟨eT2, ⟨-, qc⟩ | ⟨q, -⟩⟩ := p_src h.1 q20 gc2
      case inr => exact absurd q (by decide)
      rw [eT2] at hg
      rcases (q_src hP f5).2 with ⟨z, -⟩ | ⟨-, z⟩
      case inr => exact absurd qc z
      rw [z] at f9
      obtain ⟨e, er⟩ := ask_1 q20 f9
      rw [if_neg (by rw [er]; decide)] at hf
      have no : ∀ {U : MS}, fr_sourceAt_b45 U = some (r2, S1) → S1.1 0 = 3 := by
        intro U hf
        unfold fr_sourceAt_b45 at hf
        obtain ⟨r5, V, f5, hf⟩ := obind2_some hf
        unfold fr_sourceAt_b50 at hf
        rw [← (osome2 hf).2, r_thr f5, mi_at]
      obtain ⟨r11, f11, hf⟩ := obind_some hf
      have q11 := q_in f11
      rcases othr_k hg with ⟨rc3, gc3, hc⟩ | ⟨rc3, Tc3, gc3, hg⟩
      · obtain ⟨-, ⟨q, -⟩ | ⟨q, qd⟩⟩ := c_rng gc3
        · exact absurd q hc
        · rcases q11 with ⟨-, z⟩ | ⟨z, -⟩
          · exact absurd z qd
          · rw [if_pos z] at hf
            rw [q, no hf]
            exact ⟨rfl, fun q => absurd q (by decide)⟩
      · obtain ⟨eT3, ⟨-, qd⟩ | ⟨q, -⟩⟩ := c_rng gc3
        case inr => exact absurd q (by decide)
        rw [eT3] at hg
        rcases q11 with ⟨z, -⟩ | ⟨-, z⟩
        case inr => exact absurd qd z
        rw [if_neg (by rw [z]; decide)] at hf
        obtain ⟨s, hs, h14, hF, b, -⟩ := r1_sce h.1 q20
        obtain ⟨r17, S14, f14, hf⟩ := obind2_some hf
        have hP6 : PL (S6.2.1 10) := by rw [e]; exact hP
        obtain ⟨e14, q14⟩ := q_time hP6 f14
        rw [show S6.2.1 10 2 = S.2.1 10 2 from by rw [e]; rfl] at q14
        obtain ⟨-, hg⟩ := oif_some hg
        obtain ⟨n17, en, hg⟩ := obind_some hg
        rw [h14] at en
        cases en
        obtain ⟨-, hg⟩ := oif_some hg
        obtain ⟨v19, e19, hg⟩ := elet_some hg
        obtain ⟨v20, e20, hg⟩ := elet_some hg
        have e19 : v19 = S.2.1 10 2 := by rw [e19]; exact b.1.2.2.1
        have q20' := i_sub e20 (by rw [e19]; omega) (by rw [e19]; omega)
        rw [e19] at q20'
        rcases othr_k hg with ⟨rc4, gc4, hc⟩ | ⟨rc4, Tc4, gc4, hg⟩
        · obtain ⟨-, ⟨q, -⟩ | ⟨q, qe⟩⟩ := c_rng gc4
          · exact absurd q hc
          · rcases q14 with ⟨-, z⟩ | ⟨z, -⟩
            · exact absurd ⟨by omega, by omega⟩ qe
            · rw [if_pos z] at hf
              rw [q, no hf]
              exact ⟨rfl, fun q => absurd q (by decide)⟩
        · obtain ⟨eT4, ⟨-, qe⟩ | ⟨q, -⟩⟩ := c_rng gc4
          case inr => exact absurd q (by decide)
          rw [eT4] at hg
          rcases q14 with ⟨z, -⟩ | ⟨-, z⟩
          case inr => exact absurd ⟨by omega, by omega⟩ z
          rw [if_neg (by rw [z]; decide)] at hf
          obtain ⟨r22, S19, f19, hf⟩ := obind2_some hf
          unfold fr_sourceAt_b50 at hf
          have f := osome2 hf
          have ka := i_cl qc.1
          have mm := ((h.2.2.2 q20).1).2.2.2.2 a0.toNatClampNeg (by omega)
          simp only [Nat.zero_add] at mm
          have e14' : S14.2.1 12 = S.2.1 12 := by rw [e14, e]; rfl
          have fin : ∀ {r : Int32}, r = r22 ∧ S19 = S14 → S19.1 0 = 0 ∧ r = r22 := fun {r} q => ⟨by rw [q.2, e14, e, mi_at], q.1⟩
          rw [← f.1, ← f.2]
          by_cases c0 : a1 = 0
          · rw [if_pos c0] at hg
            obtain ⟨-, hg⟩ := oif_some hg
            obtain ⟨n27, en, hg⟩ := obind_some hg
            rw [(c_fld h.1.1).2.1] at en
            cases en
            obtain ⟨-, hg⟩ := oif_some hg
            obtain ⟨n29, en, hg⟩ := obind_some hg
            rw [(sd_rf h.1.1 d242).2.2.2.1] at en
            cases en
            obtain ⟨-, hg⟩ := oif_some hg
            obtain ⟨-, hg⟩ := oif_some hg
            obtain ⟨v32, e32, hg⟩ := elet_some hg
            obtain ⟨-, hg⟩ := oif_some hg
            obtain ⟨n34, en, hg⟩ := obind_some hg
            rw [(c_fld h.1.1).2.1] at en
            cases en
            obtain ⟨-, hg⟩ := oif_some hg
            obtain ⟨n36, en, hg⟩ := obind_some hg
            rw [(sd_rf h.1.1 d242).2.2.2.2.2.1] at en
            cases en
            obtain ⟨-, hg⟩ := oif_some hg
            obtain ⟨-, hg⟩ := oif_some hg
            obtain ⟨v39, e39, hg⟩ := elet_some hg
            obtain ⟨r40, g40, hg⟩ := obind_some hg
            unfold g_X11_sourceAt_b80 at hg
            have g := osome3 hg
            have fq := fin (k_place qc.1 (by omega) g40 f19 (.inl ⟨c0, by rw [e14', e32]; exact mm.2.1, by rw [e14', e39]; exact mm.2.2.2.1⟩))
            rw [← g.1, ← g.2.1, fq.1]
            exact ⟨rfl, fun _ => ⟨rfl, fq.2⟩⟩
          · rw [if_neg c0] at hg
            have c1 : a1 = 1 := (b01 ⟨by omega, by omega⟩).resolve_left c0
            obtain ⟨-, hg⟩ := oif_some hg
            obtain ⟨n27, en, hg⟩ := obind_some hg
            rw [(c_fld h.1.1).2.1] at en
            cases en
            obtain ⟨-, hg⟩ := oif_some hg
            obtain ⟨n29, en, hg⟩ := obind_some hg
            rw [(sd_rf h.1.1 d242).2.2.2.2.1] at en
            cases en
            obtain ⟨-, hg⟩ := oif_some hg
            obtain ⟨-, hg⟩ := oif_some hg
            obtain ⟨v32, e32, hg⟩ := elet_some hg
            obtain ⟨-, hg⟩ := oif_some hg
            obtain ⟨n34, en, hg⟩ := obind_some hg
            rw [(c_fld h.1.1).2.1] at en
            cases en
            obtain ⟨-, hg⟩ := oif_some hg
            obtain ⟨n36, en, hg⟩ := obind_some hg
            rw [(sd_rf h.1.1 d242).2.2.2.2.2.2.1] at en
            cases en
            obtain ⟨-, hg⟩ := oif_some hg
            obtain ⟨-, hg⟩ := oif_some hg
            obtain ⟨v39, e39, hg⟩ := elet_some hg
            obtain ⟨r40, g40, hg⟩ := obind_some hg
            unfold g_X11_sourceAt_b80 at hg
            have g := osome3 hg
            have fq := fin (k_place qc.1 (by omega) g40 f19 (.inr ⟨c1, by rw [e14', e32]; exact mm.2.2.1, by rw [e14', e39]; exact mm.2.2.2.2⟩))
            rw [← g.1, ← g.2.1, fq.1]
            exact ⟨rfl, fun _ => ⟨rfl, fq.2⟩⟩
end
