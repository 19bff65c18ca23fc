/-! the answers of moveSource and setVelocity -/
section
variable {T T1 : AT} {S S1 : MS} {k1 : Nat} {r1 r2 : Int32}
theorem ku_66 (hc : CRF T) (hV : IV aR0 1586 aK1 aK2 T) (g : g_X11_keepForUndo T 0 = some T1) : T1.2.2.1 66 0 = 0 := by
  have hc1 := crf_gr hc hV (sr_X11_keepForUndo g)
  have fin : ∀ {U : AT}, g_X11_keepForUndo_b48 U 0 = some T1 → T1.2.2.1 66 0 = 0 := by
    intro U g
    unfold g_X11_keepForUndo_b48 at g
    obtain ⟨-, g⟩ := oif_some g
    obtain ⟨n3, en, g⟩ := obind_some g
    obtain ⟨-, g⟩ := oif_some g
    obtain ⟨T5, e5, g⟩ := elet_some g
    have e := osome1 g
    have q := (c_fld hc1).1
    rw [← e, e5] at q
    have q : U.2.2.2.2 0 4 = some 66 := q
    rw [en] at q
    cases q
    rw [← e, e5]
    exact ui_at
  unfold g_X11_keepForUndo at g
  obtain ⟨-, g⟩ := oif_some g
  obtain ⟨v3, -, g⟩ := elet_some g
  obtain ⟨v4, -, g⟩ := elet_some g
  obtain ⟨v5, -, g⟩ := elet_some g
  obtain ⟨-, g⟩ := oif_some g
  obtain ⟨T7, -, g⟩ := elet_some g
  obtain ⟨-, g⟩ := oif_some g
  obtain ⟨n9, -, g⟩ := obind_some g
  obtain ⟨-, g⟩ := oif_some g
  obtain ⟨v11, -, g⟩ := elet_some g
  obtain ⟨-, g⟩ := oif_some g
  obtain ⟨-, g⟩ := oif_some g
  obtain ⟨n14, -, g⟩ := obind_some g
  obtain ⟨-, g⟩ := oif_some g
  obtain ⟨n16, -, g⟩ := obind_some g
  obtain ⟨-, g⟩ := oif_some g
  obtain ⟨T18, -, g⟩ := obind_some g
  unfold g_X11_keepForUndo_b29 at g
  obtain ⟨-, g⟩ := oif_some g
  obtain ⟨w3, -, g⟩ := elet_some g
  rcases oif_or g with ⟨-, g⟩ | ⟨-, g⟩
  · exact fin g
  · obtain ⟨-, g⟩ := oif_some g
    obtain ⟨w6, -, g⟩ := elet_some g
    obtain ⟨w7, -, g⟩ := elet_some g
    obtain ⟨-, g⟩ := oif_some g
    obtain ⟨T9, -, g⟩ := elet_some g
    exact fin g
/-- the powers are measured where they are not known: the best cell is the reference's -/
theorem pn_alike {s xs c4 n2 c5 c71 c77 r4 : Nat} (hs : s = 478 ∨ s = 656) (hA : AL T s (S.2.1 10)) (h66 : T.2.2.1 66 0 = 0) (hP : PL (S.2.1 10)) (hC : PCs (S.2.1 10) c4 n2 c5 c71 c77) (hw : W1 T (242 + 8) xs) (hS : SVa T 242 xs (S.2.1 10) (S.2.1 12) c4 n2) (hr : SMr (S.2.1 12) c4 n2) (hD : DRw T s S) (h17 : ∀ k, 0 ≤ (S.2.1 17 k).toInt ∧ (S.2.1 17 k).toInt ≤ 65535) (g : g_X11_powersNow T 0 = some (r4, T1)) (f : fr_bestIn_12 S = some (r2, S1)) : T1.2.2.1 r4 2 = r2 := by
  obtain ⟨⟨hV, hc⟩, ⟨hrc, hri⟩, hE, hw0, h14⟩ := hA
  unfold g_X11_powersNow at g
  obtain ⟨-, g⟩ := oif_some g
  obtain ⟨n3, en, g⟩ := obind_some g
  rw [(c_fld hc).1] at en
  cases en
  obtain ⟨-, g⟩ := oif_some g
  obtain ⟨v5, d5, g⟩ := elet_some g
  rw [if_pos (d5.trans h66)] at g
  obtain ⟨-, g⟩ := oif_some g
  obtain ⟨n8, en, g⟩ := obind_some g
  rw [(c_fld hc).1] at en
  cases en
  obtain ⟨-, g⟩ := oif_some g
  obtain ⟨n10, en, g⟩ := obind_some g
  rw [h14] at en
  cases en
  obtain ⟨-, g⟩ := oif_some g
  obtain ⟨n12, en, g⟩ := obind_some g
  rw [(c_fld hc).2.1] at en
  cases en
  obtain ⟨-, g⟩ := oif_some g
  obtain ⟨T14, g14, g⟩ := obind_some g
  have q := best_alike_12 hs d242 (by decide) (.inl rfl) hV hc hrc hri hP hE (hw0 s hs).1 (hw0 s hs).2 hC hw hS hr hD h17 g14 f
  have hc14 := crf_gr hc hV (sr_X4_measure g14)
  unfold g_X11_powersNow_b25 g_X11_powersNow_b33 at g
  obtain ⟨-, g⟩ := oif_some g
  obtain ⟨n3, en, g⟩ := obind_some g
  rw [(c_fld hc14).1] at en
  cases en
  obtain ⟨-, g⟩ := oif_some g
  obtain ⟨T5, e5, g⟩ := elet_some g
  have hc5 := crf_eq hc14 (show T5.2.2.2.2 = T14.2.2.2.2 by rw [e5]; rfl)
  obtain ⟨-, g⟩ := oif_some g
  obtain ⟨n3, en, g⟩ := obind_some g
  rw [(c_fld hc5).1] at en
  cases en
  have gg := Option.some.inj g
  have g1 : 66 = r4 := congrArg Prod.fst gg
  have g2 : T5 = T1 := congrArg Prod.snd gg
  rw [← g1, ← g2, e5, ui_ne (.inr (by decide))]
  exact q
theorem r3h_moveSource {a0 a1 a2 : Int32} (hV : IV aR0 1586 aK1 aK2 T) (hJ : JJ S) (h : R3 T S) (hg : g_X11_moveSource T 0 a0 a1 a2 = some (k1, r1, T1)) (hf : fr_moveSource S a0 a1 a2 = some (r2, S1)) : S1.1 0 = vck 1 2 3 k1 ∧ (vck 1 2 3 k1 = 0 → k1 = 0 ∧ r1 = r2) := by
  have zm : ((-2000) : Int32).toInt = -2000 := by decide
  have zp : (2000 : Int32).toInt = 2000 := by decide
  unfold fr_moveSource at hf
  obtain ⟨r5, S2, f5, hf⟩ := obind2_some hf
  obtain ⟨r9, S6, f9, hf⟩ := obind2_some hf
  have eS := src_same f5
  rw [eS] at f9
  unfold g_X11_moveSource at hg
  obtain ⟨-, hg⟩ := oif_some hg
  rcases othr_k hg with ⟨rc, gc, hc⟩ | ⟨rc, Tc, gc, hg⟩
  · obtain ⟨eT, ⟨q, -⟩ | ⟨q, q20⟩⟩ := p_cam h.1.1 gc
    · exact absurd q hc
    · obtain ⟨e, er⟩ := ask_0 q20 f9
      rw [if_pos er] at hf
      rw [q, ← (osome2 hf).2, e, mi_at]
      exact ⟨rfl, fun q => absurd q (by decide)⟩
  · obtain ⟨eT, ⟨-, q20⟩ | ⟨q, -⟩⟩ := p_cam h.1.1 gc
    case inr => exact absurd q (by decide)
    rw [eT] at hg
    have hP := r_pl hJ q20
    have p5 := pl_5 hP
    obtain ⟨-, hg⟩ := oif_some hg
    rcases othr_k hg with ⟨rc2, gc2, hc⟩ | ⟨rc2, Tc2, gc2, hg⟩
    · obtain ⟨eT2, ⟨q, -⟩ | ⟨q, qc⟩⟩ := p_src h.1.1 q20 gc2
      · exact absurd q hc
      · rcases (q_src hP f5).2 with ⟨-, z⟩ | ⟨z, -⟩
        · exact absurd z qc
        · rw [z] at f9
          obtain ⟨e, er⟩ := ask_2 q20 f9
          rw [if_pos er] at hf
          rw [q, ← (osome2 hf).2, e, mi_at]
          exact ⟨rfl, fun q => absurd q (by decide)⟩
    · obtain ⟨eT2, ⟨-, qc⟩ | ⟨q, -⟩⟩ := p_src h.1.1 q20 gc2
      case inr => exact absurd q (by decide)
      rw [eT2] at hg
      rcases (q_src hP f5).2 with ⟨z, -⟩ | ⟨-, z⟩
      case inr => exact absurd qc z
      rw [z] at f9
      obtain ⟨e, er⟩ := ask_1 q20 f9
      rw [if_neg (by rw [er]; decide)] at hf
      have no : ∀ {U : MS}, fr_moveSource_b53 U = some (r2, S1) → S1 = mi U 0 3 := by
        intro U hf
        unfold fr_moveSource_b53 at hf
        obtain ⟨r5, V, f5, hf⟩ := obind2_some hf
        unfold fr_moveSource_b58 at hf
        rw [← (osome2 hf).2, r_thr f5]
      obtain ⟨r11, f11, hf⟩ := obind_some hf
      have q11 := q_in f11
      rcases othr_k hg with ⟨rc3, gc3, hc⟩ | ⟨rc3, Tc3, gc3, hg⟩
      · obtain ⟨eT3, ⟨q, -⟩ | ⟨q, qd⟩⟩ := c_rng gc3
        · exact absurd q hc
        · rcases q11 with ⟨-, z⟩ | ⟨z, -⟩
          · exact absurd z qd
          · rw [if_pos z] at hf
            rw [q, no hf, mi_at]
            exact ⟨rfl, fun q => absurd q (by decide)⟩
      obtain ⟨eT3, ⟨-, qd⟩ | ⟨q, -⟩⟩ := c_rng gc3
      case inr => exact absurd q (by decide)
      rw [eT3] at hg
      rcases q11 with ⟨z, -⟩ | ⟨-, z⟩
      case inr => exact absurd qd z
      rw [if_neg (by rw [z]; decide)] at hf
      obtain ⟨r14, f14, hf⟩ := obind_some hf
      have q14 := q_in f14
      rcases othr_k hg with ⟨rc4, gc4, hc⟩ | ⟨rc4, Tc4, gc4, hg⟩
      · obtain ⟨eT4, ⟨q, -⟩ | ⟨q, qe⟩⟩ := c_rng gc4
        · exact absurd q hc
        · rcases q14 with ⟨-, z⟩ | ⟨z, -⟩
          · exact absurd z qe
          · rw [if_pos z] at hf
            rw [q, no hf, mi_at]
            exact ⟨rfl, fun q => absurd q (by decide)⟩
      obtain ⟨eT4, ⟨-, qe⟩ | ⟨q, -⟩⟩ := c_rng gc4
      case inr => exact absurd q (by decide)
      rw [eT4] at hg
      rcases q14 with ⟨z, -⟩ | ⟨-, z⟩
      case inr => exact absurd qe z
      rw [if_neg (by rw [z]; decide)] at hf
      obtain ⟨v17, d17, hf⟩ := elet_some hf
      obtain ⟨r21, S18, f18, hf⟩ := obind2_some hf
      unfold fr_moveSource_b58 at hf
      have ef := osome2 hf
      have k17 := cl_ad (n := 31) (by decide) qc.1 (by omega) d17
      have ka := i_cl qc.1
      obtain ⟨-, hg⟩ := oif_some hg
      obtain ⟨T21, g21, hg⟩ := obind_some hg
      unfold fr_setsTwo at f18
      obtain ⟨r5', S2', f5', f18⟩ := obind2_some f18
      obtain ⟨v6, d6, f18⟩ := elet_some f18
      obtain ⟨-, f18⟩ := oif_some f18
      obtain ⟨S8, e8', f18⟩ := elet_some f18
      obtain ⟨S9, f9', f18⟩ := obind_some f18
      obtain ⟨r15, S12, f12, f18⟩ := obind2_some f18
      obtain ⟨U, fU, -, eU⟩ := x_sets f5'
      rw [k17] at eU
      have i17 : v17.toInt = 31 + a0.toInt := by
        have z : (31 : Int32).toInt = 31 := by decide
        have := i_add d17 (by omega) (by omega)
        omega
      have k6 : v6.toNatClampNeg = 37 + a0.toNatClampNeg := by
        have z : (6 : Int32).toInt = 6 := by decide
        have q := i_add d6 (by omega) (by omega)
        have q2 := i_cl (i := v6) (by omega)
        omega
      rw [k6] at e8'
      obtain ⟨K1, K2, K3, K4, K5, K6, -⟩ := r2_keepu (S := S6) (by rw [e]; exact hP) (by rw [e]; exact q20) hV (by rw [e]; exact r2_mi0 h.1) g21 fU
      unfold g_X11_moveSource_b33 at hg
      obtain ⟨-, hg⟩ := oif_some hg
      obtain ⟨n3, en, hg⟩ := obind_some hg
      rw [(c_fld K1.1.1).2.1] at en
      cases en
      obtain ⟨-, hg⟩ := oif_some hg
      obtain ⟨n5, en, hg⟩ := obind_some hg
      rw [(sd_rf K1.1.1 d242).2.2.2.1] at en
      cases en
      obtain ⟨-, hg⟩ := oif_some hg
      obtain ⟨-, hg⟩ := oif_some hg
      obtain ⟨T8, e8, hg⟩ := elet_some hg
      have hPU : PL (U.2.1 10) := by rw [K4, e]; exact hP
      have ra : rowat 4 31 6 := .inr (.inr (.inr (.inl ⟨rfl, rfl, rfl⟩)))
      have R := r2_set (k := a0.toNatClampNeg) (x := a1) hPU K2 ra (by omega) K1
      have V := iv_now (k := a0.toNatClampNeg) (x := a1) K2 ra (.inr (.inr (.inr (.inl ⟨.inl rfl, by omega⟩))))
      rw [show uI T21 (242 + 4) a0.toNatClampNeg a1 = T8 from e8.symm] at R V
      rw [← eU] at R
      obtain ⟨-, hg⟩ := oif_some hg
      obtain ⟨n10, en, hg⟩ := obind_some hg
      rw [(c_fld R.1.1).2.1] at en
      cases en
      obtain ⟨-, hg⟩ := oif_some hg
      obtain ⟨n12, en, hg⟩ := obind_some hg
      rw [(sd_rf R.1.1 d242).2.2.2.2.1] at en
      cases en
      obtain ⟨-, hg⟩ := oif_some hg
      obtain ⟨-, hg⟩ := oif_some hg
      obtain ⟨T15, e15, hg⟩ := elet_some hg
      have hP2 : PL (S2'.2.1 10) := by rw [eU, mf_ne (by decide)]; exact hPU
      have rb : rowat 5 37 6 := .inr (.inr (.inr (.inr (.inl ⟨rfl, rfl, rfl⟩))))
      have R2' := r2_set (k := a0.toNatClampNeg) (x := a2) hP2 V rb (by omega) R
      have V2 := iv_now (k := a0.toNatClampNeg) (x := a2) V rb (.inr (.inr (.inr (.inl ⟨.inr rfl, by omega⟩))))
      rw [show uI T8 (242 + 5) a0.toNatClampNeg a2 = T15 from e15.symm] at R2' V2
      rw [← e8'] at R2'
      obtain ⟨s, hs, h14⟩ := crf_14 R2'.1.1
      obtain ⟨-, hg⟩ := oif_some hg
      obtain ⟨n17, en, hg⟩ := obind_some hg
      rw [(c_fld2 R2'.1.1).2.2.2] at en
      cases en
      obtain ⟨-, hg⟩ := oif_some hg
      obtain ⟨n19, en, hg⟩ := obind_some hg
      rw [h14] at en
      cases en
      obtain ⟨-, hg⟩ := oif_some hg
      obtain ⟨n21, en, hg⟩ := obind_some hg
      rw [(c_fld R2'.1.1).2.1] at en
      cases en
      obtain ⟨-, hg⟩ := oif_some hg
      obtain ⟨T23, g23, hg⟩ := obind_some hg
      have hP8 : PL (S8.2.1 10) := by rw [e8', mf_ne (by decide)]; exact hP2
      have W := r2_rec hP8 V2 R2' h14 g23 f9'
      have k9 := w_fr_records_12 f9'
      have ku := w_fr_remember fU
      have s10 : S8.2.1 10 = S.2.1 10 := by rw [e8', mf_ne (by decide), eU, mf_ne (by decide), K4, e]; rfl
      have s17 : S8.2.1 17 = S.2.1 17 := by rw [e8', mf_ne (by decide), eU, mf_ne (by decide), ku.2 17 (by decide), e]; rfl
      have s20 : S8.1 20 = 1 := by
        rw [e8', eU]
        exact K3
      have s21 : S8.1 21 = -1 := by
        rw [e8', eU]
        show U.1 21 = -1
        rw [ku.1 21 (by decide), e]
        exact h.2.2.2.2
      have s0 : S8.1 0 = 0 := by
        rw [e8', eU]
        show U.1 0 = 0
        rw [ku.1 0 (by decide), e, mi_at]
      have i17 : ∀ m, 0 ≤ (S.2.1 17 m).toInt ∧ (S.2.1 17 m).toInt ≤ 65535 := fun m => (jj_ib hJ).2.2.2.2.2.2.1 m
      obtain ⟨c4, n2, c5, c71, c77, hC⟩ := pc_of hP8
      obtain ⟨s', hs', h14', -, hE, -⟩ := r1_sce R2'.1 s20
      rw [h14] at h14'
      cases h14'
      have i21 := si_X11_keepForUndo g21 h.2.1.1 h.2.1.2
      have sp15 : SP T21 T15 := (show SP T21 T8 by rw [e8]; exact sp_uI).tr (show SP T8 T15 by rw [e15]; exact sp_uI)
      have i15 := gi_sp sp15 i21.1 i21.2
      have ck := tgo (cs_X11_keepForUndo T 0 hV rrole.2.2.2) g21
      have ui15 : ∀ m k, m < 242 ∨ 250 ≤ m → T15.2.2.1 m k = T21.2.2.1 m k := fun m k c => by
        rw [e15, ui_ne (.inl (by omega)), e8, ui_ne (.inl (by omega))]
      have wh15 : WH0 T15 := fun s1 h1 => by
        rw [ui15 _ _ (by omega), ui15 _ _ (by omega)]
        exact wh_fw ck.2 (by decide) h.2.2.2.1 s1 h1
      have A2 : AL T15 s (S8.2.1 10) := ⟨⟨V2, R2'.1.1⟩, i15, hE, wh15, h14⟩
      obtain ⟨xs, w1, sv, sm, refs, shs, ints⟩ := rec_alike_12 hs d242 hP8 (S' := S) (by rw [s10]; exact ⟨rfl, jj_ib hJ⟩) hC s21 V2 R2'.1.1 hE (R2'.2.2.2 s20).1 g23 f9'
      have z10 : S9.2.1 10 = S8.2.1 10 := k9.2 10 (by decide)
      have z17 : S9.2.1 17 = S8.2.1 17 := k9.2 17 (by decide)
      obtain ⟨o, hV16, fw⟩ := rec_out R2'.1.1 V2 hs (.inl rfl) g23
      have A3 : AL T23 s (S9.2.1 10) := by
        rw [z10]
        exact al_go hs A2 hV16 (crf_gr R2'.1.1 V2 (sr_X5_record g23)) (si_X5_record g23) fw (by decide +kernel) (by decide) (e14_gr V2 (sr_X5_record g23))
      have pc := (pl_cell hP8).2.2.1
      have D3 : DRw T23 s S9 := fun k m hk hm => by
        rw [z10] at hk hm
        rw [ints _ _ (by omega) (by omega) (by omega), z17]
        exact (R2'.2.2.2 s20).2.1 s h14 k m hk hm
      unfold g_X11_moveSource_b68 at hg
      obtain ⟨-, hg⟩ := oif_some hg
      obtain ⟨r4, T3, g3, hg⟩ := obind2_some hg
      obtain ⟨-, hg⟩ := oif_some hg
      unfold g_X11_moveSource_b72 at hg
      obtain ⟨-, hg⟩ := oif_some hg
      obtain ⟨v3, d3, hg⟩ := elet_some hg
      have Q := pn_alike hs A3 (by rw [ints _ _ (by decide) (by decide) (by decide), ui15 _ _ (by decide)]; exact ku_66 h.1.1.1 hV g21) (by rw [z10]; exact hP8) (by rw [z10]; exact hC) w1 (by rw [z10]; exact sv) sm D3 (fun k => by rw [z17, s17]; exact i17 k) g3 f12
      have gg := osome3 hg
      have f8' := osome2 f18
      have wb := w_fr_bestIn_12 f12
      rw [← gg.1, ← gg.2.1, ← ef.1, ← f8'.1, ← ef.2, ← f8'.2, wb.1 0 (by decide), k9.1 0 (by decide), s0, d3]
      exact ⟨rfl, fun _ => ⟨rfl, Q⟩⟩
theorem r3h_setVelocity {a0 a1 a2 : Int32} (hV : IV aR0 1586 aK1 aK2 T) (hJ : JJ S) (h : R3 T S) (hg : g_X11_setVelocity T 0 a0 a1 a2 = some (k1, r1, T1)) (hf : fr_setVelocity S a0 a1 a2 = some (r2, S1)) : S1.1 0 = vck 1 2 3 k1 ∧ (vck 1 2 3 k1 = 0 → k1 = 0 ∧ r1 = r2) := by
  have zm : ((-999) : Int32).toInt = -999 := by decide
  have zp : (999 : Int32).toInt = 999 := by decide
  unfold fr_setVelocity at hf
  obtain ⟨r5, S2, f5, hf⟩ := obind2_some hf
  obtain ⟨r9, S6, f9, hf⟩ := obind2_some hf
  have eS := src_same f5
  rw [eS] at f9
  unfold g_X11_setVelocity at hg
  obtain ⟨-, hg⟩ := oif_some hg
  rcases othr_k hg with ⟨rc, gc, hc⟩ | ⟨rc, Tc, gc, hg⟩
  · obtain ⟨eT, ⟨q, -⟩ | ⟨q, q20⟩⟩ := p_cam h.1.1 gc
    · exact absurd q hc
    · obtain ⟨e, er⟩ := ask_0 q20 f9
      rw [if_pos er] at hf
      rw [q, ← (osome2 hf).2, e, mi_at]
      exact ⟨rfl, fun q => absurd q (by decide)⟩
  · obtain ⟨eT, ⟨-, q20⟩ | ⟨q, -⟩⟩ := p_cam h.1.1 gc
    case inr => exact absurd q (by decide)
    rw [eT] at hg
    have hP := r_pl hJ q20
    have p5 := pl_5 hP
    obtain ⟨-, hg⟩ := oif_some hg
    rcases othr_k hg with ⟨rc2, gc2, hc⟩ | ⟨rc2, Tc2, gc2, hg⟩
    · obtain ⟨eT2, ⟨q, -⟩ | ⟨q, qc⟩⟩ := p_src h.1.1 q20 gc2
      · exact absurd q hc
      · rcases (q_src hP f5).2 with ⟨-, z⟩ | ⟨z, -⟩
        · exact absurd z qc
        · rw [z] at f9
          obtain ⟨e, er⟩ := ask_2 q20 f9
          rw [if_pos er] at hf
          rw [q, ← (osome2 hf).2, e, mi_at]
          exact ⟨rfl, fun q => absurd q (by decide)⟩
    · obtain ⟨eT2, ⟨-, qc⟩ | ⟨q, -⟩⟩ := p_src h.1.1 q20 gc2
      case inr => exact absurd q (by decide)
      rw [eT2] at hg
      rcases (q_src hP f5).2 with ⟨z, -⟩ | ⟨-, z⟩
      case inr => exact absurd qc z
      rw [z] at f9
      obtain ⟨e, er⟩ := ask_1 q20 f9
      rw [if_neg (by rw [er]; decide)] at hf
      obtain ⟨r11, f11, hf⟩ := obind_some hf
      have q11 := q_vel f11
      have out : ¬ ((-999 ≤ a1.toInt ∧ a1.toInt ≤ 999) ∧ -999 ≤ a2.toInt ∧ a2.toInt ≤ 999) → S1.1 0 = 3 := by
        intro n
        rcases q11 with ⟨-, z⟩ | ⟨z, -⟩
        · exact absurd z n
        · rw [if_pos z] at hf
          obtain ⟨r17, S14, f14, hf⟩ := obind2_some hf
          unfold fr_setVelocity_b40 at hf
          rw [← (osome2 hf).2, r_thr f14, mi_at]
      rcases othr_k hg with ⟨rc3, gc3, hc⟩ | ⟨rc3, Tc3, gc3, hg⟩
      · obtain ⟨eT3, ⟨q, -⟩ | ⟨q, qd⟩⟩ := c_rng gc3
        · exact absurd q hc
        · rw [q, out (fun u => qd (by omega))]
          exact ⟨rfl, fun q => absurd q (by decide)⟩
      obtain ⟨eT3, ⟨-, qd⟩ | ⟨q, -⟩⟩ := c_rng gc3
      case inr => exact absurd q (by decide)
      rw [eT3] at hg
      rcases othr_k hg with ⟨rc4, gc4, hc⟩ | ⟨rc4, Tc4, gc4, hg⟩
      · obtain ⟨eT4, ⟨q, -⟩ | ⟨q, qe⟩⟩ := c_rng gc4
        · exact absurd q hc
        · rw [q, out (fun u => qe (by omega))]
          exact ⟨rfl, fun q => absurd q (by decide)⟩
      obtain ⟨eT4, ⟨-, qe⟩ | ⟨q, -⟩⟩ := c_rng gc4
      case inr => exact absurd q (by decide)
      rw [eT4] at hg
      rcases q11 with ⟨z, -⟩ | ⟨-, z⟩
      case inr => exact absurd ⟨by omega, by omega⟩ z
      rw [if_neg (by rw [z]; decide)] at hf
      obtain ⟨v17, d17, hf⟩ := elet_some hf
      obtain ⟨r21, S18, f18, hf⟩ := obind2_some hf
      unfold fr_setVelocity_b40 at hf
      have ef := osome2 hf
      have k17 := cl_ad (n := 43) (by decide) qc.1 (by omega) d17
      have ka := i_cl qc.1
      obtain ⟨-, hg⟩ := oif_some hg
      obtain ⟨T21, g21, hg⟩ := obind_some hg
      unfold fr_setsTwo at f18
      obtain ⟨r5', S2', f5', f18⟩ := obind2_some f18
      obtain ⟨v6, d6, f18⟩ := elet_some f18
      obtain ⟨-, f18⟩ := oif_some f18
      obtain ⟨S8, e8', f18⟩ := elet_some f18
      obtain ⟨S9, f9', f18⟩ := obind_some f18
      obtain ⟨r15, S12, f12, f18⟩ := obind2_some f18
      obtain ⟨U, fU, -, eU⟩ := x_sets f5'
      rw [k17] at eU
      have i17 : v17.toInt = 43 + a0.toInt := by
        have z : (43 : Int32).toInt = 43 := by decide
        have := i_add d17 (by omega) (by omega)
        omega
      have k6 : v6.toNatClampNeg = 49 + a0.toNatClampNeg := by
        have z : (6 : Int32).toInt = 6 := by decide
        have q := i_add d6 (by omega) (by omega)
        have q2 := i_cl (i := v6) (by omega)
        omega
      rw [k6] at e8'
      obtain ⟨K1, K2, K3, K4, K5, K6, -⟩ := r2_keepu (S := S6) (by rw [e]; exact hP) (by rw [e]; exact q20) hV (by rw [e]; exact r2_mi0 h.1) g21 fU
      unfold g_X11_setVelocity_b33 at hg
      obtain ⟨-, hg⟩ := oif_some hg
      obtain ⟨n3, en, hg⟩ := obind_some hg
      rw [(c_fld K1.1.1).2.1] at en
      cases en
      obtain ⟨-, hg⟩ := oif_some hg
      obtain ⟨n5, en, hg⟩ := obind_some hg
      rw [(sd_rf K1.1.1 d242).2.2.2.2.2.1] at en
      cases en
      obtain ⟨-, hg⟩ := oif_some hg
      obtain ⟨-, hg⟩ := oif_some hg
      obtain ⟨T8, e8, hg⟩ := elet_some hg
      have hPU : PL (U.2.1 10) := by rw [K4, e]; exact hP
      have ra : rowat 6 43 6 := .inr (.inr (.inr (.inr (.inr (.inl ⟨rfl, rfl, rfl⟩)))))
      have R := r2_set (k := a0.toNatClampNeg) (x := a1) hPU K2 ra (by omega) K1
      have V := iv_now (k := a0.toNatClampNeg) (x := a1) K2 ra (.inr (.inr (.inr (.inr ⟨.inl rfl, by omega⟩))))
      rw [show uI T21 (242 + 6) a0.toNatClampNeg a1 = T8 from e8.symm] at R V
      rw [← eU] at R
      obtain ⟨-, hg⟩ := oif_some hg
      obtain ⟨n10, en, hg⟩ := obind_some hg
      rw [(c_fld R.1.1).2.1] at en
      cases en
      obtain ⟨-, hg⟩ := oif_some hg
      obtain ⟨n12, en, hg⟩ := obind_some hg
      rw [(sd_rf R.1.1 d242).2.2.2.2.2.2.1] at en
      cases en
      obtain ⟨-, hg⟩ := oif_some hg
      obtain ⟨-, hg⟩ := oif_some hg
      obtain ⟨T15, e15, hg⟩ := elet_some hg
      have hP2 : PL (S2'.2.1 10) := by rw [eU, mf_ne (by decide)]; exact hPU
      have rb : rowat 7 49 6 := .inr (.inr (.inr (.inr (.inr (.inr (⟨rfl, rfl, rfl⟩))))))
      have R2' := r2_set (k := a0.toNatClampNeg) (x := a2) hP2 V rb (by omega) R
      have V2 := iv_now (k := a0.toNatClampNeg) (x := a2) V rb (.inr (.inr (.inr (.inr ⟨.inr rfl, by omega⟩))))
      rw [show uI T8 (242 + 7) a0.toNatClampNeg a2 = T15 from e15.symm] at R2' V2
      rw [← e8'] at R2'
      obtain ⟨s, hs, h14⟩ := crf_14 R2'.1.1
      obtain ⟨-, hg⟩ := oif_some hg
      obtain ⟨n17, en, hg⟩ := obind_some hg
      rw [(c_fld2 R2'.1.1).2.2.2] at en
      cases en
      obtain ⟨-, hg⟩ := oif_some hg
      obtain ⟨n19, en, hg⟩ := obind_some hg
      rw [h14] at en
      cases en
      obtain ⟨-, hg⟩ := oif_some hg
      obtain ⟨n21, en, hg⟩ := obind_some hg
      rw [(c_fld R2'.1.1).2.1] at en
      cases en
      obtain ⟨-, hg⟩ := oif_some hg
      obtain ⟨T23, g23, hg⟩ := obind_some hg
      have hP8 : PL (S8.2.1 10) := by rw [e8', mf_ne (by decide)]; exact hP2
      have W := r2_rec hP8 V2 R2' h14 g23 f9'
      have k9 := w_fr_records_12 f9'
      have ku := w_fr_remember fU
      have s10 : S8.2.1 10 = S.2.1 10 := by rw [e8', mf_ne (by decide), eU, mf_ne (by decide), K4, e]; rfl
      have s17 : S8.2.1 17 = S.2.1 17 := by rw [e8', mf_ne (by decide), eU, mf_ne (by decide), ku.2 17 (by decide), e]; rfl
      have s20 : S8.1 20 = 1 := by
        rw [e8', eU]
        exact K3
      have s21 : S8.1 21 = -1 := by
        rw [e8', eU]
        show U.1 21 = -1
        rw [ku.1 21 (by decide), e]
        exact h.2.2.2.2
      have s0 : S8.1 0 = 0 := by
        rw [e8', eU]
        show U.1 0 = 0
        rw [ku.1 0 (by decide), e, mi_at]
      have i17 : ∀ m, 0 ≤ (S.2.1 17 m).toInt ∧ (S.2.1 17 m).toInt ≤ 65535 := fun m => (jj_ib hJ).2.2.2.2.2.2.1 m
      obtain ⟨c4, n2, c5, c71, c77, hC⟩ := pc_of hP8
      obtain ⟨s', hs', h14', -, hE, -⟩ := r1_sce R2'.1 s20
      rw [h14] at h14'
      cases h14'
      have i21 := si_X11_keepForUndo g21 h.2.1.1 h.2.1.2
      have sp15 : SP T21 T15 := (show SP T21 T8 by rw [e8]; exact sp_uI).tr (show SP T8 T15 by rw [e15]; exact sp_uI)
      have i15 := gi_sp sp15 i21.1 i21.2
      have ck := tgo (cs_X11_keepForUndo T 0 hV rrole.2.2.2) g21
      have ui15 : ∀ m k, m < 242 ∨ 250 ≤ m → T15.2.2.1 m k = T21.2.2.1 m k := fun m k c => by
        rw [e15, ui_ne (.inl (by omega)), e8, ui_ne (.inl (by omega))]
      have wh15 : WH0 T15 := fun s1 h1 => by
        rw [ui15 _ _ (by omega), ui15 _ _ (by omega)]
        exact wh_fw ck.2 (by decide) h.2.2.2.1 s1 h1
      have A2 : AL T15 s (S8.2.1 10) := ⟨⟨V2, R2'.1.1⟩, i15, hE, wh15, h14⟩
      obtain ⟨xs, w1, sv, sm, refs, shs, ints⟩ := rec_alike_12 hs d242 hP8 (S' := S) (by rw [s10]; exact ⟨rfl, jj_ib hJ⟩) hC s21 V2 R2'.1.1 hE (R2'.2.2.2 s20).1 g23 f9'
      have z10 : S9.2.1 10 = S8.2.1 10 := k9.2 10 (by decide)
      have z17 : S9.2.1 17 = S8.2.1 17 := k9.2 17 (by decide)
      obtain ⟨o, hV16, fw⟩ := rec_out R2'.1.1 V2 hs (.inl rfl) g23
      have A3 : AL T23 s (S9.2.1 10) := by
        rw [z10]
        exact al_go hs A2 hV16 (crf_gr R2'.1.1 V2 (sr_X5_record g23)) (si_X5_record g23) fw (by decide +kernel) (by decide) (e14_gr V2 (sr_X5_record g23))
      have pc := (pl_cell hP8).2.2.1
      have D3 : DRw T23 s S9 := fun k m hk hm => by
        rw [z10] at hk hm
        rw [ints _ _ (by omega) (by omega) (by omega), z17]
        exact (R2'.2.2.2 s20).2.1 s h14 k m hk hm
      unfold g_X11_setVelocity_b68 at hg
      obtain ⟨-, hg⟩ := oif_some hg
      obtain ⟨r4, T3, g3, hg⟩ := obind2_some hg
      obtain ⟨-, hg⟩ := oif_some hg
      unfold g_X11_setVelocity_b72 at hg
      obtain ⟨-, hg⟩ := oif_some hg
      obtain ⟨v3, d3, hg⟩ := elet_some hg
      have Q := pn_alike hs A3 (by rw [ints _ _ (by decide) (by decide) (by decide), ui15 _ _ (by decide)]; exact ku_66 h.1.1.1 hV g21) (by rw [z10]; exact hP8) (by rw [z10]; exact hC) w1 (by rw [z10]; exact sv) sm D3 (fun k => by rw [z17, s17]; exact i17 k) g3 f12
      have gg := osome3 hg
      have f8' := osome2 f18
      have wb := w_fr_bestIn_12 f12
      rw [← gg.1, ← gg.2.1, ← ef.1, ← f8'.1, ← ef.2, ← f8'.2, wb.1 0 (by decide), k9.1 0 (by decide), s0, d3]
      exact ⟨rfl, fun _ => ⟨rfl, Q⟩⟩
end
