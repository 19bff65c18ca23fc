/-! the answer of pointPower -/
section
variable {T T1 : AT} {S S1 : MS} {s xs : Nat} {c4 n2 c5 c71 c77 : Nat} {k1 : Nat} {r1 r2 : Int64}
set_option maxRecDepth 100000 in
theorem w434_dec : okc 434 = true ∧ (arf 434).getD 1 none = some (434 + 1) := by decide +kernel
theorem w434 (hc : CRF T) : T.2.2.2.2 434 1 = some (434 + 1) := (hc.at 434 w434_dec.1 _).trans w434_dec.2
/-- behind the point's recordings both answer the same power -/
theorem pp_alike {a : Int32} (hs : s = 478 ∨ s = 656) (hA : AL T s (S.2.1 10)) (hP : PL (S.2.1 10)) (hC : PCs (S.2.1 10) c4 n2 c5 c71 c77) (hw : W1 T (336 + 8) xs) (hS : SVa T 336 xs (S.2.1 10) (S.2.1 14) c4 n2) (hr : SMr (S.2.1 14) c4 n2) (hD : DRw T s S) (h17 : ∀ k, 0 ≤ (S.2.1 17 k).toInt ∧ (S.2.1 17 k).toInt ≤ 65535) (ha : 0 ≤ a.toInt ∧ a.toInt < (S.2.1 10 9 * S.2.1 10 10).toInt) (g : g_X11_pointPower_b27 T 0 a = some (k1, r1, T1)) (f : fr_powerOf_14 S a = some (r2, S1)) : k1 = 0 ∧ r1 = r2 := by
  obtain ⟨⟨hV, hc⟩, ⟨hrc, hri⟩, hE, hw0, h14⟩ := hA
  obtain ⟨q1, q2, q3, -⟩ := pl_cell hP
  have e4 := hC.1
  have l4 := hC.2.1
  have e2 := hC.2.2.1
  have l2 := hC.2.2.2.1
  have rd := sd_ro d336
  obtain ⟨b8, b51⟩ := sdw_rf hc d336
  obtain ⟨z, hz, sz⟩ := w_row0 hV rd.2.2.2.2.2.2.2.2.2 (by decide) b51
  obtain ⟨-, -, -, r433, r434, -⟩ := pt11_dec
  obtain ⟨C, hC144, eC⟩ := nI_of01 (x := a) (a := 144) (by omega) (by omega) (by omega)
  have CI : (nI C).toInt = (C : Int) := nI_toInt (by omega)
  have kC : (nI C).toNatClampNeg = C := nI_clamp (by omega)
  have i4 : (S.2.1 10 4).toInt = (c4 : Int) := by rw [e4]; exact nI_toInt (by omega)
  rw [eC] at g f ha
  -- the reference
  unfold fr_powerOf_14 at f
  obtain ⟨S3, g3, f⟩ := obind_some f
  obtain ⟨r8, S5, g8, f⟩ := obind2_some f
  have w3 := w_fr_laysCell g3
  unfold fr_laysCell at g3
  have x3 := x_lays (S0 := S) (c := C) (by omega) (by omega) 16384 0 (by decide) rfl rfl (fun m hm => absurd hm (Nat.not_lt_zero m)) g3
  have s10 : S3.2.1 10 = S.2.1 10 := w3.2 10 (by decide)
  have sA : S3.2.1 14 = S.2.1 14 := w3.2 14 (by decide)
  obtain ⟨e8, q8⟩ := r_pow_14 (S := S3) (D := fun m => S.2.1 17 (12 * C + m)) (by rw [s10]; exact e4) l4 (by rw [s10]; exact e2) l2 (by rw [sA]; exact hr) (fun m hm => ⟨x3 m (by omega), h17 _⟩) g8
  rw [sA] at q8
  have ff := osome2 f
  -- the class
  have hF := hc.srf hs
  have e17 : T.2.2.2.2 s 17 = some (s + 15) := by unfold SRF at hF; exact hF.2.2.2.2.2.2.2.1
  have e31 : T.2.2.2.2 (s + 15) C = some (s + 16 + C) := by unfold SRF at hF; exact hF.2.2.2.2.2.2.2.2.2.2.2.2.2.2 _ (by omega)
  unfold g_X11_pointPower_b27 at g
  obtain ⟨-, g⟩ := oif_some g
  obtain ⟨n3, en, g⟩ := obind_some g
  rw [(c_fld hc).2.2.1] at en
  cases en
  obtain ⟨-, g⟩ := oif_some g
  obtain ⟨n5, en, g⟩ := obind_some g
  rw [h14] at en
  cases en
  obtain ⟨-, g⟩ := oif_some g
  obtain ⟨n7, en, g⟩ := obind_some g
  rw [e17] at en
  cases en
  obtain ⟨-, g⟩ := oif_some g
  obtain ⟨-, g⟩ := oif_some g
  obtain ⟨n10, en, g⟩ := obind_some g
  rw [kC, e31] at en
  cases en
  obtain ⟨-, g⟩ := oif_some g
  obtain ⟨n12, en, g⟩ := obind_some g
  rw [(c_fld2 hc).2.1] at en
  cases en
  obtain ⟨-, g⟩ := oif_some g
  obtain ⟨T14, g14, g⟩ := obind_some g
  have hDL : DLs T (s + 16 + C) (fun m => S.2.1 17 (12 * C + m)) c4 := fun m hm => ⟨hD C m (by omega) (by omega), h17 _⟩
  have o1 : T.2.2.2.2 434 1 = some (434 + 1) := w434 hc
  obtain ⟨x, hx, sx⟩ := w_row0 hV r434 (by decide) o1
  have sxs : (T.2.1 xs).1 = 101 := by
    obtain ⟨x', h', s'⟩ := w_row0 hV rd.2.2.2.2.2.2.2.2.1 (by decide) b8
    have q := hw.2.1
    rw [h'] at q
    cases q
    exact s'
  have hB : BN T 336 xs z 434 x (S.2.1 10) (S.2.1 14) c4 n2 := ⟨⟨hV, hc, hrc, hri⟩, ⟨hw, hS⟩, ⟨b51, hz, o1, hx⟩, sxs, sz, sx⟩
  unfold g_X8_powerOf at g14
  obtain ⟨-, g14⟩ := oif_some g14
  obtain ⟨r5, T3, g5, g14⟩ := obind2_some g14
  obtain ⟨eT3, q5⟩ := c_wnd hc d336 e4 l4 e2 l2 hS hDL g5
  rw [eT3, q5] at g14
  obtain ⟨-, g14⟩ := oif_some g14
  obtain ⟨T8, g6, g14⟩ := obind_some g14
  unfold g_X8_powerOf_b13 at g14
  obtain ⟨B8, G8⟩ := z_bpow hB (by decide) (.inr (by decide)) d336 r434 (by decide) e4 l4 e2 l2 hr hDL (dl_ro hs (by omega)) (by omega) (by omega) g6
  rw [osome1 g14] at B8 G8
  unfold g_X11_pointPower_b48 at g
  obtain ⟨-, g⟩ := oif_some g
  obtain ⟨n3, en, g⟩ := obind_some g
  rw [(c_fld2 B8.1.2.1).2.1] at en
  cases en
  obtain ⟨-, g⟩ := oif_some g
  obtain ⟨r7, T5, g7, g⟩ := obind2_some g
  have gg := osome3 g
  have k0 : (0 : Int32).toNatClampNeg = 0 := rfl
  have q7 : r7.toInt = pwS (S.2.1 14) (fun m => S.2.1 17 (12 * C + m)) n2 c4 := by
    rcases G8 with ⟨hw1, hv, hv0, -⟩ | ⟨y, u, hu, -, hzz, hv⟩
    · have q := (c_val1 hw1 (by rw [k0, hv]; exact hv0) g7).2
      rw [k0] at q
      exact q.trans hv
    · exact (c_valU (i := 0) hu (by rw [k0]; exact hzz) (by rw [k0]; exact hv) g7).2
  refine ⟨gg.1.symm, ?_⟩
  rw [← gg.2.1, ← ff.1]
  exact Int64.toInt_inj.mp (q7.trans q8.symm)
/-- the reference's way to its question -/
theorem pp_ask {a0 a1 a2 : Int32} (hf : fr_pointPower S a0 a1 a2 = some (r2, S1)) : ∃ s0 : Int32, fr_pointPower_b22 S s0 a0 a1 a2 = some (r2, S1) ∧ (PL (S.2.1 10) → s0 = 1 ∧ (0 ≤ a0.toInt ∧ a0.toInt < (S.2.1 10 9 * S.2.1 10 10).toInt) ∧ (0 ≤ a1.toInt ∧ a1.toInt < (S.2.1 10 9 * S.2.1 10 10).toInt) ∨ s0 = 0 ∧ ¬ ((0 ≤ a0.toInt ∧ a0.toInt < (S.2.1 10 9 * S.2.1 10 10).toInt) ∧ (0 ≤ a1.toInt ∧ a1.toInt < (S.2.1 10 9 * S.2.1 10 10).toInt))) := by
  unfold fr_pointPower fr_pointPower_b21 at hf
  obtain ⟨r5, S2, f5, hf⟩ := obind2_some hf
  rw [(r_cell f5).1] at hf
  rcases oif_or hf with ⟨c, hf⟩ | ⟨c, hf⟩
  · refine ⟨0, hf, fun hP => .inr ⟨rfl, fun w => ?_⟩⟩
    rcases (q_cell hP f5).2 with ⟨z, -⟩ | ⟨-, z⟩
    · rw [z] at c
      exact absurd c (by decide)
    · exact z w.1
  · obtain ⟨r10, S7, f10, hf⟩ := obind2_some hf
    rw [(r_cell f10).1] at hf
    rcases oif_or hf with ⟨c2, hf⟩ | ⟨c2, hf⟩
    · refine ⟨0, hf, fun hP => .inr ⟨rfl, fun w => ?_⟩⟩
      rcases (q_cell hP f10).2 with ⟨z, -⟩ | ⟨-, z⟩
      · rw [z] at c2
        exact absurd c2 (by decide)
      · exact z w.2
    · refine ⟨1, hf, fun hP => .inl ⟨rfl, ?_, ?_⟩⟩
      · rcases (q_cell hP f5).2 with ⟨-, z⟩ | ⟨z, -⟩
        · exact z
        · exact absurd z c
      · rcases (q_cell hP f10).2 with ⟨-, z⟩ | ⟨z, -⟩
        · exact z
        · exact absurd z c2
theorem r3h_pointPower {a0 a1 a2 : Int32} (hV : IV aR0 1586 aK1 aK2 T) (hJ : JJ S) (h : R3 T S) (hg : g_X11_pointPower T 0 a0 a1 a2 = some (k1, r1, T1)) (hf : fr_pointPower S a0 a1 a2 = some (r2, S1)) : S1.1 0 = vck 1 2 3 k1 ∧ (vck 1 2 3 k1 = 0 → k1 = 0 ∧ r1 = r2) := by
  have z2 : (2 : Int32).toInt = 2 := by decide
  have z9 : (99 : Int32).toInt = 99 := by decide
  obtain ⟨s0, hf, hs0⟩ := pp_ask hf
  unfold fr_pointPower_b22 at hf
  obtain ⟨r9, S6, f9, hf⟩ := obind2_some hf
  unfold g_X11_pointPower at hg
  obtain ⟨-, hg⟩ := oif_some hg
  rcases othr_k hg with ⟨rc, gc, hc⟩ | ⟨rc, Tc, gc, hg⟩
  · obtain ⟨-, ⟨q, -⟩ | ⟨q, q20⟩⟩ := p_cam h.1.1 gc
    · exact absurd q hc
    · obtain ⟨e, er⟩ := ask_0 q20 f9
      rw [if_pos er] at hf
      rw [q, ← (osome2 hf).2, e, mi_at]
      exact ⟨rfl, fun q => absurd q (by decide)⟩
  · obtain ⟨eT, ⟨-, q20⟩ | ⟨q, -⟩⟩ := p_cam h.1.1 gc
    case inr => exact absurd q (by decide)
    rw [eT] at hg
    have hP := r_pl hJ q20
    have hs0 := hs0 hP
    -- a cell that is none
    have bad : ¬ ((0 ≤ a0.toInt ∧ a0.toInt < (S.2.1 10 9 * S.2.1 10 10).toInt) ∧ (0 ≤ a1.toInt ∧ a1.toInt < (S.2.1 10 9 * S.2.1 10 10).toInt)) → k1 = 2 → S1.1 0 = vck 1 2 3 k1 ∧ (vck 1 2 3 k1 = 0 → k1 = 0 ∧ r1 = r2) := fun w q => by
      rcases hs0 with ⟨-, a, b⟩ | ⟨e0, -⟩
      · exact absurd ⟨a, b⟩ w
      · rw [e0] at f9
        obtain ⟨e, er⟩ := ask_2 q20 f9
        rw [if_pos er] at hf
        rw [q, ← (osome2 hf).2, e, mi_at]
        exact ⟨rfl, fun q => absurd q (by decide)⟩
    obtain ⟨-, hg⟩ := oif_some hg
    rcases othr_k hg with ⟨rc2, gc2, hc⟩ | ⟨rc2, Tc2, gc2, hg⟩
    · obtain ⟨-, ⟨q, -⟩ | ⟨q, qc⟩⟩ := p_cell h.1.1 q20 gc2
      · exact absurd q hc
      · exact bad (fun w => qc w.1) q
    · obtain ⟨eT2, ⟨-, qc⟩ | ⟨q, -⟩⟩ := p_cell h.1.1 q20 gc2
      case inr => exact absurd q (by decide)
      rw [eT2] at hg
      obtain ⟨-, hg⟩ := oif_some hg
      rcases othr_k hg with ⟨rc4, gc4, hc⟩ | ⟨rc4, Tc4, gc4, hg⟩
      · obtain ⟨-, ⟨q, -⟩ | ⟨q, qc1⟩⟩ := p_cell h.1.1 q20 gc4
        · exact absurd q hc
        · exact bad (fun w => qc1 w.2) q
      · obtain ⟨eT4, ⟨-, qc1⟩ | ⟨q, -⟩⟩ := p_cell h.1.1 q20 gc4
        case inr => exact absurd q (by decide)
        rw [eT4] at hg
        rcases hs0 with ⟨e0, -, -⟩ | ⟨-, w⟩
        case inr => exact absurd ⟨qc, qc1⟩ w
        rw [e0] at f9
        obtain ⟨e, er⟩ := ask_1 q20 f9
        rw [if_neg (by rw [er]; decide)] at hf
        obtain ⟨r11, f11, hf⟩ := obind_some hf
        have q11 := q_per f11
        rcases othr_k hg with ⟨rc3, gc3, hc⟩ | ⟨rc3, Tc3, gc3, hg⟩
        · obtain ⟨-, ⟨q, -⟩ | ⟨q, qd⟩⟩ := c_rng gc3
          · exact absurd q hc
          · rcases q11 with ⟨-, z⟩ | ⟨z, -⟩
            · exact absurd (by omega) qd
            · rw [if_pos z] at hf
              obtain ⟨r17, S14, f17, hf⟩ := obind2_some hf
              obtain ⟨v14, -, hf⟩ := elet_some hf
              rw [q, ← (osome2 hf).2, r_thr f17, mi_at]
              exact ⟨rfl, fun q => absurd q (by decide)⟩
        · obtain ⟨eT3, ⟨-, qd⟩ | ⟨q, -⟩⟩ := c_rng gc3
          case inr => exact absurd q (by decide)
          rw [eT3] at hg
          rcases q11 with ⟨z, -⟩ | ⟨-, z⟩
          case inr => exact absurd (by omega) z
          rw [if_neg (by rw [z]; decide)] at hf
          obtain ⟨S18, f18, hf⟩ := obind_some hf
          obtain ⟨S21, f21, hf⟩ := obind_some hf
          obtain ⟨r27, S24, f27, hf⟩ := obind2_some hf
          obtain ⟨s, hs, hA⟩ := al_of hV h q20
          have hI : IC (S.2.1 10) S := ⟨rfl, jj_ib hJ⟩
          have i17 : ∀ m, 0 ≤ (S.2.1 17 m).toInt ∧ (S.2.1 17 m).toInt ≤ 65535 := fun m => (jj_ib hJ).2.2.2.2.2.2.1 m
          obtain ⟨c4, n2, c5, c71, c77, hC⟩ := pc_of hP
          obtain ⟨-, hg⟩ := oif_some hg
          obtain ⟨T17, g17, hg⟩ := obind_some hg
          have e6 : S6.2.1 10 = S.2.1 10 := by rw [e]; rfl
          obtain ⟨A1, D1, e10, e17, t0, xs, w1, sv, sm⟩ := tp_alike (S := S6) (S0 := S) hs (by rw [e]; exact hA) (by rw [e]; exact hP) (by rw [e]; exact r2_mi0 h.1) (by rw [e]; exact q20) (by rw [e]; exact hI) (by rw [e]; exact qc) (by omega) h.2.2.1.1 h.2.2.1.2 f18 f21 g17 (by rw [e6]; exact hC)
          have q := pp_alike hs A1 (by rw [e10, e6]; exact hP) (by rw [e10, e6]; exact hC) w1 sv sm D1 (fun k => by rw [e17, e]; exact i17 k) (by rw [e10, e6]; exact qc1) hg f27
          have ff := osome2 hf
          have wb := w_fr_powerOf_14 f27
          rw [← ff.1, ← ff.2, wb.1 0 (by decide), t0, e, mi_at, q.1]
          exact ⟨rfl, fun _ => ⟨rfl, q.2⟩⟩
end
