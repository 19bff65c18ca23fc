/-! changes: R2 is kept, the answers are alike -/
section
variable {T T1 : AT} {S S1 : MS} {k1 : Nat} {r1 r2 : Int32}
theorem x_sets {a v r : Int32} (h : fr_sets S a v = some (r, S1)) : ∃ S2, fr_remember S = some S2 ∧ r = S2.2.1 12 a.toNatClampNeg ∧ S1 = mf S2 12 (upd (S2.2.1 12) a.toNatClampNeg v) := by
  unfold fr_sets at h
  obtain ⟨S2, f2, h⟩ := obind_some h
  obtain ⟨-, h⟩ := oif_some h
  obtain ⟨v6, e6, h⟩ := elet_some h
  obtain ⟨-, h⟩ := oif_some h
  obtain ⟨S8, e8, h⟩ := elet_some h
  have q := osome2 h
  exact ⟨S2, f2, by rw [← q.1, e6], by rw [← q.2, e8]⟩
theorem iv_now {a off b k : Nat} {x : Int32} (hV : IV aR0 1586 aK1 aK2 T) (hr : rowat a off b) (hx : a = 1 ∧ 0 ≤ x.toInt ∧ x.toInt ≤ 1 ∨ a = 2 ∧ 0 ≤ x.toInt ∧ x.toInt ≤ 9 ∨ a = 3 ∧ 0 ≤ x.toInt ∧ x.toInt ≤ 1 ∨ (a = 4 ∨ a = 5) ∧ -2000 ≤ x.toInt ∧ x.toInt ≤ 2000 ∨ (a = 6 ∨ a = 7) ∧ -999 ≤ x.toInt ∧ x.toInt ≤ 999) : IV aR0 1586 aK1 aK2 (uI T (242 + a) k x) := by
  obtain ⟨r0, r1, r2, r3, r4, r5, r6, r7, -⟩ := sd_ro d242
  rcases hx with ⟨e, q⟩ | ⟨e, q⟩ | ⟨e, q⟩ | ⟨e | e, q⟩ | ⟨e | e, q⟩ <;> subst e
  · exact iv_uI hV r1 (by decide) (by decide) (rfl : iR 62 k = (0, 1)) q (.inl rfl)
  · exact iv_uI hV r2 (by decide) (by decide) (rfl : iR 63 k = (0, 9)) q (.inl rfl)
  · exact iv_uI hV r3 (by decide) (by decide) (rfl : iR 64 k = (0, 1)) q (.inl rfl)
  · exact iv_uI hV r4 (by decide) (by decide) (rfl : iR 65 k = (-2000, 2000)) q (.inl rfl)
  · exact iv_uI hV r5 (by decide) (by decide) (rfl : iR 65 k = (-2000, 2000)) q (.inl rfl)
  · exact iv_uI hV r6 (by decide) (by decide) (rfl : iR 66 k = (-999, 999)) q (.inl rfl)
  · exact iv_uI hV r7 (by decide) (by decide) (rfl : iR 66 k = (-999, 999)) q (.inl rfl)
/-- powers asked for in the class, cells laid in the reference: R2 stays -/
theorem r2_pb {n : Nat} (hL : S.1 20 = 1 → PL (S.2.1 10)) (hV : IV aR0 1586 aK1 aK2 T) (h : R2 T S) (g : g_X11_powersNow T 0 = some (n, T1)) (k : FK [] [24] S S1) : R2 T1 S1 ∧ IV aR0 1586 aK1 aK2 T1 := by
  have c := tgo (cs_X11_powersNow T 0 hV rrole.2.2.2) g
  have gr := sr_X11_powersNow g
  exact ⟨r2_keepG hL h (r1_keep h.1 hV c.1.2 (by decide +kernel) gr ⟨k.1 2 (by decide), k.1 5 (by decide), k.1 6 (by decide), k.1 20 (by decide), k.2 1 (by decide), k.2 10 (by decide)⟩) (ck_fw hV c.1.2 (by decide +kernel) gr) ⟨k.1 19 (by decide), k.1 20 (by decide), k.2 10 (by decide), k.2 12 (by decide), k.2 15 (by decide), k.2 16 (by decide), k.2 17 (by decide), k.2 18 (by decide)⟩, c.1.1⟩
theorem src_same {a r : Int32} {U : MS} (h : fr_isSource S a = some (r, U)) : U = S := by
  unfold fr_isSource at h
  obtain ⟨v2, d2, h⟩ := elet_some h
  obtain ⟨v3, d3, h⟩ := elet_some h
  obtain ⟨r4, f4, h⟩ := obind_some h
  exact (osome2 (oif_some h).2).2.symm
theorem r2x_mute {a0 a1 : Int32} (hV : IV aR0 1586 aK1 aK2 T) (hJ : JJ S) (hb : 0 ≤ a1.toInt ∧ a1.toInt ≤ 1) (h : R2 T S) (hg : g_X11_mute T 0 a0 a1 = some (k1, r1, T1)) (hf : fr_mute S a0 a1 = some (r2, S1)) : R2 T1 S1 ∧ S1.1 0 = vck 1 2 0 k1 ∧ (vck 1 2 0 k1 = 0 → k1 = 0 ∧ r1 = r2) := by
  unfold fr_mute at hf
  obtain ⟨r5, S2, f5, hf⟩ := obind2_some hf
  obtain ⟨r9, S6, f9, hf⟩ := obind2_some hf
  have eS := (r_mic f5).1
  rw [eS] at f9
  unfold g_X11_mute at hg
  obtain ⟨-, hg⟩ := oif_some hg
  have no : ∀ {w : Int32}, S6 = mi S 0 w → fr_mute_b36 S6 = some (r2, S1) → S1 = mi S 0 w := by
    intro w e hf
    unfold fr_mute_b36 fr_mute_b37 at hf
    rw [← (osome2 (oif_some hf).2).2, e]
  rcases othr_k hg with ⟨rc, gc, hc⟩ | ⟨rc, Tc, gc, hg⟩
  · obtain ⟨eT, ⟨q, -⟩ | ⟨q, q20⟩⟩ := p_cam h.1 gc
    · exact absurd q hc
    · obtain ⟨e, er⟩ := ask_0 q20 f9
      rw [if_pos er] at hf
      have e1 := no e hf
      rw [q, eT, e1, mi_at]
      exact ⟨r2_mi0 h, rfl, fun q => absurd q (by decide)⟩
  · obtain ⟨eT, ⟨-, q20⟩ | ⟨q, -⟩⟩ := p_cam h.1 gc
    case inr => exact absurd q (by decide)
    rw [eT] at hg
    have hP := r_pl hJ q20
    have p4 := pl_4 hP
    obtain ⟨-, hg⟩ := oif_some hg
    rcases othr_k hg with ⟨rc2, gc2, hc⟩ | ⟨rc2, Tc2, gc2, hg⟩
    · obtain ⟨eT2, ⟨q, -⟩ | ⟨q, qc⟩⟩ := p_mic h.1 q20 gc2
      · exact absurd q hc
      · rcases (q_mic hP f5).2 with ⟨-, z⟩ | ⟨z, -⟩
        · exact absurd z qc
        · rw [z] at f9
          obtain ⟨e, er⟩ := ask_2 q20 f9
          rw [if_pos er] at hf
          have e1 := no e hf
          rw [q, eT2, e1, mi_at]
          exact ⟨r2_mi0 h, rfl, fun q => absurd q (by decide)⟩
    · obtain ⟨eT2, ⟨-, qc⟩ | ⟨q, -⟩⟩ := p_mic h.1 q20 gc2
      case inr => exact absurd q (by decide)
      rw [eT2] at hg
      rcases (q_mic hP f5).2 with ⟨z, -⟩ | ⟨-, z⟩
      case inr => exact absurd qc z
      rw [z] at f9
      obtain ⟨e, er⟩ := ask_1 q20 f9
      rw [if_neg (by rw [er]; decide)] at hf
      obtain ⟨v11, d11, hf⟩ := elet_some hf
      have k11 := cl_ad (n := 1) (by decide) qc.1 (by omega) d11
      have ka := i_cl qc.1
      obtain ⟨-, hg⟩ := oif_some hg
      obtain ⟨n13, en, hg⟩ := obind_some hg
      rw [(c_fld h.1.1).2.1] at en
      cases en
      obtain ⟨-, hg⟩ := oif_some hg
      obtain ⟨n15, en, hg⟩ := obind_some hg
      rw [(sd_rf h.1.1 d242).1] at en
      cases en
      obtain ⟨-, hg⟩ := oif_some hg
      obtain ⟨-, hg⟩ := oif_some hg
      obtain ⟨v18, e18, hg⟩ := elet_some hg
      obtain ⟨-, hg⟩ := oif_some hg
      obtain ⟨T20, g20, hg⟩ := obind_some hg
      have b25 : ∃ s0, s0 = a1 ∧ fr_mute_b25 S6 s0 v11 = some (r2, S1) := by
        rcases b01 hb with z | z
        · rw [if_pos z] at hf
          exact ⟨0, z.symm, hf⟩
        · rw [if_neg (by rw [z]; decide)] at hf
          exact ⟨1, z.symm, hf⟩
      obtain ⟨s0, es0, hf⟩ := b25
      rw [es0] at hf
      unfold fr_mute_b25 at hf
      obtain ⟨r5', S2', f5', hf⟩ := obind2_some hf
      obtain ⟨U, fU, er5, eU⟩ := x_sets f5'
      rw [k11] at er5 eU
      obtain ⟨K1, K2, K3, K4, K5, K6, -⟩ := r2_keepu (S := S6) (by rw [e]; exact hP) (by rw [e]; exact q20) hV (by rw [e]; exact r2_mi0 h) g20 fU
      unfold g_X11_mute_b23 at hg
      obtain ⟨-, hg⟩ := oif_some hg
      obtain ⟨n3, en, hg⟩ := obind_some hg
      rw [(c_fld K1.1.1).2.1] at en
      cases en
      obtain ⟨-, hg⟩ := oif_some hg
      obtain ⟨n5, en, hg⟩ := obind_some hg
      rw [(sd_rf K1.1.1 d242).1] at en
      cases en
      obtain ⟨-, hg⟩ := oif_some hg
      obtain ⟨-, hg⟩ := oif_some hg
      obtain ⟨-, hg⟩ := oif_some hg
      obtain ⟨T8, e8, hg⟩ := elet_some hg
      obtain ⟨b18, hg⟩ := oif_some hg
      have g := osome3 hg
      have R := r2_set (a := 1) (off := 1) (b := 12) (k := a0.toNatClampNeg) (x := a1) (by rw [K4, e]; exact hP) K2 (.inl ⟨rfl, rfl, rfl⟩) (by omega) K1
      have e18 : v18 = r5' := by
        rw [e18, er5, K5, e]
        have q := (((h.2.2.2 q20).1).2.2.2.1 a0.toNatClampNeg (by omega)).1
        rw [Nat.zero_add] at q
        exact q
      have fin : r2 = v18 ∧ S1 = S2' := by
        rw [← e18] at hf
        rcases b18 with z | z
        · rw [if_neg (by rw [z]; decide)] at hf
          unfold fr_mute_b36 fr_mute_b37 at hf
          have f := osome2 (oif_some hf).2
          exact ⟨by rw [← f.1, z], f.2.symm⟩
        · rw [if_pos z] at hf
          unfold fr_mute_b37 at hf
          have f := osome2 (oif_some hf).2
          exact ⟨by rw [← f.1, z], f.2.symm⟩
      rw [← g.1, ← g.2.1, ← g.2.2, fin.1, fin.2, e8, eU]
      refine ⟨R, ?_, fun _ => ⟨rfl, rfl⟩⟩
      show U.1 0 = 0
      rw [K6, e, mi_at]
theorem r2x_setWeight {a0 a1 : Int32} (hV : IV aR0 1586 aK1 aK2 T) (hJ : JJ S) (h : R2 T S) (hg : g_X11_setWeight T 0 a0 a1 = some (k1, r1, T1)) (hf : fr_setWeight S a0 a1 = some (r2, S1)) : R2 T1 S1 ∧ S1.1 0 = vck 1 2 3 k1 ∧ (vck 1 2 3 k1 = 0 → k1 = 0 ∧ r1 = r2) := by
  have z0 : (0 : Int32).toInt = 0 := by decide
  have z9 : (9 : Int32).toInt = 9 := by decide
  unfold fr_setWeight at hf
  obtain ⟨r5, S2, f5, hf⟩ := obind2_some hf
  obtain ⟨r9, S6, f9, hf⟩ := obind2_some hf
  have eS := (r_mic f5).1
  rw [eS] at f9
  unfold g_X11_setWeight at hg
  obtain ⟨-, hg⟩ := oif_some hg
  rcases othr_k hg with ⟨rc, gc, hc⟩ | ⟨rc, Tc, gc, hg⟩
  · obtain ⟨eT, ⟨q, -⟩ | ⟨q, q20⟩⟩ := p_cam h.1 gc
    · exact absurd q hc
    · obtain ⟨e, er⟩ := ask_0 q20 f9
      rw [if_pos er] at hf
      rw [q, eT, ← (osome2 hf).2, e, mi_at]
      exact ⟨r2_mi0 h, rfl, fun q => absurd q (by decide)⟩
  · obtain ⟨eT, ⟨-, q20⟩ | ⟨q, -⟩⟩ := p_cam h.1 gc
    case inr => exact absurd q (by decide)
    rw [eT] at hg
    have hP := r_pl hJ q20
    have p4 := pl_4 hP
    obtain ⟨-, hg⟩ := oif_some hg
    rcases othr_k hg with ⟨rc2, gc2, hc⟩ | ⟨rc2, Tc2, gc2, hg⟩
    · obtain ⟨eT2, ⟨q, -⟩ | ⟨q, qc⟩⟩ := p_mic h.1 q20 gc2
      · exact absurd q hc
      · rcases (q_mic hP f5).2 with ⟨-, z⟩ | ⟨z, -⟩
        · exact absurd z qc
        · rw [z] at f9
          obtain ⟨e, er⟩ := ask_2 q20 f9
          rw [if_pos er] at hf
          rw [q, eT2, ← (osome2 hf).2, e, mi_at]
          exact ⟨r2_mi0 h, rfl, fun q => absurd q (by decide)⟩
    · obtain ⟨eT2, ⟨-, qc⟩ | ⟨q, -⟩⟩ := p_mic h.1 q20 gc2
      case inr => exact absurd q (by decide)
      rw [eT2] at hg
      rcases (q_mic hP f5).2 with ⟨z, -⟩ | ⟨-, z⟩
      case inr => exact absurd qc z
      rw [z] at f9
      obtain ⟨e, er⟩ := ask_1 q20 f9
      rw [if_neg (by rw [er]; decide)] at hf
      obtain ⟨r11, f11, hf⟩ := obind_some hf
      have q11 := q_in f11
      rcases othr_k hg with ⟨rc3, gc3, hc⟩ | ⟨rc3, Tc3, gc3, hg⟩
      · obtain ⟨eT3, ⟨q, -⟩ | ⟨q, qd⟩⟩ := c_rng gc3
        · exact absurd q hc
        · rcases q11 with ⟨-, z⟩ | ⟨z, -⟩
          · exact absurd z qd
          · rw [if_pos z] at hf
            obtain ⟨r17, S14, f14, hf⟩ := obind2_some hf
            unfold fr_setWeight_b41 at hf
            rw [q, eT3, ← (osome2 hf).2, r_thr f14, mi_at, e]
            exact ⟨r2_mi0 (r2_mi0 h), rfl, fun q => absurd q (by decide)⟩
      · obtain ⟨eT3, ⟨-, qd⟩ | ⟨q, -⟩⟩ := c_rng gc3
        case inr => exact absurd q (by decide)
        rw [eT3] at hg
        rcases q11 with ⟨z, -⟩ | ⟨-, z⟩
        case inr => exact absurd qd z
        rw [if_neg (by rw [z]; decide)] at hf
        obtain ⟨v18, d18, hf⟩ := elet_some hf
        have k18 := cl_ad (n := 13) (by decide) qc.1 (by omega) d18
        have ka := i_cl qc.1
        obtain ⟨r22, S19, f19, hf⟩ := obind2_some hf
        unfold fr_setWeight_b41 at hf
        have f := osome2 hf
        obtain ⟨U, fU, er5, eU⟩ := x_sets f19
        rw [k18] at er5 eU
        obtain ⟨-, hg⟩ := oif_some hg
        obtain ⟨n13, en, hg⟩ := obind_some hg
        rw [(c_fld h.1.1).2.1] at en
        cases en
        obtain ⟨-, hg⟩ := oif_some hg
        obtain ⟨n15, en, hg⟩ := obind_some hg
        rw [(sd_rf h.1.1 d242).2.1] at en
        cases en
        obtain ⟨-, hg⟩ := oif_some hg
        obtain ⟨-, hg⟩ := oif_some hg
        obtain ⟨v22, e22, hg⟩ := elet_some hg
        obtain ⟨-, hg⟩ := oif_some hg
        obtain ⟨T24, g24, hg⟩ := obind_some hg
        obtain ⟨K1, K2, K3, K4, K5, K6, -⟩ := r2_keepu (S := S6) (by rw [e]; exact hP) (by rw [e]; exact q20) hV (by rw [e]; exact r2_mi0 h) g24 fU
        unfold g_X11_setWeight_b30 at hg
        obtain ⟨-, hg⟩ := oif_some hg
        obtain ⟨n3, en, hg⟩ := obind_some hg
        rw [(c_fld K1.1.1).2.1] at en
        cases en
        obtain ⟨-, hg⟩ := oif_some hg
        obtain ⟨n5, en, hg⟩ := obind_some hg
        rw [(sd_rf K1.1.1 d242).2.1] at en
        cases en
        obtain ⟨-, hg⟩ := oif_some hg
        obtain ⟨-, hg⟩ := oif_some hg
        obtain ⟨T8, e8, hg⟩ := elet_some hg
        have g := osome3 hg
        have R := r2_set (a := 2) (off := 13) (b := 12) (k := a0.toNatClampNeg) (x := a1) (by rw [K4, e]; exact hP) K2 (.inr (.inl ⟨rfl, rfl, rfl⟩)) (by omega) K1
        have e22 : v22 = r22 := by
          rw [e22, er5, K5, e]
          have q := (((h.2.2.2 q20).1).2.2.2.1 a0.toNatClampNeg (by omega)).2
          rw [Nat.zero_add] at q
          exact q
        rw [← g.1, ← g.2.1, ← g.2.2, ← f.1, ← f.2, e8, eU, e22]
        refine ⟨R, ?_, fun _ => ⟨rfl, rfl⟩⟩
        show U.1 0 = 0
        rw [K6, e, mi_at]
theorem r2x_setOn {a0 a1 : Int32} (hV : IV aR0 1586 aK1 aK2 T) (hJ : JJ S) (hb : 0 ≤ a1.toInt ∧ a1.toInt ≤ 1) (h : R2 T S) (hg : g_X11_setOn T 0 a0 a1 = some (k1, r1, T1)) (hf : fr_setOn S a0 a1 = some (r2, S1)) : R2 T1 S1 ∧ S1.1 0 = vck 1 2 0 k1 ∧ (vck 1 2 0 k1 = 0 → k1 = 0 ∧ r1 = r2) := by
  unfold fr_setOn at hf
  obtain ⟨r5, S2, f5, hf⟩ := obind2_some hf
  obtain ⟨r9, S6, f9, hf⟩ := obind2_some hf
  have eS := src_same f5
  rw [eS] at f9
  unfold g_X11_setOn at hg
  obtain ⟨-, hg⟩ := oif_some hg
  rcases othr_k hg with ⟨rc, gc, hc⟩ | ⟨rc, Tc, gc, hg⟩
  · obtain ⟨eT, ⟨q, -⟩ | ⟨q, q20⟩⟩ := p_cam h.1 gc
    · exact absurd q hc
    · obtain ⟨e, er⟩ := ask_0 q20 f9
      rw [if_pos er] at hf
      rw [q, eT, ← (osome2 hf).2, e, mi_at]
      exact ⟨r2_mi0 h, rfl, fun q => absurd q (by decide)⟩
  · obtain ⟨eT, ⟨-, q20⟩ | ⟨q, -⟩⟩ := p_cam h.1 gc
    case inr => exact absurd q (by decide)
    rw [eT] at hg
    have hP := r_pl hJ q20
    have p5 := pl_5 hP
    obtain ⟨-, hg⟩ := oif_some hg
    rcases othr_k hg with ⟨rc2, gc2, hc⟩ | ⟨rc2, Tc2, gc2, hg⟩
    · obtain ⟨eT2, ⟨q, -⟩ | ⟨q, qc⟩⟩ := p_src h.1 q20 gc2
      · exact absurd q hc
      · rcases (q_src hP f5).2 with ⟨-, z⟩ | ⟨z, -⟩
        · exact absurd z qc
        · rw [z] at f9
          obtain ⟨e, er⟩ := ask_2 q20 f9
          rw [if_pos er] at hf
          rw [q, eT2, ← (osome2 hf).2, e, mi_at]
          exact ⟨r2_mi0 h, rfl, fun q => absurd q (by decide)⟩
    · obtain ⟨eT2, ⟨-, qc⟩ | ⟨q, -⟩⟩ := p_src h.1 q20 gc2
      case inr => exact absurd q (by decide)
      rw [eT2] at hg
      rcases (q_src hP f5).2 with ⟨z, -⟩ | ⟨-, z⟩
      case inr => exact absurd qc z
      rw [z] at f9
      obtain ⟨e, er⟩ := ask_1 q20 f9
      rw [if_neg (by rw [er]; decide)] at hf
      obtain ⟨v11, d11, hf⟩ := elet_some hf
      have k11 := cl_ad (n := 25) (by decide) qc.1 (by omega) d11
      have ka := i_cl qc.1
      obtain ⟨-, hg⟩ := oif_some hg
      obtain ⟨n13, en, hg⟩ := obind_some hg
      rw [(c_fld h.1.1).2.1] at en
      cases en
      obtain ⟨-, hg⟩ := oif_some hg
      obtain ⟨n15, en, hg⟩ := obind_some hg
      rw [(sd_rf h.1.1 d242).2.2.1] at en
      cases en
      obtain ⟨-, hg⟩ := oif_some hg
      obtain ⟨-, hg⟩ := oif_some hg
      obtain ⟨v18, e18, hg⟩ := elet_some hg
      obtain ⟨-, hg⟩ := oif_some hg
      obtain ⟨T20, g20, hg⟩ := obind_some hg
      have b28 : ∃ s0, s0 = a1 ∧ fr_setOn_b28 S6 s0 v11 = some (r2, S1) := by
        rcases b01 hb with z | z
        · rw [if_pos z] at hf
          exact ⟨0, z.symm, hf⟩
        · rw [if_neg (by rw [z]; decide)] at hf
          exact ⟨1, z.symm, hf⟩
      obtain ⟨s0, es0, hf⟩ := b28
      rw [es0] at hf
      unfold fr_setOn_b28 at hf
      obtain ⟨r5', S2', f5', hf⟩ := obind2_some hf
      obtain ⟨S6', f6', hf⟩ := obind_some hf
      obtain ⟨U, fU, er5, eU⟩ := x_sets f5'
      rw [k11] at er5 eU
      obtain ⟨K1, K2, K3, K4, K5, K6, -⟩ := r2_keepu (S := S6) (by rw [e]; exact hP) (by rw [e]; exact q20) hV (by rw [e]; exact r2_mi0 h) g20 fU
      unfold g_X11_setOn_b23 at hg
      obtain ⟨-, hg⟩ := oif_some hg
      obtain ⟨n3, en, hg⟩ := obind_some hg
      rw [(c_fld K1.1.1).2.1] at en
      cases en
      obtain ⟨-, hg⟩ := oif_some hg
      obtain ⟨n5, en, hg⟩ := obind_some hg
      rw [(sd_rf K1.1.1 d242).2.2.1] at en
      cases en
      obtain ⟨-, hg⟩ := oif_some hg
      obtain ⟨-, hg⟩ := oif_some hg
      obtain ⟨-, hg⟩ := oif_some hg
      obtain ⟨T8, e8, hg⟩ := elet_some hg
      have hPU : PL (U.2.1 10) := by rw [K4, e]; exact hP
      have ra : rowat 3 25 6 := .inr (.inr (.inl ⟨rfl, rfl, rfl⟩))
      have R := r2_set (k := a0.toNatClampNeg) (x := a1) hPU K2 ra (by omega) K1
      have V := iv_now (k := a0.toNatClampNeg) (x := a1) K2 ra (.inr (.inr (.inl ⟨rfl, hb⟩)))
      rw [show uI T20 (242 + 3) a0.toNatClampNeg a1 = T8 from e8.symm] at R V
      rw [← eU] at R
      obtain ⟨s, hs, h14⟩ := crf_14 R.1.1
      obtain ⟨-, hg⟩ := oif_some hg
      obtain ⟨n10, en, hg⟩ := obind_some hg
      rw [(c_fld2 R.1.1).2.2.2] at en
      cases en
      obtain ⟨-, hg⟩ := oif_some hg
      obtain ⟨n12, en, hg⟩ := obind_some hg
      rw [h14] at en
      cases en
      obtain ⟨-, hg⟩ := oif_some hg
      obtain ⟨n14, en, hg⟩ := obind_some hg
      rw [(c_fld R.1.1).2.1] at en
      cases en
      obtain ⟨-, hg⟩ := oif_some hg
      obtain ⟨T16, g16, hg⟩ := obind_some hg
      have W := (r2_rec (by rw [eU, mf_ne (by decide)]; exact hPU) V R h14 g16 f6').1
      have k6 := w_fr_records_12 f6'
      unfold g_X11_setOn_b48 at hg
      obtain ⟨b18, hg⟩ := oif_some hg
      have g := osome3 hg
      have e18 : v18 = r5' := by
        rw [e18, er5, K5, e]
        have q := (((h.2.2.2 q20).1).2.2.2.2 a0.toNatClampNeg (by omega)).1
        rw [Nat.zero_add] at q
        exact q
      have fin : r2 = v18 ∧ S1 = S6' := by
        rw [← e18] at hf
        rcases b18 with z | z
        · rw [if_neg (by rw [z]; decide)] at hf
          unfold fr_setOn_b50 at hf
          have f := osome2 (oif_some hf).2
          exact ⟨by rw [← f.1, z], f.2.symm⟩
        · rw [if_pos z] at hf
          unfold fr_setOn_b50 at hf
          have f := osome2 (oif_some hf).2
          exact ⟨by rw [← f.1, z], f.2.symm⟩
      rw [← g.1, ← g.2.1, ← g.2.2, fin.1, fin.2]
      refine ⟨W, ?_, fun _ => ⟨rfl, rfl⟩⟩
      rw [k6.1 0 (by decide), eU]
      show U.1 0 = 0
      rw [K6, e, mi_at]
end
