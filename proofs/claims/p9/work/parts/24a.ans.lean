/-! answers that follow from R2: states, delays -/
section
variable {T T1 : AT} {S S1 : MS} {k1 : Nat} {r1 r2 : Int32}
theorem p_cam {k : Nat} {r : Int32} (h : R1 T S) (g : g_X11_needCamera T 0 = some (k, r, T1)) : T1 = T ∧ (k = 0 ∧ S.1 20 = 1 ∨ k = 1 ∧ S.1 20 = 0) := by
  obtain ⟨s, hs, h14, hr⟩ := h.2.2.2.2
  obtain ⟨e, q⟩ := c_cam h14 g
  refine ⟨e, ?_⟩
  rcases hr with ⟨a, b, b4, b8⟩ | ⟨a, -, z, -⟩
  · obtain ⟨c, -, x, y, -⟩ := b.2.1
    rcases q with ⟨q, -⟩ | ⟨-, q5⟩
    · exact .inl ⟨q, a⟩
    · exact absurd (y.trans (x.symm.trans q5)) b4
  · rcases q with ⟨-, q5⟩ | ⟨q, -⟩
    · exact absurd z q5
    · exact .inr ⟨q, a⟩
theorem r1_sce (h : R1 T S) (h20 : S.1 20 = 1) : ∃ s, (s = 478 ∨ s = 656) ∧ T.2.2.2.2 0 14 = some s ∧ SRF s T ∧ SCE s T (S.2.1 10) ∧ S.2.1 10 8 ≠ 0 := by
  obtain ⟨s, hs, h14, hr⟩ := h.2.2.2.2
  rcases hr with ⟨a, b, b4, b8⟩ | ⟨a, -⟩
  · exact ⟨s, hs, h14, h.1.srf hs, b, b8⟩
  · rw [h20] at a; exact absurd a (by decide)
theorem p_mic {k : Nat} {a r : Int32} (h : R1 T S) (h20 : S.1 20 = 1) (g : g_X11_needMic T 0 a = some (k, r, T1)) : T1 = T ∧ (k = 0 ∧ 0 ≤ a.toInt ∧ a.toInt < (S.2.1 10 4).toInt ∨ k = 2 ∧ ¬ (0 ≤ a.toInt ∧ a.toInt < (S.2.1 10 4).toInt)) := by
  obtain ⟨s, hs, h14, hF, b, -⟩ := r1_sce h h20
  have q := c_mic h14 g
  obtain ⟨c, -, x, y, -⟩ := b.2.1
  rw [x, ← y] at q
  exact q
theorem p_src {k : Nat} {a r : Int32} (h : R1 T S) (h20 : S.1 20 = 1) (g : g_X11_needSource T 0 a = some (k, r, T1)) : T1 = T ∧ (k = 0 ∧ 0 ≤ a.toInt ∧ a.toInt < (S.2.1 10 5).toInt ∨ k = 2 ∧ ¬ (0 ≤ a.toInt ∧ a.toInt < (S.2.1 10 5).toInt)) := by
  obtain ⟨s, hs, h14, hF, b, -⟩ := r1_sce h h20
  have q := c_src h14 g
  obtain ⟨c, -, x, y, -⟩ := b.2.2.2.1
  rw [x, ← y] at q
  exact q
theorem p_cell {k : Nat} {a r : Int32} (h : R1 T S) (h20 : S.1 20 = 1) (g : g_X11_needCell T 0 a = some (k, r, T1)) : T1 = T ∧ (k = 0 ∧ 0 ≤ a.toInt ∧ a.toInt < (S.2.1 10 9 * S.2.1 10 10).toInt ∨ k = 2 ∧ ¬ (0 ≤ a.toInt ∧ a.toInt < (S.2.1 10 9 * S.2.1 10 10).toInt)) := by
  obtain ⟨s, hs, h14, hF, b, -⟩ := r1_sce h h20
  have q := c_cell hF h14 g
  obtain ⟨y3, y4, -⟩ := b.2.2.1
  rw [y3, y4] at q
  exact q
theorem ix_or {a n n1 : Int32} (e : n1.toInt = n.toInt - 1) : (if 0 ≤ a ∧ a ≤ n1 then (1 : Int32) else 0) = 1 ∧ 0 ≤ a.toInt ∧ a.toInt < n.toInt ∨ (if 0 ≤ a ∧ a ≤ n1 then (1 : Int32) else 0) = 0 ∧ ¬ (0 ≤ a.toInt ∧ a.toInt < n.toInt) := by
  have z0 : (0 : Int32).toInt = 0 := by decide
  by_cases c : 0 ≤ a ∧ a ≤ n1
  · rw [if_pos c]
    have c0 := i_le c.1
    have c1 := i_le c.2
    exact .inl ⟨rfl, by omega, by omega⟩
  · rw [if_neg c]
    refine .inr ⟨rfl, fun q => c ⟨Int32.le_iff_toInt_le.mpr (by omega), Int32.le_iff_toInt_le.mpr (by omega)⟩⟩
theorem q_mic {a r : Int32} (hP : PL (S.2.1 10)) (hf : fr_isMic S a = some (r, S1)) : S1 = S ∧ (r = 1 ∧ 0 ≤ a.toInt ∧ a.toInt < (S.2.1 10 4).toInt ∨ r = 0 ∧ ¬ (0 ≤ a.toInt ∧ a.toInt < (S.2.1 10 4).toInt)) := by
  obtain ⟨e, q⟩ := r_mic hf
  have p := pl_4 hP
  have z1 : (1 : Int32).toInt = 1 := by decide
  refine ⟨e, ?_⟩
  rw [q]
  exact ix_or (i_sub rfl (by omega) (by omega))
theorem q_src {a r : Int32} (hP : PL (S.2.1 10)) (hf : fr_isSource S a = some (r, S1)) : S1 = S ∧ (r = 1 ∧ 0 ≤ a.toInt ∧ a.toInt < (S.2.1 10 5).toInt ∨ r = 0 ∧ ¬ (0 ≤ a.toInt ∧ a.toInt < (S.2.1 10 5).toInt)) := by
  have p := pl_5 hP
  have z1 : (1 : Int32).toInt = 1 := by decide
  unfold fr_isSource at hf
  obtain ⟨v2, d2, hf⟩ := elet_some hf
  obtain ⟨v3, d3, hf⟩ := elet_some hf
  obtain ⟨r4, f4, hf⟩ := obind_some hf
  obtain ⟨-, hf⟩ := oif_some hf
  have f := osome2 hf
  rw [← f.1, ← f.2, r_in f4, d3, d2]
  exact ⟨rfl, ix_or (i_sub rfl (by omega) (by omega))⟩
theorem q_cell {a r : Int32} (hP : PL (S.2.1 10)) (hf : fr_isCell S a = some (r, S1)) : S1 = S ∧ (r = 1 ∧ 0 ≤ a.toInt ∧ a.toInt < (S.2.1 10 9 * S.2.1 10 10).toInt ∨ r = 0 ∧ ¬ (0 ≤ a.toInt ∧ a.toInt < (S.2.1 10 9 * S.2.1 10 10).toInt)) := by
  obtain ⟨e, q⟩ := r_cell hf
  refine ⟨e, ?_⟩
  rw [q]
  exact ix_or (pl_cell hP).2.2.2
theorem q_time {a r : Int32} (hP : PL (S.2.1 10)) (hf : fr_isTime S a = some (r, S1)) : S1 = S ∧ (r = 1 ∧ 0 ≤ a.toInt ∧ a.toInt < (S.2.1 10 2).toInt ∨ r = 0 ∧ ¬ (0 ≤ a.toInt ∧ a.toInt < (S.2.1 10 2).toInt)) := by
  have p := pl_2 hP
  have z1 : (1 : Int32).toInt = 1 := by decide
  unfold fr_isTime at hf
  obtain ⟨v2, d2, hf⟩ := elet_some hf
  obtain ⟨v3, d3, hf⟩ := elet_some hf
  obtain ⟨r4, f4, hf⟩ := obind_some hf
  obtain ⟨-, hf⟩ := oif_some hf
  have f := osome2 hf
  rw [← f.1, ← f.2, r_in f4, d3, d2]
  exact ⟨rfl, ix_or (i_sub rfl (by omega) (by omega))⟩
theorem q_in {v a b r : Int32} (hf : fr_in v a b = some r) : r = 1 ∧ a.toInt ≤ v.toInt ∧ v.toInt ≤ b.toInt ∨ r = 0 ∧ ¬ (a.toInt ≤ v.toInt ∧ v.toInt ≤ b.toInt) := by
  rcases tin2 hf with ⟨e, x, y⟩ | ⟨e, n⟩
  · exact .inl ⟨e, i_le x, i_le y⟩
  · exact .inr ⟨e, fun q => n ⟨Int32.le_iff_toInt_le.mpr q.1, Int32.le_iff_toInt_le.mpr q.2⟩⟩
/-- the reference's answer where no camera is loaded, or no such part is there, or neither -/
theorem ask_0 {a r : Int32} (h20 : S.1 20 = 0) (hf : fr_mayAsk S a = some (r, S1)) : S1 = mi S 0 1 ∧ r = 0 := by
  obtain ⟨e, q⟩ := r_ask hf
  have w : wAsk S a = 1 := by unfold wAsk; rw [if_pos h20]
  rw [w] at e q
  exact ⟨e, q⟩
theorem ask_2 {r : Int32} (h20 : S.1 20 = 1) (hf : fr_mayAsk S 0 = some (r, S1)) : S1 = mi S 0 2 ∧ r = 0 := by
  obtain ⟨e, q⟩ := r_ask hf
  have w : wAsk S 0 = 2 := by unfold wAsk; rw [if_neg (by rw [h20]; decide), if_pos rfl]
  rw [w] at e q
  exact ⟨e, q⟩
theorem ask_1 {r : Int32} (h20 : S.1 20 = 1) (hf : fr_mayAsk S 1 = some (r, S1)) : S1 = mi S 0 0 ∧ r = 1 := by
  obtain ⟨e, q⟩ := r_ask hf
  have w : wAsk S 1 = 0 := by unfold wAsk; rw [if_neg (by rw [h20]; decide), if_neg (by decide)]
  rw [w] at e q
  exact ⟨e, q⟩
theorem r2_mi0 {w : Int32} (h : R2 T S) : R2 T (mi S 0 w) := h
theorem r1_mi0 {w : Int32} (h : R1 T S) : R1 T (mi S 0 w) := h
theorem r_hears {a r : Int32} (h0 : 0 ≤ a.toInt) (h1 : a.toInt < 12) (hf : fr_hears_12 S a = some (r, S1)) : S1 = S ∧ r = if S.2.1 12 (1 + a.toNatClampNeg) = 0 then 1 else 0 := by
  have z1 : (1 : Int32).toInt = 1 := by decide
  unfold fr_hears_12 at hf
  obtain ⟨v2, d2, hf⟩ := elet_some hf
  obtain ⟨-, hf⟩ := oif_some hf
  obtain ⟨v4, d4, hf⟩ := elet_some hf
  have k2 : v2.toNatClampNeg = 1 + a.toNatClampNeg := by
    have q := i_add d2 (by omega) (by omega)
    have q2 := i_cl (i := v2) (by omega)
    have q3 := i_cl h0
    omega
  rw [k2] at d4
  rw [← d4]
  rcases oif_or hf with ⟨c, hf⟩ | ⟨c, hf⟩
  · unfold fr_hears_12_b13 at hf
    have f := osome2 (oif_some hf).2
    rw [if_pos c]
    exact ⟨f.2.symm, f.1.symm⟩
  · unfold fr_hears_12_b13 at hf
    have f := osome2 (oif_some hf).2
    rw [if_neg c]
    exact ⟨f.2.symm, f.1.symm⟩
theorem cl_ad {a v : Int32} {n : Nat} (hn : n ≤ 2000) (h0 : 0 ≤ a.toInt) (h1 : a.toInt < 2000) (e : v = nI n + a) : v.toNatClampNeg = n + a.toNatClampNeg := by
  have z : (nI n).toInt = (n : Int) := nI_toInt (by omega)
  have q := i_add e (by omega) (by omega)
  have q2 := i_cl (i := v) (by omega)
  have q3 := i_cl h0
  omega
theorem r2h_undoable (hV : IV aR0 1586 aK1 aK2 T) (hJ : JJ S) (h : R2 T S) (hg : g_X11_undoable T 0 = some (r1, T1)) (hf : fr_undoable S = some (r2, S1)) : r1 = r2 := by
  unfold g_X11_undoable at hg
  obtain ⟨-, hg⟩ := oif_some hg
  obtain ⟨v3, e3, hg⟩ := elet_some hg
  unfold fr_undoable at hf
  obtain ⟨S2, e2, hf⟩ := elet_some hf
  obtain ⟨v4, e4, hf⟩ := elet_some hf
  rw [← (osome2 hg).1, ← (osome2 hf).1, e3, e4, e2]
  exact h.2.1
theorem r2h_cleaned (hV : IV aR0 1586 aK1 aK2 T) (hJ : JJ S) (h : R2 T S) (hg : g_X11_cleaned T 0 = some (k1, r1, T1)) (hf : fr_cleaned S = some (r2, S1)) : S1.1 0 = vck 1 0 0 k1 ∧ (vck 1 0 0 k1 = 0 → k1 = 0 ∧ r1 = r2) := by
  unfold fr_cleaned at hf
  obtain ⟨r5, S2, f5, hf⟩ := obind2_some hf
  unfold g_X11_cleaned at hg
  obtain ⟨-, hg⟩ := oif_some hg
  rcases othr_k hg with ⟨rc, gc, hc⟩ | ⟨rc, Tc, gc, hg⟩
  · obtain ⟨-, ⟨q, -⟩ | ⟨q, q20⟩⟩ := p_cam h.1 gc
    · exact absurd q hc
    · obtain ⟨e, er⟩ := ask_0 q20 f5
      rw [if_pos er] at hf
      unfold fr_cleaned_b18 at hf
      rw [q, ← (osome2 hf).2, e, mi_at]
      exact ⟨rfl, fun q => absurd q (by decide)⟩
  · obtain ⟨eT, ⟨-, q20⟩ | ⟨q, -⟩⟩ := p_cam h.1 gc
    case inr => exact absurd q (by decide)
    rw [eT] at hg
    obtain ⟨e, er⟩ := ask_1 q20 f5
    rw [if_neg (by rw [er]; decide)] at hf
    obtain ⟨v7, d7, hf⟩ := elet_some hf
    unfold fr_cleaned_b18 at hf
    obtain ⟨-, hg⟩ := oif_some hg
    obtain ⟨n8, en, hg⟩ := obind_some hg
    rw [(c_fld h.1.1).2.1] at en
    cases en
    obtain ⟨-, hg⟩ := oif_some hg
    obtain ⟨v10, d10, hg⟩ := elet_some hg
    have g := osome3 hg
    have f := osome2 hf
    rw [← g.1, ← g.2.1, ← f.1, ← f.2, e, mi_at, d10, d7, e]
    exact ⟨rfl, fun _ => ⟨rfl, ((h.2.2.2 q20).1).2.2.1⟩⟩
theorem b01 {x : Int32} (h : 0 ≤ x.toInt ∧ x.toInt ≤ 1) : x = 0 ∨ x = 1 := i_b01 (by omega)
theorem r2h_isMuted {a0 : Int32} (hV : IV aR0 1586 aK1 aK2 T) (hJ : JJ S) (h : R2 T S) (hg : g_X11_isMuted T 0 a0 = some (k1, r1, T1)) (hf : fr_isMuted S a0 = some (r2, S1)) : S1.1 0 = vck 1 2 0 k1 ∧ (vck 1 2 0 k1 = 0 → k1 = 0 ∧ r1 = r2) := by
  unfold fr_isMuted at hf
  obtain ⟨r5, S2, f5, hf⟩ := obind2_some hf
  obtain ⟨r9, S6, f9, hf⟩ := obind2_some hf
  have eS := (r_mic f5).1
  rw [eS] at f9
  unfold g_X11_isMuted at hg
  obtain ⟨-, hg⟩ := oif_some hg
  have no : ∀ {U : MS} {w : Int32}, U = mi S 0 w → fr_isMuted_b28 U = some (r2, S1) → S1.1 0 = w := by
    intro U w e hf
    unfold fr_isMuted_b28 fr_isMuted_b29 at hf
    rw [← (osome2 (oif_some hf).2).2, e, mi_at]
  rcases othr_k hg with ⟨rc, gc, hc⟩ | ⟨rc, Tc, gc, hg⟩
  · obtain ⟨-, ⟨q, -⟩ | ⟨q, q20⟩⟩ := p_cam h.1 gc
    · exact absurd q hc
    · obtain ⟨e, er⟩ := ask_0 q20 f9
      rw [if_pos er] at hf
      rw [q, no e hf]
      exact ⟨rfl, fun q => absurd q (by decide)⟩
  · obtain ⟨eT, ⟨-, q20⟩ | ⟨q, -⟩⟩ := p_cam h.1 gc
    case inr => exact absurd q (by decide)
    rw [eT] at hg
    have hP := r_pl hJ q20
    have p4 := pl_4 hP
    obtain ⟨-, hg⟩ := oif_some hg
    rcases othr_k hg with ⟨rc2, gc2, hc⟩ | ⟨rc2, Tc2, gc2, hg⟩
    · obtain ⟨-, ⟨q, -⟩ | ⟨q, qc⟩⟩ := p_mic h.1 q20 gc2
      · exact absurd q hc
      · rcases (q_mic hP f5).2 with ⟨-, z⟩ | ⟨z, -⟩
        · exact absurd z qc
        · rw [z] at f9
          obtain ⟨e, er⟩ := ask_2 q20 f9
          rw [if_pos er] at hf
          rw [q, no e hf]
          exact ⟨rfl, fun q => absurd q (by decide)⟩
    · obtain ⟨eT2, ⟨-, qc⟩ | ⟨q, -⟩⟩ := p_mic h.1 q20 gc2
      case inr => exact absurd q (by decide)
      rw [eT2] at hg
      rcases (q_mic hP f5).2 with ⟨z, -⟩ | ⟨-, z⟩
      case inr => exact absurd qc z
      rw [z] at f9
      obtain ⟨e, er⟩ := ask_1 q20 f9
      rw [if_neg (by rw [er]; decide)] at hf
      obtain ⟨r14, S11, f14, hf⟩ := obind2_some hf
      obtain ⟨e14, er14⟩ := r_hears qc.1 (by omega) f14
      obtain ⟨-, hg⟩ := oif_some hg
      obtain ⟨n13, en, hg⟩ := obind_some hg
      rw [(c_fld h.1.1).2.1] at en
      cases en
      obtain ⟨-, hg⟩ := oif_some hg
      obtain ⟨n15, en, hg⟩ := obind_some hg
      rw [(sd_rf h.1.1 d242).1] at en
      cases en
      obtain ⟨-, hg⟩ := oif_some hg
      obtain ⟨-, hg⟩ := oif_some hg
      obtain ⟨v18, e18, hg⟩ := elet_some hg
      obtain ⟨b18, hg⟩ := oif_some hg
      have g := osome3 hg
      have ka := i_cl qc.1
      have mm := ((h.2.2.2 q20).1).2.2.2.1 a0.toNatClampNeg (by omega)
      have e18 : v18 = S.2.1 12 (1 + a0.toNatClampNeg) := by
        rw [e18]
        have q := mm.1
        rw [Nat.zero_add] at q
        exact q
      rw [show S6.2.1 12 (1 + a0.toNatClampNeg) = v18 from by rw [e, e18]; rfl] at er14
      rw [← g.1, ← g.2.1]
      rcases b18 with z | z
      · rw [z] at er14 ⊢
        rw [if_neg (by rw [er14]; decide)] at hf
        unfold fr_isMuted_b28 fr_isMuted_b29 at hf
        have f := osome2 (oif_some hf).2
        rw [← f.1, ← f.2, e14, e, mi_at]
        exact ⟨rfl, fun _ => ⟨rfl, rfl⟩⟩
      · rw [z] at er14 ⊢
        rw [if_pos (by rw [er14]; decide)] at hf
        unfold fr_isMuted_b29 at hf
        have f := osome2 (oif_some hf).2
        rw [← f.1, ← f.2, e14, e, mi_at]
        exact ⟨rfl, fun _ => ⟨rfl, rfl⟩⟩
theorem r2h_isOn {a0 : Int32} (hV : IV aR0 1586 aK1 aK2 T) (hJ : JJ S) (h : R2 T S) (hg : g_X11_isOn T 0 a0 = some (k1, r1, T1)) (hf : fr_isOn S a0 = some (r2, S1)) : S1.1 0 = vck 1 2 0 k1 ∧ (vck 1 2 0 k1 = 0 → k1 = 0 ∧ r1 = r2) := by
  unfold fr_isOn at hf
  obtain ⟨r5, S2, f5, hf⟩ := obind2_some hf
  obtain ⟨r9, S6, f9, hf⟩ := obind2_some hf
  unfold g_X11_isOn at hg
  obtain ⟨-, hg⟩ := oif_some hg
  have eS : S2 = S := by
    unfold fr_isSource at f5
    obtain ⟨v2, d2, f5⟩ := elet_some f5
    obtain ⟨v3, d3, f5⟩ := elet_some f5
    obtain ⟨r4, f4, f5⟩ := obind_some f5
    exact (osome2 (oif_some f5).2).2.symm
  rw [eS] at f9
  have no : ∀ {U : MS} {w : Int32}, U = mi S 0 w → fr_isOn_b29 U = some (r2, S1) → S1.1 0 = w := by
    intro U w e hf
    unfold fr_isOn_b29 fr_isOn_b30 at hf
    rw [← (osome2 (oif_some hf).2).2, e, mi_at]
  rcases othr_k hg with ⟨rc, gc, hc⟩ | ⟨rc, Tc, gc, hg⟩
  · obtain ⟨-, ⟨q, -⟩ | ⟨q, q20⟩⟩ := p_cam h.1 gc
    · exact absurd q hc
    · obtain ⟨e, er⟩ := ask_0 q20 f9
      rw [if_pos er] at hf
      rw [q, no e hf]
      exact ⟨rfl, fun q => absurd q (by decide)⟩
  · obtain ⟨eT, ⟨-, q20⟩ | ⟨q, -⟩⟩ := p_cam h.1 gc
    case inr => exact absurd q (by decide)
    rw [eT] at hg
    have hP := r_pl hJ q20
    have p5 := pl_5 hP
    obtain ⟨-, hg⟩ := oif_some hg
    rcases othr_k hg with ⟨rc2, gc2, hc⟩ | ⟨rc2, Tc2, gc2, hg⟩
    · obtain ⟨-, ⟨q, -⟩ | ⟨q, qc⟩⟩ := p_src h.1 q20 gc2
      · exact absurd q hc
      · rcases (q_src hP f5).2 with ⟨-, z⟩ | ⟨z, -⟩
        · exact absurd z qc
        · rw [z] at f9
          obtain ⟨e, er⟩ := ask_2 q20 f9
          rw [if_pos er] at hf
          rw [q, no e hf]
          exact ⟨rfl, fun q => absurd q (by decide)⟩
    · obtain ⟨eT2, ⟨-, qc⟩ | ⟨q, -⟩⟩ := p_src h.1 q20 gc2
      case inr => exact absurd q (by decide)
      rw [eT2] at hg
      rcases (q_src hP f5).2 with ⟨z, -⟩ | ⟨-, z⟩
      case inr => exact absurd qc z
      rw [z] at f9
      obtain ⟨e, er⟩ := ask_1 q20 f9
      rw [if_neg (by rw [er]; decide)] at hf
      obtain ⟨v11, d11, hf⟩ := elet_some hf
      obtain ⟨-, hf⟩ := oif_some hf
      obtain ⟨v13, d13, hf⟩ := elet_some hf
      have k11 := cl_ad (n := 25) (by decide) qc.1 (by omega) d11
      obtain ⟨-, hg⟩ := oif_some hg
      obtain ⟨n13, en, hg⟩ := obind_some hg
      rw [(c_fld h.1.1).2.1] at en
      cases en
      obtain ⟨-, hg⟩ := oif_some hg
      obtain ⟨n15, en, hg⟩ := obind_some hg
      rw [(sd_rf h.1.1 d242).2.2.1] at en
      cases en
      obtain ⟨-, hg⟩ := oif_some hg
      obtain ⟨-, hg⟩ := oif_some hg
      obtain ⟨v18, e18, hg⟩ := elet_some hg
      obtain ⟨b18, hg⟩ := oif_some hg
      have g := osome3 hg
      have ka := i_cl qc.1
      have mm := ((h.2.2.2 q20).1).2.2.2.2 a0.toNatClampNeg (by omega)
      have e18 : v18 = v13 := by
        rw [e18, d13, e, k11]
        have q := mm.1
        rw [Nat.zero_add] at q
        exact q
      rw [← g.1, ← g.2.1]
      rw [← e18] at hf
      rcases b18 with z | z
      · rw [z] at hf ⊢
        rw [if_neg (by decide)] at hf
        unfold fr_isOn_b29 fr_isOn_b30 at hf
        have f := osome2 (oif_some hf).2
        rw [← f.1, ← f.2, e, mi_at]
        exact ⟨rfl, fun _ => ⟨rfl, rfl⟩⟩
      · rw [z] at hf ⊢
        rw [if_pos rfl] at hf
        unfold fr_isOn_b30 at hf
        have f := osome2 (oif_some hf).2
        rw [← f.1, ← f.2, e, mi_at]
        exact ⟨rfl, fun _ => ⟨rfl, rfl⟩⟩
theorem r2h_delay {a0 a1 : Int32} (hV : IV aR0 1586 aK1 aK2 T) (hJ : JJ S) (h : R2 T S) (hg : g_X11_delay T 0 a0 a1 = some (k1, r1, T1)) (hf : fr_delay S a0 a1 = some (r2, S1)) : S1.1 0 = vck 1 2 0 k1 ∧ (vck 1 2 0 k1 = 0 → k1 = 0 ∧ r1 = r2) := by
  have no : ∀ {w : Int32}, (∀ {r : Int32} {U : MS} {x : Int32}, fr_mayAsk S x = some (r, U) → (x = 0 ∨ S.1 20 = 0) → U = mi S 0 w ∧ r = 0) → ∀ {x : Int32}, (x = 0 ∨ S.1 20 = 0) → fr_delay_b22 S x a0 a1 = some (r2, S1) → S1.1 0 = w := by
    intro w ha x hx hf
    unfold fr_delay_b22 at hf
    obtain ⟨r5, S2, f5, hf⟩ := obind2_some hf
    obtain ⟨e, er⟩ := ha f5 hx
    rw [if_pos er] at hf
    unfold fr_delay_b43 at hf
    rw [← (osome2 hf).2, e, mi_at]
  unfold fr_delay at hf
  obtain ⟨r5, S2, f5, hf⟩ := obind2_some hf
  have eS := (r_mic f5).1
  rw [eS] at hf
  unfold g_X11_delay at hg
  obtain ⟨-, hg⟩ := oif_some hg
  rcases othr_k hg with ⟨rc, gc, hc⟩ | ⟨rc, Tc, gc, hg⟩
  · obtain ⟨-, ⟨q, -⟩ | ⟨q, q20⟩⟩ := p_cam h.1 gc
    · exact absurd q hc
    · have nn := @no 1 (fun {r U x} f _ => ask_0 q20 f)
      have e1 : S1.1 0 = 1 := by
        rcases oif_or hf with ⟨-, hf⟩ | ⟨-, hf⟩
        · unfold fr_delay_b21 at hf
          exact nn (.inr q20) hf
        · obtain ⟨r10, S7, f10, hf⟩ := obind2_some hf
          have e7 := (r_cell f10).1
          rw [e7] at hf
          rcases oif_or hf with ⟨-, hf⟩ | ⟨-, hf⟩
          · unfold fr_delay_b21 at hf
            exact nn (.inr q20) hf
          · exact nn (.inr q20) hf
      rw [q, e1]
      exact ⟨rfl, fun q => absurd q (by decide)⟩
  · obtain ⟨eT, ⟨-, q20⟩ | ⟨q, -⟩⟩ := p_cam h.1 gc
    case inr => exact absurd q (by decide)
    rw [eT] at hg
    have hP := r_pl hJ q20
    have p4 := pl_4 hP
    obtain ⟨p1, p2, p3, -⟩ := pl_cell hP
    have n20 : ¬ S.1 20 = 0 := by rw [q20]; decide
    have nn := @no 2 (fun {r U x} f hx => by
      rcases hx with hx | hx
      · subst hx; exact ask_2 q20 f
      · exact absurd hx n20)
    obtain ⟨-, hg⟩ := oif_some hg
    rcases othr_k hg with ⟨rc2, gc2, hc⟩ | ⟨rc2, Tc2, gc2, hg⟩
    · obtain ⟨-, ⟨q, -⟩ | ⟨q, qc⟩⟩ := p_mic h.1 q20 gc2
      · exact absurd q hc
      · rcases (q_mic hP f5).2 with ⟨-, z⟩ | ⟨z, -⟩
        · exact absurd z qc
        · rw [if_pos z] at hf
          unfold fr_delay_b21 at hf
          rw [q, nn (.inl rfl) hf]
          exact ⟨rfl, fun q => absurd q (by decide)⟩
    · obtain ⟨eT2, ⟨-, qc⟩ | ⟨q, -⟩⟩ := p_mic h.1 q20 gc2
      case inr => exact absurd q (by decide)
      rw [eT2] at hg
      rcases (q_mic hP f5).2 with ⟨z, -⟩ | ⟨-, z⟩
      case inr => exact absurd qc z
      rw [if_neg (by rw [z]; decide)] at hf
      obtain ⟨r10, S7, f10, hf⟩ := obind2_some hf
      obtain ⟨e7, q10⟩ := q_cell hP f10
      rw [e7] at hf
      obtain ⟨-, hg⟩ := oif_some hg
      rcases othr_k hg with ⟨rc3, gc3, hc⟩ | ⟨rc3, Tc3, gc3, hg⟩
      · obtain ⟨-, ⟨q, -⟩ | ⟨q, qd⟩⟩ := p_cell h.1 q20 gc3
        · exact absurd q hc
        · rcases q10 with ⟨-, z⟩ | ⟨z, -⟩
          · exact absurd z qd
          · rw [if_pos z] at hf
            unfold fr_delay_b21 at hf
            rw [q, nn (.inl rfl) hf]
            exact ⟨rfl, fun q => absurd q (by decide)⟩
      · obtain ⟨eT3, ⟨-, qd⟩ | ⟨q, -⟩⟩ := p_cell h.1 q20 gc3
        case inr => exact absurd q (by decide)
        rw [eT3] at hg
        rcases q10 with ⟨z, -⟩ | ⟨-, z⟩
        case inr => exact absurd qd z
        rw [if_neg (by rw [z]; decide)] at hf
        unfold fr_delay_b22 at hf
        obtain ⟨r5', S2', f5', hf⟩ := obind2_some hf
        obtain ⟨e, er⟩ := ask_1 q20 f5'
        rw [if_neg (by rw [er]; decide)] at hf
        obtain ⟨v7, d7, hf⟩ := elet_some hf
        obtain ⟨v8, d8, hf⟩ := elet_some hf
        obtain ⟨-, hf⟩ := oif_some hf
        obtain ⟨v10, d10, hf⟩ := elet_some hf
        unfold fr_delay_b43 at hf
        obtain ⟨s, hs, h14, hF, b, -⟩ := r1_sce h.1 q20
        obtain ⟨-, hg⟩ := oif_some hg
        obtain ⟨n18, en, hg⟩ := obind_some hg
        rw [h14] at en
        cases en
        obtain ⟨-, hg⟩ := oif_some hg
        obtain ⟨n20', en, hg⟩ := obind_some hg
        have e7' : T.2.2.2.2 s 17 = some (s + 15) := by unfold SRF at hF; exact hF.2.2.2.2.2.2.2.1
        rw [e7'] at en
        cases en
        obtain ⟨-, hg⟩ := oif_some hg
        obtain ⟨-, hg⟩ := oif_some hg
        obtain ⟨n23, en, hg⟩ := obind_some hg
        have ka := i_cl qc.1
        have kb := i_cl qd.1
        have e10 : T.2.2.2.2 (s + 15) a1.toNatClampNeg = some (s + 16 + a1.toNatClampNeg) := by unfold SRF at hF; exact hF.2.2.2.2.2.2.2.2.2.2.2.2.2.2 _ (by omega)
        rw [e10] at en
        cases en
        obtain ⟨-, hg⟩ := oif_some hg
        obtain ⟨-, hg⟩ := oif_some hg
        obtain ⟨v26, e26, hg⟩ := elet_some hg
        have g := osome3 hg
        have f := osome2 hf
        have z12 : (12 : Int32).toInt = 12 := by decide
        have q7 := i_mulk d7 z12 (by omega) (by omega)
        have q8 := i_add d8 (by omega) (by omega)
        have k8 : v8.toNatClampNeg = 12 * a1.toNatClampNeg + a0.toNatClampNeg := by
          have := i_cl (i := v8) (by omega)
          omega
        rw [← g.1, ← g.2.1, ← f.1, ← f.2, e, mi_at]
        refine ⟨rfl, fun _ => ⟨rfl, ?_⟩⟩
        rw [e26, d10, k8, e]
        exact (h.2.2.2 q20).2.1 s h14 a1.toNatClampNeg a0.toNatClampNeg (by omega) (by omega)
end
