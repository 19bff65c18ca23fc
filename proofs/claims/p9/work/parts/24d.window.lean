/-! window, alias -/
section
variable {T T1 : AT} {S S1 : MS} {k1 : Nat} {r1 r2 : Int32}
theorem x_lays {c : Nat} (hc : c < 144) {S0 : MS} (p4 : (S0.2.1 10 4).toInt ≤ 12) : ∀ (f j : Nat) {S : MS}, j ≤ 12 → S.2.1 10 = S0.2.1 10 → S.2.1 17 = S0.2.1 17 → (∀ m, m < j → S.2.1 24 m = S0.2.1 17 (12 * c + m)) → fr_laysCell_b2 f S (nI c) (nI j) = some S1 → ∀ m : Nat, (m : Int) < (S0.2.1 10 4).toInt → S1.2.1 24 m = S0.2.1 17 (12 * c + m) := by
  intro f
  induction f with
  | zero => intro j S hj e10 e17 hm h; cases h
  | succ f ih =>
    intro j S hj e10 e17 hm h
    have jI : (nI j).toInt = (j : Int) := nI_toInt (by omega)
    unfold fr_laysCell_b2 at h
    obtain ⟨v2, e2, h⟩ := elet_some h
    rw [e10] at e2
    rcases oif_or h with ⟨cc, h⟩ | ⟨cc, h⟩
    · have cc := i_le cc
      rw [e2] at cc
      rw [← osome1 h]
      exact fun m h => hm m (by omega)
    · have cc := i_nle cc
      rw [e2] at cc
      obtain ⟨v4, e4, h⟩ := elet_some h
      obtain ⟨v5, e5, h⟩ := elet_some h
      obtain ⟨-, h⟩ := oif_some h
      obtain ⟨v7, e7, h⟩ := elet_some h
      obtain ⟨-, h⟩ := oif_some h
      obtain ⟨S9, e9, h⟩ := elet_some h
      obtain ⟨v10, e10', h⟩ := elet_some h
      rw [show v10 = nI (j + 1) from e10'.trans (nI_p1 j)] at h
      have k5 : v5 = nI (12 * c + j) := by rw [e5, e4, ← nI_add, ← nI_mulk]; rfl
      rw [k5, nI_clamp (by omega), e17] at e7
      rw [nI_clamp (by omega)] at e9
      refine ih (j + 1) (by omega) (by rw [e9, mf_ne (by decide)]; exact e10) (by rw [e9, mf_ne (by decide)]; exact e17) (fun m hm2 => ?_) h
      rw [e9, mf_at]
      show (if m = j then v7 else S.2.1 24 m) = _
      by_cases q : m = j
      · rw [if_pos q, e7, q]
      · rw [if_neg q]; exact hm m (by omega)
theorem r_win {D : Nat → Int32} (p4 : (S.2.1 10 4).toInt ≤ 12) (hD : ∀ m : Nat, (m : Int) < (S.2.1 10 4).toInt → S.2.1 24 m = D m) : ∀ (f j : Nat) {a r : Int32}, j ≤ 12 → fr_windowOf_12_b4 f S a (nI j) = some (r, S1) → S1 = S ∧ ∃ y, r = (if 0 < S.2.1 10 2 - y then S.2.1 10 2 - y else 0) ∧ SPg S D a y j := by
  intro f
  induction f with
  | zero => intro j a r hj h; cases h
  | succ f ih =>
    intro j a r hj h
    have jI : (nI j).toInt = (j : Int) := nI_toInt (by omega)
    unfold fr_windowOf_12_b4 at h
    obtain ⟨v2, e2, h⟩ := elet_some h
    rcases oif_or h with ⟨cc, h⟩ | ⟨cc, h⟩
    · have cc := i_le cc
      rw [e2] at cc
      obtain ⟨v4, e4, h⟩ := elet_some h
      obtain ⟨v5, e5, h⟩ := elet_some h
      obtain ⟨v6, e6, h⟩ := elet_some h
      have f := osome2 h
      rw [← f.1, ← f.2]
      exact ⟨rfl, a, by rw [e6, e5, e4], SPg.end (by omega)⟩
    · have cc := i_nle cc
      rw [e2] at cc
      obtain ⟨r10, S7, f7, h⟩ := obind2_some h
      obtain ⟨e7, q7⟩ := h_act (by omega) f7
      rw [e7] at h
      rcases oif_or h with ⟨z, h⟩ | ⟨z, h⟩
      · unfold fr_windowOf_12_b37 at h
        obtain ⟨w2, d2, h⟩ := elet_some h
        rw [show w2 = nI (j + 1) from d2.trans (nI_p1 j)] at h
        obtain ⟨a1, y, a2, a3⟩ := ih (j + 1) (by omega) h
        have na : ¬ act S j := by
          rcases q7 with ⟨q, -⟩ | ⟨-, q⟩
          · rw [q] at z; exact absurd z (by decide)
          · exact q
        exact ⟨a1, y, a2, a3.skip na⟩
      · obtain ⟨-, h⟩ := oif_some h
        obtain ⟨v13, e13, h⟩ := elet_some h
        obtain ⟨v14, e14, h⟩ := elet_some h
        unfold fr_windowOf_12_b37 at h
        obtain ⟨w2, d2, h⟩ := elet_some h
        rw [show w2 = nI (j + 1) from d2.trans (nI_p1 j)] at h
        obtain ⟨a1, y, a2, a3⟩ := ih (j + 1) (by omega) h
        have na : act S j := by
          rcases q7 with ⟨-, q⟩ | ⟨q, -⟩
          · exact q
          · exact absurd q z
        rw [nI_clamp (by omega), hD j (by omega)] at e13
        exact ⟨a1, y, a2, a3.take (by omega) na (by rw [e14, e13])⟩
theorem max_same (x : Int32) : (if x < 0 then 0 else x) = if 0 < x then x else 0 := by
  by_cases c : x < 0
  · rw [if_pos c, if_neg (fun q => by have := i_lt c; have := i_lt q; omega)]
  · rw [if_neg c]
    by_cases d : 0 < x
    · rw [if_pos d]
    · rw [if_neg d]
      have c := i_nlt c
      have d := i_nlt d
      exact Int32.toInt_inj.mp (by omega)
theorem r2h_window {a0 : Int32} (hV : IV aR0 1586 aK1 aK2 T) (hJ : JJ S) (h : R2 T S) (hg : g_X11_window T 0 a0 = some (k1, r1, T1)) (hf : fr_window S a0 = some (r2, S1)) : S1.1 0 = vck 1 2 0 k1 ∧ (vck 1 2 0 k1 = 0 → k1 = 0 ∧ r1 = r2) := by
  have z0 : (0 : Int32).toInt = 0 := by decide
  unfold fr_window at hf
  obtain ⟨r5, S2, f5, hf⟩ := obind2_some hf
  obtain ⟨r9, S6, f9, hf⟩ := obind2_some hf
  have eS := (r_cell f5).1
  rw [eS] at f9
  unfold g_X11_window at hg
  obtain ⟨-, hg⟩ := oif_some hg
  rcases othr_k hg with ⟨rc, gc, hc⟩ | ⟨rc, Tc, gc, hg⟩
  · obtain ⟨-, ⟨q, -⟩ | ⟨q, q20⟩⟩ := p_cam h.1 gc
    · exact absurd q hc
    · obtain ⟨e, er⟩ := ask_0 q20 f9
      rw [if_pos er] at hf
      rw [q, ← (osome2 hf).2, e, mi_at]
      exact ⟨rfl, fun q => absurd q (by decide)⟩
  · obtain ⟨eT, ⟨-, q20⟩ | ⟨q, -⟩⟩ := p_cam h.1 gc
    case inr => exact absurd q (by decide)
    rw [eT] at hg
    have hP := r_pl hJ q20
    have p4 := pl_4 hP
    obtain ⟨p1, p2, p3, -⟩ := pl_cell hP
    obtain ⟨-, hg⟩ := oif_some hg
    rcases othr_k hg with ⟨rc2, gc2, hc⟩ | ⟨rc2, Tc2, gc2, hg⟩
    · obtain ⟨-, ⟨q, -⟩ | ⟨q, qc⟩⟩ := p_cell h.1 q20 gc2
      · exact absurd q hc
      · rcases (q_cell hP f5).2 with ⟨-, z⟩ | ⟨z, -⟩
        · exact absurd z qc
        · rw [z] at f9
          obtain ⟨e, er⟩ := ask_2 q20 f9
          rw [if_pos er] at hf
          rw [q, ← (osome2 hf).2, e, mi_at]
          exact ⟨rfl, fun q => absurd q (by decide)⟩
    · obtain ⟨eT2, ⟨-, qc⟩ | ⟨q, -⟩⟩ := p_cell h.1 q20 gc2
      case inr => exact absurd q (by decide)
      rw [eT2] at hg
      rcases (q_cell hP f5).2 with ⟨z, -⟩ | ⟨-, z⟩
      case inr => exact absurd qc z
      rw [z] at f9
      obtain ⟨e, er⟩ := ask_1 q20 f9
      rw [if_neg (by rw [er]; decide)] at hf
      obtain ⟨s, hs, h14, hF, b, -⟩ := r1_sce h.1 q20
      obtain ⟨c, hc144, ec⟩ := nI_of01 (x := a0) (a := 144) (by omega) (by omega) (by omega)
      have kc : a0.toNatClampNeg = c := by rw [ec]; exact nI_clamp (by omega)
      have cI : a0.toInt = (c : Int) := by rw [ec]; exact nI_toInt (by omega)
      have hR := hr_of hP q20 h h14 (c := c) (by omega)
      obtain ⟨S11, f11, hf⟩ := obind_some hf
      obtain ⟨r17, S14, f14, hf⟩ := obind2_some hf
      have k11 := w_fr_laysCell f11
      have f := osome2 hf
      rw [ec] at f11
      have xl := x_lays (S0 := S6) hc144 (by rw [e]; exact p4.2) 16384 0 (by decide) rfl rfl (fun m hm => absurd hm (Nat.not_lt_zero m)) f11
      have e10 : S11.2.1 10 = S.2.1 10 := by rw [k11.2 10 (by decide), e]; rfl
      have e12 : S11.2.1 12 = S.2.1 12 := by rw [k11.2 12 (by decide), e]; rfl
      obtain ⟨e14, y, ey, sy⟩ := r_win (S := S11) (D := fun m => S.2.1 17 (12 * c + m)) (by rw [e10]; exact p4.2) (fun m hm => by
        rw [xl m (by rw [e10] at hm; rw [e]; exact hm), e]
        rfl) 16384 0 (by decide) f14
      have hR11 : HR T S11 (s + 16 + c) (fun m => S.2.1 17 (12 * c + m)) := by
        unfold HR at hR ⊢
        rw [e10, e12]
        exact hR
      obtain ⟨-, hg⟩ := oif_some hg
      obtain ⟨n13, en, hg⟩ := obind_some hg
      rw [(c_fld h.1.1).2.1] at en
      cases en
      obtain ⟨-, hg⟩ := oif_some hg
      obtain ⟨n15, en, hg⟩ := obind_some hg
      rw [h14] at en
      cases en
      obtain ⟨-, hg⟩ := oif_some hg
      obtain ⟨n17, en, hg⟩ := obind_some hg
      have e7' : T.2.2.2.2 s 17 = some (s + 15) := by unfold SRF at hF; exact hF.2.2.2.2.2.2.2.1
      rw [e7'] at en
      cases en
      obtain ⟨-, hg⟩ := oif_some hg
      obtain ⟨-, hg⟩ := oif_some hg
      obtain ⟨n20, en, hg⟩ := obind_some hg
      have e10' : T.2.2.2.2 (s + 15) c = some (s + 16 + c) := by unfold SRF at hF; exact hF.2.2.2.2.2.2.2.2.2.2.2.2.2.2 _ hc144
      rw [kc, e10'] at en
      cases en
      obtain ⟨-, hg⟩ := oif_some hg
      obtain ⟨r24, T22, g22, hg⟩ := obind2_some hg
      have g := osome3 hg
      unfold g_X8_windowOf at g22
      obtain ⟨-, g22⟩ := oif_some g22
      obtain ⟨w3, d3, g22⟩ := elet_some g22
      obtain ⟨-, g22⟩ := oif_some g22
      obtain ⟨r7, T5, g5, g22⟩ := obind2_some g22
      unfold g_X8_greatestDelay at g5
      obtain ⟨-, sg⟩ := c_great hR11 16384 0 (by decide) g5
      obtain ⟨w9, d9, g22⟩ := elet_some g22
      obtain ⟨w10, d10, g22⟩ := elet_some g22
      have gg := osome2 g22
      rw [← g.1, ← g.2.1, ← gg.1, ← f.1, ← f.2, e14, k11.1 0 (by decide), e, mi_at]
      refine ⟨rfl, fun _ => ⟨rfl, ?_⟩⟩
      have d3 : w3 = S.2.1 10 2 := by rw [d3]; exact ((h.2.2.2 q20).1).2.1
      rw [d10, d9, d3, ey, e10, sy.uniq sg]
      exact max_same _
theorem rem_neg {v w p x y : Int32} (ev : x = v - v / p * p) (ew : y = w - w / p * p) (h : w.toInt = -v.toInt) (hv : 0 ≤ v.toInt) (hp : 1 ≤ p.toInt) : y.toInt = -x.toInt := by
  have hx2 := Int32.toInt_lt v
  have q := tdiv_nn hv hp
  have r := tmod_nn hv hp
  have m := Int.mul_nonneg q.1 (Int.le_trans (by decide) hp)
  have e1 : x.toInt = v.toInt - v.toInt.tdiv p.toInt * p.toInt := by
    rw [ev, Int32.toInt_sub, Int32.toInt_mul, Int32.toInt_div, bm32 (x := v.toInt.tdiv p.toInt) (by omega) (by omega), bm32 (x := v.toInt.tdiv p.toInt * p.toInt) (by omega) (by omega), bm32 (by omega) (by omega)]
  rw [e1, ew, Int32.toInt_sub, Int32.toInt_mul, Int32.toInt_div, h, Int.neg_tdiv, bm32 (x := -(v.toInt.tdiv p.toInt)) (by omega) (by omega), Int.neg_mul, bm32 (x := -(v.toInt.tdiv p.toInt * p.toInt)) (by omega) (by omega), bm32 (by omega) (by omega)]
  omega
theorem rem_zz {v w p : Int32} (h : w.toInt = -v.toInt) (hp : 1 ≤ p.toInt) : v - v / p * p = 0 ↔ w - w / p * p = 0 := by
  have z0 : (0 : Int32).toInt = 0 := by decide
  have key : ∀ {v w : Int32}, w.toInt = -v.toInt → 0 ≤ v.toInt → (v - v / p * p = 0 ↔ w - w / p * p = 0) := by
    intro v w h hv
    have q := rem_neg (p := p) rfl rfl h hv hp
    constructor
    · intro e
      have e := i_eq e
      exact Int32.toInt_inj.mp (by omega)
    · intro e
      have e := i_eq e
      exact Int32.toInt_inj.mp (by omega)
  rcases Int.le_total 0 v.toInt with c | c
  · exact key h c
  · exact (key (v := w) (w := v) (by omega) (by omega)).symm
end
