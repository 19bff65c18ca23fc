/-! alias: both count alike -/
section
variable {T T1 : AT} {S S1 : MS} {k1 : Nat} {r1 r2 : Int32}
theorem r_shift {c1 c2 j : Nat} {r : Int32} (h1 : c1 < 144) (h2 : c2 < 144) (hj : j < 12) (hf : fr_shift S (nI c1) (nI c2) (nI j) = some (r, S1)) : S1 = S ∧ r = S.2.1 17 (12 * c1 + j) - S.2.1 17 (12 * c2 + j) := by
  unfold fr_shift at hf
  obtain ⟨v2, e2, hf⟩ := elet_some hf
  obtain ⟨v3, e3, hf⟩ := elet_some hf
  obtain ⟨-, hf⟩ := oif_some hf
  obtain ⟨v5, e5, hf⟩ := elet_some hf
  obtain ⟨v6, e6, hf⟩ := elet_some hf
  obtain ⟨v7, e7, hf⟩ := elet_some hf
  obtain ⟨-, hf⟩ := oif_some hf
  obtain ⟨v9, e9, hf⟩ := elet_some hf
  obtain ⟨v10, e10, hf⟩ := elet_some hf
  have k3 : v3 = nI (12 * c1 + j) := by rw [e3, e2, ← nI_add, ← nI_mulk]; rfl
  have k7 : v7 = nI (12 * c2 + j) := by rw [e7, e6, ← nI_add, ← nI_mulk]; rfl
  rw [k3, nI_clamp (by omega)] at e5
  rw [k7, nI_clamp (by omega)] at e9
  have f := osome2 hf
  rw [← f.1, ← f.2, e10, e5, e9]
  exact ⟨rfl, rfl⟩
theorem c_remainder {a p r : Int32} (hp : ¬ p = 0) (h : g_X11_remainder a p = some r) : r = a - a / p * p := by
  unfold g_X11_remainder at h
  rw [if_neg hp] at h
  obtain ⟨-, h⟩ := oif_some h
  obtain ⟨v4, e4, h⟩ := elet_some h
  unfold g_X11_remainder_b11 at h
  rw [← osome1 h, e4]
theorem k_conf_in {s c1 c2 i dl dm : Nat} {p : Int32} {D E : Nat → Int32} {k28 : AT → Nat → Int32 → Nat → Nat → Int32 → Int32 → Option (Int32 × AT)} {k6 : MS → Int32 → Int32 → Int32 → Int32 → Int32 → Option (Int32 × MS)} (h14 : T.2.2.2.2 0 14 = some s) (h5 : T.2.2.1 s 5 = S.2.1 10 4) (f6 : T.2.2.2.2 0 6 = some 242) (h1 : c1 < 144) (h2 : c2 < 144) (hi : (i : Int) < (S.2.1 10 4).toInt) (hp : 2 ≤ p.toInt) (hR : HR T S dl (fun m => S.2.1 17 (12 * c1 + m))) (hQ : HR T S dm (fun m => S.2.1 17 (12 * c2 + m))) (hr : ∀ k, 0 ≤ (S.2.1 17 k).toInt ∧ (S.2.1 17 k).toInt ≤ 65535) (hk : ∀ {most : Int32}, 0 ≤ most.toInt → k28 T 0 p dl dm most (nI (i + 1)) = some (r1, T1) → k6 S (nI c1) (nI c2) p most (nI (i + 1)) = some (r2, S1) → r1 = r2 ∧ S1 = S) : ∀ (f g j : Nat) {same n most : Int32}, j ≤ 12 → 0 ≤ most.toInt → 0 ≤ same.toInt → same.toInt ≤ j → (act S i → same = n) → (¬ act S i → same = 0) → g_X11_confusion_b46 k28 f T 0 p dl dm most (nI i) same (nI j) = some (r1, T1) → fr_confusion_b23 k6 g S (nI c1) (nI c2) p most (nI i) n (nI j) = some (r2, S1) → r1 = r2 ∧ S1 = S := by
  obtain ⟨e0, p4, hm, r3⟩ := hR
  obtain ⟨-, -, hn, -⟩ := hQ
  have z0 : (0 : Int32).toInt = 0 := by decide
  have z1 : (1 : Int32).toInt = 1 := by decide
  have np : ¬ p = 0 := fun q => by rw [q] at hp; omega
  intro f
  induction f with
  | zero => intro g j same n most _ _ _ _ _ _ hg _; cases hg
  | succ f ih =>
    intro g j same n most hj hmo hs0 hs1 ha hna hg hf
    cases g with
    | zero => cases hf
    | succ g =>
      have jI : (nI j).toInt = (j : Int) := nI_toInt (by omega)
      have kj : (nI j).toNatClampNeg = j := nI_clamp (by omega)
      have ki : (nI i).toNatClampNeg = i := nI_clamp (by omega)
      unfold g_X11_confusion_b46 at hg
      unfold fr_confusion_b23 at hf
      obtain ⟨-, hg⟩ := oif_some hg
      obtain ⟨n3, en, hg⟩ := obind_some hg
      rw [h14] at en
      cases en
      obtain ⟨-, hg⟩ := oif_some hg
      obtain ⟨v5, e5, hg⟩ := elet_some hg
      rw [h5] at e5
      obtain ⟨v2, e2, hf⟩ := elet_some hf
      have ev : v2 = v5 := e2.trans e5.symm
      rw [ev] at hf
      rcases oif_or hg with ⟨c, hg⟩ | ⟨c, hg⟩
      · rw [if_pos c] at hf
        obtain ⟨v7, e7, hg⟩ := elet_some hg
        obtain ⟨v8, e8, hg⟩ := elet_some hg
        rw [show v8 = nI (i + 1) from e8.trans (nI_p1 i)] at hg
        obtain ⟨r7, S4, f4, hf⟩ := obind2_some hf
        obtain ⟨e4, q4⟩ := h_act (by omega) f4
        rw [e4] at hf
        have b110 : ∀ {x : Int32}, fr_confusion_b110 k6 S x (nI c1) (nI c2) p (nI i) = some (r2, S1) → k6 S (nI c1) (nI c2) p x (nI (i + 1)) = some (r2, S1) := by
          intro x h
          unfold fr_confusion_b110 at h
          obtain ⟨w2, d2, h⟩ := elet_some h
          rw [show w2 = nI (i + 1) from d2.trans (nI_p1 i)] at h
          exact h
        have m7 : 0 ≤ v7.toInt := by
          rcases i_ilt e7 with ⟨-, q⟩ | ⟨-, q⟩ <;> omega
        rcases q4 with ⟨q, a⟩ | ⟨q, a⟩
        · rw [if_neg (by rw [q]; decide)] at hf
          obtain ⟨v9, e9, hf⟩ := elet_some hf
          have e79 : v9 = v7 := by rw [e9, e7, ha a]
          rw [e79] at hf
          exact hk m7 hg (b110 hf)
        · rw [if_pos q] at hf
          have e7m : v7 = most := by
            rw [e7, hna a, if_neg (fun u => by have := i_lt u; omega)]
          rw [e7m] at hg
          exact hk hmo hg (b110 hf)
      · rw [if_neg c] at hf
        have c := i_nle c
        rw [e5] at c
        obtain ⟨mi1, mi2⟩ := hm i hi
        obtain ⟨mj1, mj2⟩ := hm j (by omega)
        have mi2 : T.2.2.1 dl i = S.2.1 17 (12 * c1 + i) := mi2
        have mj2 : T.2.2.1 dl j = S.2.1 17 (12 * c1 + j) := mj2
        have ni2 : T.2.2.1 dm i = S.2.1 17 (12 * c2 + i) := (hn i hi).2
        have nj2 : T.2.2.1 dm j = S.2.1 17 (12 * c2 + j) := (hn j (by omega)).2
        obtain ⟨-, hg⟩ := oif_some hg
        obtain ⟨-, hg⟩ := oif_some hg
        obtain ⟨v11, e11, hg⟩ := elet_some hg
        obtain ⟨-, hg⟩ := oif_some hg
        obtain ⟨-, hg⟩ := oif_some hg
        obtain ⟨v14, e14, hg⟩ := elet_some hg
        obtain ⟨v15, e15, hg⟩ := elet_some hg
        obtain ⟨-, hg⟩ := oif_some hg
        obtain ⟨-, hg⟩ := oif_some hg
        obtain ⟨v18, e18, hg⟩ := elet_some hg
        obtain ⟨-, hg⟩ := oif_some hg
        obtain ⟨-, hg⟩ := oif_some hg
        obtain ⟨v21, e21, hg⟩ := elet_some hg
        obtain ⟨v22, e22, hg⟩ := elet_some hg
        obtain ⟨v23, e23, hg⟩ := elet_some hg
        rw [ki, mi2] at e11
        rw [ki, ni2] at e14
        rw [kj, mj2] at e18
        rw [kj, nj2] at e21
        obtain ⟨-, hg⟩ := oif_some hg
        obtain ⟨n25, en, hg⟩ := obind_some hg
        rw [f6] at en
        cases en
        obtain ⟨-, hg⟩ := oif_some hg
        obtain ⟨n27, en, hg⟩ := obind_some hg
        rw [r3] at en
        cases en
        obtain ⟨-, hg⟩ := oif_some hg
        obtain ⟨-, hg⟩ := oif_some hg
        obtain ⟨v30, e30, hg⟩ := elet_some hg
        rw [ki, mi1] at e30
        obtain ⟨r13, S10, f10, hf⟩ := obind2_some hf
        obtain ⟨e10, q10⟩ := h_act (by omega) f10
        rw [e10] at hf
        have nextg : ∀ {x : Int32}, g_X11_confusion_b121 k28 (g_X11_confusion_b46 k28 f) T 0 p dl dm most (nI i) x (nI j) = some (r1, T1) → g_X11_confusion_b46 k28 f T 0 p dl dm most (nI i) x (nI (j + 1)) = some (r1, T1) := by
          intro x h
          unfold g_X11_confusion_b121 at h
          obtain ⟨w2, d2, h⟩ := elet_some h
          rw [show w2 = nI (j + 1) from d2.trans (nI_p1 j)] at h
          exact h
        have nextf : ∀ {x y : Int32}, fr_confusion_b76 k6 (fr_confusion_b23 k6 g) S x y (nI c1) (nI c2) p most (nI i) (nI j) = some (r2, S1) → fr_confusion_b23 k6 g S (nI c1) (nI c2) p most (nI i) (y + x) (nI (j + 1)) = some (r2, S1) := by
          intro x y h
          unfold fr_confusion_b76 at h
          obtain ⟨w2, d2, h⟩ := elet_some h
          obtain ⟨w3, d3, h⟩ := elet_some h
          rw [show w3 = nI (j + 1) from d3.trans (nI_p1 j), d2] at h
          exact h
        have nextf0 : ∀ {y : Int32}, fr_confusion_b75 k6 (fr_confusion_b23 k6 g) S y (nI c1) (nI c2) p most (nI i) (nI j) = some (r2, S1) → fr_confusion_b23 k6 g S (nI c1) (nI c2) p most (nI i) y (nI (j + 1)) = some (r2, S1) := by
          intro y h
          unfold fr_confusion_b75 at h
          have q := nextf h
          rw [Int32.add_zero] at q
          exact q
        by_cases ai : act S i
        · have hsn := ha ai
          rw [if_pos (e30.trans ai)] at hg
          obtain ⟨-, hg⟩ := oif_some hg
          obtain ⟨n33, en, hg⟩ := obind_some hg
          rw [f6] at en
          cases en
          obtain ⟨-, hg⟩ := oif_some hg
          obtain ⟨n35, en, hg⟩ := obind_some hg
          rw [r3] at en
          cases en
          obtain ⟨-, hg⟩ := oif_some hg
          obtain ⟨-, hg⟩ := oif_some hg
          obtain ⟨v38, e38, hg⟩ := elet_some hg
          rw [kj, mj1] at e38
          rcases q10 with ⟨q, aj⟩ | ⟨q, aj⟩
          · rw [if_pos (e38.trans aj)] at hg
            rw [if_neg (by rw [q]; decide)] at hf
            obtain ⟨r40, g40, hg⟩ := obind_some hg
            have e40 := c_remainder np g40
            obtain ⟨r18, S15, f15, hf⟩ := obind2_some hf
            obtain ⟨e15', q18⟩ := r_shift h1 h2 (by omega) f15
            rw [e15'] at hf
            obtain ⟨r22, S19, f19, hf⟩ := obind2_some hf
            obtain ⟨e19, q22⟩ := r_shift h1 h2 (by omega) f19
            rw [e19] at hf
            obtain ⟨w23, d23, hf⟩ := elet_some hf
            obtain ⟨-, hf⟩ := oif_some hf
            obtain ⟨w25, d25, hf⟩ := elet_some hf
            have a1 := hr (12 * c1 + i)
            have a2 := hr (12 * c2 + i)
            have a3 := hr (12 * c1 + j)
            have a4 := hr (12 * c2 + j)
            have t18 := i_sub q18 (by omega) (by omega)
            have t22 := i_sub q22 (by omega) (by omega)
            have t23 := i_sub d23 (by omega) (by omega)
            have s11 := i_eq e11
            have s14 := i_eq e14
            have s18 := i_eq e18
            have s21 := i_eq e21
            have s15 := i_sub e15 (by omega) (by omega)
            have s22 := i_sub e22 (by omega) (by omega)
            have s23 := i_sub e23 (by omega) (by omega)
            have zz := rem_zz (v := v23) (w := w23) (p := p) (by omega) (by omega)
            rw [e40] at hg
            rw [d25] at hf
            by_cases cz : v23 - v23 / p * p = 0
            · rw [if_pos cz] at hg
              rw [if_pos (zz.mp cz)] at hf
              obtain ⟨v43, e43, hg⟩ := elet_some hg
              have q43 := i_add (y := 1) e43 (by omega) (by omega)
              exact ih g (j + 1) (by omega) hmo (by omega) (by omega) (fun _ => by rw [e43, hsn]; rfl) (fun q => absurd ai q) (nextg hg) (nextf hf)
            · rw [if_neg cz] at hg
              rw [if_neg (fun q => cz (zz.mpr q))] at hf
              exact ih g (j + 1) (by omega) hmo hs0 (by omega) (fun _ => hsn) (fun q => absurd ai q) (nextg hg) (nextf0 hf)
          · rw [if_neg (fun u => aj (e38.symm.trans u))] at hg
            rw [if_pos q] at hf
            exact ih g (j + 1) (by omega) hmo hs0 (by omega) (fun _ => hsn) (fun q => absurd ai q) (nextg hg) (nextf0 hf)
        · rw [if_neg (fun u => ai (e30.symm.trans u))] at hg
          have hs := hna ai
          rcases q10 with ⟨q, aj⟩ | ⟨q, aj⟩
          · rw [if_neg (by rw [q]; decide)] at hf
            obtain ⟨r18, S15, f15, hf⟩ := obind2_some hf
            obtain ⟨e15', q18⟩ := r_shift h1 h2 (by omega) f15
            rw [e15'] at hf
            obtain ⟨r22, S19, f19, hf⟩ := obind2_some hf
            obtain ⟨e19, q22⟩ := r_shift h1 h2 (by omega) f19
            rw [e19] at hf
            obtain ⟨w23, d23, hf⟩ := elet_some hf
            obtain ⟨-, hf⟩ := oif_some hf
            obtain ⟨w25, d25, hf⟩ := elet_some hf
            rcases oif_or hf with ⟨-, hf⟩ | ⟨-, hf⟩
            · exact ih g (j + 1) (by omega) hmo hs0 (by omega) (fun u => absurd u ai) (fun _ => hs) (nextg hg) (nextf hf)
            · exact ih g (j + 1) (by omega) hmo hs0 (by omega) (fun u => absurd u ai) (fun _ => hs) (nextg hg) (nextf0 hf)
          · rw [if_pos q] at hf
            exact ih g (j + 1) (by omega) hmo hs0 (by omega) (fun u => absurd u ai) (fun _ => hs) (nextg hg) (nextf0 hf)
theorem k_conf {s c1 c2 dl dm : Nat} {p : Int32} (h14 : T.2.2.2.2 0 14 = some s) (h5 : T.2.2.1 s 5 = S.2.1 10 4) (f6 : T.2.2.2.2 0 6 = some 242) (h1 : c1 < 144) (h2 : c2 < 144) (hp : 2 ≤ p.toInt) (hR : HR T S dl (fun m => S.2.1 17 (12 * c1 + m))) (hQ : HR T S dm (fun m => S.2.1 17 (12 * c2 + m))) (hr : ∀ k, 0 ≤ (S.2.1 17 k).toInt ∧ (S.2.1 17 k).toInt ≤ 65535) : ∀ (f g i : Nat) {most : Int32}, i ≤ 12 → 0 ≤ most.toInt → g_X11_confusion_b28 f T 0 p dl dm most (nI i) = some (r1, T1) → fr_confusion_b6 g S (nI c1) (nI c2) p most (nI i) = some (r2, S1) → r1 = r2 ∧ S1 = S := by
  intro f
  induction f with
  | zero => intro g i most _ _ hg _; cases hg
  | succ f ih =>
    intro g i most hi hmo hg hf
    cases g with
    | zero => cases hf
    | succ g =>
      have iI : (nI i).toInt = (i : Int) := nI_toInt (by omega)
      have p4 := hR.2.1
      unfold g_X11_confusion_b28 at hg
      unfold fr_confusion_b6 at hf
      obtain ⟨-, hg⟩ := oif_some hg
      obtain ⟨n3, en, hg⟩ := obind_some hg
      rw [h14] at en
      cases en
      obtain ⟨-, hg⟩ := oif_some hg
      obtain ⟨v5, e5, hg⟩ := elet_some hg
      rw [h5] at e5
      obtain ⟨v2, e2, hf⟩ := elet_some hf
      have ev : v2 = v5 := e2.trans e5.symm
      rw [ev] at hf
      rcases oif_or hg with ⟨c, hg⟩ | ⟨c, hg⟩
      · rw [if_pos c] at hf
        rw [← (osome2 hg).1, ← (osome2 hf).1, ← (osome2 hf).2]
        exact ⟨rfl, rfl⟩
      · rw [if_neg c] at hf
        have c := i_nle c
        rw [e5] at c
        exact k_conf_in (D := fun _ => 0) (E := fun _ => 0) h14 h5 f6 h1 h2 (by omega) hp hR hQ hr (fun {most} a b d => ih g (i + 1) (by omega) a b d) 16384 16384 0 (by decide) hmo (by decide) (by decide) (fun _ => rfl) (fun _ => rfl) hg hf
theorem r2h_alias {a0 a1 a2 : Int32} (hV : IV aR0 1586 aK1 aK2 T) (hJ : JJ S) (h : R2 T S) (hg : g_X11_alias T 0 a0 a1 a2 = some (k1, r1, T1)) (hf : fr_alias S a0 a1 a2 = some (r2, S1)) : S1.1 0 = vck 1 2 3 k1 ∧ (vck 1 2 3 k1 = 0 → k1 = 0 ∧ r1 = r2) := by
  have z2 : (2 : Int32).toInt = 2 := by decide
  have z99 : (99 : Int32).toInt = 99 := by decide
  have no : ∀ {w : Int32}, (∀ {r : Int32} {U : MS} {x : Int32}, fr_mayAsk S x = some (r, U) → (x = 0 ∨ S.1 20 = 0) → U = mi S 0 w ∧ r = 0) → ∀ {x : Int32}, (x = 0 ∨ S.1 20 = 0) → fr_alias_b22 S x a0 a1 a2 = some (r2, S1) → S1.1 0 = w := by
    intro w ha x hx hf
    unfold fr_alias_b22 at hf
    obtain ⟨r5, S2, f5, hf⟩ := obind2_some hf
    obtain ⟨e, er⟩ := ha f5 hx
    rw [if_pos er] at hf
    rw [← (osome2 hf).2, e, mi_at]
  unfold fr_alias at hf
  obtain ⟨r5, S2, f5, hf⟩ := obind2_some hf
  have eS := (r_cell f5).1
  rw [eS] at hf
  unfold g_X11_alias at hg
  obtain ⟨-, hg⟩ := oif_some hg
  rcases othr_k hg with ⟨rc, gc, hc⟩ | ⟨rc, Tc, gc, hg⟩
  · obtain ⟨-, ⟨q, -⟩ | ⟨q, q20⟩⟩ := p_cam h.1 gc
    · exact absurd q hc
    · have nn := @no 1 (fun {r U x} f _ => ask_0 q20 f)
      have e1 : S1.1 0 = 1 := by
        rcases oif_or hf with ⟨-, hf⟩ | ⟨-, hf⟩
        · unfold fr_alias_b21 at hf
          exact nn (.inr q20) hf
        · obtain ⟨r10, S7, f10, hf⟩ := obind2_some hf
          have e7 := (r_cell f10).1
          rw [e7] at hf
          rcases oif_or hf with ⟨-, hf⟩ | ⟨-, hf⟩
          · unfold fr_alias_b21 at hf
            exact nn (.inr q20) hf
          · exact nn (.inr q20) hf
      rw [q, e1]
      exact ⟨rfl, fun q => absurd q (by decide)⟩
  · obtain ⟨eT, ⟨-, q20⟩ | ⟨q, -⟩⟩ := p_cam h.1 gc
    case inr => exact absurd q (by decide)
    rw [eT] at hg
    have hP := r_pl hJ q20
    obtain ⟨p1, p2, p3, -⟩ := pl_cell hP
    have n20 : ¬ S.1 20 = 0 := by rw [q20]; decide
    have nn := @no 2 (fun {r U x} f hx => by
      rcases hx with hx | hx
      · subst hx; exact ask_2 q20 f
      · exact absurd hx n20)
    obtain ⟨-, hg⟩ := oif_some hg
    rcases othr_k hg with ⟨rc2, gc2, hc⟩ | ⟨rc2, Tc2, gc2, hg⟩
    · obtain ⟨-, ⟨q, -⟩ | ⟨q, qc⟩⟩ := p_cell h.1 q20 gc2
      · exact absurd q hc
      · rcases (q_cell hP f5).2 with ⟨-, z⟩ | ⟨z, -⟩
        · exact absurd z qc
        · rw [if_pos z] at hf
          unfold fr_alias_b21 at hf
          rw [q, nn (.inl rfl) hf]
          exact ⟨rfl, fun q => absurd q (by decide)⟩
    · obtain ⟨eT2, ⟨-, qc⟩ | ⟨q, -⟩⟩ := p_cell h.1 q20 gc2
      case inr => exact absurd q (by decide)
      rw [eT2] at hg
      rcases (q_cell hP f5).2 with ⟨z, -⟩ | ⟨-, z⟩
      case inr => exact absurd qc z
      rw [if_neg (by rw [z]; decide)] at hf
      obtain ⟨r10, S7, f10, hf⟩ := obind2_some hf
      obtain ⟨e7, q10⟩ := q_cell hP f10
      rw [e7] at hf
      obtain ⟨-, hg⟩ := oif_some hg
      rcases othr_k hg with ⟨rc3, gc3, hc⟩ | ⟨rc3, Tc3, gc3, hg⟩
      · obtain ⟨-, ⟨q, -⟩ | ⟨q, qd⟩⟩ := p_cell h.1 q20 gc3
        · exact absurd q hc
        · rcases q10 with ⟨-, z⟩ | ⟨z, -⟩
          · exact absurd z qd
          · rw [if_pos z] at hf
            unfold fr_alias_b21 at hf
            rw [q, nn (.inl rfl) hf]
            exact ⟨rfl, fun q => absurd q (by decide)⟩
      · obtain ⟨eT3, ⟨-, qd⟩ | ⟨q, -⟩⟩ := p_cell h.1 q20 gc3
        case inr => exact absurd q (by decide)
        rw [eT3] at hg
        rcases q10 with ⟨z, -⟩ | ⟨-, z⟩
        case inr => exact absurd qd z
        rw [if_neg (by rw [z]; decide)] at hf
        unfold fr_alias_b22 at hf
        obtain ⟨r5', S2', f5', hf⟩ := obind2_some hf
        obtain ⟨e, er⟩ := ask_1 q20 f5'
        rw [if_neg (by rw [er]; decide)] at hf
        obtain ⟨r7, f7, hf⟩ := obind_some hf
        unfold fr_isPeriod at f7
        obtain ⟨w2, g2, f7⟩ := obind_some f7
        obtain ⟨-, f7⟩ := oif_some f7
        have q7 := q_in g2
        rw [osome1 f7] at q7
        rcases othr_k hg with ⟨rc4, gc4, hc⟩ | ⟨rc4, Tc4, gc4, hg⟩
        · obtain ⟨-, ⟨q, -⟩ | ⟨q, qe⟩⟩ := c_rng gc4
          · exact absurd q hc
          · rcases q7 with ⟨-, z⟩ | ⟨z, -⟩
            · exact absurd z qe
            · rw [if_pos z] at hf
              obtain ⟨r13, S10, f10', hf⟩ := obind2_some hf
              unfold fr_alias_b52 at hf
              rw [q, ← (osome2 hf).2, r_thr f10', mi_at]
              exact ⟨rfl, fun q => absurd q (by decide)⟩
        · obtain ⟨eT4, ⟨-, qe⟩ | ⟨q, -⟩⟩ := c_rng gc4
          case inr => exact absurd q (by decide)
          rw [eT4] at hg
          rcases q7 with ⟨z, -⟩ | ⟨-, z⟩
          case inr => exact absurd qe z
          rw [if_neg (by rw [z]; decide)] at hf
          obtain ⟨r17, S14, f14, hf⟩ := obind2_some hf
          unfold fr_alias_b52 at hf
          have f := osome2 hf
          obtain ⟨s, hs, h14, hF, b, -⟩ := r1_sce h.1 q20
          obtain ⟨c1, hc1, ec1⟩ := nI_of01 (x := a0) (a := 144) (by omega) (by omega) (by omega)
          obtain ⟨c2, hc2, ec2⟩ := nI_of01 (x := a1) (a := 144) (by omega) (by omega) (by omega)
          have kc1 : a0.toNatClampNeg = c1 := by rw [ec1]; exact nI_clamp (by omega)
          have kc2 : a1.toNatClampNeg = c2 := by rw [ec2]; exact nI_clamp (by omega)
          have cI1 : a0.toInt = (c1 : Int) := by rw [ec1]; exact nI_toInt (by omega)
          have cI2 : a1.toInt = (c2 : Int) := by rw [ec2]; exact nI_toInt (by omega)
          have hR := hr_of hP q20 h h14 (c := c1) (by omega)
          have hQ := hr_of hP q20 h h14 (c := c2) (by omega)
          obtain ⟨cm, -, x5, y4, -⟩ := b.2.1
          obtain ⟨-, hg⟩ := oif_some hg
          obtain ⟨r24, T22, g22, hg⟩ := obind2_some hg
          have g := osome3 hg
          have e7' : T.2.2.2.2 s 17 = some (s + 15) := by unfold SRF at hF; exact hF.2.2.2.2.2.2.2.1
          have e10 : ∀ c, c < 144 → T.2.2.2.2 (s + 15) c = some (s + 16 + c) := by unfold SRF at hF; exact hF.2.2.2.2.2.2.2.2.2.2.2.2.2.2
          unfold g_X11_confusion at g22
          obtain ⟨-, g22⟩ := oif_some g22
          obtain ⟨n3, en, g22⟩ := obind_some g22
          rw [h14] at en
          cases en
          obtain ⟨-, g22⟩ := oif_some g22
          obtain ⟨n5, en, g22⟩ := obind_some g22
          rw [e7'] at en
          cases en
          obtain ⟨-, g22⟩ := oif_some g22
          obtain ⟨-, g22⟩ := oif_some g22
          obtain ⟨n8, en, g22⟩ := obind_some g22
          rw [kc1, e10 _ hc1] at en
          cases en
          obtain ⟨-, g22⟩ := oif_some g22
          obtain ⟨n10, en, g22⟩ := obind_some g22
          rw [h14] at en
          cases en
          obtain ⟨-, g22⟩ := oif_some g22
          obtain ⟨n12, en, g22⟩ := obind_some g22
          rw [e7'] at en
          cases en
          obtain ⟨-, g22⟩ := oif_some g22
          obtain ⟨-, g22⟩ := oif_some g22
          obtain ⟨n15, en, g22⟩ := obind_some g22
          rw [kc2, e10 _ hc2] at en
          cases en
          unfold fr_confusion at f14
          rw [ec1, ec2] at f14
          have q := k_conf (S := S2') (s := s) (dl := s + 16 + c1) (dm := s + 16 + c2) h14 (by rw [e]; exact x5.trans y4.symm) (c_fld h.1.1).2.1 hc1 hc2 (by omega) (by rw [e]; exact hR) (by rw [e]; exact hQ) (fun k => by rw [e]; exact (jj_ib hJ).2.2.2.2.2.2.1 k) 16384 16384 0 (by decide) (by decide) g22 f14
          rw [← g.1, ← g.2.1, ← f.1, ← f.2, q.2, e, mi_at]
          exact ⟨rfl, fun _ => ⟨rfl, q.1⟩⟩
end
