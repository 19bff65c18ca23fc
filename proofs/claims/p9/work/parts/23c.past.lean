/-! what is kept for undo: the reference's rows and the class's ring -/
section
variable {T T1 : AT} {S S1 : MS}
theorem nI_mulk (a b : Nat) : nI a * nI b = nI (a * b) := (Int32.ofNat_mul a b).symm
theorem x_b54 {u : Nat} (hu : u ≤ 5) (e19 : S.1 19 = nI u) (h : fr_remember_b54 S = some S1) : S1.1 19 = nI (u + 1) ∧ ∀ x, S1.2.1 15 x = if 2455 * u ≤ x ∧ x < 2455 * u + 2455 then S.2.1 12 (x - 2455 * u) else S.2.1 15 x := by
  unfold fr_remember_b54 at h
  obtain ⟨v2, e2, h⟩ := elet_some h
  obtain ⟨v3, e3, h⟩ := elet_some h
  obtain ⟨S4, f4, h⟩ := obind_some h
  obtain ⟨v7, e7, h⟩ := elet_some h
  obtain ⟨v8, e8, h⟩ := elet_some h
  obtain ⟨S9, e9, h⟩ := elet_some h
  have k3 : v3 = nI (2455 * u) := by rw [e3, e2, e19]; exact nI_mulk 2455 u
  rw [k3] at f4
  have x4 := x_copy_12_15 (o1 := 0) (o3 := 2455 * u) (by decide) (by omega) f4
  have k4 := (w_fr_copy_12_15 f4).1 19 (by decide)
  rw [← osome1 h, e9]
  refine ⟨?_, fun x => ?_⟩
  · rw [mi_at, e8, e7, k4, e19, nI_p1]
  · rw [show (mi S4 19 v8).2.1 15 x = S4.2.1 15 x from rfl, x4 x, Nat.zero_add]
theorem x_b13 {S0 : MS} (h19 : S0.1 19 = nI 6) : ∀ (f l : Nat) {S : MS}, 2455 ≤ l → l ≤ 14730 → S.1 19 = nI 6 → S.2.1 12 = S0.2.1 12 → (∀ x, S.2.1 15 x = if x + 2455 < l then S0.2.1 15 (x + 2455) else S0.2.1 15 x) → fr_remember_b13 f S (nI l) = some S1 → S1.1 19 = nI 6 ∧ (∀ k, k < 2455 → S1.2.1 15 (2455 * 5 + k) = S0.2.1 12 k) ∧ ∀ j k, j < 5 → k < 2455 → S1.2.1 15 (2455 * j + k) = S0.2.1 15 (2455 * (j + 1) + k) := by
  intro f
  induction f with
  | zero => intro l S hl0 hl e19 hA hB h; cases h
  | succ f ih =>
    intro l S hl0 hl e19 hA hB h
    unfold fr_remember_b13 at h
    by_cases c : l = 14730
    · subst c
      rw [if_pos (show (14730 : Int32) ≤ nI 14730 from by decide)] at h
      obtain ⟨v3, e3, h⟩ := elet_some h
      obtain ⟨v4, e4, h⟩ := elet_some h
      obtain ⟨S5, e5, h⟩ := elet_some h
      have e5' : S5.1 19 = nI 5 := by rw [e5, mi_at, e4, e3, e19]; decide
      obtain ⟨a, b⟩ := x_b54 (u := 5) (by decide) e5' h
      refine ⟨a, fun k hk => ?_, fun j k hj hk => ?_⟩
      · rw [b, if_pos (by omega), e5, show (mi S 19 v4).2.1 12 = S.2.1 12 from rfl, hA, show 2455 * 5 + k - 2455 * 5 = k from by omega]
      · rw [b, if_neg (by omega), e5, show (mi S 19 v4).2.1 15 = S.2.1 15 from rfl, hB, if_pos (by omega), show 2455 * j + k + 2455 = 2455 * (j + 1) + k from by omega]
    · rw [if_neg (fun q => c (by have := (nI_leI (a := 14730) (by decide) (by omega)).mp q; omega))] at h
      obtain ⟨v6, e6, h⟩ := elet_some h
      obtain ⟨-, h⟩ := oif_some h
      obtain ⟨v8, e8, h⟩ := elet_some h
      obtain ⟨-, h⟩ := oif_some h
      obtain ⟨S10, e10, h⟩ := elet_some h
      obtain ⟨v11, e11, h⟩ := elet_some h
      have kl : (nI l).toNatClampNeg = l := nI_clamp (by omega)
      have z : (2455 : Int32).toInt = 2455 := by decide
      have lI : (nI l).toInt = (l : Int) := nI_toInt (by omega)
      have q6 := i_sub e6 (by omega) (by omega)
      have k6 : v6.toNatClampNeg = l - 2455 := by
        have := i_cl (i := v6) (by omega)
        omega
      rw [show v11 = nI (l + 1) from e11.trans (nI_p1 l)] at h
      refine ih (l + 1) (by omega) (by omega) (by rw [e10]; exact e19) (by rw [e10, mf_ne (by decide)]; exact hA) (fun x => ?_) h
      rw [e10, mf_at, k6]
      show (if x = l - 2455 then v8 else S.2.1 15 x) = _
      by_cases q : x = l - 2455
      · rw [if_pos q, if_pos (by omega), e8, kl, hB, if_neg (by omega), show x + 2455 = l from by omega]
      · rw [if_neg q, hB]
        by_cases p : x + 2455 < l
        · rw [if_pos p, if_pos (by omega)]
        · rw [if_neg p, if_neg (by omega)]
/-- the reference keeps one more state, of six the last six -/
theorem x_remember {u : Nat} (hu : u ≤ 6) (e19 : S.1 19 = nI u) (h : fr_remember S = some S1) : ∃ v, (u ≤ 5 ∧ v = u + 1 ∨ u = 6 ∧ v = 6) ∧ S1.1 19 = nI v ∧ (∀ k, k < 2455 → S1.2.1 15 (2455 * (v - 1) + k) = S.2.1 12 k) ∧ ∀ j k, j + 1 < v → k < 2455 → S1.2.1 15 (2455 * j + k) = S.2.1 15 (2455 * (j + (u + 1 - v)) + k) := by
  unfold fr_remember at h
  obtain ⟨v2, e2, h⟩ := elet_some h
  by_cases c : u = 6
  · subst c
    rw [if_pos (show v2 = 6 from e2.trans e19)] at h
    obtain ⟨a, b, d⟩ := x_b13 e19 16384 2455 (by decide) (by decide) e19 rfl (fun x => (if_neg (by omega)).symm) h
    exact ⟨6, .inr ⟨rfl, rfl⟩, a, b, fun j k hj hk => d j k (by omega) hk⟩
  · rw [if_neg (fun q => c (by
      have := (nI_eq (a := u) (b := 6) (by omega) (by decide)).mp (e19.symm.trans (e2.symm.trans q))
      exact this))] at h
    obtain ⟨a, b⟩ := x_b54 (u := u) (by omega) e19 h
    refine ⟨u + 1, .inl ⟨by omega, rfl⟩, a, fun k hk => ?_, fun j k hj hk => ?_⟩
    · rw [b, if_pos (by omega), show 2455 * (u + 1 - 1) + k - 2455 * u = k from by omega]
    · rw [b, if_neg (by omega), show u + 1 - (u + 1) = 0 from by omega, Nat.add_zero]
theorem r_nw1 : (List.range 6).all (fun w => decide (nI w + 1 - (nI w + 1) / 6 * 6 = nI ((w + 1) % 6))) = true := by decide +kernel
theorem r_nw5 : (List.range 6).all (fun w => decide (nI w + 6 - 1 - (nI w + 6 - 1) / 6 * 6 = nI ((w + 5) % 6))) = true := by decide +kernel
set_option maxRecDepth 100000 in
theorem cam_dec : okc 430 = true ∧ okc 431 = true ∧ okc 432 = true ∧ aR0 430 = 47 ∧ aR0 431 = 48 ∧ aR0 432 = 49 ∧ aR0 66 = 4 ∧ (arf 0).getD 4 none = some 66 ∧ (arf 0).getD 6 none = some 242 ∧ (arf 0).getD 7 none = some 336 ∧ (arf 0).getD 8 none = some 430 ∧ (arf 0).getD 9 none = some 431 ∧ (arf 0).getD 10 none = some 432 ∧ (List.range 6).all (fun i => decide ((arf 430).getD i none = some (834 + 94 * i))) = true ∧ (List.range 2).all (fun i => decide ((arf 431).getD i none = some (1398 + 94 * i))) = true := by decide +kernel
theorem c_fld (hc : CRF T) : T.2.2.2.2 0 4 = some 66 ∧ T.2.2.2.2 0 6 = some 242 ∧ T.2.2.2.2 0 7 = some 336 ∧ T.2.2.2.2 0 8 = some 430 ∧ T.2.2.2.2 0 9 = some 431 ∧ T.2.2.2.2 0 10 = some 432 ∧ (∀ i, i < 6 → T.2.2.2.2 430 i = some (834 + 94 * i)) ∧ ∀ i, i < 2 → T.2.2.2.2 431 i = some (1398 + 94 * i) := by
  obtain ⟨o1, o2, -, -, -, -, -, a4, a6, a7, a8, a9, a10, ap, as⟩ := cam_dec
  have f := fun k (h1 : k ≠ 14) (h2 : k ≠ 15) => hc.2.1 k h1 h2
  exact ⟨(f 4 (by decide) (by decide)).trans a4, (f 6 (by decide) (by decide)).trans a6, (f 7 (by decide) (by decide)).trans a7, (f 8 (by decide) (by decide)).trans a8, (f 9 (by decide) (by decide)).trans a9, (f 10 (by decide) (by decide)).trans a10, fun i hi => (hc.at 430 o1 i).trans (of_decide_eq_true (a_fin (p := fun i => decide ((arf 430).getD i none = some (834 + 94 * i))) ap hi)), fun i hi => (hc.at 431 o2 i).trans (of_decide_eq_true (a_fin (p := fun i => decide ((arf 431).getD i none = some (1398 + 94 * i))) as hi))⟩
theorem past_in {i : Nat} (h : i < 6) : 834 + 94 * i ∈ sds := by
  rcases (show i = 0 ∨ i = 1 ∨ i = 2 ∨ i = 3 ∨ i = 4 ∨ i = 5 by omega) with q | q | q | q | q | q <;> subst q <;> decide
theorem slot_in {i : Nat} (h : i < 2) : 1398 + 94 * i ∈ sds := by
  rcases (show i = 0 ∨ i = 1 by omega) with q | q <;> subst q <;> decide
/-- the class keeps one more state: where, and what is changed besides -/
theorem c_keepu {u w : Nat} (hc : CRF T) (hV : IV aR0 1586 aK1 aK2 T) (hu : u ≤ 6) (hw : w ≤ 5) (e16 : T.2.2.1 0 16 = nI u) (e17 : T.2.2.1 0 17 = nI w) (h : g_X11_keepForUndo T 0 = some T1) : ∃ U, CPd (834 + 94 * ((w + 1) % 6)) 242 T U ∧ T1.2.2.1 0 16 = nI (if u = 6 then 6 else u + 1) ∧ T1.2.2.1 0 17 = nI ((w + 1) % 6) ∧ ∀ m k, m ≠ 0 → m ≠ 66 → T1.2.2.1 m k = U.2.2.1 m k := by
  obtain ⟨c4, c6, -, c8, -, -, cp, -⟩ := c_fld hc
  obtain ⟨-, -, -, -, -, -, r66, -⟩ := cam_dec
  have r0 := rrole.2.2.2
  have w6 : (w + 1) % 6 < 6 := Nat.mod_lt _ (by decide)
  unfold g_X11_keepForUndo at h
  obtain ⟨-, h⟩ := oif_some h
  obtain ⟨v3, d3, h⟩ := elet_some h
  obtain ⟨v4, d4, h⟩ := elet_some h
  obtain ⟨v5, d5, h⟩ := elet_some h
  obtain ⟨-, h⟩ := oif_some h
  obtain ⟨T7, d7, h⟩ := elet_some h
  have k5 : v5 = nI ((w + 1) % 6) := by
    rw [d5, d4, d3, e17]
    exact of_decide_eq_true (a_fin (p := fun w => decide (nI w + 1 - (nI w + 1) / 6 * 6 = nI ((w + 1) % 6))) r_nw1 (by omega))
  have I7 : IA T T7 := by
    rw [d7]
    refine ia_uI ⟨rfl, hV⟩ r0 (by decide) (by decide) (rfl : iR 11 17 = (0, 5)) ?_ (.inl rfl)
    rw [k5, nI_toInt (by omega)]
    omega
  have hc7 := crf_eq hc I7.1
  obtain ⟨-, h⟩ := oif_some h
  obtain ⟨n9, en, h⟩ := obind_some h
  rw [I7.1, c8] at en
  cases en
  obtain ⟨-, h⟩ := oif_some h
  obtain ⟨v11, d11, h⟩ := elet_some h
  have k11 : v11 = nI ((w + 1) % 6) := by rw [d11, d7, ui_at]; exact k5
  obtain ⟨-, h⟩ := oif_some h
  obtain ⟨-, h⟩ := oif_some h
  obtain ⟨n14, en, h⟩ := obind_some h
  rw [I7.1, k11, nI_clamp (by omega), cp _ w6] at en
  cases en
  obtain ⟨-, h⟩ := oif_some h
  obtain ⟨n16, en, h⟩ := obind_some h
  rw [I7.1, c6] at en
  cases en
  obtain ⟨-, h⟩ := oif_some h
  obtain ⟨T18, g18, h⟩ := obind_some h
  have cp18 := c_stcopy hc7 I7.2 (past_in w6) (show 242 ∈ sds from by decide) (by omega) g18
  have hc18 : CRF T18 := crf_gr hc7 I7.2 (sr_X8_copyFrom g18)
  have c4' := (c_fld hc18).1
  obtain ⟨p1, p2, p3, p4⟩ := cp18
  have o0 : ∀ k, T18.2.2.1 0 k = T7.2.2.1 0 k := fun k => p4 0 k (.inl (by omega)) (by rw [r0]; rfl)
  have q7 : ∀ m k, m ≠ 0 → T7.2.2.1 m k = T.2.2.1 m k := fun m k hm => by rw [d7, ui_ne (.inl hm)]
  obtain ⟨X, hX0, hX⟩ : ∃ X : AT, (∀ k, X.2.2.1 0 k = T.2.2.1 0 k) ∧ ∀ m k, m ≠ 0 → X.2.2.1 m k = T18.2.2.1 m k := ⟨(T18.1, T18.2.1, fun m k => if m = 0 then T.2.2.1 0 k else T18.2.2.1 m k, T18.2.2.2), fun k => (show (if (0 : Nat) = 0 then T.2.2.1 0 k else T18.2.2.1 0 k) = _ from if_pos rfl), fun m k h => (show (if m = 0 then T.2.2.1 0 k else T18.2.2.1 m k) = _ from if_neg h)⟩
  have cpU : CPd (834 + 94 * ((w + 1) % 6)) 242 T X := by
    refine ⟨fun j hj => ?_, fun k hk => ?_, fun k hk => ?_, fun m k hm hw => ?_⟩
    · rw [hX _ _ (by omega), p1 j hj, q7 _ _ (by decide)]
    · rw [hX _ _ (by omega), hX _ _ (by omega), (p2 k hk).1, (p2 k hk).2, q7 _ _ (by decide), q7 _ _ (by decide)]
      exact ⟨rfl, rfl⟩
    · obtain ⟨s1, s2, s3, s4, s5⟩ := p3 k hk
      rw [hX _ _ (by omega), hX _ _ (by omega), hX _ _ (by omega), hX _ _ (by omega), hX _ _ (by omega), s1, s2, s3, s4, s5, q7 _ _ (by decide), q7 _ _ (by decide), q7 _ _ (by decide), q7 _ _ (by decide), q7 _ _ (by decide)]
      exact ⟨rfl, rfl, rfl, rfl, rfl⟩
    · by_cases q : m = 0
      · rw [q]; exact hX0 k
      · rw [hX m k q, p4 m k hm hw, q7 m k q]
  have last : ∀ {U T2 : AT}, U.2.2.2.2 = T18.2.2.2.2 → g_X11_keepForUndo_b48 U 0 = some T2 → T2 = uI U 66 0 0 := by
    intro U T2 hr h
    unfold g_X11_keepForUndo_b48 at h
    obtain ⟨-, h⟩ := oif_some h
    obtain ⟨n3, en, h⟩ := obind_some h
    rw [hr, c4'] at en
    cases en
    obtain ⟨-, h⟩ := oif_some h
    obtain ⟨T5, d5, h⟩ := elet_some h
    rw [← osome1 h, d5]
  unfold g_X11_keepForUndo_b29 at h
  obtain ⟨-, h⟩ := oif_some h
  obtain ⟨b3, f3, h⟩ := elet_some h
  have k3 : b3 = nI u := by rw [f3, o0, d7, ui_ne (.inr (by decide))]; exact e16
  refine ⟨_, cpU, ?_⟩
  by_cases c : u = 6
  · rw [if_pos (show (6 : Int32) ≤ b3 from by rw [k3, c]; decide)] at h
    have e := last rfl h
    rw [if_pos c]
    refine ⟨?_, ?_, fun m k h0 h66 => ?_⟩
    · rw [e, ui_ne (.inl (by decide)), ← f3, k3, c]
    · rw [e, ui_ne (.inl (by decide)), o0, d7, ui_at]; exact k5
    · rw [e, ui_ne (.inl h66), hX m k h0]
  · rw [if_neg (fun q => c (by rw [k3] at q; have := (nI_leI (a := 6) (by decide) (by omega)).mp q; omega))] at h
    obtain ⟨-, h⟩ := oif_some h
    obtain ⟨v6, f6, h⟩ := elet_some h
    obtain ⟨v7, f7, h⟩ := elet_some h
    obtain ⟨-, h⟩ := oif_some h
    obtain ⟨T9, f9, h⟩ := elet_some h
    have e := last (by rw [f9]; rfl) h
    rw [if_neg c]
    refine ⟨?_, ?_, fun m k h0 h66 => ?_⟩
    · rw [e, ui_ne (.inl (by decide)), f9, ui_at, f7, f6, ← f3, k3, nI_p1]
    · rw [e, ui_ne (.inl (by decide)), f9, ui_ne (.inr (by decide)), o0, d7, ui_at]; exact k5
    · rw [e, ui_ne (.inl h66), f9, ui_ne (.inl h0), hX m k h0]
end
