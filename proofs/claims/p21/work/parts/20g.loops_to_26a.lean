section
/-! 20g.loops.lean.txt -/
section
variable {b : Nat → Int32} {n c i k s : Nat} {T T1 : AT} {S S1 : MS} {r : Int32}
/-- a weight is added on both sides -/
theorem k_shd {a x : Int32} {j : Nat} {w : Nat} {S0 : MS} (hs : s = 478 ∨ s = 656) (hF : SRF s T) (hC : SCNq s T (S.2.1 11) (S.2.1 13)) (hj : S.2.1 11 118 = nI j) (hj2 : j < 12) (ha : g_X6_addShade T s a = some T1) (p : PRq b n c i T S) (e0 : S0 = mf S 11 (upd (S.2.1 11) (119 + j) a)) (e1 : S1 = mf S0 11 (upd (S0.2.1 11) 118 (nI (j + 1)))) : PRq b n c i T1 S1 ∧ SCNq s T1 (S1.2.1 11) (S1.2.1 13) ∧ T1.2.2.2.2 = T.2.2.2.2 ∧ S1.2.1 11 118 = nI (j + 1) := by
  obtain ⟨gH, gM, gG, gS, gW, gF, gT, gZ, ⟨mc, b1, b2, b3, b4⟩, gX⟩ := hC
  have ej : mc = j := by
    rw [hj] at b3
    exact ((nI_eq (by omega) (by omega)).mp b3).symm
  subst ej
  unfold g_X6_addShade at ha
  obtain ⟨-, ha⟩ := oif_some ha
  obtain ⟨v3, e3, ha⟩ := elet_some ha
  rw [b2] at e3
  rw [if_neg (by rw [e3]; intro q; have := (nI_leI (a := 12) (b := mc) (by omega) (by omega)).mp q; omega)] at ha
  obtain ⟨-, ha⟩ := oif_some ha
  obtain ⟨n6, e6, ha⟩ := obind_some ha
  rw [hF.2.2.2.2.2.2.1] at e6
  cases e6
  obtain ⟨-, ha⟩ := oif_some ha
  obtain ⟨v8, e8, ha⟩ := elet_some ha
  rw [b2] at e8
  obtain ⟨-, ha⟩ := oif_some ha
  obtain ⟨-, ha⟩ := oif_some ha
  obtain ⟨T11, e11, ha⟩ := elet_some ha
  rw [e8, nI_clamp (by omega)] at e11
  obtain ⟨-, ha⟩ := oif_some ha
  obtain ⟨v13, e13, ha⟩ := elet_some ha
  rw [e11, ui_ne (by omega), b2] at e13
  obtain ⟨v14, e14, ha⟩ := elet_some ha
  rw [e13, nI_1] at e14
  obtain ⟨-, ha⟩ := oif_some ha
  obtain ⟨T16, e16, ha⟩ := elet_some ha
  have ha := osome1 (show some T16 = some T1 from ha)
  rw [← ha]
  have hI : ∀ m' j : Nat, T16.2.2.1 m' j = if m' = s ∧ j = 16 then nI (mc + 1) else if m' = s + 14 ∧ j = mc then a else T.2.2.1 m' j := fun m' j => by rw [e16, ui_get, e14, e11, ui_get]
  have hP : ∀ x : Nat, S1.2.1 11 x = if x = 118 then nI (mc + 1) else if x = 119 + mc then a else S.2.1 11 x := fun x => by
    rw [e1, mf_at]
    show (if x = 118 then nI (mc + 1) else S0.2.1 11 x) = _
    rw [e0, mf_at]
    rfl
  have hD : ∀ x : Nat, S1.2.1 13 x = S.2.1 13 x := fun x => by rw [e1, mf_ne (by decide), e0, mf_ne (by decide)]
  have iN : ∀ m' j : Nat, (m' ≠ s ∨ j ≠ 16) → m' ≠ s + 14 → T16.2.2.1 m' j = T.2.2.1 m' j := fun m' j h1 h2 => by rw [hI, if_neg (by omega), if_neg (by omega)]
  have pN : ∀ x : Nat, x < 118 → S1.2.1 11 x = S.2.1 11 x := fun x hx => by rw [hP, if_neg (by omega), if_neg (by omega)]
  have p11 := pr_uI (m := s + 14) (k := mc) (v := a) p (by omega)
  rw [← e11] at p11
  have p16 := pr_uI (m := s) (k := 16) (v := v14) p11 (by omega)
  rw [← e16] at p16
  have q0 := pr_mf (a := 11) (f := upd (S.2.1 11) (119 + mc) a) p16 (by decide)
  rw [← e0] at q0
  have q1 := pr_mf (a := 11) (f := upd (S0.2.1 11) 118 (nI (mc + 1))) q0 (by decide)
  rw [← e1] at q1
  refine ⟨q1, ⟨gH.cg (fun j hj => iN _ _ (by omega) (by omega)) (fun j hj => pN _ (by omega)), gM.cg (iN _ _ (by omega) (by omega)) (fun m' j _ _ => iN _ _ (by omega) (by omega)) (fun j hj => pN _ (by omega)), gG.cg (fun k hk => iN _ _ (by omega) (by omega)) (fun k => iN _ _ (by omega) (by omega)) (fun j hj hj2 => pN _ (by omega)), gS.cg (iN _ _ (by omega) (by omega)) (fun m' j _ _ => iN _ _ (by omega) (by omega)) (fun j hj => pN _ (by omega)) (fun j _ _ => hD j), gW.cg (iN _ _ (by omega) (by omega)) (fun k => iN _ _ (by omega) (by omega)) (fun k => iN _ _ (by omega) (by omega)) (fun j hj hj2 => pN _ (by omega)), gF.cg (iN _ _ (by omega) (by omega)) (pN _ (by omega)), gT.cg (iN _ _ (by omega) (by omega)) (fun k => iN _ _ (by omega) (by omega)) (fun j hj hj2 => pN _ (by omega)), gZ.cg (iN _ _ (by omega) (by omega)) (fun m' j _ _ => iN _ _ (by omega) (by omega)) (fun j hj hj2 => pN _ (by omega)), ?_, fun j hj => (hD j).trans (gX j hj)⟩, ?_, ?_⟩
  · refine ⟨mc + 1, by omega, by rw [hI, if_pos ⟨rfl, rfl⟩], by rw [hP, if_pos rfl], fun k hk => ?_⟩
    have hA := hI (s + 14) k
    have hB := hP (119 + k)
    rw [if_neg (by omega)] at hA hB
    rw [hA, hB]
    by_cases e : k = mc
    · rw [if_pos ⟨rfl, e⟩, if_pos (by omega)]
    · rw [if_neg (by omega), if_neg (by omega)]
      exact b4 k (by omega)
  · rw [e16, e11]; rfl
  · rw [hP, if_pos rfl]
theorem k_tap {a : Int32} {j : Nat} {S0 : MS} (hs : s = 478 ∨ s = 656) (hF : SRF s T) (hC : SCNq s T (S.2.1 11) (S.2.1 13)) (hj : S.2.1 11 77 = nI j) (hj2 : j < 5) (ha : g_X6_addTap T s a = some T1) (p : PRq b n c i T S) (e0 : S0 = mf S 11 (upd (S.2.1 11) (78 + j) a)) (e1 : S1 = mf S0 11 (upd (S0.2.1 11) 77 (nI (j + 1)))) : PRq b n c i T1 S1 ∧ SCNq s T1 (S1.2.1 11) (S1.2.1 13) ∧ T1.2.2.2.2 = T.2.2.2.2 ∧ S1.2.1 11 77 = nI (j + 1) := by
  obtain ⟨gH, gM, gG, gS, gW, gF, ⟨mc, b1, b2, b3, b4⟩, gZ, gD, gX⟩ := hC
  have ej : mc = j := by
    rw [hj] at b3
    exact ((nI_eq (by omega) (by omega)).mp b3).symm
  subst ej
  unfold g_X6_addTap at ha
  obtain ⟨-, ha⟩ := oif_some ha
  obtain ⟨v3, e3, ha⟩ := elet_some ha
  rw [b2] at e3
  rw [if_neg (by rw [e3]; intro q; have := (nI_leI (a := 5) (b := mc) (by omega) (by omega)).mp q; omega)] at ha
  obtain ⟨-, ha⟩ := oif_some ha
  obtain ⟨n6, e6, ha⟩ := obind_some ha
  rw [hF.2.2.2.2.2.1] at e6
  cases e6
  obtain ⟨-, ha⟩ := oif_some ha
  obtain ⟨v8, e8, ha⟩ := elet_some ha
  rw [b2] at e8
  obtain ⟨-, ha⟩ := oif_some ha
  obtain ⟨-, ha⟩ := oif_some ha
  obtain ⟨T11, e11, ha⟩ := elet_some ha
  rw [e8, nI_clamp (by omega)] at e11
  obtain ⟨-, ha⟩ := oif_some ha
  obtain ⟨v13, e13, ha⟩ := elet_some ha
  rw [e11, ui_ne (by omega), b2] at e13
  obtain ⟨v14, e14, ha⟩ := elet_some ha
  rw [e13, nI_1] at e14
  obtain ⟨-, ha⟩ := oif_some ha
  obtain ⟨T16, e16, ha⟩ := elet_some ha
  have ha := osome1 (show some T16 = some T1 from ha)
  rw [← ha]
  have hI : ∀ m' j : Nat, T16.2.2.1 m' j = if m' = s ∧ j = 14 then nI (mc + 1) else if m' = s + 13 ∧ j = mc then a else T.2.2.1 m' j := fun m' j => by rw [e16, ui_get, e14, e11, ui_get]
  have hP : ∀ x : Nat, S1.2.1 11 x = if x = 77 then nI (mc + 1) else if x = 78 + mc then a else S.2.1 11 x := fun x => by
    rw [e1, mf_at]
    show (if x = 77 then nI (mc + 1) else S0.2.1 11 x) = _
    rw [e0, mf_at]
    rfl
  have hD : ∀ x : Nat, S1.2.1 13 x = S.2.1 13 x := fun x => by rw [e1, mf_ne (by decide), e0, mf_ne (by decide)]
  have iN : ∀ m' j : Nat, (m' ≠ s ∨ j ≠ 14) → m' ≠ s + 13 → T16.2.2.1 m' j = T.2.2.1 m' j := fun m' j h1 h2 => by rw [hI, if_neg (by omega), if_neg (by omega)]
  have pN : ∀ x : Nat, x < 77 ∨ 83 ≤ x → S1.2.1 11 x = S.2.1 11 x := fun x hx => by rw [hP, if_neg (by omega), if_neg (by omega)]
  have p11 := pr_uI (m := s + 13) (k := mc) (v := a) p (by omega)
  rw [← e11] at p11
  have p16 := pr_uI (m := s) (k := 14) (v := v14) p11 (by omega)
  rw [← e16] at p16
  have q0 := pr_mf (a := 11) (f := upd (S.2.1 11) (78 + mc) a) p16 (by decide)
  rw [← e0] at q0
  have q1 := pr_mf (a := 11) (f := upd (S0.2.1 11) 77 (nI (mc + 1))) q0 (by decide)
  rw [← e1] at q1
  refine ⟨q1, ⟨gH.cg (fun j hj => iN _ _ (by omega) (by omega)) (fun j hj => pN _ (by omega)), gM.cg (iN _ _ (by omega) (by omega)) (fun m' j _ _ => iN _ _ (by omega) (by omega)) (fun j hj => pN _ (by omega)), gG.cg (fun k hk => iN _ _ (by omega) (by omega)) (fun k => iN _ _ (by omega) (by omega)) (fun j hj hj2 => pN _ (by omega)), gS.cg (iN _ _ (by omega) (by omega)) (fun m' j _ _ => iN _ _ (by omega) (by omega)) (fun j hj => pN _ (by omega)) (fun j _ _ => hD j), gW.cg (iN _ _ (by omega) (by omega)) (fun k => iN _ _ (by omega) (by omega)) (fun k => iN _ _ (by omega) (by omega)) (fun j hj hj2 => pN _ (by omega)), gF.cg (iN _ _ (by omega) (by omega)) (pN _ (by omega)), ?_, gZ.cg (iN _ _ (by omega) (by omega)) (fun m' j _ _ => iN _ _ (by omega) (by omega)) (fun j hj hj2 => pN _ (by omega)), gD.cg (iN _ _ (by omega) (by omega)) (fun k => iN _ _ (by omega) (by omega)) (fun j hj hj2 => pN _ (by omega)), fun j hj => (hD j).trans (gX j hj)⟩, ?_, ?_⟩
  · refine ⟨mc + 1, by omega, by rw [hI, if_pos ⟨rfl, rfl⟩], by rw [hP, if_pos rfl], fun k hk => ?_⟩
    have hA := hI (s + 13) k
    have hB := hP (78 + k)
    rw [if_neg (by omega)] at hA hB
    rw [hA, hB]
    by_cases e : k = mc
    · rw [if_pos ⟨rfl, e⟩, if_pos (by omega)]
    · rw [if_neg (by omega), if_neg (by omega)]
      exact b4 k (by omega)
  · rw [e16, e11]; rfl
  · rw [hP, if_pos rfl]
/-- more than fit: the number is out of its bounds, or there are too many -/
theorem k_many {a : Int32} {S2 S3 : MS} (ha : a = 9) (p : PRq b n c i T S) (hg : g_X3_failAsTooMany T 6 a = some (k, r, T1)) (h2 : kd b n (pst b n i) = 2 ∧ (∃ w, fr_look S 0 9 = some (w, S2)) ∨ kd b n (pst b n i) ≠ 2 ∧ S2 = S) (h3 : fr_faults S2 4 = some S3) : k = 3 ∧ ERq T1 S3 := by
  subst ha
  have h11 := p.1.2.2.2.2.2
  have h10 := p.1.2.2.2.2.1
  have q5 := p.2.2.1
  have qt := p.2.2.2.2.2.2.2
  unfold g_X3_failAsTooMany at hg
  obtain ⟨-, hg⟩ := oif_some hg
  obtain ⟨v3, e3, hg⟩ := elet_some hg
  rw [h11] at e3
  obtain ⟨-, hg⟩ := oif_some hg
  obtain ⟨r7, T5, e7, hg⟩ := obind2_some hg
  obtain ⟨k1, k2⟩ := k_kind p e7
  rw [k2] at hg
  have b26 : ∀ {e : Int32} {Sx : MS}, 0 < e.toInt → fr_faults S e = some Sx → g_X3_failAsTooMany_b26 T e v3 6 = some (k, r, T1) → k = 3 ∧ ERq T1 Sx := by
    intro e Sx he hf hg
    unfold g_X3_failAsTooMany_b26 at hg
    obtain ⟨-, hg⟩ := oif_some hg
    rw [e3] at hg
    rcases othr_k hg with ⟨r9, g9, -⟩ | ⟨r9, T9, g9, -⟩
    · exact k_err p h10 rfl he g9 hf
    · exact absurd (k_err p h10 rfl he g9 hf).1 (by decide)
  rcases h2 with ⟨ck, w, hl⟩ | ⟨ck, e⟩
  · rw [if_pos (k1.trans ck)] at hg
    obtain ⟨-, hg⟩ := oif_some hg
    obtain ⟨r13, T11, e13, hg⟩ := obind2_some hg
    obtain ⟨k3, k4⟩ := k_value p e13
    rw [k4] at hg
    unfold fr_look at hl
    obtain ⟨w2, d2, hl⟩ := elet_some hl
    rw [if_pos (by rw [d2, q5]; decide)] at hl
    obtain ⟨w4, d4, hl⟩ := elet_some hl
    rw [if_pos (d4.trans ((tk_num qt).mpr ck))] at hl
    obtain ⟨w6, d6, hl⟩ := elet_some hl
    rw [(qt.2.2.1 ck).2, ← k3] at d6
    obtain ⟨w7, d7, hl⟩ := obind_some hl
    rw [d6] at d7
    have v0 : 0 ≤ r13 := by rw [k3]; exact vf_pos p ck
    rcases tin2 d7 with ⟨c7, c8, c9⟩ | ⟨c7, c8⟩
    · rw [if_pos c9] at hg
      rw [if_neg (by rw [c7]; decide)] at hl
      unfold fr_look_b42 at hl
      obtain ⟨w8, d8, hl⟩ := elet_some hl
      rw [if_pos (by rw [d8, q5]; decide)] at hl
      obtain ⟨w9, d9, hl⟩ := elet_some hl
      have g5 := osome2 (show some (w9, S) = some (w, S2) from hl)
      rw [← g5.2] at h3
      exact b26 (by decide) h3 hg
    · rw [if_neg (fun q => c8 ⟨v0, q⟩)] at hg
      rw [if_pos c7] at hl
      obtain ⟨S10, f10, hl⟩ := obind_some hl
      obtain ⟨a1, a2⟩ := b26 (by decide) f10 hg
      unfold fr_look_b42 at hl
      obtain ⟨w8, d8, hl⟩ := elet_some hl
      rw [if_neg (st_le a2.1 d8)] at hl
      have g5 := osome2 (show some ((0 : Int32), S10) = some (w, S2) from hl)
      rw [← g5.2] at h3
      rw [st_faults a2.1 h3]
      exact ⟨a1, a2⟩
  · rw [if_neg (fun q => ck (k1.symm.trans q))] at hg
    rw [e] at h3
    exact b26 (by decide) h3 hg
theorem st_shade {U : MS} {l : Int32} {kk : MS → Option MS} (q : 0 < (U.1 5).toInt) (hf : fr_readShade_b44 kk U l = some S1) : S1 = U := by
  unfold fr_readShade_b44 at hf
  obtain ⟨U2, f2, hf⟩ := obind_some hf
  rw [st_next q f2] at hf
  obtain ⟨v5, e5, hf⟩ := elet_some hf
  rw [if_neg (st_le q e5)] at hf
  exact (osome1 hf).symm
theorem st_filt {U : MS} {kk : MS → Option MS} (q : 0 < (U.1 5).toInt) (hf : fr_readFilter_b65 kk U = some S1) : S1 = U := by
  unfold fr_readFilter_b65 at hf
  obtain ⟨w5, U2, f2, hf⟩ := obind2_some hf
  rw [st_signed q f2] at hf
  obtain ⟨v5, e5, hf⟩ := elet_some hf
  rw [if_neg (st_le q e5)] at hf
  exact (osome1 hf).symm
/-- the weights behind the first one -/
theorem k_shl (hs : s = 478 ∨ s = 656) : ∀ (f f2 : Nat) {i j k : Nat} {r : Int32} {T T1 : AT} {S S1 : MS}, PRq b n c i T S → SRF s T → SCNq s T (S.2.1 11) (S.2.1 13) → S.2.1 11 118 = nI j → 1 ≤ j → j ≤ 12 → g_X3_parseShade_b30 f T 6 s (nI j) = some (k, r, T1) → (elet (S.1 7) fun v14 => if v14 = 3 then (fr_readShade_b19 f2 S) else (some S)) = some S1 → (k = 0 ∧ (∃ j, i ≤ j ∧ PRq b n c j T1 S1) ∧ SCNq s T1 (S1.2.1 11) (S1.2.1 13) ∧ T1.2.2.2.2 = T.2.2.2.2) ∨ (k = 3 ∧ ERq T1 S1) := by
  intro f
  induction f with
  | zero => intro f2 i j k r T T1 S S1 p hF hC hj h1 h12 hg hf; cases hg
  | succ f ih =>
    intro f2 i j k r T T1 S S1 p hF hC hj h1 h12 hg hf
    have qt := p.2.2.2.2.2.2.2
    unfold g_X3_parseShade_b30 at hg
    rw [if_neg (by intro q; have := (nI_ltI (a := 12) (b := j) (by omega) (by omega)).mp q; omega)] at hg
    obtain ⟨-, hg⟩ := oif_some hg
    obtain ⟨r6, T4, e6, hg⟩ := obind2_some hg
    obtain ⟨k1, k2⟩ := k_kind p e6
    rw [k2] at hg
    obtain ⟨v14, e14, hf⟩ := elet_some hf
    by_cases ck : kd b n (pst b n i) = 2
    · rw [if_pos (k1.trans ck)] at hg
      rw [if_pos (e14.trans ((tk_num qt).mpr ck))] at hf
      cases f2 with
      | zero => cases hf
      | succ f2 =>
        unfold fr_readShade_b19 at hf
        obtain ⟨r5, S2, fS2, hf⟩ := obind2_some hf
        obtain ⟨v6, e6', hf⟩ := elet_some hf
        by_cases c12 : j = 12
        · rw [if_pos (by rw [c12]; rfl)] at hg
          obtain ⟨-, hg⟩ := oif_some hg
          have p118 : S2.2.1 11 118 = S.2.1 11 118 := by
            have := (w_fr_look fS2).2 11 (by decide)
            rw [this]
          rw [if_pos (by rw [e6', p118, hj, c12]; rfl)] at hf
          obtain ⟨S8, f8, hf⟩ := obind_some hf
          right
          rcases othr_k hg with ⟨r9, g9, -⟩ | ⟨r9, T9, g9, -⟩
          · obtain ⟨a1, a2⟩ := k_many rfl p g9 (.inl ⟨ck, r5, fS2⟩) f8
            rw [st_shade a2.1 hf]
            exact ⟨a1, a2⟩
          · exact absurd (k_many rfl p g9 (.inl ⟨ck, r5, fS2⟩) f8).1 (by decide)
        · rw [if_neg (by intro q; exact c12 ((nI_eq (a := j) (b := 12) (by omega) (by decide)).mp q))] at hg
          unfold g_X3_parseShade_b56 at hg
          obtain ⟨-, hg⟩ := oif_some hg
          have p118 : S2.2.1 11 118 = S.2.1 11 118 := by
            have := (w_fr_look fS2).2 11 (by decide)
            rw [this]
          rw [if_neg (by rw [e6', p118, hj]; intro q; exact c12 ((nI_eq (a := j) (b := 12) (by omega) (by decide)).mp q))] at hf
          rcases othr_k hg with ⟨r9, g9, z9⟩ | ⟨r5', T3, g9, hg⟩
          · rcases k_look p g9 fS2 with ⟨z, -⟩ | ⟨z1, z2⟩
            · exact absurd z z9
            · exact .inr ⟨z1, by rw [st_shade z2.1 hf]; exact z2⟩
          rcases k_look p g9 fS2 with ⟨-, qr, -, -, -, e3, e2⟩ | ⟨z1, -⟩
          rotate_left
          · exact absurd z1 (by decide)
          rw [e2] at hf
          unfold fr_readShade_b44 at hf
          obtain ⟨U2, fU2, hf⟩ := obind_some hf
          obtain ⟨p3, m3⟩ := pr_adv p (by rw [ck]; decide) fU2
          rw [← e3] at p3
          obtain ⟨v5, e5, hf⟩ := elet_some hf
          rw [if_pos (by rw [e5, p3.2.2.1]; decide)] at hf
          obtain ⟨v7, e7, hf⟩ := elet_some hf
          rw [m3.1, hj] at e7
          obtain ⟨v8, e8, hf⟩ := elet_some hf
          have k8 : v8 = nI (119 + j) := by rw [e8, e7]; exact nI_add 119 j
          obtain ⟨-, hf⟩ := oif_some hf
          obtain ⟨S10, e10, hf⟩ := elet_some hf
          rw [k8, nI_clamp (by omega), qr] at e10
          obtain ⟨v11, e11, hf⟩ := elet_some hf
          rw [e10, mf_at] at e11
          have e11 : v11 = nI j := by
            rw [e11]
            show (if 118 = 119 + j then r5' else U2.2.1 11 118) = _
            rw [if_neg (by omega), m3.1, hj]
          obtain ⟨v12, e12, hf⟩ := elet_some hf
          rw [e11, nI_1] at e12
          obtain ⟨S13, e13, hf⟩ := elet_some hf
          rw [e12] at e13
          obtain ⟨-, hg⟩ := oif_some hg
          obtain ⟨T8, e8', hg⟩ := obind_some hg
          obtain ⟨v10, e10', hg⟩ := elet_some hg
          have e10' : v10 = nI (j + 1) := e10'.trans (nI_1 j)
          rw [e10'] at hg
          have t3 : TFq T T3 := by rw [e3]; exact tf6
          have r3 : T3.2.2.2.2 = T.2.2.2.2 := congrArg (fun x => x.2) t3.2.2.1
          obtain ⟨a1, a2, a3, a4⟩ := k_shd (w := 0) (x := 0) hs (hF.sub r3) (by rw [m3.1]; exact scn_tf hs t3 hC) (by rw [m3.1]; exact hj) (by omega) e8' p3 e10 e13
          rcases ih f2 a1 (hF.sub (a3.trans r3)) a2 a4 (by omega) (by omega) hg hf with ⟨y1, ⟨j2, y2, y3⟩, y4, y5⟩ | y
          · exact .inl ⟨y1, ⟨j2, by omega, y3⟩, y4, y5.trans (a3.trans r3)⟩
          · exact .inr y
    · rw [if_neg (fun q => ck (k1.symm.trans q))] at hg
      rw [if_neg (fun q => ck ((tk_num qt).mp (e14.symm.trans q)))] at hf
      have g := osome3 (show some ((0 : Nat), (0 : Int32), T) = some (k, r, T1) from hg)
      have ff := osome1 hf
      rw [← ff, ← g.2.2]
      exact .inl ⟨g.1.symm, ⟨i, Nat.le_refl _, p⟩, hC, rfl⟩
set_option maxHeartbeats 400000 in
theorem l_shade (h : PRq b n c i T S) (hk : kd b n (pst b n i) = 1) (hs : s = 478 ∨ s = 656) (hF : SRF s T) (hC : SCNq s T (S.2.1 11) (S.2.1 13)) (hg : g_X3_parseShade T 6 s = some (k, r, T1)) (hf : fr_readShade S = some S1) : LNq b n c i s T T1 S1 k := by
  have hsb : 478 ≤ s ∧ s ≤ 656 := by omega
  obtain ⟨mc, b1, b2, b3, b4⟩ := hC.2.2.2.2.2.2.2.2.1
  have z0 : (0 : Int32).toInt = 0 := by decide
  have qm : (nI mc).toInt = (mc : Int) := nI_toInt (by omega)
  unfold g_X3_parseShade at hg
  obtain ⟨-, hg⟩ := oif_some hg
  obtain ⟨v3, ev3, hg⟩ := elet_some hg
  rw [b2] at ev3
  unfold fr_readShade at hf
  obtain ⟨v2, ev2, hf⟩ := elet_some hf
  rw [b3] at ev2
  have key : ∃ (a0 : Int32) (Sa : MS), g_X3_parseShade_b13 T a0 6 6 s = some (k, r, T1) ∧ fr_readShade_b15 Sa = some S1 ∧ ((a0 = 0 ∧ Sa = S) ∨ (a0 ≠ 0 ∧ fr_faults S 3 = some Sa)) ∧ (a0 = 0 → mc = 0) := by
    by_cases cm : nI mc ≤ 0
    · rw [ev3, if_pos cm] at hg
      rw [ev2, if_pos cm] at hf
      have := i_le cm
      exact ⟨0, S, hg, hf, .inl ⟨rfl, rfl⟩, fun _ => by omega⟩
    · rw [ev3, if_neg cm] at hg
      rw [ev2, if_neg cm] at hf
      obtain ⟨S4, f4, hf⟩ := obind_some hf
      exact ⟨1, S4, hg, hf, .inr ⟨by decide, f4⟩, fun q => absurd q (by decide)⟩
  obtain ⟨a0, Sa, hg, hf, hcase, hmc⟩ := key
  unfold fr_readShade_b15 at hf
  obtain ⟨S2, fS2, hf⟩ := obind_some hf
  have fin19 : ∀ (f : Nat) {U : MS}, 0 < (U.1 5).toInt → fr_readShade_b19 f U = some S1 → S1 = U := by
    intro f U q hf
    cases f with
    | zero => cases hf
    | succ f =>
      unfold fr_readShade_b19 at hf
      obtain ⟨w5, U2, f2, hf⟩ := obind2_some hf
      rw [st_look q f2] at hf
      obtain ⟨v6, e6, hf⟩ := elet_some hf
      by_cases cc : v6 = 12
      · rw [if_pos cc] at hf
        obtain ⟨U8, f8, hf⟩ := obind_some hf
        rw [st_faults q f8] at hf
        exact st_shade q hf
      · rw [if_neg cc] at hf
        exact st_shade q hf
  unfold g_X3_parseShade_b13 at hg
  obtain ⟨-, hg⟩ := oif_some hg
  rcases othr_k hg with ⟨r9, g9, z9⟩ | ⟨r5, T3, g9, hg⟩
  · rcases k_line h hk (by decide) g9 hcase fS2 with ⟨z, -⟩ | ⟨z1, z2⟩
    · exact absurd z z9
    · exact .inr ⟨z1, by rw [fin19 _ z2.1 hf]; exact z2⟩
  rcases k_line h hk (by decide) g9 hcase fS2 with ⟨-, p3, t3, m2, za⟩ | ⟨z1, -⟩
  rotate_left
  · exact absurd z1 (by decide)
  have e0 := hmc za
  subst e0
  obtain ⟨-, hg⟩ := oif_some hg
  have hf : fr_readShade_b19 (16383 + 1) S2 = some S1 := hf
  unfold fr_readShade_b19 at hf
  obtain ⟨w5, S3, f3, hf⟩ := obind2_some hf
  obtain ⟨v6, e6, hf⟩ := elet_some hf
  have p118 : S3.2.1 11 118 = nI 0 := by
    have := (w_fr_look f3).2 11 (by decide)
    rw [this, m2.1, b3]
  rw [if_neg (by rw [e6, p118]; decide)] at hf
  rcases othr_k hg with ⟨r9, g9, z9⟩ | ⟨r10, T8, g9, hg⟩
  · rcases k_look p3 g9 f3 with ⟨z, -⟩ | ⟨z1, z2⟩
    · exact absurd z z9
    · exact .inr ⟨z1, by rw [st_shade z2.1 hf]; exact z2⟩
  rcases k_look p3 g9 f3 with ⟨-, qr, -, -, ck, e8, e3⟩ | ⟨z1, -⟩
  rotate_left
  · exact absurd z1 (by decide)
  rw [e3] at hf
  unfold fr_readShade_b44 at hf
  obtain ⟨U2, fU2, hf⟩ := obind_some hf
  obtain ⟨p8, m8⟩ := pr_adv p3 (by rw [ck]; decide) fU2
  rw [← e8] at p8
  have PU : U2.2 = S.2 := m8.1.trans m2.1
  obtain ⟨v5, e5, hf⟩ := elet_some hf
  rw [if_pos (by rw [e5, p8.2.2.1]; decide)] at hf
  obtain ⟨v7, e7, hf⟩ := elet_some hf
  rw [PU, b3] at e7
  obtain ⟨v8, e8', hf⟩ := elet_some hf
  have k8 : v8 = nI (119 + 0) := by rw [e8', e7]; exact nI_add 119 0
  obtain ⟨-, hf⟩ := oif_some hf
  obtain ⟨S10, e10, hf⟩ := elet_some hf
  rw [k8, nI_clamp (by omega), qr] at e10
  obtain ⟨v11, e11, hf⟩ := elet_some hf
  rw [e10, mf_at] at e11
  have e11 : v11 = nI 0 := by
    rw [e11]
    show (if 118 = 119 + 0 then r10 else U2.2.1 11 118) = _
    rw [if_neg (by omega), PU, b3]
  obtain ⟨v12, e12, hf⟩ := elet_some hf
  rw [e11, nI_1] at e12
  obtain ⟨S13, e13, hf⟩ := elet_some hf
  rw [e12] at e13
  obtain ⟨-, hg⟩ := oif_some hg
  obtain ⟨T13, e13', hg⟩ := obind_some hg
  have t8 : TFq T T8 := by rw [e8]; exact t3.tr tf6
  have r8 : T8.2.2.2.2 = T.2.2.2.2 := congrArg (fun x => x.2) t8.2.2.1
  obtain ⟨a1, a2, a3, a4⟩ := k_shd (w := 0) (x := 0) hs (hF.sub r8) (by rw [PU]; exact scn_tf hs t8 hC) (by rw [PU]; exact b3) (by omega) e13' p8 e10 e13
  rcases k_shl hs 16384 16383 a1 (hF.sub (a3.trans r8)) a2 a4 (by omega) (by omega) hg hf with ⟨y1, ⟨j2, y2, y3⟩, y4, y5⟩ | y
  · exact .inl ⟨y1, ⟨j2, by omega, y3⟩, y4, y5.trans (a3.trans r8)⟩
  · exact .inr y
end
end
section
/-! 20h.filt.lean.txt -/
section
variable {b : Nat → Int32} {n c i k s : Nat} {T T1 : AT} {S S1 : MS} {r : Int32}
/-- the taps behind the first one -/
theorem k_fll (hs : s = 478 ∨ s = 656) : ∀ (f f2 : Nat) {i j k : Nat} {r : Int32} {T T1 : AT} {S S1 : MS}, PRq b n c i T S → SRF s T → SCNq s T (S.2.1 11) (S.2.1 13) → S.2.1 11 77 = nI j → 1 ≤ j → j ≤ 5 → g_X3_parseFilter_b31 f T 6 s (nI j) = some (k, r, T1) → (elet (S.1 7) fun v15 => if v15 = 3 then (fr_readFilter_b19 f2 S) else (obind2 (fr_isSignHere S 45) fun r20 S17 => if r20 = 0 then (some S17) else (fr_readFilter_b19 f2 S17))) = some S1 → (k = 0 ∧ (∃ j, i ≤ j ∧ PRq b n c j T1 S1) ∧ SCNq s T1 (S1.2.1 11) (S1.2.1 13) ∧ T1.2.2.2.2 = T.2.2.2.2) ∨ (k = 3 ∧ ERq T1 S1) := by
  intro f
  induction f with
  | zero => intro f2 i j k r T T1 S S1 p hF hC hj h1 h12 hg hf; cases hg
  | succ f ih =>
    intro f2 i j k r T T1 S S1 p hF hC hj h1 h12 hg hf
    have qt := p.2.2.2.2.2.2.2
    -- one more
    have go : (kd b n (pst b n i) = 2 ∨ kd b n (pst b n i) = 3) → g_X3_parseFilter_b52 (g_X3_parseFilter_b31 f) T 6 s (nI j) = some (k, r, T1) → fr_readFilter_b19 f2 S = some S1 → (k = 0 ∧ (∃ j, i ≤ j ∧ PRq b n c j T1 S1) ∧ SCNq s T1 (S1.2.1 11) (S1.2.1 13) ∧ T1.2.2.2.2 = T.2.2.2.2) ∨ (k = 3 ∧ ERq T1 S1) := by
      intro hk hg hf
      cases f2 with
      | zero => cases hf
      | succ f2 =>
        unfold fr_readFilter_b19 at hf
        obtain ⟨v2, e2, hf⟩ := elet_some hf
        rw [hj] at e2
        unfold g_X3_parseFilter_b52 at hg
        by_cases c5 : j = 5
        · rw [if_pos (by rw [c5]; rfl)] at hg
          obtain ⟨-, hg⟩ := oif_some hg
          rw [if_pos (by rw [e2, c5]; rfl)] at hf
          unfold fr_readFilter_b35 at hf
          rw [if_neg (by decide)] at hf
          obtain ⟨v3, e3, hf⟩ := elet_some hf
          have key : ∃ S2 S3, (kd b n (pst b n i) = 2 ∧ (∃ w, fr_look S 0 9 = some (w, S2)) ∨ kd b n (pst b n i) ≠ 2 ∧ S2 = S) ∧ fr_faults S2 4 = some S3 ∧ fr_readFilter_b65 (fr_readFilter_b19 f2) S3 = some S1 := by
            by_cases ck : kd b n (pst b n i) = 2
            · rw [if_pos (e3.trans ((tk_num qt).mpr ck))] at hf
              obtain ⟨r8, S5, f5, hf⟩ := obind2_some hf
              unfold fr_readFilter_b56 at hf
              rw [if_neg (by decide)] at hf
              obtain ⟨S3, f3, hf⟩ := obind_some hf
              exact ⟨S5, S3, .inl ⟨ck, r8, f5⟩, f3, hf⟩
            · rw [if_neg (fun q => ck ((tk_num qt).mp (e3.symm.trans q)))] at hf
              unfold fr_readFilter_b56 at hf
              rw [if_neg (by decide)] at hf
              obtain ⟨S3, f3, hf⟩ := obind_some hf
              exact ⟨S, S3, .inr ⟨ck, rfl⟩, f3, hf⟩
          obtain ⟨S2, S3, a1, a2, a3⟩ := key
          right
          rcases othr_k hg with ⟨r9, g9, -⟩ | ⟨r9, T9, g9, -⟩
          · obtain ⟨y1, y2⟩ := k_many rfl p g9 a1 a2
            rw [st_filt y2.1 a3]
            exact ⟨y1, y2⟩
          · exact absurd (k_many rfl p g9 a1 a2).1 (by decide)
        · rw [if_neg (by intro q; exact c5 ((nI_eq (a := j) (b := 5) (by omega) (by decide)).mp q))] at hg
          rw [if_neg (by rw [e2]; intro q; exact c5 ((nI_eq (a := j) (b := 5) (by omega) (by decide)).mp q))] at hf
          unfold fr_readFilter_b35 at hf
          rw [if_pos rfl] at hf
          unfold fr_readFilter_b56 at hf
          rw [if_pos rfl] at hf
          unfold fr_readFilter_b65 at hf
          obtain ⟨r5, S2, f5, hf⟩ := obind2_some hf
          obtain ⟨v6, e6, hf⟩ := elet_some hf
          unfold g_X3_parseFilter_b63 at hg
          obtain ⟨-, hg⟩ := oif_some hg
          rcases othr_k hg with ⟨r9, g9, z9⟩ | ⟨r5', T3, g9, hg⟩
          · rcases k_signed p g9 f5 with ⟨z, -⟩ | ⟨z1, z2⟩
            · exact absurd z z9
            · rw [if_neg (st_le z2.1 e6)] at hf
              exact .inr ⟨z1, by rw [← osome1 hf]; exact z2⟩
          rcases k_signed p g9 f5 with ⟨-, qr, ⟨i3, l3, p3⟩, t3, m3⟩ | ⟨z1, -⟩
          rotate_left
          · exact absurd z1 (by decide)
          rw [if_pos (by rw [e6, p3.2.2.1]; decide)] at hf
          obtain ⟨v8, e8, hf⟩ := elet_some hf
          rw [m3.1, hj] at e8
          obtain ⟨v9, e9, hf⟩ := elet_some hf
          have k9 : v9 = nI (78 + j) := by rw [e9, e8]; exact nI_add 78 j
          obtain ⟨-, hf⟩ := oif_some hf
          obtain ⟨S11, e11, hf⟩ := elet_some hf
          rw [k9, nI_clamp (by omega), qr] at e11
          obtain ⟨v12, e12, hf⟩ := elet_some hf
          rw [e11, mf_at] at e12
          have e12 : v12 = nI j := by
            rw [e12]
            show (if 77 = 78 + j then r5' else S2.2.1 11 77) = _
            rw [if_neg (by omega), m3.1, hj]
          obtain ⟨v13, e13, hf⟩ := elet_some hf
          rw [e12, nI_1] at e13
          obtain ⟨S14, e14, hf⟩ := elet_some hf
          rw [e13] at e14
          obtain ⟨-, hg⟩ := oif_some hg
          obtain ⟨T8, e8', hg⟩ := obind_some hg
          obtain ⟨v10, e10', hg⟩ := elet_some hg
          have e10' : v10 = nI (j + 1) := e10'.trans (nI_1 j)
          rw [e10'] at hg
          have r3 : T3.2.2.2.2 = T.2.2.2.2 := congrArg (fun x => x.2) t3.2.2.1
          obtain ⟨a1, a2, a3, a4⟩ := k_tap hs (hF.sub r3) (by rw [m3.1]; exact scn_tf hs t3 hC) (by rw [m3.1]; exact hj) (by omega) e8' p3 e11 e14
          rcases ih f2 a1 (hF.sub (a3.trans r3)) a2 a4 (by omega) (by omega) hg hf with ⟨y1, ⟨j2, y2, y3⟩, y4, y5⟩ | y
          · exact .inl ⟨y1, ⟨j2, by omega, y3⟩, y4, y5.trans (a3.trans r3)⟩
          · exact .inr y
    unfold g_X3_parseFilter_b31 at hg
    rw [if_neg (by intro q; have := (nI_ltI (a := 5) (b := j) (by omega) (by omega)).mp q; omega)] at hg
    obtain ⟨-, hg⟩ := oif_some hg
    obtain ⟨r6, T4, e6, hg⟩ := obind2_some hg
    obtain ⟨k1, k2⟩ := k_kind p e6
    rw [k2] at hg
    obtain ⟨v15, e15, hf⟩ := elet_some hf
    by_cases ck : kd b n (pst b n i) = 2
    · rw [if_pos (k1.trans ck)] at hg
      rw [if_pos (e15.trans ((tk_num qt).mpr ck))] at hf
      exact go (.inl ck) hg hf
    · rw [if_neg (fun q => ck (k1.symm.trans q))] at hg
      rw [if_neg (fun q => ck ((tk_num qt).mp (e15.symm.trans q)))] at hf
      obtain ⟨-, hg⟩ := oif_some hg
      obtain ⟨r12, T10, e12, hg⟩ := obind2_some hg
      obtain ⟨k3, k4⟩ := k_kind p e12
      rw [k4] at hg
      obtain ⟨r20, S17, f20, hf⟩ := obind2_some hf
      obtain ⟨g1, g2⟩ := k_here p (.inl rfl) f20
      rw [if_pos rfl] at g2
      rw [g1] at hf
      rcases g2 with ⟨w1, cm⟩ | ⟨w1, cm⟩
      · rw [if_pos (k3.trans cm)] at hg
        rw [if_neg (by rw [w1]; decide)] at hf
        exact go (.inr cm) hg hf
      · rw [if_neg (fun q => cm (k3.symm.trans q))] at hg
        rw [if_pos w1] at hf
        have g := osome3 (show some ((0 : Nat), (0 : Int32), T) = some (k, r, T1) from hg)
        have ff := osome1 hf
        rw [← ff, ← g.2.2]
        exact .inl ⟨g.1.symm, ⟨i, Nat.le_refl _, p⟩, hC, rfl⟩
set_option maxHeartbeats 400000 in
theorem l_filter (h : PRq b n c i T S) (hk : kd b n (pst b n i) = 1) (hs : s = 478 ∨ s = 656) (hF : SRF s T) (hC : SCNq s T (S.2.1 11) (S.2.1 13)) (hg : g_X3_parseFilter T 6 s = some (k, r, T1)) (hf : fr_readFilter S = some S1) : LNq b n c i s T T1 S1 k := by
  have hsb : 478 ≤ s ∧ s ≤ 656 := by omega
  obtain ⟨mc, b1, b2, b3, b4⟩ := hC.2.2.2.2.2.2.1
  have z0 : (0 : Int32).toInt = 0 := by decide
  have qm : (nI mc).toInt = (mc : Int) := nI_toInt (by omega)
  unfold g_X3_parseFilter at hg
  obtain ⟨-, hg⟩ := oif_some hg
  obtain ⟨v3, ev3, hg⟩ := elet_some hg
  rw [b2] at ev3
  unfold fr_readFilter at hf
  obtain ⟨v2, ev2, hf⟩ := elet_some hf
  rw [b3] at ev2
  have key : ∃ (a0 : Int32) (Sa : MS), g_X3_parseFilter_b13 T a0 6 6 s = some (k, r, T1) ∧ fr_readFilter_b15 Sa = some S1 ∧ ((a0 = 0 ∧ Sa = S) ∨ (a0 ≠ 0 ∧ fr_faults S 3 = some Sa)) ∧ (a0 = 0 → mc = 0) := by
    by_cases cm : nI mc ≤ 0
    · rw [ev3, if_pos cm] at hg
      rw [ev2, if_pos cm] at hf
      have := i_le cm
      exact ⟨0, S, hg, hf, .inl ⟨rfl, rfl⟩, fun _ => by omega⟩
    · rw [ev3, if_neg cm] at hg
      rw [ev2, if_neg cm] at hf
      obtain ⟨S4, f4, hf⟩ := obind_some hf
      exact ⟨1, S4, hg, hf, .inr ⟨by decide, f4⟩, fun q => absurd q (by decide)⟩
  obtain ⟨a0, Sa, hg, hf, hcase, hmc⟩ := key
  unfold fr_readFilter_b15 at hf
  obtain ⟨S2, fS2, hf⟩ := obind_some hf
  have fin56 : ∀ (f : Nat) {U : MS} {l : Int32}, 0 < (U.1 5).toInt → fr_readFilter_b56 (fr_readFilter_b19 f) U l = some S1 → S1 = U := by
    intro f U l q hf
    unfold fr_readFilter_b56 at hf
    by_cases cc : l = 0
    · rw [if_pos cc] at hf
      exact st_filt q hf
    · rw [if_neg cc] at hf
      obtain ⟨U3, f3, hf⟩ := obind_some hf
      rw [st_faults q f3] at hf
      exact st_filt q hf
  have fin35 : ∀ (f : Nat) {U : MS} {l : Int32}, 0 < (U.1 5).toInt → fr_readFilter_b35 (fr_readFilter_b19 f) U l = some S1 → S1 = U := by
    intro f U l q hf
    unfold fr_readFilter_b35 at hf
    by_cases cc : l = 0
    · rw [if_pos cc] at hf
      exact fin56 f q hf
    · rw [if_neg cc] at hf
      obtain ⟨v3, e3, hf⟩ := elet_some hf
      by_cases c3 : v3 = 3
      · rw [if_pos c3] at hf
        obtain ⟨r8, U5, f5, hf⟩ := obind2_some hf
        rw [st_look q f5] at hf
        exact fin56 f q hf
      · rw [if_neg c3] at hf
        exact fin56 f q hf
  have fin19 : ∀ (f : Nat) {U : MS}, 0 < (U.1 5).toInt → fr_readFilter_b19 f U = some S1 → S1 = U := by
    intro f U q hf
    cases f with
    | zero => cases hf
    | succ f =>
      unfold fr_readFilter_b19 at hf
      obtain ⟨v6, e6, hf⟩ := elet_some hf
      by_cases cc : v6 = 5
      · rw [if_pos cc] at hf
        exact fin35 f q hf
      · rw [if_neg cc] at hf
        exact fin35 f q hf
  unfold g_X3_parseFilter_b13 at hg
  obtain ⟨-, hg⟩ := oif_some hg
  rcases othr_k hg with ⟨r9, g9, z9⟩ | ⟨r5, T3, g9, hg⟩
  · rcases k_line h hk (by decide) g9 hcase fS2 with ⟨z, -⟩ | ⟨z1, z2⟩
    · exact absurd z z9
    · exact .inr ⟨z1, by rw [fin19 _ z2.1 hf]; exact z2⟩
  rcases k_line h hk (by decide) g9 hcase fS2 with ⟨-, p3, t3, m2, za⟩ | ⟨z1, -⟩
  rotate_left
  · exact absurd z1 (by decide)
  have e0 := hmc za
  subst e0
  obtain ⟨-, hg⟩ := oif_some hg
  have hf : fr_readFilter_b19 (16383 + 1) S2 = some S1 := hf
  unfold fr_readFilter_b19 at hf
  obtain ⟨v6, e6, hf⟩ := elet_some hf
  rw [m2.1, b3] at e6
  rw [if_neg (by rw [e6]; decide)] at hf
  unfold fr_readFilter_b35 at hf
  rw [if_pos rfl] at hf
  unfold fr_readFilter_b56 at hf
  rw [if_pos rfl] at hf
  unfold fr_readFilter_b65 at hf
  obtain ⟨w5, S5, f5, hf⟩ := obind2_some hf
  obtain ⟨v7, e7, hf⟩ := elet_some hf
  rcases othr_k hg with ⟨r9, g9, z9⟩ | ⟨r10, T8, g9, hg⟩
  · rcases k_signed p3 g9 f5 with ⟨z, -⟩ | ⟨z1, z2⟩
    · exact absurd z z9
    · rw [if_neg (st_le z2.1 e7)] at hf
      exact .inr ⟨z1, by rw [← osome1 hf]; exact z2⟩
  rcases k_signed p3 g9 f5 with ⟨-, qr, ⟨i8, l8, p8⟩, t8, m8⟩ | ⟨z1, -⟩
  rotate_left
  · exact absurd z1 (by decide)
  rw [if_pos (by rw [e7, p8.2.2.1]; decide)] at hf
  have PU : S5.2 = S.2 := m8.1.trans m2.1
  obtain ⟨v8, e8, hf⟩ := elet_some hf
  rw [PU, b3] at e8
  obtain ⟨v9, e9, hf⟩ := elet_some hf
  have k9 : v9 = nI (78 + 0) := by rw [e9, e8]; exact nI_add 78 0
  obtain ⟨-, hf⟩ := oif_some hf
  obtain ⟨S11, e11, hf⟩ := elet_some hf
  rw [k9, nI_clamp (by omega), qr] at e11
  obtain ⟨v12, e12, hf⟩ := elet_some hf
  rw [e11, mf_at] at e12
  have e12 : v12 = nI 0 := by
    rw [e12]
    show (if 77 = 78 + 0 then r10 else S5.2.1 11 77) = _
    rw [if_neg (by omega), PU, b3]
  obtain ⟨v13, e13, hf⟩ := elet_some hf
  rw [e12, nI_1] at e13
  obtain ⟨S14, e14, hf⟩ := elet_some hf
  rw [e13] at e14
  obtain ⟨-, hg⟩ := oif_some hg
  obtain ⟨T13, e13', hg⟩ := obind_some hg
  have t38 : TFq T T8 := t3.tr t8
  have r8 : T8.2.2.2.2 = T.2.2.2.2 := congrArg (fun x => x.2) t38.2.2.1
  obtain ⟨a1, a2, a3, a4⟩ := k_tap hs (hF.sub r8) (by rw [PU]; exact scn_tf hs t38 hC) (by rw [PU]; exact b3) (by omega) e13' p8 e11 e14
  rcases k_fll hs 16384 16383 a1 (hF.sub (a3.trans r8)) a2 a4 (by omega) (by omega) hg hf with ⟨y1, ⟨j2, y2, y3⟩, y4, y5⟩ | y
  · exact .inl ⟨y1, ⟨j2, by omega, y3⟩, y4, y5.trans (a3.trans r8)⟩
  · exact .inr y
end
end
section
/-! 20i.text.lean.txt -/
section
variable {b : Nat → Int32} {n c i k s : Nat} {T T1 : AT} {S S1 : MS} {r : Int32}
theorem wl15 : ["camera", "distance", "step", "samples", "limit", "mic", "map", "source", "wall", "fade", "filter", "clock", "zone", "shade", "off"].all (fun w => Nat.ble (sTx w).1 8) = true := by decide +kernel
theorem wl_of {w : String} (h : w ∈ ["camera", "distance", "step", "samples", "limit", "mic", "map", "source", "wall", "fade", "filter", "clock", "zone", "shade", "off"]) : (sTx w).1 ≤ 8 := Nat.le_of_ble_eq_true (List.all_eq_true.mp wl15 w h)
theorem er_st (h : ERq T S) (e : S1.1 = S.1) : ERq T S1 := by
  unfold ERq at h ⊢
  rw [e]
  exact h
/-- a keyword and its number -/
theorem k_gauge {tx : Nat × (Nat → Int32)} {a0 a1 r2 : Int32} (ht : tx.1 ≤ 8) (h : PRq b n c i T S) (hf : fr_gauge S tx a0 a1 = some (r2, S1)) : (∀ (k : Nat) (r : Int32) (Ta : AT), g_X3_takeWord T tx 6 = some (k, r, Ta) → (k = 3 ∧ ERq Ta S1) ∨ (k = 0 ∧ ∀ (k' : Nat) (r' : Int32) (Tb : AT), g_X3_number Ta 6 a0 a1 = some (k', r', Tb) → (k' = 3 ∧ ERq Tb S1) ∨ (k' = 0 ∧ r2 = r' ∧ (∃ j, i < j ∧ PRq b n c j Tb S1) ∧ TFq T Tb ∧ MFq S S1))) := by
  intro k r Ta hg
  unfold fr_gauge at hf
  obtain ⟨S2, f2, hf⟩ := obind_some hf
  obtain ⟨r8, S5, f5, hf⟩ := obind2_some hf
  have ff := osome2 hf
  rw [← ff.2]
  rcases k_take ht h hg f2 with ⟨k0, ⟨j, hj, p⟩, t, m⟩ | ⟨k3, e⟩
  · refine .inr ⟨k0, fun k' r' Tb hg2 => ?_⟩
    rcases k_number p hg2 f5 with ⟨y1, y2, -, -, y3, y4, y5⟩ | ⟨y1, y2⟩
    · exact .inr ⟨y1, ff.1.symm.trans y2, ⟨j + 1, by omega, y3⟩, t.tr y4, m.tr y5⟩
    · exact .inl ⟨y1, y2⟩
  · exact .inl ⟨k3, by rw [st_number e.1 f5]; exact e⟩
theorem scn0_uI {P D : Nat → Int32} {j : Nat} {v : Int32} (hs : s = 478 ∨ s = 656) (hj : j < 4) (q : SCN0 s T P D) (P1 : Nat → Int32) (hP : ∀ x, 4 ≤ x → P1 x = P x) : SCN0 s (uI T s j v) P1 D := by
  have e : ∀ m x, m ≠ s ∨ 4 ≤ x → (uI T s j v).2.2.1 m x = T.2.2.1 m x := fun m x h => ui_ne (by omega)
  exact ⟨q.1.cg (e _ _ (by omega)) (fun m j _ _ => e _ _ (by omega)) (fun x _ => hP x (by omega)), q.2.1.cg (fun j _ => e _ _ (by omega)) (fun j => e _ _ (by omega)) (fun x _ _ => hP x (by omega)), q.2.2.1.cg (e _ _ (by omega)) (fun m j _ _ => e _ _ (by omega)) (fun x _ => hP x (by omega)) (fun _ _ _ => rfl), q.2.2.2.1.cg (e _ _ (by omega)) (fun j => e _ _ (by omega)) (fun j => e _ _ (by omega)) (fun x _ _ => hP x (by omega)), q.2.2.2.2.1.cg (e _ _ (by omega)) (hP _ (by omega)), q.2.2.2.2.2.1.cg (e _ _ (by omega)) (fun j => e _ _ (by omega)) (fun x _ _ => hP x (by omega)), q.2.2.2.2.2.2.1.cg (e _ _ (by omega)) (fun m j _ _ => e _ _ (by omega)) (fun x _ _ => hP x (by omega)), q.2.2.2.2.2.2.2.1.cg (e _ _ (by omega)) (fun j => e _ _ (by omega)) (fun x _ _ => hP x (by omega)), q.2.2.2.2.2.2.2.2⟩
theorem scn0_tf {P D : Nat → Int32} (hs : s = 478 ∨ s = 656) (h : TFq T T1) (q : SCN0 s T P D) : SCN0 s T1 P D := by
  have e : ∀ m j, m ≠ 6 → T1.2.2.1 m j = T.2.2.1 m j := h.2.2.2
  exact ⟨q.1.cg (e _ _ (by omega)) (fun m j _ _ => e _ _ (by omega)) (fun _ _ => rfl), q.2.1.cg (fun j _ => e _ _ (by omega)) (fun j => e _ _ (by omega)) (fun _ _ _ => rfl), q.2.2.1.cg (e _ _ (by omega)) (fun m j _ _ => e _ _ (by omega)) (fun _ _ => rfl) (fun _ _ _ => rfl), q.2.2.2.1.cg (e _ _ (by omega)) (fun j => e _ _ (by omega)) (fun j => e _ _ (by omega)) (fun _ _ _ => rfl), q.2.2.2.2.1.cg (e _ _ (by omega)) rfl, q.2.2.2.2.2.1.cg (e _ _ (by omega)) (fun j => e _ _ (by omega)) (fun _ _ _ => rfl), q.2.2.2.2.2.2.1.cg (e _ _ (by omega)) (fun m j _ _ => e _ _ (by omega)) (fun _ _ _ => rfl), q.2.2.2.2.2.2.2.1.cg (e _ _ (by omega)) (fun j => e _ _ (by omega)) (fun _ _ _ => rfl), q.2.2.2.2.2.2.2.2⟩
/-- the word, the number, what is written: one of the four of the first line -/
theorem k_head {tx : Nat × (Nat → Int32)} {a0 a1 r2 : Int32} {x : Nat} {S2 : MS} (hs : s = 478 ∨ s = 656) (hx : x < 4) (ht : tx.1 ≤ 8) (h : PRq b n c i T S) (hC : SCN0 s T (S.2.1 11) (S.2.1 13)) (hf : fr_gauge S tx a0 a1 = some (r2, S1)) (e2 : S2 = mf S1 11 (upd (S1.2.1 11) x r2)) : (∀ (k : Nat) (r : Int32) (Ta : AT), g_X3_takeWord T tx 6 = some (k, r, Ta) → (k = 3 ∧ ERq Ta S2) ∨ (k = 0 ∧ ∀ (k' : Nat) (r' : Int32) (Tb : AT), g_X3_number Ta 6 a0 a1 = some (k', r', Tb) → (k' = 3 ∧ ERq Tb S2) ∨ (k' = 0 ∧ ∀ (Tc : AT), Tc = uI Tb s x r' → (∃ j, i < j ∧ PRq b n c j Tc S2) ∧ SCN0 s Tc (S2.2.1 11) (S2.2.1 13) ∧ Tc.2.2.2.2 = T.2.2.2.2 ∧ Tc.2.2.1 s x = S2.2.1 11 x ∧ (∀ y, y ≠ x → Tc.2.2.1 s y = T.2.2.1 s y) ∧ ∀ y, y ≠ x → S2.2.1 11 y = S.2.1 11 y))) := by
  intro k r Ta hg
  have s2 : S2.1 = S1.1 := by rw [e2]; rfl
  rcases k_gauge ht h hf _ _ _ hg with ⟨k3, e⟩ | ⟨k0, kk⟩
  · exact .inl ⟨k3, er_st e s2⟩
  refine .inr ⟨k0, fun k' r' Tb hg2 => ?_⟩
  rcases kk _ _ _ hg2 with ⟨k3, e⟩ | ⟨k0', er, ⟨j, hj, p⟩, t, m⟩
  · exact .inl ⟨k3, er_st e s2⟩
  refine .inr ⟨k0', fun Tc ec => ?_⟩
  have pc := pr_uI (m := s) (k := x) (v := r') p (by omega)
  rw [← ec] at pc
  have pd := pr_mf (a := 11) (f := upd (S1.2.1 11) x r2) pc (by decide)
  rw [← e2] at pd
  have hP : ∀ y, S2.2.1 11 y = if y = x then r2 else S.2.1 11 y := fun y => by
    rw [e2, mf_at]
    show (if y = x then r2 else S1.2.1 11 y) = _
    rw [m.1]
  have hD : S2.2.1 13 = S.2.1 13 := by rw [e2, mf_ne (by decide), m.1]
  refine ⟨⟨j, hj, pd⟩, ?_, ?_, ?_, fun y hy => ?_, fun y hy => ?_⟩
  · rw [ec, hD]
    exact scn0_uI hs hx (scn0_tf hs t hC) _ (fun y hy => by rw [hP, if_neg (by omega)])
  · rw [ec]; exact congrArg (fun x => x.2) t.2.2.1
  · rw [ec, ui_at, hP, if_pos rfl, er]
  · rw [ec, ui_ne (.inr hy)]; exact t.2.2.2 _ _ (by omega)
  · rw [hP, if_neg hy]
theorem st_g {tx : Nat × (Nat → Int32)} {a0 a1 r2 : Int32} {x : Nat} {S2 : MS} (q : 0 < (S.1 5).toInt) (hf : fr_gauge S tx a0 a1 = some (r2, S1)) (e2 : S2 = mf S1 11 (upd (S1.2.1 11) x r2)) : S2.1 = S.1 := by
  rw [e2, st_gauge q hf]
  rfl
set_option maxHeartbeats 400000 in
theorem l_head (h : PRq b n c i T S) (hs : s = 478 ∨ s = 656) (hC : SCN0 s T (S.2.1 11) (S.2.1 13)) (hg : g_X3_parseHead T 6 s = some (k, r, T1)) (hf : fr_readFirst S = some S1) : LNq b n c i s T T1 S1 k := by
  have hsb : 478 ≤ s ∧ s ≤ 656 := by omega
  unfold fr_readFirst at hf
  obtain ⟨S3, f3, hf⟩ := obind_some hf
  obtain ⟨r10, S7, f7, hf⟩ := obind2_some hf
  obtain ⟨S11, e11, hf⟩ := elet_some hf
  obtain ⟨r16, S13, f13, hf⟩ := obind2_some hf
  obtain ⟨S17, e17, hf⟩ := elet_some hf
  obtain ⟨r22, S19, f19, hf⟩ := obind2_some hf
  obtain ⟨S23, e23, hf⟩ := elet_some hf
  obtain ⟨r28, S25, f25, hf⟩ := obind2_some hf
  obtain ⟨S29, e29, hf⟩ := elet_some hf
  rw [← osome1 hf]
  have n23 : 0 < (S23.1 5).toInt → S29.1 = S23.1 := fun q => st_g q f25 e29
  have n17 : 0 < (S17.1 5).toInt → S29.1 = S17.1 := fun q => by
    have e := st_g q f19 e23
    exact (n23 (by rw [e]; exact q)).trans e
  have n11 : 0 < (S11.1 5).toInt → S29.1 = S11.1 := fun q => by
    have e := st_g q f13 e17
    exact (n17 (by rw [e]; exact q)).trans e
  have n3 : 0 < (S3.1 5).toInt → S29.1 = S3.1 := fun q => by
    have e := st_g q f7 e11
    exact (n11 (by rw [e]; exact q)).trans e
  unfold g_X3_parseHead at hg
  obtain ⟨-, hg⟩ := oif_some hg
  rcases othr_k hg with ⟨r9, g9, z9⟩ | ⟨r6, T4, g9, hg⟩
  · rcases k_take (wl_of (by decide)) h g9 f3 with ⟨z, -⟩ | ⟨z1, z2⟩
    · exact absurd z z9
    · exact .inr ⟨z1, er_st z2 (n3 z2.1)⟩
  rcases k_take (wl_of (by decide)) h g9 f3 with ⟨-, ⟨i4, l4, p4⟩, t4, m4⟩ | ⟨z1, -⟩
  rotate_left
  · exact absurd z1 (by decide)
  have C4 : SCN0 s T4 (S3.2.1 11) (S3.2.1 13) := by rw [m4.1]; exact scn0_tf hs t4 hC
  have R4 : T4.2.2.2.2 = T.2.2.2.2 := congrArg (fun x => x.2) t4.2.2.1
  obtain ⟨-, hg⟩ := oif_some hg
  have H1 := k_head hs (x := 0) (by decide) (wl_of (by decide)) p4 C4 f7 e11
  rcases othr_k hg with ⟨r9, g9, z9⟩ | ⟨r12, T10, g9, hg⟩
  · rcases H1 _ _ _ g9 with ⟨z1, z2⟩ | ⟨z, -⟩
    · exact .inr ⟨z1, er_st z2 (n11 z2.1)⟩
    · exact absurd z z9
  rcases H1 _ _ _ g9 with ⟨z1, -⟩ | ⟨-, H1⟩
  · exact absurd z1 (by decide)
  obtain ⟨-, hg⟩ := oif_some hg
  rcases othr_k hg with ⟨r9, g9, z9⟩ | ⟨r17, T15, g9, hg⟩
  · rcases H1 _ _ _ g9 with ⟨z1, z2⟩ | ⟨z, -⟩
    · exact .inr ⟨z1, er_st z2 (n11 z2.1)⟩
    · exact absurd z z9
  rcases H1 _ _ _ g9 with ⟨z1, -⟩ | ⟨-, H1⟩
  · exact absurd z1 (by decide)
  obtain ⟨-, hg⟩ := oif_some hg
  obtain ⟨T20, e20, hg⟩ := elet_some hg
  obtain ⟨⟨i5, l5, p5⟩, C5, R5, v5, o5, w5⟩ := H1 _ e20
  obtain ⟨-, hg⟩ := oif_some hg
  have H2 := k_head hs (x := 1) (by decide) (wl_of (by decide)) p5 C5 f13 e17
  rcases othr_k hg with ⟨r9, g9, z9⟩ | ⟨r25, T23, g9, hg⟩
  · rcases H2 _ _ _ g9 with ⟨z1, z2⟩ | ⟨z, -⟩
    · exact .inr ⟨z1, er_st z2 (n17 z2.1)⟩
    · exact absurd z z9
  rcases H2 _ _ _ g9 with ⟨z1, -⟩ | ⟨-, H2⟩
  · exact absurd z1 (by decide)
  obtain ⟨-, hg⟩ := oif_some hg
  rcases othr_k hg with ⟨r9, g9, z9⟩ | ⟨r30, T28, g9, hg⟩
  · rcases H2 _ _ _ g9 with ⟨z1, z2⟩ | ⟨z, -⟩
    · exact .inr ⟨z1, er_st z2 (n17 z2.1)⟩
    · exact absurd z z9
  rcases H2 _ _ _ g9 with ⟨z1, -⟩ | ⟨-, H2⟩
  · exact absurd z1 (by decide)
  obtain ⟨-, hg⟩ := oif_some hg
  obtain ⟨T33, e33, hg⟩ := elet_some hg
  obtain ⟨⟨i6, l6, p6⟩, C6, R6, v6, o6, w6⟩ := H2 _ e33
  obtain ⟨-, hg⟩ := oif_some hg
  have H3 := k_head hs (x := 2) (by decide) (wl_of (by decide)) p6 C6 f19 e23
  rcases othr_k hg with ⟨r9, g9, z9⟩ | ⟨r38, T36, g9, hg⟩
  · rcases H3 _ _ _ g9 with ⟨z1, z2⟩ | ⟨z, -⟩
    · exact .inr ⟨z1, er_st z2 (n23 z2.1)⟩
    · exact absurd z z9
  rcases H3 _ _ _ g9 with ⟨z1, -⟩ | ⟨-, H3⟩
  · exact absurd z1 (by decide)
  obtain ⟨-, hg⟩ := oif_some hg
  rcases othr_k hg with ⟨r9, g9, z9⟩ | ⟨r43, T41, g9, hg⟩
  · rcases H3 _ _ _ g9 with ⟨z1, z2⟩ | ⟨z, -⟩
    · exact .inr ⟨z1, er_st z2 (n23 z2.1)⟩
    · exact absurd z z9
  rcases H3 _ _ _ g9 with ⟨z1, -⟩ | ⟨-, H3⟩
  · exact absurd z1 (by decide)
  obtain ⟨-, hg⟩ := oif_some hg
  obtain ⟨T46, e46, hg⟩ := elet_some hg
  obtain ⟨⟨i7, l7, p7⟩, C7, R7, v7, o7, w7⟩ := H3 _ e46
  obtain ⟨-, hg⟩ := oif_some hg
  have H4 := k_head hs (x := 3) (by decide) (wl_of (by decide)) p7 C7 f25 e29
  rcases othr_k hg with ⟨r9, g9, z9⟩ | ⟨r51, T49, g9, hg⟩
  · rcases H4 _ _ _ g9 with ⟨z1, z2⟩ | ⟨z, -⟩
    · exact .inr ⟨z1, z2⟩
    · exact absurd z z9
  rcases H4 _ _ _ g9 with ⟨z1, -⟩ | ⟨-, H4⟩
  · exact absurd z1 (by decide)
  obtain ⟨-, hg⟩ := oif_some hg
  rcases othr_k hg with ⟨r9, g9, z9⟩ | ⟨r56, T54, g9, hg⟩
  · rcases H4 _ _ _ g9 with ⟨z1, z2⟩ | ⟨z, -⟩
    · exact .inr ⟨z1, z2⟩
    · exact absurd z z9
  rcases H4 _ _ _ g9 with ⟨z1, -⟩ | ⟨-, H4⟩
  · exact absurd z1 (by decide)
  obtain ⟨-, hg⟩ := oif_some hg
  obtain ⟨T59, e59, hg⟩ := elet_some hg
  obtain ⟨⟨i8, l8, p8⟩, C8, R8, v8, o8, w8⟩ := H4 _ e59
  have g := osome3 hg
  rw [← g.2.2]
  refine .inl ⟨g.1.symm, ⟨i8, by omega, p8⟩, ⟨⟨?_, ?_, ?_, v8⟩, C8⟩, R8.trans (R7.trans (R6.trans (R5.trans R4)))⟩
  · rw [o8 0 (by decide), o7 0 (by decide), o6 0 (by decide), v5, w8 0 (by decide), w7 0 (by decide), w6 0 (by decide)]
  · rw [o8 1 (by decide), o7 1 (by decide), v6, w8 1 (by decide), w7 1 (by decide)]
  · rw [o8 2 (by decide), v7, w8 2 (by decide)]
end
end
section
/-! 20j.line.lean.txt -/
section
variable {b : Nat → Int32} {n c i k s : Nat} {T T1 : AT} {S S1 : MS} {r : Int32}
theorem wq10 : [("mic", "map"), ("mic", "source"), ("mic", "wall"), ("mic", "fade"), ("mic", "filter"), ("mic", "clock"), ("mic", "zone"), ("mic", "shade"), ("mic", "off"), ("map", "source"), ("map", "wall"), ("map", "fade"), ("map", "filter"), ("map", "clock"), ("map", "zone"), ("map", "shade"), ("map", "off"), ("source", "wall"), ("source", "fade"), ("source", "filter"), ("source", "clock"), ("source", "zone"), ("source", "shade"), ("source", "off"), ("wall", "fade"), ("wall", "filter"), ("wall", "clock"), ("wall", "zone"), ("wall", "shade"), ("wall", "off"), ("fade", "filter"), ("fade", "clock"), ("fade", "zone"), ("fade", "shade"), ("fade", "off"), ("filter", "clock"), ("filter", "zone"), ("filter", "shade"), ("filter", "off"), ("clock", "zone"), ("clock", "shade"), ("clock", "off"), ("zone", "shade"), ("zone", "off"), ("shade", "off"), ("map", "mic"), ("source", "mic"), ("wall", "mic"), ("fade", "mic"), ("filter", "mic"), ("clock", "mic"), ("zone", "mic"), ("shade", "mic"), ("off", "mic"), ("source", "map"), ("wall", "map"), ("fade", "map"), ("filter", "map"), ("clock", "map"), ("zone", "map"), ("shade", "map"), ("off", "map"), ("wall", "source"), ("fade", "source"), ("filter", "source"), ("clock", "source"), ("zone", "source"), ("shade", "source"), ("off", "source"), ("fade", "wall"), ("filter", "wall"), ("clock", "wall"), ("zone", "wall"), ("shade", "wall"), ("off", "wall"), ("filter", "fade"), ("clock", "fade"), ("zone", "fade"), ("shade", "fade"), ("off", "fade"), ("clock", "filter"), ("zone", "filter"), ("shade", "filter"), ("off", "filter"), ("zone", "clock"), ("shade", "clock"), ("off", "clock"), ("shade", "zone"), ("off", "zone"), ("off", "shade")].all (fun p => wxq (sTx p.1) (sTx p.2)) = true := by decide +kernel
theorem wx10 {u v : String} {p : Nat} (h : (u, v) ∈ [("mic", "map"), ("mic", "source"), ("mic", "wall"), ("mic", "fade"), ("mic", "filter"), ("mic", "clock"), ("mic", "zone"), ("mic", "shade"), ("mic", "off"), ("map", "source"), ("map", "wall"), ("map", "fade"), ("map", "filter"), ("map", "clock"), ("map", "zone"), ("map", "shade"), ("map", "off"), ("source", "wall"), ("source", "fade"), ("source", "filter"), ("source", "clock"), ("source", "zone"), ("source", "shade"), ("source", "off"), ("wall", "fade"), ("wall", "filter"), ("wall", "clock"), ("wall", "zone"), ("wall", "shade"), ("wall", "off"), ("fade", "filter"), ("fade", "clock"), ("fade", "zone"), ("fade", "shade"), ("fade", "off"), ("filter", "clock"), ("filter", "zone"), ("filter", "shade"), ("filter", "off"), ("clock", "zone"), ("clock", "shade"), ("clock", "off"), ("zone", "shade"), ("zone", "off"), ("shade", "off"), ("map", "mic"), ("source", "mic"), ("wall", "mic"), ("fade", "mic"), ("filter", "mic"), ("clock", "mic"), ("zone", "mic"), ("shade", "mic"), ("off", "mic"), ("source", "map"), ("wall", "map"), ("fade", "map"), ("filter", "map"), ("clock", "map"), ("zone", "map"), ("shade", "map"), ("off", "map"), ("wall", "source"), ("fade", "source"), ("filter", "source"), ("clock", "source"), ("zone", "source"), ("shade", "source"), ("off", "source"), ("fade", "wall"), ("filter", "wall"), ("clock", "wall"), ("zone", "wall"), ("shade", "wall"), ("off", "wall"), ("filter", "fade"), ("clock", "fade"), ("zone", "fade"), ("shade", "fade"), ("off", "fade"), ("clock", "filter"), ("zone", "filter"), ("shade", "filter"), ("off", "filter"), ("zone", "clock"), ("shade", "clock"), ("off", "clock"), ("shade", "zone"), ("off", "zone"), ("off", "shade")]) (a : WD b n p (sTx u)) : ¬ WD b n p (sTx v) := wx (List.all_eq_true.mp wq10 _ h) a
theorem thr_end {T1 : AT} {x : Option (Nat × Int32 × AT)} (h : othr x 0 (fun _ U => g_X3_parseLine_b209 U) = some (k, r, T1)) : ∃ r9, x = some (k, r9, T1) := by
  rcases othr_k h with ⟨r9, g, -⟩ | ⟨r9, U, g, h⟩
  · exact ⟨r9, g⟩
  · have q := osome3 (show some ((0 : Nat), (0 : Int32), U) = some (k, r, T1) from h)
    rw [← q.1, ← q.2.2]
    exact ⟨r9, g⟩
set_option maxHeartbeats 400000 in
theorem c_line (h : PRq b n c i T S) (hF : SRF s T) (hg : g_X3_parseLine T 6 s = some (k, r, T1)) : (WD b n (pst b n i) (sTx "mic") ∧ ∃ r9, g_X3_parseMic T 6 s = some (k, r9, T1)) ∨ (WD b n (pst b n i) (sTx "map") ∧ ∃ r9, g_X3_parseMap T 6 (s + 2) = some (k, r9, T1)) ∨ (WD b n (pst b n i) (sTx "source") ∧ ∃ r9, g_X3_parseSource T 6 s = some (k, r9, T1)) ∨ (WD b n (pst b n i) (sTx "wall") ∧ ∃ r9, g_X3_parseWall T 6 s = some (k, r9, T1)) ∨ (WD b n (pst b n i) (sTx "fade") ∧ ∃ r9, (elet (T.2.2.1 s 12) fun v107 => if v107 ≤ 0 then (g_X3_parseLine_b93 T 0 6 6 s) else (g_X3_parseLine_b93 T 1 6 6 s)) = some (k, r9, T1)) ∨ (WD b n (pst b n i) (sTx "filter") ∧ ∃ r9, g_X3_parseFilter T 6 s = some (k, r9, T1)) ∨ (WD b n (pst b n i) (sTx "clock") ∧ ∃ r9, g_X3_parseClock T 6 s = some (k, r9, T1)) ∨ (WD b n (pst b n i) (sTx "zone") ∧ ∃ r9, g_X3_parseZone T 6 (s + 2) = some (k, r9, T1)) ∨ (WD b n (pst b n i) (sTx "shade") ∧ ∃ r9, g_X3_parseShade T 6 s = some (k, r9, T1)) ∨ (WD b n (pst b n i) (sTx "off") ∧ ∃ r9, g_X3_parseOff T 6 s = some (k, r9, T1)) ∨ ((¬ WD b n (pst b n i) (sTx "mic") ∧ ¬ WD b n (pst b n i) (sTx "map") ∧ ¬ WD b n (pst b n i) (sTx "source") ∧ ¬ WD b n (pst b n i) (sTx "wall") ∧ ¬ WD b n (pst b n i) (sTx "fade") ∧ ¬ WD b n (pst b n i) (sTx "filter") ∧ ¬ WD b n (pst b n i) (sTx "clock") ∧ ¬ WD b n (pst b n i) (sTx "zone") ∧ ¬ WD b n (pst b n i) (sTx "shade") ∧ ¬ WD b n (pst b n i) (sTx "off")) ∧ ∃ r9, g_X3_failAt T 6 (nI i) 1 = some (k, r9, T1)) := by
  unfold g_X3_parseLine at hg
  obtain ⟨-, hg⟩ := oif_some hg
  obtain ⟨r0, U0, e0, hg⟩ := obind2_some hg
  obtain ⟨t0, d0⟩ := kc_word (wl_of (by decide)) h e0
  rw [t0] at hg
  rcases d0 with ⟨z, d0⟩ | ⟨z, d0⟩
  · rw [if_neg (by rw [z]; decide)] at hg
    obtain ⟨-, hg⟩ := oif_some hg
    obtain ⟨r9, hg⟩ := thr_end hg
    exact .inl ⟨d0, r9, hg⟩
  rw [if_pos z] at hg
  obtain ⟨-, hg⟩ := oif_some hg
  obtain ⟨r1, U1, e1, hg⟩ := obind2_some hg
  obtain ⟨t1, d1⟩ := kc_word (wl_of (by decide)) h e1
  rw [t1] at hg
  rcases d1 with ⟨z, d1⟩ | ⟨z, d1⟩
  · rw [if_neg (by rw [z]; decide)] at hg
    obtain ⟨-, hg⟩ := oif_some hg
    obtain ⟨n9, e9, hg⟩ := obind_some hg
    rw [hF.2.1] at e9
    cases e9
    obtain ⟨-, hg⟩ := oif_some hg
    obtain ⟨r9, hg⟩ := thr_end hg
    exact .inr (.inl ⟨d1, r9, hg⟩)
  rw [if_pos z] at hg
  obtain ⟨-, hg⟩ := oif_some hg
  obtain ⟨r2, U2, e2, hg⟩ := obind2_some hg
  obtain ⟨t2, d2⟩ := kc_word (wl_of (by decide)) h e2
  rw [t2] at hg
  rcases d2 with ⟨z, d2⟩ | ⟨z, d2⟩
  · rw [if_neg (by rw [z]; decide)] at hg
    obtain ⟨-, hg⟩ := oif_some hg
    obtain ⟨r9, hg⟩ := thr_end hg
    exact .inr (.inr (.inl ⟨d2, r9, hg⟩))
  rw [if_pos z] at hg
  obtain ⟨-, hg⟩ := oif_some hg
  obtain ⟨r3, U3, e3, hg⟩ := obind2_some hg
  obtain ⟨t3, d3⟩ := kc_word (wl_of (by decide)) h e3
  rw [t3] at hg
  rcases d3 with ⟨z, d3⟩ | ⟨z, d3⟩
  · rw [if_neg (by rw [z]; decide)] at hg
    obtain ⟨-, hg⟩ := oif_some hg
    obtain ⟨r9, hg⟩ := thr_end hg
    exact .inr (.inr (.inr (.inl ⟨d3, r9, hg⟩)))
  rw [if_pos z] at hg
  obtain ⟨-, hg⟩ := oif_some hg
  obtain ⟨r4, U4, e4, hg⟩ := obind2_some hg
  obtain ⟨t4, d4⟩ := kc_word (wl_of (by decide)) h e4
  rw [t4] at hg
  rcases d4 with ⟨z, d4⟩ | ⟨z, d4⟩
  · rw [if_neg (by rw [z]; decide)] at hg
    obtain ⟨-, hg⟩ := oif_some hg
    exact .inr (.inr (.inr (.inr (.inl ⟨d4, r, hg⟩))))
  rw [if_pos z] at hg
  obtain ⟨-, hg⟩ := oif_some hg
  obtain ⟨r5, U5, e5, hg⟩ := obind2_some hg
  obtain ⟨t5, d5⟩ := kc_word (wl_of (by decide)) h e5
  rw [t5] at hg
  rcases d5 with ⟨z, d5⟩ | ⟨z, d5⟩
  · rw [if_neg (by rw [z]; decide)] at hg
    obtain ⟨-, hg⟩ := oif_some hg
    obtain ⟨r9, hg⟩ := thr_end hg
    exact .inr (.inr (.inr (.inr (.inr (.inl ⟨d5, r9, hg⟩)))))
  rw [if_pos z] at hg
  obtain ⟨-, hg⟩ := oif_some hg
  obtain ⟨r6, U6, e6, hg⟩ := obind2_some hg
  obtain ⟨t6, d6⟩ := kc_word (wl_of (by decide)) h e6
  rw [t6] at hg
  rcases d6 with ⟨z, d6⟩ | ⟨z, d6⟩
  · rw [if_neg (by rw [z]; decide)] at hg
    obtain ⟨-, hg⟩ := oif_some hg
    obtain ⟨r9, hg⟩ := thr_end hg
    exact .inr (.inr (.inr (.inr (.inr (.inr (.inl ⟨d6, r9, hg⟩))))))
  rw [if_pos z] at hg
  obtain ⟨-, hg⟩ := oif_some hg
  obtain ⟨r7, U7, e7, hg⟩ := obind2_some hg
  obtain ⟨t7, d7⟩ := kc_word (wl_of (by decide)) h e7
  rw [t7] at hg
  rcases d7 with ⟨z, d7⟩ | ⟨z, d7⟩
  · rw [if_neg (by rw [z]; decide)] at hg
    obtain ⟨-, hg⟩ := oif_some hg
    obtain ⟨n9, e9, hg⟩ := obind_some hg
    rw [hF.2.1] at e9
    cases e9
    obtain ⟨-, hg⟩ := oif_some hg
    obtain ⟨r9, hg⟩ := thr_end hg
    exact .inr (.inr (.inr (.inr (.inr (.inr (.inr (.inl ⟨d7, r9, hg⟩)))))))
  rw [if_pos z] at hg
  obtain ⟨-, hg⟩ := oif_some hg
  obtain ⟨r8, U8, e8, hg⟩ := obind2_some hg
  obtain ⟨t8, d8⟩ := kc_word (wl_of (by decide)) h e8
  rw [t8] at hg
  rcases d8 with ⟨z, d8⟩ | ⟨z, d8⟩
  · rw [if_neg (by rw [z]; decide)] at hg
    obtain ⟨-, hg⟩ := oif_some hg
    obtain ⟨r9, hg⟩ := thr_end hg
    exact .inr (.inr (.inr (.inr (.inr (.inr (.inr (.inr (.inl ⟨d8, r9, hg⟩))))))))
  rw [if_pos z] at hg
  obtain ⟨-, hg⟩ := oif_some hg
  obtain ⟨r9, U9, e9, hg⟩ := obind2_some hg
  obtain ⟨t9, d9⟩ := kc_word (wl_of (by decide)) h e9
  rw [t9] at hg
  rcases d9 with ⟨z, d9⟩ | ⟨z, d9⟩
  · rw [if_neg (by rw [z]; decide)] at hg
    obtain ⟨-, hg⟩ := oif_some hg
    obtain ⟨r9, hg⟩ := thr_end hg
    exact .inr (.inr (.inr (.inr (.inr (.inr (.inr (.inr (.inr (.inl ⟨d9, r9, hg⟩)))))))))
  rw [if_pos z] at hg
  obtain ⟨-, hg⟩ := oif_some hg
  obtain ⟨v73, e73, hg⟩ := elet_some hg
  rw [h.1.2.2.2.2.2] at e73
  rw [e73] at hg
  obtain ⟨-, hg⟩ := oif_some hg
  obtain ⟨r9, hg⟩ := thr_end hg
  exact .inr (.inr (.inr (.inr (.inr (.inr (.inr (.inr (.inr (.inr (⟨⟨d0, d1, d2, d3, d4, d5, d6, d7, d8, d9⟩, r9, hg⟩))))))))))
set_option maxHeartbeats 400000 in
theorem r_line (h : PRq b n c i T S) (hf : fr_readLine S = some S1) : (WD b n (pst b n i) (sTx "wall") ∧ fr_readWall S = some S1) ∨ (WD b n (pst b n i) (sTx "fade") ∧ fr_readFade S = some S1) ∨ (WD b n (pst b n i) (sTx "filter") ∧ fr_readFilter S = some S1) ∨ (WD b n (pst b n i) (sTx "clock") ∧ fr_readClock S = some S1) ∨ (WD b n (pst b n i) (sTx "zone") ∧ fr_readZone S = some S1) ∨ (WD b n (pst b n i) (sTx "shade") ∧ fr_readShade S = some S1) ∨ (WD b n (pst b n i) (sTx "off") ∧ fr_readOff S = some S1) ∨ (WD b n (pst b n i) (sTx "mic") ∧ fr_readMic S = some S1) ∨ (WD b n (pst b n i) (sTx "map") ∧ fr_readMap S = some S1) ∨ (WD b n (pst b n i) (sTx "source") ∧ fr_readSource S = some S1) ∨ ((¬ WD b n (pst b n i) (sTx "wall") ∧ ¬ WD b n (pst b n i) (sTx "fade") ∧ ¬ WD b n (pst b n i) (sTx "filter") ∧ ¬ WD b n (pst b n i) (sTx "clock") ∧ ¬ WD b n (pst b n i) (sTx "zone") ∧ ¬ WD b n (pst b n i) (sTx "shade") ∧ ¬ WD b n (pst b n i) (sTx "off") ∧ ¬ WD b n (pst b n i) (sTx "mic") ∧ ¬ WD b n (pst b n i) (sTx "map") ∧ ¬ WD b n (pst b n i) (sTx "source")) ∧ fr_faults S 1 = some S1) := by
  unfold fr_readLine at hf
  obtain ⟨r0, U0, e0, hf⟩ := obind2_some hf
  obtain ⟨t0, d0⟩ := kr_word (wl_of (by decide)) h e0
  rw [t0] at hf
  rcases d0 with ⟨z, d0⟩ | ⟨z, d0⟩
  · rw [if_neg (by rw [z]; decide)] at hf
    obtain ⟨V, f9, hf⟩ := obind_some hf
    have q := osome1 (show some V = some S1 from hf)
    rw [q] at f9
    exact .inl ⟨d0, f9⟩
  rw [if_pos z] at hf
  obtain ⟨r1, U1, e1, hf⟩ := obind2_some hf
  obtain ⟨t1, d1⟩ := kr_word (wl_of (by decide)) h e1
  rw [t1] at hf
  rcases d1 with ⟨z, d1⟩ | ⟨z, d1⟩
  · rw [if_neg (by rw [z]; decide)] at hf
    obtain ⟨V, f9, hf⟩ := obind_some hf
    have q := osome1 (show some V = some S1 from hf)
    rw [q] at f9
    exact .inr (.inl ⟨d1, f9⟩)
  rw [if_pos z] at hf
  obtain ⟨r2, U2, e2, hf⟩ := obind2_some hf
  obtain ⟨t2, d2⟩ := kr_word (wl_of (by decide)) h e2
  rw [t2] at hf
  rcases d2 with ⟨z, d2⟩ | ⟨z, d2⟩
  · rw [if_neg (by rw [z]; decide)] at hf
    obtain ⟨V, f9, hf⟩ := obind_some hf
    have q := osome1 (show some V = some S1 from hf)
    rw [q] at f9
    exact .inr (.inr (.inl ⟨d2, f9⟩))
  rw [if_pos z] at hf
  obtain ⟨r3, U3, e3, hf⟩ := obind2_some hf
  obtain ⟨t3, d3⟩ := kr_word (wl_of (by decide)) h e3
  rw [t3] at hf
  rcases d3 with ⟨z, d3⟩ | ⟨z, d3⟩
  · rw [if_neg (by rw [z]; decide)] at hf
    obtain ⟨V, f9, hf⟩ := obind_some hf
    have q := osome1 (show some V = some S1 from hf)
    rw [q] at f9
    exact .inr (.inr (.inr (.inl ⟨d3, f9⟩)))
  rw [if_pos z] at hf
  obtain ⟨r4, U4, e4, hf⟩ := obind2_some hf
  obtain ⟨t4, d4⟩ := kr_word (wl_of (by decide)) h e4
  rw [t4] at hf
  rcases d4 with ⟨z, d4⟩ | ⟨z, d4⟩
  · rw [if_neg (by rw [z]; decide)] at hf
    obtain ⟨V, f9, hf⟩ := obind_some hf
    have q := osome1 (show some V = some S1 from hf)
    rw [q] at f9
    exact .inr (.inr (.inr (.inr (.inl ⟨d4, f9⟩))))
  rw [if_pos z] at hf
  obtain ⟨r5, U5, e5, hf⟩ := obind2_some hf
  obtain ⟨t5, d5⟩ := kr_word (wl_of (by decide)) h e5
  rw [t5] at hf
  rcases d5 with ⟨z, d5⟩ | ⟨z, d5⟩
  · rw [if_neg (by rw [z]; decide)] at hf
    obtain ⟨V, f9, hf⟩ := obind_some hf
    have q := osome1 (show some V = some S1 from hf)
    rw [q] at f9
    exact .inr (.inr (.inr (.inr (.inr (.inl ⟨d5, f9⟩)))))
  rw [if_pos z] at hf
  obtain ⟨r6, U6, e6, hf⟩ := obind2_some hf
  obtain ⟨t6, d6⟩ := kr_word (wl_of (by decide)) h e6
  rw [t6] at hf
  rcases d6 with ⟨z, d6⟩ | ⟨z, d6⟩
  · rw [if_neg (by rw [z]; decide)] at hf
    obtain ⟨V, f9, hf⟩ := obind_some hf
    have q := osome1 (show some V = some S1 from hf)
    rw [q] at f9
    exact .inr (.inr (.inr (.inr (.inr (.inr (.inl ⟨d6, f9⟩))))))
  rw [if_pos z] at hf
  obtain ⟨r7, U7, e7, hf⟩ := obind2_some hf
  obtain ⟨t7, d7⟩ := kr_word (wl_of (by decide)) h e7
  rw [t7] at hf
  rcases d7 with ⟨z, d7⟩ | ⟨z, d7⟩
  · rw [if_neg (by rw [z]; decide)] at hf
    obtain ⟨V, f9, hf⟩ := obind_some hf
    have q := osome1 (show some V = some S1 from hf)
    rw [q] at f9
    exact .inr (.inr (.inr (.inr (.inr (.inr (.inr (.inl ⟨d7, f9⟩)))))))
  rw [if_pos z] at hf
  obtain ⟨r8, U8, e8, hf⟩ := obind2_some hf
  obtain ⟨t8, d8⟩ := kr_word (wl_of (by decide)) h e8
  rw [t8] at hf
  rcases d8 with ⟨z, d8⟩ | ⟨z, d8⟩
  · rw [if_neg (by rw [z]; decide)] at hf
    obtain ⟨V, f9, hf⟩ := obind_some hf
    have q := osome1 (show some V = some S1 from hf)
    rw [q] at f9
    exact .inr (.inr (.inr (.inr (.inr (.inr (.inr (.inr (.inl ⟨d8, f9⟩))))))))
  rw [if_pos z] at hf
  obtain ⟨r9, U9, e9, hf⟩ := obind2_some hf
  obtain ⟨t9, d9⟩ := kr_word (wl_of (by decide)) h e9
  rw [t9] at hf
  rcases d9 with ⟨z, d9⟩ | ⟨z, d9⟩
  · rw [if_neg (by rw [z]; decide)] at hf
    obtain ⟨V, f9, hf⟩ := obind_some hf
    have q := osome1 (show some V = some S1 from hf)
    rw [q] at f9
    exact .inr (.inr (.inr (.inr (.inr (.inr (.inr (.inr (.inr (.inl ⟨d9, f9⟩)))))))))
  rw [if_pos z] at hf
  obtain ⟨V, f9, hf⟩ := obind_some hf
  have q := osome1 (show some V = some S1 from hf)
  rw [q] at f9
  exact .inr (.inr (.inr (.inr (.inr (.inr (.inr (.inr (.inr (.inr (⟨⟨d0, d1, d2, d3, d4, d5, d6, d7, d8, d9⟩, f9⟩))))))))))
set_option maxHeartbeats 400000 in
theorem l_line (h : PRq b n c i T S) (hs : s = 478 ∨ s = 656) (hF : SRF s T) (hC : SCNq s T (S.2.1 11) (S.2.1 13)) (hg : g_X3_parseLine T 6 s = some (k, r, T1)) (hf : fr_readLine S = some S1) : LNq b n c i s T T1 S1 k := by
  have hsb : 478 ≤ s ∧ s ≤ 656 := by omega
  have cl := c_line h hF hg
  have rl := r_line h hf
  have e_mic : WD b n (pst b n i) (sTx "mic") → fr_readMic S = some S1 := fun d => by
    rcases rl with ⟨f, q⟩ | ⟨f, q⟩ | ⟨f, q⟩ | ⟨f, q⟩ | ⟨f, q⟩ | ⟨f, q⟩ | ⟨f, q⟩ | ⟨f, q⟩ | ⟨f, q⟩ | ⟨f, q⟩ | ⟨f, -⟩
    · exact absurd f (wx10 (by decide) d)
    · exact absurd f (wx10 (by decide) d)
    · exact absurd f (wx10 (by decide) d)
    · exact absurd f (wx10 (by decide) d)
    · exact absurd f (wx10 (by decide) d)
    · exact absurd f (wx10 (by decide) d)
    · exact absurd f (wx10 (by decide) d)
    · exact q
    · exact absurd f (wx10 (by decide) d)
    · exact absurd f (wx10 (by decide) d)
    · exact absurd d f.2.2.2.2.2.2.2.1
  have e_map : WD b n (pst b n i) (sTx "map") → fr_readMap S = some S1 := fun d => by
    rcases rl with ⟨f, q⟩ | ⟨f, q⟩ | ⟨f, q⟩ | ⟨f, q⟩ | ⟨f, q⟩ | ⟨f, q⟩ | ⟨f, q⟩ | ⟨f, q⟩ | ⟨f, q⟩ | ⟨f, q⟩ | ⟨f, -⟩
    · exact absurd f (wx10 (by decide) d)
    · exact absurd f (wx10 (by decide) d)
    · exact absurd f (wx10 (by decide) d)
    · exact absurd f (wx10 (by decide) d)
    · exact absurd f (wx10 (by decide) d)
    · exact absurd f (wx10 (by decide) d)
    · exact absurd f (wx10 (by decide) d)
    · exact absurd f (wx10 (by decide) d)
    · exact q
    · exact absurd f (wx10 (by decide) d)
    · exact absurd d f.2.2.2.2.2.2.2.2.1
  have e_source : WD b n (pst b n i) (sTx "source") → fr_readSource S = some S1 := fun d => by
    rcases rl with ⟨f, q⟩ | ⟨f, q⟩ | ⟨f, q⟩ | ⟨f, q⟩ | ⟨f, q⟩ | ⟨f, q⟩ | ⟨f, q⟩ | ⟨f, q⟩ | ⟨f, q⟩ | ⟨f, q⟩ | ⟨f, -⟩
    · exact absurd f (wx10 (by decide) d)
    · exact absurd f (wx10 (by decide) d)
    · exact absurd f (wx10 (by decide) d)
    · exact absurd f (wx10 (by decide) d)
    · exact absurd f (wx10 (by decide) d)
    · exact absurd f (wx10 (by decide) d)
    · exact absurd f (wx10 (by decide) d)
    · exact absurd f (wx10 (by decide) d)
    · exact absurd f (wx10 (by decide) d)
    · exact q
    · exact absurd d f.2.2.2.2.2.2.2.2.2
  have e_wall : WD b n (pst b n i) (sTx "wall") → fr_readWall S = some S1 := fun d => by
    rcases rl with ⟨f, q⟩ | ⟨f, q⟩ | ⟨f, q⟩ | ⟨f, q⟩ | ⟨f, q⟩ | ⟨f, q⟩ | ⟨f, q⟩ | ⟨f, q⟩ | ⟨f, q⟩ | ⟨f, q⟩ | ⟨f, -⟩
    · exact q
    · exact absurd f (wx10 (by decide) d)
    · exact absurd f (wx10 (by decide) d)
    · exact absurd f (wx10 (by decide) d)
    · exact absurd f (wx10 (by decide) d)
    · exact absurd f (wx10 (by decide) d)
    · exact absurd f (wx10 (by decide) d)
    · exact absurd f (wx10 (by decide) d)
    · exact absurd f (wx10 (by decide) d)
    · exact absurd f (wx10 (by decide) d)
    · exact absurd d f.1
  have e_fade : WD b n (pst b n i) (sTx "fade") → fr_readFade S = some S1 := fun d => by
    rcases rl with ⟨f, q⟩ | ⟨f, q⟩ | ⟨f, q⟩ | ⟨f, q⟩ | ⟨f, q⟩ | ⟨f, q⟩ | ⟨f, q⟩ | ⟨f, q⟩ | ⟨f, q⟩ | ⟨f, q⟩ | ⟨f, -⟩
    · exact absurd f (wx10 (by decide) d)
    · exact q
    · exact absurd f (wx10 (by decide) d)
    · exact absurd f (wx10 (by decide) d)
    · exact absurd f (wx10 (by decide) d)
    · exact absurd f (wx10 (by decide) d)
    · exact absurd f (wx10 (by decide) d)
    · exact absurd f (wx10 (by decide) d)
    · exact absurd f (wx10 (by decide) d)
    · exact absurd f (wx10 (by decide) d)
    · exact absurd d f.2.1
  have e_filter : WD b n (pst b n i) (sTx "filter") → fr_readFilter S = some S1 := fun d => by
    rcases rl with ⟨f, q⟩ | ⟨f, q⟩ | ⟨f, q⟩ | ⟨f, q⟩ | ⟨f, q⟩ | ⟨f, q⟩ | ⟨f, q⟩ | ⟨f, q⟩ | ⟨f, q⟩ | ⟨f, q⟩ | ⟨f, -⟩
    · exact absurd f (wx10 (by decide) d)
    · exact absurd f (wx10 (by decide) d)
    · exact q
    · exact absurd f (wx10 (by decide) d)
    · exact absurd f (wx10 (by decide) d)
    · exact absurd f (wx10 (by decide) d)
    · exact absurd f (wx10 (by decide) d)
    · exact absurd f (wx10 (by decide) d)
    · exact absurd f (wx10 (by decide) d)
    · exact absurd f (wx10 (by decide) d)
    · exact absurd d f.2.2.1
  have e_clock : WD b n (pst b n i) (sTx "clock") → fr_readClock S = some S1 := fun d => by
    rcases rl with ⟨f, q⟩ | ⟨f, q⟩ | ⟨f, q⟩ | ⟨f, q⟩ | ⟨f, q⟩ | ⟨f, q⟩ | ⟨f, q⟩ | ⟨f, q⟩ | ⟨f, q⟩ | ⟨f, q⟩ | ⟨f, -⟩
    · exact absurd f (wx10 (by decide) d)
    · exact absurd f (wx10 (by decide) d)
    · exact absurd f (wx10 (by decide) d)
    · exact q
    · exact absurd f (wx10 (by decide) d)
    · exact absurd f (wx10 (by decide) d)
    · exact absurd f (wx10 (by decide) d)
    · exact absurd f (wx10 (by decide) d)
    · exact absurd f (wx10 (by decide) d)
    · exact absurd f (wx10 (by decide) d)
    · exact absurd d f.2.2.2.1
  have e_zone : WD b n (pst b n i) (sTx "zone") → fr_readZone S = some S1 := fun d => by
    rcases rl with ⟨f, q⟩ | ⟨f, q⟩ | ⟨f, q⟩ | ⟨f, q⟩ | ⟨f, q⟩ | ⟨f, q⟩ | ⟨f, q⟩ | ⟨f, q⟩ | ⟨f, q⟩ | ⟨f, q⟩ | ⟨f, -⟩
    · exact absurd f (wx10 (by decide) d)
    · exact absurd f (wx10 (by decide) d)
    · exact absurd f (wx10 (by decide) d)
    · exact absurd f (wx10 (by decide) d)
    · exact q
    · exact absurd f (wx10 (by decide) d)
    · exact absurd f (wx10 (by decide) d)
    · exact absurd f (wx10 (by decide) d)
    · exact absurd f (wx10 (by decide) d)
    · exact absurd f (wx10 (by decide) d)
    · exact absurd d f.2.2.2.2.1
  have e_shade : WD b n (pst b n i) (sTx "shade") → fr_readShade S = some S1 := fun d => by
    rcases rl with ⟨f, q⟩ | ⟨f, q⟩ | ⟨f, q⟩ | ⟨f, q⟩ | ⟨f, q⟩ | ⟨f, q⟩ | ⟨f, q⟩ | ⟨f, q⟩ | ⟨f, q⟩ | ⟨f, q⟩ | ⟨f, -⟩
    · exact absurd f (wx10 (by decide) d)
    · exact absurd f (wx10 (by decide) d)
    · exact absurd f (wx10 (by decide) d)
    · exact absurd f (wx10 (by decide) d)
    · exact absurd f (wx10 (by decide) d)
    · exact q
    · exact absurd f (wx10 (by decide) d)
    · exact absurd f (wx10 (by decide) d)
    · exact absurd f (wx10 (by decide) d)
    · exact absurd f (wx10 (by decide) d)
    · exact absurd d f.2.2.2.2.2.1
  have e_off : WD b n (pst b n i) (sTx "off") → fr_readOff S = some S1 := fun d => by
    rcases rl with ⟨f, q⟩ | ⟨f, q⟩ | ⟨f, q⟩ | ⟨f, q⟩ | ⟨f, q⟩ | ⟨f, q⟩ | ⟨f, q⟩ | ⟨f, q⟩ | ⟨f, q⟩ | ⟨f, q⟩ | ⟨f, -⟩
    · exact absurd f (wx10 (by decide) d)
    · exact absurd f (wx10 (by decide) d)
    · exact absurd f (wx10 (by decide) d)
    · exact absurd f (wx10 (by decide) d)
    · exact absurd f (wx10 (by decide) d)
    · exact absurd f (wx10 (by decide) d)
    · exact q
    · exact absurd f (wx10 (by decide) d)
    · exact absurd f (wx10 (by decide) d)
    · exact absurd f (wx10 (by decide) d)
    · exact absurd d f.2.2.2.2.2.2.1
  rcases cl with ⟨d, r9, hg⟩ | ⟨d, r9, hg⟩ | ⟨d, r9, hg⟩ | ⟨d, r9, hg⟩ | ⟨d, r9, hg⟩ | ⟨d, r9, hg⟩ | ⟨d, r9, hg⟩ | ⟨d, r9, hg⟩ | ⟨d, r9, hg⟩ | ⟨d, r9, hg⟩ | ⟨d, r9, hg⟩
  · exact l_mic h d.1 hs hF hC hg (e_mic d)
  · exact l_map h d.1 hs hF hC hg (e_map d)
  · exact l_source h d.1 hs hF hC hg (e_source d)
  · exact l_wall h d.1 hs hF hC hg (e_wall d)
  · exact l_fade h d.1 hs hF hC hg (e_fade d)
  · exact l_filter h d.1 hs hF hC hg (e_filter d)
  · exact l_clock h d.1 hs hF hC hg (e_clock d)
  · exact l_zone h d.1 hs hF hC hg (e_zone d)
  · exact l_shade h d.1 hs hF hC hg (e_shade d)
  · exact l_off h d.1 hs hF hC hg (e_off d)
  · rcases rl with ⟨f, -⟩ | ⟨f, -⟩ | ⟨f, -⟩ | ⟨f, -⟩ | ⟨f, -⟩ | ⟨f, -⟩ | ⟨f, -⟩ | ⟨f, -⟩ | ⟨f, -⟩ | ⟨f, -⟩ | ⟨-, f⟩
    · exact absurd f d.2.2.2.1
    · exact absurd f d.2.2.2.2.1
    · exact absurd f d.2.2.2.2.2.1
    · exact absurd f d.2.2.2.2.2.2.1
    · exact absurd f d.2.2.2.2.2.2.2.1
    · exact absurd f d.2.2.2.2.2.2.2.2.1
    · exact absurd f d.2.2.2.2.2.2.2.2.2
    · exact absurd f d.1
    · exact absurd f d.2.1
    · exact absurd f d.2.2.1
    · exact .inr (k_err h h.1.2.2.2.2.1 rfl (by decide) hg f)
end
end
section
/-! 20k.parse.lean.txt -/
section
variable {b : Nat → Int32} {n c i k s : Nat} {T T1 : AT} {S S1 : MS} {r : Int32}
/-- the outcome of a text -/
def TXq (s : Nat) (T T1 : AT) (S1 : MS) (k : Nat) : Prop := (k = 0 ∧ SCNq s T1 (S1.2.1 11) (S1.2.1 13) ∧ T1.2.2.2.2 = T.2.2.2.2 ∧ T1.2.2.1 6 2 = 0 ∧ T1.2.2.1 6 3 = -1 ∧ S1.1 5 = 0 ∧ S1.1 6 = -1 ∧ S1.2.1 11 4 ≠ 0 ∧ S1.2.1 11 8 ≠ 0) ∨ (k = 3 ∧ ERq T1 S1)
theorem st_b92 (q : 0 < (S.1 5).toInt) (hf : fr_readText_b92 S = some S1) : S1 = S := by
  have fin : fr_readText_b111 S = some S1 → S1 = S := fun hf => by
    unfold fr_readText_b111 at hf
    obtain ⟨S2, f2, hf⟩ := obind_some hf
    rw [st_faults q f2] at hf
    exact (osome1 (show some S = some S1 from hf)).symm
  unfold fr_readText_b92 at hf
  obtain ⟨v2, e2, hf⟩ := elet_some hf
  by_cases c1 : v2 = 0
  · rw [if_pos c1] at hf
    exact fin hf
  · rw [if_neg c1] at hf
    obtain ⟨v4, e4, hf⟩ := elet_some hf
    by_cases c2 : v4 = 0
    · rw [if_pos c2] at hf
      exact fin hf
    · rw [if_neg c2] at hf
      exact (osome1 (show some S = some S1 from hf)).symm
theorem st_b52 : ∀ f : Nat, 0 < (S.1 5).toInt → fr_readText_b52 f S = some S1 → S1 = S := by
  intro f q hf
  cases f with
  | zero => cases hf
  | succ f =>
    unfold fr_readText_b52 at hf
    obtain ⟨r5, S2, f5, hf⟩ := obind2_some hf
    obtain ⟨k1, k2⟩ := st_here q f5
    rw [if_pos k1, k2] at hf
    obtain ⟨v7, e7, hf⟩ := elet_some hf
    rw [if_neg (st_ne q e7)] at hf
    exact st_b92 q hf
/-- the end of a text: a camera must have microphones and a map -/
theorem k_end (h : PRq b n c i T S) (hs : s = 478 ∨ s = 656) (hF : SRF s T) (hC : SCNq s T (S.2.1 11) (S.2.1 13)) (hg : g_X3_parse_b81 T 6 s = some (k, r, T1)) (hf : fr_readText_b92 S = some S1) : TXq s T T1 S1 k := by
  have h11 := h.1.2.2.2.2.2
  have h10 := h.1.2.2.2.2.1
  have hC2 := hC
  obtain ⟨gH, ⟨mc, b1, b2, b3, b4, b5⟩, gG, -⟩ := hC
  have fail : g_X3_parse_b98 T 6 = some (k, r, T1) → fr_readText_b111 S = some S1 → TXq s T T1 S1 k := by
    intro hg hf
    unfold g_X3_parse_b98 at hg
    obtain ⟨-, hg⟩ := oif_some hg
    obtain ⟨v3, e3, hg⟩ := elet_some hg
    rw [h11] at e3
    rw [e3] at hg
    obtain ⟨-, hg⟩ := oif_some hg
    unfold fr_readText_b111 at hf
    obtain ⟨S2, f2, hf⟩ := obind_some hf
    rw [← osome1 (show some S2 = some S1 from hf)]
    right
    rcases othr_k hg with ⟨r9, g9, -⟩ | ⟨r9, T9, g9, -⟩
    · exact k_err h h10 rfl (by decide) g9 f2
    · exact absurd (k_err h h10 rfl (by decide) g9 f2).1 (by decide)
  unfold g_X3_parse_b81 at hg
  obtain ⟨-, hg⟩ := oif_some hg
  obtain ⟨v3, e3, hg⟩ := elet_some hg
  rw [b2, ← b3] at e3
  unfold fr_readText_b92 at hf
  obtain ⟨v2, e2, hf⟩ := elet_some hf
  rw [← e3] at e2
  by_cases c1 : v3 = 0
  · rw [if_pos c1] at hg
    rw [if_pos (e2.trans c1)] at hf
    exact fail hg hf
  rw [if_neg c1] at hg
  rw [if_neg (fun q => c1 (e2.symm.trans q))] at hf
  obtain ⟨-, hg⟩ := oif_some hg
  obtain ⟨n6, e6, hg⟩ := obind_some hg
  rw [hF.2.1] at e6
  cases e6
  obtain ⟨-, hg⟩ := oif_some hg
  obtain ⟨v8, e8, hg⟩ := elet_some hg
  rw [gG.1] at e8
  obtain ⟨v4, e4, hf⟩ := elet_some hf
  by_cases c2 : v8 = 0
  · rw [if_pos c2] at hg
    have c4 : v4 = 0 := by
      rw [e4]
      rcases gG.2.2 with ⟨y, -, -⟩ | ⟨-, y, -⟩
      · exact y
      · rw [← e8, c2] at y; exact absurd y (by decide)
    rw [if_pos c4] at hf
    exact fail hg hf
  · rw [if_neg c2] at hg
    have c4 : ¬ v4 = 0 := by
      rw [e4]
      rcases gG.2.2 with ⟨-, y, -⟩ | ⟨y, -, -⟩
      · rw [y] at e8; exact absurd e8 c2
      · intro q; rw [q] at y; exact absurd y (by decide)
    rw [if_neg c4] at hf
    have ff := osome1 (show some S = some S1 from hf)
    unfold g_X3_parse_b107 at hg
    obtain ⟨-, hg⟩ := oif_some hg
    obtain ⟨T3, e3', hg⟩ := elet_some hg
    obtain ⟨-, hg⟩ := oif_some hg
    obtain ⟨T5, e5, hg⟩ := elet_some hg
    have g := osome3 hg
    have t : TFq T T5 := by rw [e5, e3']; exact tf6.tr tf6
    rw [← g.2.2, ← ff]
    refine .inl ⟨g.1.symm, scn_tf hs t hC2, congrArg (fun x => x.2) t.2.2.1, ?_, ?_, h.2.2.1, h.2.2.2.1, ?_, ?_⟩
    · rw [e5, ui_ne (.inr (by decide)), e3', ui_at]
    · rw [e5, ui_at]
    · rw [← e3]; exact c1
    · rw [← e4]; exact c4
theorem k_textl (hs : s = 478 ∨ s = 656) : ∀ (f f2 : Nat) {i l k : Nat} {r : Int32} {T T1 : AT} {S S1 : MS}, PRq b n c i T S → SRF s T → SCNq s T (S.2.1 11) (S.2.1 13) → l ≤ i → g_X3_parse_b24 f T 6 s (nI l) = some (k, r, T1) → fr_readText_b52 f2 S = some S1 → TXq s T T1 S1 k := by
  intro f
  induction f with
  | zero => intro f2 i l k r T T1 S S1 p hF hC hl hg hf; cases hg
  | succ f ih =>
    intro f2 i l k r T T1 S S1 p hF hC hl hg hf
    cases f2 with
    | zero => cases hf
    | succ f2 =>
      have qt := p.2.2.2.2.2.2.2
      have h10 := p.1.2.2.2.2.1
      have h11 := p.1.2.2.2.2.2
      have hc := p.1.2.2.2.1.2.2.1
      unfold g_X3_parse_b24 at hg
      obtain ⟨-, hg⟩ := oif_some hg
      obtain ⟨n3, e3, hg⟩ := obind_some hg
      rw [p.1.2.1.2.2.2.2.1] at e3
      cases e3
      obtain ⟨-, hg⟩ := oif_some hg
      obtain ⟨v5, e5, hg⟩ := elet_some hg
      rw [p.1.2.2.2.1.1] at e5
      rw [if_neg (by rw [e5]; intro q; have := (nI_leI (by omega) (by omega)).mp q; omega)] at hg
      obtain ⟨-, hg⟩ := oif_some hg
      obtain ⟨r10, T8, e8, hg⟩ := obind2_some hg
      obtain ⟨k1, k2⟩ := k_kind p e8
      rw [k2] at hg
      unfold fr_readText_b52 at hf
      obtain ⟨r5, S2, f5, hf⟩ := obind2_some hf
      obtain ⟨g1, g2⟩ := k_here p (.inr rfl) f5
      rw [if_neg (by decide)] at g2
      rw [g1] at hf
      by_cases k5 : kd b n (pst b n i) = 5
      · rw [if_pos (k1.trans k5)] at hg
        have w1 : r5 = 0 := by
          rcases g2 with ⟨-, q⟩ | ⟨q, -⟩
          · rw [k5] at q; exact absurd q (by decide)
          · exact q
        rw [if_pos w1] at hf
        obtain ⟨v7, e7, hf⟩ := elet_some hf
        rw [if_pos (e7.trans p.2.2.1)] at hf
        obtain ⟨v9, e9, hf⟩ := elet_some hf
        rw [if_pos (e9.trans ((tk_end qt).mpr k5))] at hf
        exact k_end p hs hF hC hg hf
      rw [if_neg (fun q => k5 (k1.symm.trans q))] at hg
      obtain ⟨-, hg⟩ := oif_some hg
      obtain ⟨r16, T14, e14, hg⟩ := obind2_some hg
      obtain ⟨k3, k4⟩ := k_kind p e14
      rw [k4] at hg
      rcases g2 with ⟨w1, km⟩ | ⟨w1, km⟩
      · rw [if_pos (k3.trans km)] at hg
        rw [if_neg (by rw [w1]; decide)] at hf
        obtain ⟨S14, f14, hf⟩ := obind_some hf
        obtain ⟨S17, f17, hf⟩ := obind_some hf
        unfold g_X3_parse_b60 at hg
        obtain ⟨-, hg⟩ := oif_some hg
        obtain ⟨v3, e3, hg⟩ := elet_some hg
        rw [h11] at e3
        obtain ⟨v4, e4, hg⟩ := elet_some hg
        rw [e3, nI_1] at e4
        obtain ⟨-, hg⟩ := oif_some hg
        obtain ⟨T6, e6, hg⟩ := elet_some hg
        obtain ⟨p6, m6⟩ := pr_adv p k5 f14
        rw [← e4, ← e6] at p6
        have t6 : TFq T T6 := by rw [e6]; exact tf6
        have r6 : T6.2.2.2.2 = T.2.2.2.2 := congrArg (fun x => x.2) t6.2.2.1
        have C6 : SCNq s T6 (S14.2.1 11) (S14.2.1 13) := by rw [m6.1]; exact scn_tf hs t6 hC
        obtain ⟨-, hg⟩ := oif_some hg
        rcases othr_k hg with ⟨r9, g9, z9⟩ | ⟨r9, T9, g9, hg⟩
        · rcases l_line p6 hs (hF.sub r6) C6 g9 f17 with ⟨z, -⟩ | ⟨z1, z2⟩
          · exact absurd z z9
          · exact .inr ⟨z1, by rw [st_b52 _ z2.1 hf]; exact z2⟩
        rcases l_line p6 hs (hF.sub r6) C6 g9 f17 with ⟨-, ⟨j, hj, p9⟩, C9, r9'⟩ | ⟨z1, -⟩
        rotate_left
        · exact absurd z1 (by decide)
        obtain ⟨v12, e12, hg⟩ := elet_some hg
        have e12 : v12 = nI (l + 1) := e12.trans (nI_1 l)
        rw [e12] at hg
        rcases ih f2 p9 (hF.sub (r9'.trans r6)) C9 (by omega) hg hf with ⟨y1, y2, y3, y4⟩ | y
        · exact .inl ⟨y1, y2, y3.trans (r9'.trans r6), y4⟩
        · exact .inr y
      · rw [if_neg (fun q => km (k3.symm.trans q))] at hg
        rw [if_pos w1] at hf
        obtain ⟨v7, e7, hf⟩ := elet_some hf
        rw [if_pos (e7.trans p.2.2.1)] at hf
        obtain ⟨v9, e9, hf⟩ := elet_some hf
        rw [if_neg (fun q => k5 ((tk_end qt).mp (e9.symm.trans q)))] at hf
        obtain ⟨S11, f11, hf⟩ := obind_some hf
        obtain ⟨-, hg⟩ := oif_some hg
        obtain ⟨v20, e20, hg⟩ := elet_some hg
        rw [h11] at e20
        rw [e20] at hg
        obtain ⟨-, hg⟩ := oif_some hg
        right
        rcases othr_k hg with ⟨r9, g9, -⟩ | ⟨r9, T9, g9, -⟩
        · obtain ⟨a1, a2⟩ := k_err p h10 rfl (by decide) g9 f11
          rw [st_b92 a2.1 hf]
          exact ⟨a1, a2⟩
        · exact absurd (k_err p h10 rfl (by decide) g9 f11).1 (by decide)
/-- the reference's plan and draft are made zero -/
theorem r_zero2 : ∀ (f : Nat) {l : Nat} {S : MS}, l ≤ 2455 → (∀ x, x < l → S.2.1 13 x = 0) → fr_readText_b24 f S (nI l) = some S1 → ∃ U V W, U.1 = S.1 ∧ (∀ a, a ≠ 13 → U.2.1 a = S.2.1 a) ∧ (∀ x, x < 2455 → U.2.1 13 x = 0) ∧ fr_nextToken U = some V ∧ fr_readFirst V = some W ∧ fr_readText_b52 16384 W = some S1 := by
  intro f
  induction f with
  | zero => intro l S hl hz hf; cases hf
  | succ f ih =>
    intro l S hl hz hf
    unfold fr_readText_b24 at hf
    by_cases c1 : (2455 : Int32) ≤ nI l
    · rw [if_pos c1] at hf
      have := (nI_leI (a := 2455) (b := l) (by omega) (by omega)).mp c1
      obtain ⟨V, f3, hf⟩ := obind_some hf
      obtain ⟨W, f6, hf⟩ := obind_some hf
      exact ⟨S, V, W, rfl, fun _ _ => rfl, fun x hx => hz x (by omega), f3, f6, hf⟩
    · rw [if_neg c1] at hf
      have c1 : l < 2455 := Nat.lt_of_not_le (fun q => c1 ((nI_leI (a := 2455) (b := l) (by omega) (by omega)).mpr q))
      obtain ⟨-, hf⟩ := oif_some hf
      obtain ⟨S10, e10, hf⟩ := elet_some hf
      rw [nI_clamp (by omega)] at e10
      obtain ⟨v11, e11, hf⟩ := elet_some hf
      have e11 : v11 = nI (l + 1) := e11.trans (nI_1 l)
      rw [e11] at hf
      obtain ⟨U, V, W, a1, a2, a3⟩ := ih (S := S10) (by omega) (fun x hx => by
        rw [e10, mf_at]
        show (if x = l then (0 : Int32) else S.2.1 13 x) = 0
        by_cases e : x = l
        · rw [if_pos e]
        · rw [if_neg e]; exact hz x (by omega)) hf
      exact ⟨U, V, W, a1.trans (by rw [e10]; rfl), fun a ha => (a2 a ha).trans (by rw [e10, mf_ne ha]), a3⟩
theorem r_zero1 : ∀ (f : Nat) {l : Nat} {S : MS}, l ≤ 131 → (∀ x, x < l → S.2.1 11 x = 0) → fr_readText_b2 f S (nI l) = some S1 → ∃ U V W, U.1 = S.1 ∧ (∀ a, a ≠ 13 → a ≠ 11 → U.2.1 a = S.2.1 a) ∧ (∀ x, x < 131 → U.2.1 11 x = 0) ∧ (∀ x, x < 2455 → U.2.1 13 x = 0) ∧ fr_nextToken U = some V ∧ fr_readFirst V = some W ∧ fr_readText_b52 16384 W = some S1 := by
  intro f
  induction f with
  | zero => intro l S hl hz hf; cases hf
  | succ f ih =>
    intro l S hl hz hf
    unfold fr_readText_b2 at hf
    by_cases c1 : (131 : Int32) ≤ nI l
    · rw [if_pos c1] at hf
      have := (nI_leI (a := 131) (b := l) (by omega) (by omega)).mp c1
      obtain ⟨U, V, W, a1, a2, a3, a4⟩ := r_zero2 16384 (l := 0) (by omega) (fun x hx => absurd hx (Nat.not_lt_zero x)) hf
      exact ⟨U, V, W, a1, fun a h1 h2 => a2 a h1, fun x hx => by rw [a2 11 (by decide)]; exact hz x (by omega), a3, a4⟩
    · rw [if_neg c1] at hf
      have c1 : l < 131 := Nat.lt_of_not_le (fun q => c1 ((nI_leI (a := 131) (b := l) (by omega) (by omega)).mpr q))
      obtain ⟨-, hf⟩ := oif_some hf
      obtain ⟨S4, e4, hf⟩ := elet_some hf
      rw [nI_clamp (by omega)] at e4
      obtain ⟨v5, e5, hf⟩ := elet_some hf
      have e5 : v5 = nI (l + 1) := e5.trans (nI_1 l)
      rw [e5] at hf
      obtain ⟨U, V, W, a1, a2, a3⟩ := ih (S := S4) (by omega) (fun x hx => by
        rw [e4, mf_at]
        show (if x = l then (0 : Int32) else S.2.1 11 x) = 0
        by_cases e : x = l
        · rw [if_pos e]
        · rw [if_neg e]; exact hz x (by omega)) hf
      exact ⟨U, V, W, a1.trans (by rw [e4]; rfl), fun a h1 h2 => (a2 a h1 h2).trans (by rw [e4, mf_ne h2]), a3⟩
set_option maxHeartbeats 400000 in
theorem l_parse (hs : s = 478 ∨ s = 656) (hR : TXR T) (hF : SRF s T) (hB : BYq b T) (hn : n ≤ 1000) (hb : S.2.1 1 = b) (h3 : S.1 3 = nI n) (h4 : S.1 4 = 0) (h5 : S.1 5 = 0) (h6 : S.1 6 = -1) (hg : g_X3_parse T 6 (nI n) s = some (k, r, T1)) (hf : fr_readText S = some S1) : TXq s T T1 S1 k := by
  unfold fr_readText at hf
  obtain ⟨U, V, W, u1, u2, uP, uD, fV, fW, hf⟩ := r_zero1 16384 (l := 0) (by omega) (fun x hx => absurd hx (Nat.not_lt_zero x)) hf
  unfold g_X3_parse at hg
  obtain ⟨-, hg⟩ := oif_some hg
  obtain ⟨n3, e3, hg⟩ := obind_some hg
  rw [hR.2.2.2.2.1] at e3
  cases e3
  obtain ⟨-, hg⟩ := oif_some hg
  obtain ⟨T5, e5, hg⟩ := obind_some hg
  obtain ⟨kp, c, tk⟩ := q_cut hR hB hn e5
  obtain ⟨-, hg⟩ := oif_some hg
  obtain ⟨T8, e8, hg⟩ := elet_some hg
  obtain ⟨-, hg⟩ := oif_some hg
  obtain ⟨T10, e10, hg⟩ := obind_some hg
  obtain ⟨-, hg⟩ := oif_some hg
  have R5 : T5.2.2.2.2 = T.2.2.2.2 := congrArg (fun x => x.2) kp.2.2.1
  have R8 : T8.2.2.2.2 = T.2.2.2.2 := by rw [e8]; exact R5
  -- clear
  unfold g_X6_clear at e10
  obtain ⟨-, e10⟩ := oif_some e10
  obtain ⟨n3, en3, e10⟩ := obind_some e10
  rw [R8, hF.2.1] at en3
  cases en3
  obtain ⟨-, e10⟩ := oif_some e10
  obtain ⟨A5, a5, e10⟩ := obind_some e10
  unfold g_X1_clear at a5
  obtain ⟨-, a5⟩ := oif_some a5
  obtain ⟨B3, b3, a5⟩ := elet_some a5
  obtain ⟨-, a5⟩ := oif_some a5
  obtain ⟨B5, b5, a5⟩ := elet_some a5
  obtain ⟨-, a5⟩ := oif_some a5
  obtain ⟨B7, b7, a5⟩ := elet_some a5
  have a5 := osome1 a5
  rw [← a5] at e10
  obtain ⟨-, e10⟩ := oif_some e10
  obtain ⟨C8, c8, e10⟩ := elet_some e10
  obtain ⟨-, e10⟩ := oif_some e10
  obtain ⟨C10, c10, e10⟩ := elet_some e10
  obtain ⟨-, e10⟩ := oif_some e10
  obtain ⟨C12, c12, e10⟩ := elet_some e10
  obtain ⟨-, e10⟩ := oif_some e10
  obtain ⟨C14, c14, e10⟩ := elet_some e10
  obtain ⟨-, e10⟩ := oif_some e10
  obtain ⟨C16, c16, e10⟩ := elet_some e10
  obtain ⟨-, e10⟩ := oif_some e10
  obtain ⟨C18, c18, e10⟩ := elet_some e10
  have e10 := osome1 e10
  rw [← e10] at hg
  have hI : ∀ m j : Nat, C18.2.2.1 m j = if m = s ∧ j = 16 then 0 else if m = s ∧ j = 14 then 0 else if m = s ∧ j = 12 then 0 else if m = s ∧ j = 11 then 0 else if m = s ∧ j = 8 then 0 else if m = s ∧ j = 5 then 0 else if m = s + 2 ∧ j = 7 then 0 else if m = s + 2 ∧ j = 4 then 0 else if m = s + 2 ∧ j = 3 then 0 else if m = 6 ∧ j = 1 then 0 else T5.2.2.1 m j := fun m j => by
    rw [c18, ui_get, c16, ui_get, c14, ui_get, c12, ui_get, c10, ui_get, c8, ui_get, b7, ui_get, b5, ui_get, b3, ui_get, e8, ui_get]
  have hlow : ∀ m j : Nat, m < 6 → C18.2.2.1 m j = T5.2.2.1 m j := fun m j hm => by
    rw [hI]
    simp (disch := omega) only [if_neg, if_pos, and_self, and_true, true_and, and_false, false_and, if_true, if_false]
  have R18 : C18.2.2.2.2 = T.2.2.2.2 := by rw [c18, c16, c14, c12, c10, c8, b7, b5, b3]; exact R8
  have S18 : C18.2.1 = T.2.1 := by rw [c18, c16, c14, c12, c10, c8, b7, b5, b3, e8]; exact kp.2.1
  have hR18 : TXR C18 := by
    unfold TXR at hR ⊢
    rw [R18, S18]
    exact hR
  obtain ⟨k1, k2, k3, k4, k5, k6⟩ := tk
  have tk18 : TKS b n C18 c := ⟨(hlow 1 5 (by decide)).trans k1, k2, k3, fun i hi => by rw [hlow 3 i (by decide), hlow 4 i (by decide), hlow 5 i (by decide)]; exact k4 i hi, k5, k6⟩
  obtain ⟨m, a8, a4, at_⟩ := r_next (b := b) (n := n) (p := 0) ((u2 1 (by decide) (by decide)).trans hb) (by rw [u1]; exact h3) (by rw [u1]; exact h4) (Nat.zero_le _) hn (by rw [u1]; exact h5) fV
  have p0 : PRq b n c 0 C18 V := by
    refine ⟨⟨hn, hR18, fun j hj => (hlow 2 j (by decide)).trans ((kp.by hB) j hj), tk18, by omega, ?_⟩, ?_, ?_, ?_, ?_, a8, a4, at_⟩
    · rw [hI]
      simp (disch := omega) only [if_neg, if_pos, and_self, and_true, true_and, and_false, false_and, if_true, if_false]
      rfl
    · rw [m.1]; exact (u2 1 (by decide) (by decide)).trans hb
    · rw [m.2 5 (by decide) (by decide) (by decide) (by decide), u1]; exact h5
    · rw [m.2 6 (by decide) (by decide) (by decide) (by decide), u1]; exact h6
    · rw [m.2 3 (by decide) (by decide) (by decide) (by decide), u1]; exact h3
  have z : ∀ x, x < 131 → V.2.1 11 x = 0 := fun x hx => by rw [m.1]; exact uP x hx
  have zD : ∀ x, x < 2455 → V.2.1 13 x = 0 := fun x hx => by rw [m.1]; exact uD x hx
  have f16 : ∀ j, j = 5 ∨ j = 8 ∨ j = 11 ∨ j = 12 ∨ j = 14 ∨ j = 16 → C18.2.2.1 s j = 0 := fun j hj => by
    rw [hI]
    rcases hj with e | e | e | e | e | e <;> subst e <;> simp (disch := omega) only [if_neg, if_pos, and_self, and_true, true_and, and_false, false_and, if_true, if_false]
  have g3 : C18.2.2.1 (s + 2) 3 = 0 := by rw [hI]; simp (disch := omega) only [if_neg, if_pos, and_self, and_true, true_and, and_false, false_and, if_true, if_false]
  have g4 : C18.2.2.1 (s + 2) 4 = 0 := by rw [hI]; simp (disch := omega) only [if_neg, if_pos, and_self, and_true, true_and, and_false, false_and, if_true, if_false]
  have g7 : C18.2.2.1 (s + 2) 7 = 0 := by rw [hI]; simp (disch := omega) only [if_neg, if_pos, and_self, and_true, true_and, and_false, false_and, if_true, if_false]
  have C0 : SCN0 s C18 (V.2.1 11) (V.2.1 13) := by
    refine ⟨⟨0, by omega, f16 5 (by omega), z 4 (by omega), fun m hm => absurd hm (Nat.not_lt_zero m), fun m _ hm => z _ (by omega)⟩, ⟨g3.trans (z 9 (by omega)).symm, g4.trans (z 10 (by omega)).symm, .inl ⟨z 8 (by omega), z 9 (by omega), z 10 (by omega)⟩⟩, ⟨0, by omega, f16 8 (by omega), z 5 (by omega), fun k hk => absurd hk (Nat.not_lt_zero k)⟩, ⟨0, by omega, f16 11 (by omega), z 71 (by omega), fun k hk => absurd hk (Nat.not_lt_zero k)⟩, (f16 12 (by omega)).trans (z 76 (by omega)).symm, ⟨0, by omega, f16 14 (by omega), z 77 (by omega), fun k hk => absurd hk (Nat.not_lt_zero k)⟩, ⟨0, by omega, g7, z 101 (by omega), fun k hk => absurd hk (Nat.not_lt_zero k)⟩, ⟨0, by omega, f16 16 (by omega), z 118 (by omega), fun k hk => absurd hk (Nat.not_lt_zero k)⟩, fun j hj => zD j (by omega)⟩
  rcases othr_k hg with ⟨r9, g9, z9⟩ | ⟨r15, T13, g9, hg⟩
  · rcases l_head p0 hs C0 g9 fW with ⟨y, -⟩ | ⟨y1, y2⟩
    · exact absurd y z9
    · exact .inr ⟨y1, by rw [st_b52 _ y2.1 hf]; exact y2⟩
  rcases l_head p0 hs C0 g9 fW with ⟨-, ⟨j, hj, p13⟩, C13, R13⟩ | ⟨y, -⟩
  rotate_left
  · exact absurd y (by decide)
  rcases k_textl hs 16384 16384 (l := 0) p13 (hF.sub (R13.trans R18)) C13 (Nat.zero_le _) hg hf with ⟨y1, y2, y3, y4⟩ | y
  · exact .inl ⟨y1, y2, y3.trans (R13.trans R18), y4⟩
  · exact .inr y
end
end
section
/-! 21a.rel1.lean.txt -/
/-! what class and reference hold alike between calls, as far as a loaded text goes -/
section
variable {T T1 : AT} {S S1 : MS} {P P1 : Nat → Int32} {s : Nat}
def SRP (s : Nat) (T : AT) (P : Nat → Int32) : Prop := ∃ c : Nat, c ≤ 6 ∧ T.2.2.1 s 8 = nI c ∧ P 5 = nI c ∧ ∀ k, k < c → T.2.2.1 (s + 172 + k) 0 = P (47 + k) ∧ T.2.2.1 (s + 172 + k) 5 = P (53 + k) ∧ T.2.2.1 (s + 172 + k) 6 = P (59 + k) ∧ T.2.2.1 (s + 172 + k) 7 = P (65 + k) ∧ T.2.2.1 (s + 172 + k) 8 = P (95 + k)
def SCE (s : Nat) (T : AT) (P : Nat → Int32) : Prop := HDg s T P ∧ MICg s T P ∧ GRDg s T P ∧ SRP s T P ∧ WALg s T P ∧ FADg s T P ∧ TAPg s T P ∧ ZONg s T P ∧ SHDg s T P
theorem sce_of {D : Nat → Int32} (h : SCNq s T P D) : SCE s T P := by
  obtain ⟨gH, gM, gG, ⟨c, b1, b2, b3, b4⟩, gW, gF, gT, gZ, gD, -⟩ := h
  exact ⟨gH, gM, gG, ⟨c, b1, b2, b3, fun k hk => ⟨(b4 k hk).1, (b4 k hk).2.1, (b4 k hk).2.2.1, (b4 k hk).2.2.2.1, (b4 k hk).2.2.2.2.1⟩⟩, gW, gF, gT, gZ, gD⟩
/-- the cells of a scene are the same -/
def SEQ (s : Nat) (T T1 : AT) : Prop := (∀ j, j < 18 → T1.2.2.1 s j = T.2.2.1 s j) ∧ (∀ j, j < 8 → T1.2.2.1 (s + 2) j = T.2.2.1 (s + 2) j) ∧ (∀ j, T1.2.2.1 (s + 3) j = T.2.2.1 (s + 3) j) ∧ (∀ m j, s + 5 ≤ m → m < s + 9 → T1.2.2.1 m j = T.2.2.1 m j) ∧ (∀ m j, s + 11 ≤ m → m < s + 15 → T1.2.2.1 m j = T.2.2.1 m j) ∧ (∀ m j, s + 160 ≤ m → m < s + 172 → j < 4 → T1.2.2.1 m j = T.2.2.1 m j) ∧ ∀ m j, s + 172 ≤ m → m < s + 178 → j < 10 → T1.2.2.1 m j = T.2.2.1 m j
theorem sce_eq (h : SCE s T P) (q : SEQ s T T1) (hP : ∀ x, x < 131 → P1 x = P x) : SCE s T1 P1 := by
  obtain ⟨gH, ⟨mc, m1, m2, m3, m4, m5⟩, gG, ⟨c, b1, b2, b3, b4⟩, gW, gF, gT, gZ, gD⟩ := h
  obtain ⟨q1, q2, q3, q4, q5, q6, q7⟩ := q
  refine ⟨gH.cg (fun j _ => q1 j (by omega)) (fun j _ => hP j (by omega)), ⟨mc, m1, (q1 5 (by decide)).trans m2, (hP 4 (by decide)).trans m3, fun m hm => ?_, fun m h1 h2 => (hP _ (by omega)).trans (m5 m h1 h2)⟩, gG.cg (fun k _ => q2 k (by omega)) q3 (fun j _ _ => hP j (by omega)), ⟨c, b1, (q1 8 (by decide)).trans b2, (hP 5 (by decide)).trans b3, fun k hk => ?_⟩, gW.cg (q1 11 (by decide)) (fun k => q5 _ _ (by omega) (by omega)) (fun k => q5 _ _ (by omega) (by omega)) (fun j _ _ => hP j (by omega)), gF.cg (q1 12 (by decide)) (hP _ (by decide)), gT.cg (q1 14 (by decide)) (fun k => q5 _ _ (by omega) (by omega)) (fun j _ _ => hP j (by omega)), gZ.cg (q2 7 (by decide)) (fun m j a b => q4 m j a b) (fun j _ _ => hP j (by omega)), gD.cg (q1 16 (by decide)) (fun k => q5 _ _ (by omega) (by omega)) (fun j _ _ => hP j (by omega))⟩
  · rw [q6 _ 0 (by omega) (by omega) (by decide), q6 _ 1 (by omega) (by omega) (by decide), q6 _ 2 (by omega) (by omega) (by decide), q6 _ 3 (by omega) (by omega) (by decide), hP (11 + m) (by omega), hP (23 + m) (by omega), hP (35 + m) (by omega), hP (83 + m) (by omega)]
    exact m4 m hm
  · rw [q7 _ 0 (by omega) (by omega) (by decide), q7 _ 5 (by omega) (by omega) (by decide), q7 _ 6 (by omega) (by omega) (by decide), q7 _ 7 (by omega) (by omega) (by decide), q7 _ 8 (by omega) (by omega) (by decide), hP (47 + k) (by omega), hP (53 + k) (by omega), hP (59 + k) (by omega), hP (65 + k) (by omega), hP (95 + k) (by omega)]
    exact b4 k hk
def scodes : List Nat := (List.range 18).map (192 + ·) ++ (List.range 8).map (32 + ·) ++ (List.range 4).map (64 + ·) ++ (List.range 10).map (224 + ·) ++ [1888, 1760, 1792, 1824, 1856]
set_option maxRecDepth 100000 in
theorem srole : [478, 656].all (fun s => Nat.beq (aR0 s) 6 && Nat.beq (aR0 (s + 2)) 1 && Nat.beq (aR0 (s + 3)) 59 && (List.range 4).all (fun k => Nat.beq (aR0 (s + 5 + k)) 59) && Nat.beq (aR0 (s + 11)) 55 && Nat.beq (aR0 (s + 12)) 56 && Nat.beq (aR0 (s + 13)) 57 && Nat.beq (aR0 (s + 14)) 58 && (List.range 12).all (fun k => Nat.beq (aR0 (s + 160 + k)) 2) && (List.range 6).all (fun k => Nat.beq (aR0 (s + 172 + k)) 7)) = true := by decide +kernel
theorem sro (hs : s = 478 ∨ s = 656) : aR0 s = 6 ∧ aR0 (s + 2) = 1 ∧ aR0 (s + 3) = 59 ∧ (∀ k, k < 4 → aR0 (s + 5 + k) = 59) ∧ aR0 (s + 11) = 55 ∧ aR0 (s + 12) = 56 ∧ aR0 (s + 13) = 57 ∧ aR0 (s + 14) = 58 ∧ (∀ k, k < 12 → aR0 (s + 160 + k) = 2) ∧ ∀ k, k < 6 → aR0 (s + 172 + k) = 7 := by
  have h := List.all_eq_true.mp srole s (by rcases hs with e | e <;> rw [e] <;> decide)
  simp only [Bool.and_eq_true] at h
  obtain ⟨⟨⟨⟨⟨⟨⟨⟨⟨h0, h1⟩, h2⟩, h3⟩, h4⟩, h5⟩, h6⟩, h7⟩, h8⟩, h9⟩ := h
  exact ⟨Nat.eq_of_beq_eq_true h0, Nat.eq_of_beq_eq_true h1, Nat.eq_of_beq_eq_true h2, fun k hk => Nat.eq_of_beq_eq_true (a_fin (p := fun k => Nat.beq (aR0 (s + 5 + k)) 59) h3 hk), Nat.eq_of_beq_eq_true h4, Nat.eq_of_beq_eq_true h5, Nat.eq_of_beq_eq_true h6, Nat.eq_of_beq_eq_true h7, fun k hk => Nat.eq_of_beq_eq_true (a_fin (p := fun k => Nat.beq (aR0 (s + 160 + k)) 2) h8 hk), fun k hk => Nat.eq_of_beq_eq_true (a_fin (p := fun k => Nat.beq (aR0 (s + 172 + k)) 7) h9 hk)⟩
theorem sc_in {W : List Nat} (c : scodes.all (fun x => !(W.contains x)) = true) {x : Nat} (hx : x ∈ scodes) : W.contains x = false := by
  have h := List.all_eq_true.mp c x hx
  cases e : W.contains x with
  | false => rfl
  | true => rw [e] at h; cases h
theorem fw_seq {W : List Nat} (h : FW aR0 W T T1) (c : scodes.all (fun x => !(W.contains x)) = true) (hs : s = 478 ∨ s = 656) : SEQ s T T1 := by
  obtain ⟨r0, r1, r2, r3, r4, r5, r6, r7, r8, r9⟩ := sro hs
  have k0 : ∀ j, j < 18 → 192 + j ∈ scodes := fun j hj => List.mem_append_left _ (List.mem_append_left _ (List.mem_append_left _ (List.mem_append_left _ (List.mem_map.mpr ⟨j, List.mem_range.mpr hj, rfl⟩))))
  have k1 : ∀ j, j < 8 → 32 + j ∈ scodes := fun j hj => List.mem_append_left _ (List.mem_append_left _ (List.mem_append_left _ (List.mem_append_right _ (List.mem_map.mpr ⟨j, List.mem_range.mpr hj, rfl⟩))))
  have k2 : ∀ j, j < 4 → 64 + j ∈ scodes := fun j hj => List.mem_append_left _ (List.mem_append_left _ (List.mem_append_right _ (List.mem_map.mpr ⟨j, List.mem_range.mpr hj, rfl⟩)))
  have k7 : ∀ j, j < 10 → 224 + j ∈ scodes := fun j hj => List.mem_append_left _ (List.mem_append_right _ (List.mem_map.mpr ⟨j, List.mem_range.mpr hj, rfl⟩))
  have ka : ∀ x, x ∈ [1888, 1760, 1792, 1824, 1856] → x ∈ scodes := fun x hx => List.mem_append_right _ hx
  refine ⟨fun j hj => h _ _ ?_, fun j hj => h _ _ ?_, fun j => h _ _ ?_, fun m j a b => h _ _ ?_, fun m j a b => h _ _ ?_, fun m j a b d => h _ _ ?_, fun m j a b d => h _ _ ?_⟩
  · rw [r0]; exact sc_in c (k0 j hj)
  · rw [r1]; exact sc_in c (k1 j hj)
  · rw [r2]; exact sc_in c (ka 1888 (by decide))
  · have q := r3 (m - (s + 5)) (by omega)
    rw [show s + 5 + (m - (s + 5)) = m from by omega] at q
    rw [q]; exact sc_in c (ka 1888 (by decide))
  · rcases (show m = s + 11 ∨ m = s + 12 ∨ m = s + 13 ∨ m = s + 14 by omega) with e | e | e | e <;> rw [e]
    · rw [r4]; exact sc_in c (ka 1760 (by decide))
    · rw [r5]; exact sc_in c (ka 1792 (by decide))
    · rw [r6]; exact sc_in c (ka 1824 (by decide))
    · rw [r7]; exact sc_in c (ka 1856 (by decide))
  · have q := r8 (m - (s + 160)) (by omega)
    rw [show s + 160 + (m - (s + 160)) = m from by omega] at q
    rw [q]; exact sc_in c (k2 j d)
  · have q := r9 (m - (s + 172)) (by omega)
    rw [show s + 172 + (m - (s + 172)) = m from by omega] at q
    rw [q]; exact sc_in c (k7 j d)
/-- where the references lead: all but rows of Wides lead where they led at first; scene and spare may have changed places -/
def CRF (T : AT) : Prop := (∀ n, n ≠ 0 → sta aR0 1586 n → isRW (aR0 n) = false → ∀ k, T.2.2.2.2 n k = (arf n).getD k none) ∧ (∀ k, k ≠ 14 → k ≠ 15 → T.2.2.2.2 0 k = (arf 0).getD k none) ∧ (T.2.2.2.2 0 14 = some 478 ∧ T.2.2.2.2 0 15 = some 656 ∨ T.2.2.2.2 0 14 = some 656 ∧ T.2.2.2.2 0 15 = some 478)
def okc (n : Nat) : Bool := Nat.blt 0 n && Nat.blt n 1586 && !(Nat.beq (aR0 n) 99) && !(Nat.beq (aR0 n) 30) && !(isRW (aR0 n))
theorem CRF.at (h : CRF T) (n : Nat) (d : okc n = true) (k : Nat) : T.2.2.2.2 n k = (arf n).getD k none := by
  unfold okc at d
  simp only [Bool.and_eq_true] at d
  obtain ⟨⟨⟨⟨d0, d1⟩, d2⟩, d3⟩, d4⟩ := d
  refine h.1 n (fun e => by rw [e] at d0; cases d0) ⟨Nat.le_of_ble_eq_true d1, (fun e => by rw [e] at d2; cases d2), (fun e => by rw [e] at d3; cases d3)⟩ ?_ k
  cases e : isRW (aR0 n) with
  | false => rfl
  | true => rw [e] at d4; cases d4
set_option maxRecDepth 100000 in
theorem srf_dec : [478, 656].all (fun s => [s, s + 1, s + 2, s + 4, s + 10, s + 15].all okc && decide ((arf s).getD 4 none = some (s + 1)) && decide ((arf s).getD 6 none = some (s + 2)) && decide ((arf s).getD 7 none = some (s + 10)) && decide ((arf s).getD 9 none = some (s + 11)) && decide ((arf s).getD 10 none = some (s + 12)) && decide ((arf s).getD 13 none = some (s + 13)) && decide ((arf s).getD 15 none = some (s + 14)) && decide ((arf s).getD 17 none = some (s + 15)) && (List.range 12).all (fun i => decide ((arf (s + 1)).getD i none = some (s + 160 + i))) && (List.range 6).all (fun i => decide ((arf (s + 10)).getD i none = some (s + 172 + i))) && decide ((arf (s + 2)).getD 5 none = some (s + 3)) && decide ((arf (s + 2)).getD 6 none = some (s + 4)) && (List.range 4).all (fun i => decide ((arf (s + 4)).getD i none = some (s + 5 + i))) && decide ((arf (s + 2)).getD 8 none = some (s + 9)) && (List.range 144).all (fun c => decide ((arf (s + 15)).getD c none = some (s + 16 + c)))) = true := by decide +kernel
theorem CRF.srf (h : CRF T) (hs : s = 478 ∨ s = 656) : SRF s T := by
  have d := List.all_eq_true.mp srf_dec s (by rcases hs with e | e <;> rw [e] <;> decide)
  simp only [Bool.and_eq_true, decide_eq_true_eq] at d
  obtain ⟨⟨⟨⟨⟨⟨⟨⟨⟨⟨⟨⟨⟨⟨⟨d0, d1⟩, d2⟩, d3⟩, d4⟩, d5⟩, d6⟩, d7⟩, d8⟩, d9⟩, d10⟩, d11⟩, d12⟩, d13⟩, d14⟩, d15⟩ := d
  have o := fun n (hn : n ∈ [s, s + 1, s + 2, s + 4, s + 10, s + 15]) => h.at n (List.all_eq_true.mp d0 n hn)
  have o0 := o s (by simp)
  have o1 := o (s + 1) (by simp)
  have o2 := o (s + 2) (by simp)
  have o4 := o (s + 4) (by simp)
  have o10 := o (s + 10) (by simp)
  have o15 := o (s + 15) (by simp)
  unfold SRF
  exact ⟨(o0 _).trans d1, (o0 _).trans d2, (o0 _).trans d3, (o0 _).trans d4, (o0 _).trans d5, (o0 _).trans d6, (o0 _).trans d7, (o0 _).trans d8, fun i hi => (o1 i).trans (of_decide_eq_true (a_fin (p := fun i => decide ((arf (s + 1)).getD i none = some (s + 160 + i))) d9 hi)), fun i hi => (o10 i).trans (of_decide_eq_true (a_fin (p := fun i => decide ((arf (s + 10)).getD i none = some (s + 172 + i))) d10 hi)), (o2 _).trans d11, (o2 _).trans d12, fun i hi => (o4 i).trans (of_decide_eq_true (a_fin (p := fun i => decide ((arf (s + 4)).getD i none = some (s + 5 + i))) d13 hi)), (o2 _).trans d14, fun i hi => (o15 i).trans (of_decide_eq_true (a_fin (p := fun i => decide ((arf (s + 15)).getD i none = some (s + 16 + i))) d15 hi))⟩
set_option maxRecDepth 100000 in
theorem txr_dec : okc 1 = true ∧ okc 6 = true ∧ (arf 1).getD 0 none = some 2 ∧ (arf 1).getD 2 none = some 3 ∧ (arf 1).getD 3 none = some 4 ∧ (arf 1).getD 4 none = some 5 ∧ (arf 6).getD 0 none = some 1 ∧ (arf 0).getD 0 none = some 1 ∧ (arf 0).getD 1 none = some 6 ∧ aR0 3 = 42 := by decide +kernel
theorem CRF.txr (h : CRF T) (hV : IV aR0 1586 aK1 aK2 T) : TXR T := by
  obtain ⟨a1, a6, b1, b2, b3, b4, b5, -, -, b8⟩ := txr_dec
  exact ⟨(h.at 1 a1 _).trans b1, (h.at 1 a1 _).trans b2, (h.at 1 a1 _).trans b3, (h.at 1 a1 _).trans b4, (h.at 6 a6 _).trans b5, (hV.2.1 3 (iv_sta hV b8 (by decide) (by decide))).trans (by rw [b8]; rfl)⟩
set_option maxRecDepth 100000 in
theorem sh107 : (List.range 1586).all (fun n => isRW (aR0 n) || !(Nat.beq (shp (aR0 n)).1 107)) = true := by decide +kernel
theorem crf_gr (h : CRF T) (hV : IV aR0 1586 aK1 aK2 T) (hg : GR T T1) : CRF T1 := by
  have st : ∀ n, sta aR0 1586 n → isRW (aR0 n) = false → ∀ k, T1.2.2.2.2 n k = T.2.2.2.2 n k := fun n hs hr k => by
    refine hg.2 n k (Nat.lt_of_lt_of_le hs.1 hV.1.2.2) ?_
    have d := a_fin sh107 hs.1
    rw [hr, Bool.false_or] at d
    rw [hV.2.1 n hs]
    intro e
    rw [e] at d
    cases d
  obtain ⟨-, -, -, r0⟩ := (show aR0 1 = 9 ∧ aR0 2 = 41 ∧ aR0 6 = 3 ∧ aR0 0 = 11 from by decide +kernel)
  have e0 : ∀ k, T1.2.2.2.2 0 k = T.2.2.2.2 0 k := st 0 (iv_sta hV r0 (by decide) (by decide)) (by rw [r0]; rfl)
  refine ⟨fun n hn hs hr k => (st n hs hr k).trans (h.1 n hn hs hr k), fun k a b => (e0 k).trans (h.2.1 k a b), ?_⟩
  rw [e0 14, e0 15]
  exact h.2.2
def RSq (T : AT) (S : MS) : Prop := ∃ s, (s = 478 ∨ s = 656) ∧ T.2.2.2.2 0 14 = some s ∧ (S.1 20 = 1 ∧ SCE s T (S.2.1 10) ∧ S.2.1 10 4 ≠ 0 ∧ S.2.1 10 8 ≠ 0 ∨ S.1 20 = 0 ∧ T.2.2.1 s 2 = 0 ∧ T.2.2.1 s 5 = 0 ∧ T.2.2.1 s 8 = 0 ∧ T.2.2.1 (s + 2) 3 = 0 ∧ T.2.2.1 (s + 2) 4 = 0 ∧ T.2.2.1 (s + 2) 7 = 0)
def BYr (T : AT) (S : MS) : Prop := T.2.2.1 1 1 = S.1 2 ∧ ∀ k, k < 1000 → T.2.2.1 2 k = S.2.1 1 k
def R1 (T : AT) (S : MS) : Prop := CRF T ∧ BYr T S ∧ T.2.2.1 6 2 = S.1 5 ∧ T.2.2.1 6 3 = S.1 6 ∧ RSq T S
theorem rrole : aR0 1 = 9 ∧ aR0 2 = 41 ∧ aR0 6 = 3 ∧ aR0 0 = 11 := by decide +kernel
def FKq (S S1 : MS) : Prop := S1.1 2 = S.1 2 ∧ S1.1 5 = S.1 5 ∧ S1.1 6 = S.1 6 ∧ S1.1 20 = S.1 20 ∧ S1.2.1 1 = S.2.1 1 ∧ S1.2.1 10 = S.2.1 10
def okW (W : List Nat) : Bool := scodes.all (fun x => !(W.contains x)) && !(W.contains 289) && !(W.contains 1312) && !(W.contains 98) && !(W.contains 99)
theorem con_f {W : List Nat} {x : Nat} (h : (!(W.contains x)) = true) : W.contains x = false := by
  cases e : W.contains x with
  | false => rfl
  | true => rw [e] at h; cases h
theorem rs_eq (hs : s = 478 ∨ s = 656) (q : SEQ s T T1) (hP : ∀ x, x < 131 → S1.2.1 10 x = S.2.1 10 x) (h20 : S1.1 20 = S.1 20) (h14 : T1.2.2.2.2 0 14 = some s) (h : S.1 20 = 1 ∧ SCE s T (S.2.1 10) ∧ S.2.1 10 4 ≠ 0 ∧ S.2.1 10 8 ≠ 0 ∨ S.1 20 = 0 ∧ T.2.2.1 s 2 = 0 ∧ T.2.2.1 s 5 = 0 ∧ T.2.2.1 s 8 = 0 ∧ T.2.2.1 (s + 2) 3 = 0 ∧ T.2.2.1 (s + 2) 4 = 0 ∧ T.2.2.1 (s + 2) 7 = 0) : RSq T1 S1 := by
  refine ⟨s, hs, h14, ?_⟩
  rcases h with ⟨a, b, c, d⟩ | ⟨a, b2, b5, b8, g3, g4, g7⟩
  · exact .inl ⟨h20.trans a, sce_eq b q hP, by rw [hP 4 (by decide)]; exact c, by rw [hP 8 (by decide)]; exact d⟩
  · exact .inr ⟨h20.trans a, (q.1 2 (by decide)).trans b2, (q.1 5 (by decide)).trans b5, (q.1 8 (by decide)).trans b8, (q.2.1 3 (by decide)).trans g3, (q.2.1 4 (by decide)).trans g4, (q.2.1 7 (by decide)).trans g7⟩
theorem r1_keep {W : List Nat} (h : R1 T S) (hV : IV aR0 1586 aK1 aK2 T) (hw : FW aR0 W T T1) (c : okW W = true) (hg : GR T T1) (hf : FKq S S1) : R1 T1 S1 := by
  obtain ⟨hc, ⟨hl, hb⟩, h5, h6, s, hs, h14, hr⟩ := h
  unfold okW at c
  simp only [Bool.and_eq_true] at c
  obtain ⟨⟨⟨⟨c0, c1⟩, c2⟩, c3⟩, c4⟩ := c
  obtain ⟨r1, r2, r6, r0⟩ := rrole
  have e14 : T1.2.2.2.2 0 14 = T.2.2.2.2 0 14 := by
    refine hg.2 0 14 (Nat.lt_of_lt_of_le (by decide) hV.1.2.2) ?_
    rw [hV.2.1 0 (iv_sta hV r0 (by decide) (by decide)), r0]
    decide
  refine ⟨crf_gr hc hV hg, ⟨?_, fun k hk => ?_⟩, ?_, ?_, rs_eq hs (fw_seq hw c0 hs) (fun x _ => by rw [hf.2.2.2.2.2]) hf.2.2.2.1 (e14.trans h14) hr⟩
  · rw [hw 1 1 (by rw [r1]; exact con_f c1), hf.1]; exact hl
  · rw [hw 2 k (by rw [r2]; exact con_f c2), hf.2.2.2.2.1]; exact hb k hk
  · rw [hw 6 2 (by rw [r6]; exact con_f c3), hf.2.1]; exact h5
  · rw [hw 6 3 (by rw [r6]; exact con_f c4), hf.2.2.1]; exact h6
end
end
section
/-! 21b.load.lean.txt -/
/-! append and load keep what class and reference hold alike -/
section
variable {T T1 : AT} {S S1 : MS} {s : Nat}
theorem sh_bv (x : BitVec 32) (m : Nat) (hm : m ≤ 24) : (x >>> m) &&& 255#32 = (x.sshiftRight m) &&& 255#32 := by
  refine BitVec.eq_of_getLsbD_eq (fun i hi => ?_)
  rw [BitVec.getLsbD_and, BitVec.getLsbD_and, BitVec.getLsbD_ushiftRight, BitVec.getLsbD_sshiftRight]
  by_cases h : i < 8
  · rw [if_pos (by omega), show decide (32 ≤ i) = false from decide_eq_false (by omega)]
    rfl
  · have e : (255#32).getLsbD i = false := (show ∀ i, i < 32 → 8 ≤ i → (255#32).getLsbD i = false by decide) i hi (by omega)
    rw [e, Bool.and_false, Bool.and_false]
theorem sh_eq (w l : Int32) (h : l = 24 ∨ l = 16 ∨ l = 8 ∨ l = 0) : ((w.toUInt32 >>> (l.toUInt32 &&& Int32.toUInt32 31)).toInt32) &&& 255 = (w >>> (l &&& 31)) &&& 255 := by
  rcases h with e | e | e | e <;> subst e
  · exact Int32.toBitVec_inj.mp (sh_bv w.toBitVec 24 (by decide))
  · exact Int32.toBitVec_inj.mp (sh_bv w.toBitVec 16 (by decide))
  · exact Int32.toBitVec_inj.mp (sh_bv w.toBitVec 8 (by decide))
  · exact Int32.toBitVec_inj.mp (sh_bv w.toBitVec 0 (by decide))
theorem k_four1 : ∀ (j f f2 : Nat) {T T1 : AT} {S S1 : MS} {w l : Int32}, j ≤ 4 → l.toInt = 8 * (j : Int) - 8 → T.2.2.2.2 1 0 = some 2 → BYr T S → g_X9_addWord_b3 f T 1 w l = some T1 → fr_four_b3 f2 S w l = some S1 → BYr T1 S1 ∧ T1.2.2.2.2 = T.2.2.2.2 := by
  have z0 : (0 : Int32).toInt = 0 := by decide
  have z8 : (Int32.ofInt (-8) : Int32).toInt = -8 := by decide
  intro j
  induction j with
  | zero =>
    intro f f2 T T1 S S1 w l hj hl hR hB hg hf
    have c : l < 0 := Int32.lt_iff_toInt_lt.mpr (by omega)
    cases f with
    | zero => cases hg
    | succ f =>
      cases f2 with
      | zero => cases hf
      | succ f2 =>
        unfold g_X9_addWord_b3 at hg
        unfold fr_four_b3 at hf
        rw [if_pos c] at hg hf
        rw [← osome1 hg, ← osome1 hf]
        exact ⟨hB, rfl⟩
  | succ j ih =>
    intro f f2 T T1 S S1 w l hj hl hR hB hg hf
    have c : ¬ l < 0 := fun q => by have := i_lt q; omega
    cases f with
    | zero => cases hg
    | succ f =>
      cases f2 with
      | zero => cases hf
      | succ f2 =>
        unfold g_X9_addWord_b3 at hg
        unfold fr_four_b3 at hf
        rw [if_neg c] at hg hf
        obtain ⟨v3, e3, hf⟩ := elet_some hf
        obtain ⟨v4, e4, hf⟩ := elet_some hf
        obtain ⟨v5, e5, hf⟩ := elet_some hf
        obtain ⟨i3, hf⟩ := oif_some hf
        obtain ⟨k3, k4⟩ := inb_k i3
        obtain ⟨S7, e7, hf⟩ := elet_some hf
        obtain ⟨v8, e8, hf⟩ := elet_some hf
        obtain ⟨v9, e9, hf⟩ := elet_some hf
        obtain ⟨S10, e10, hf⟩ := elet_some hf
        obtain ⟨v11, e11, hf⟩ := elet_some hf
        obtain ⟨-, hg⟩ := oif_some hg
        obtain ⟨u4, d4, hg⟩ := elet_some hg
        have d4' : u4 = v3 := d4.trans (hB.1.trans e3.symm)
        rw [if_neg (by rw [d4', k3]; intro q; have := (nI_leI (a := 1000) (by omega) (by omega)).mp q; omega)] at hg
        obtain ⟨-, hg⟩ := oif_some hg
        obtain ⟨n7, en7, hg⟩ := obind_some hg
        rw [hR] at en7
        cases en7
        obtain ⟨-, hg⟩ := oif_some hg
        obtain ⟨u9, d9, hg⟩ := elet_some hg
        have d9' : u9 = v3 := d9.trans (hB.1.trans e3.symm)
        obtain ⟨u10, d10, hg⟩ := elet_some hg
        obtain ⟨u11, d11, hg⟩ := elet_some hg
        obtain ⟨-, hg⟩ := oif_some hg
        obtain ⟨-, hg⟩ := oif_some hg
        obtain ⟨T14, d14, hg⟩ := elet_some hg
        obtain ⟨-, hg⟩ := oif_some hg
        obtain ⟨u16, d16, hg⟩ := elet_some hg
        obtain ⟨u17, d17, hg⟩ := elet_some hg
        obtain ⟨-, hg⟩ := oif_some hg
        obtain ⟨T19, d19, hg⟩ := elet_some hg
        unfold g_X9_addWord_b43 at hg
        obtain ⟨u2, d2, hg⟩ := elet_some hg
        have el : u2 = v11 := d2.trans e11.symm
        rw [← el] at hf
        have sh : u11 = v5 := by
          rw [d11, d10, e5, e4]
          refine sh_eq w l ?_
          rcases (show j = 0 ∨ j = 1 ∨ j = 2 ∨ j = 3 by omega) with q | q | q | q <;> subst q
          · exact .inr (.inr (.inr (Int32.toInt_inj.mp (by omega))))
          · exact .inr (.inr (.inl (Int32.toInt_inj.mp (by have : (8 : Int32).toInt = 8 := by decide
                                                           omega))))
          · exact .inr (.inl (Int32.toInt_inj.mp (by have : (16 : Int32).toInt = 16 := by decide
                                                     omega)))
          · exact .inl (Int32.toInt_inj.mp (by have : (24 : Int32).toInt = 24 := by decide
                                               omega))
        have q2 : u2.toInt = 8 * (j : Int) - 8 := by
          rw [d2]
          exact (i_add rfl (by omega) (by omega)).trans (by omega)
        have hB19 : BYr T19 S10 := by
          refine ⟨?_, fun k hk => ?_⟩
          · rw [d19, ui_at, d17, d16, d14, ui_ne (.inl (by decide)), hB.1, e10, mi_at, e9, e8, e7]
            rfl
          · rw [d19, ui_ne (.inl (by decide)), d14, ui_get, e10, e7]
            show _ = (mf S 1 (upd (S.2.1 1) v3.toNatClampNeg v5)).2.1 1 k
            rw [mf_at]
            show _ = if k = v3.toNatClampNeg then v5 else S.2.1 1 k
            rw [d9', sh]
            by_cases e : k = v3.toNatClampNeg
            · rw [if_pos ⟨rfl, e⟩, if_pos e]
            · rw [if_neg (fun q => e q.2), if_neg e]
              exact hB.2 k hk
        have r19 : T19.2.2.2.2 = T.2.2.2.2 := by rw [d19, d14]; rfl
        obtain ⟨a1, a2⟩ := ih f f2 (by omega) q2 (by rw [r19]; exact hR) hB19 hg hf
        exact ⟨a1, a2.trans r19⟩
theorem k_four {w : Int32} (hR : T.2.2.2.2 1 0 = some 2) (hB : BYr T S) (hg : g_X9_addWord T 1 w = some T1) (hf : fr_four S w = some S1) : BYr T1 S1 ∧ T1.2.2.2.2 = T.2.2.2.2 := k_four1 4 16384 16384 (by decide) (by decide) hR hB hg hf
theorem by_mi {k : Nat} {v : Int32} (h : BYr T S) (hk : k ≠ 2) : BYr T (mi S k v) := ⟨h.1.trans (mi_ne (Ne.symm hk)).symm, h.2⟩
theorem k_append {a0 a1 a2 a3 a4 r1 r2 : Int32} (h0 : T.2.2.2.2 0 0 = some 1) (hR : T.2.2.2.2 1 0 = some 2) (hB : BYr T S) (hg : g_X11_append T 0 a0 a1 a2 a3 a4 = some (r1, T1)) (hf : fr_append S a0 a1 a2 a3 a4 = some (r2, S1)) : r1 = r2 ∧ BYr T1 S1 ∧ T1.2.2.2.2 = T.2.2.2.2 := by
  unfold g_X11_append at hg
  obtain ⟨-, hg⟩ := oif_some hg
  obtain ⟨n3, e3, hg⟩ := obind_some hg
  rw [h0] at e3
  cases e3
  obtain ⟨-, hg⟩ := oif_some hg
  obtain ⟨v5, e5, hg⟩ := elet_some hg
  obtain ⟨v6, e6, hg⟩ := elet_some hg
  unfold fr_append at hf
  obtain ⟨S2, f2, hf⟩ := elet_some hf
  obtain ⟨w3, d3, hf⟩ := elet_some hf
  obtain ⟨w4, d4, hf⟩ := elet_some hf
  have hB2 : BYr T S2 := by rw [f2]; exact by_mi hB (by decide)
  have e64 : v6 = w4 := by rw [e6, d4, e5, d3, hB2.1]
  rw [← e64] at hf
  by_cases c : v6 ≤ 1000
  · rw [if_pos c] at hg hf
    obtain ⟨S6, f6, hf⟩ := obind_some hf
    obtain ⟨S9, f9, hf⟩ := obind_some hf
    obtain ⟨S12, f12, hf⟩ := obind_some hf
    obtain ⟨S15, f15, hf⟩ := obind_some hf
    obtain ⟨S18, f18, hf⟩ := obind_some hf
    obtain ⟨w21, d21, hf⟩ := elet_some hf
    obtain ⟨-, hg⟩ := oif_some hg
    obtain ⟨n9, e9, hg⟩ := obind_some hg
    rw [h0] at e9
    cases e9
    obtain ⟨-, hg⟩ := oif_some hg
    obtain ⟨T11, g11, hg⟩ := obind_some hg
    obtain ⟨b11, r11⟩ := k_four hR hB2 g11 f6
    obtain ⟨-, hg⟩ := oif_some hg
    obtain ⟨n14, e14, hg⟩ := obind_some hg
    rw [r11, h0] at e14
    cases e14
    obtain ⟨-, hg⟩ := oif_some hg
    obtain ⟨T16, g16, hg⟩ := obind_some hg
    obtain ⟨b16, r16⟩ := k_four (by rw [r11]; exact hR) b11 g16 f9
    have r16 := r16.trans r11
    obtain ⟨-, hg⟩ := oif_some hg
    obtain ⟨n19, e19, hg⟩ := obind_some hg
    rw [r16, h0] at e19
    cases e19
    obtain ⟨-, hg⟩ := oif_some hg
    obtain ⟨T21, g21, hg⟩ := obind_some hg
    obtain ⟨b21, r21⟩ := k_four (by rw [r16]; exact hR) b16 g21 f12
    have r21 := r21.trans r16
    obtain ⟨-, hg⟩ := oif_some hg
    obtain ⟨n24, e24, hg⟩ := obind_some hg
    rw [r21, h0] at e24
    cases e24
    obtain ⟨-, hg⟩ := oif_some hg
    obtain ⟨T26, g26, hg⟩ := obind_some hg
    obtain ⟨b26, r26⟩ := k_four (by rw [r21]; exact hR) b21 g26 f15
    have r26 := r26.trans r21
    obtain ⟨-, hg⟩ := oif_some hg
    obtain ⟨n29, e29, hg⟩ := obind_some hg
    rw [r26, h0] at e29
    cases e29
    obtain ⟨-, hg⟩ := oif_some hg
    obtain ⟨T31, g31, hg⟩ := obind_some hg
    obtain ⟨b31, r31⟩ := k_four (by rw [r26]; exact hR) b26 g31 f18
    have r31 := r31.trans r26
    obtain ⟨-, hg⟩ := oif_some hg
    obtain ⟨n34, e34, hg⟩ := obind_some hg
    rw [r31, h0] at e34
    cases e34
    obtain ⟨-, hg⟩ := oif_some hg
    obtain ⟨v36, e36, hg⟩ := elet_some hg
    have g := osome2 hg
    have ff := osome2 hf
    rw [← g.1, ← g.2, ← ff.1, ← ff.2]
    exact ⟨by rw [e36, d21, b31.1], b31, r31⟩
  · rw [if_neg c] at hg hf
    have g := osome2 hg
    have ff := osome2 hf
    rw [← g.1, ← g.2, ← ff.1, ← ff.2]
    exact ⟨rfl, hB2, rfl⟩
/-- a part of the cells alone: the rest is of no known role -/
theorem iv_sub {R Rp : Nat → Nat} {B K1 K2 : Nat} (h : IV R B K1 K2 T) (hR : ∀ n, Rp n = R n ∨ Rp n = 30) (hcl : ∀ n k, Rp n ≠ 30 → rtg (Rp n) k ≠ 99 → ∀ q, T.2.2.2.2 n k = some q → Rp q = R q) : IV Rp B (T.1 + zt Rp T w1 B) (sg T + zt Rp T wC B) T := by
  have e : ∀ n, Rp n ≠ 30 → Rp n = R n := fun n q => (hR n).resolve_right q
  have st : ∀ n, sta Rp B n → sta R B n ∧ Rp n = R n := fun n q => by
    have a := e n q.2.2
    exact ⟨⟨q.1, by rw [← a]; exact q.2.1, by rw [← a]; exact q.2.2⟩, a⟩
  refine ⟨⟨fun n a d => h.1.1 n (by rw [← e n d]; exact a) (by rw [← e n d]; exact d), ⟨fun n a m d => ?_, fun n hn => ?_⟩, h.1.2.2⟩, fun n hs => ?_, fun n k hs hk => ?_, fun n k hs => ?_, fun n hs hW q hq p hp => ?_, fun n p r hs hW hr => ?_, rfl, rfl⟩
  · exact h.1.2.1.1 n (by rw [← e n (by rw [a]; decide)]; exact a) m (by rw [← e m (by rw [d]; decide)]; exact d)
  · rcases hR n with q | q
    · rw [q]; exact h.1.2.1.2 n hn
    · exact q
  · rw [(st n hs).2]; exact h.2.1 n (st n hs).1
  · have a := (st n hs).2
    obtain ⟨q, e1, e2, e3⟩ := h.2.2.1 n k (st n hs).1 (by rw [← a]; exact hk)
    exact ⟨q, e1, e2, by rw [hcl n k hs.2.2 hk q e1, e3, a]⟩
  · rw [(st n hs).2]; exact h.2.2.2.1 n k (st n hs).1
  · have a := (st n hs).2
    rw [a] at hW ⊢
    exact h.2.2.2.2.1 n (st n hs).1 hW q hq p hp
  · have a := (st n hs).2
    rw [a] at hW ⊢
    exact h.2.2.2.2.2.1 n p r (st n hs).1 hW hr
def pR (s n : Nat) : Nat := bif Nat.blt 0 n && Nat.blt n 7 then aR0 n else bif Nat.ble s n && Nat.blt n (s + 178) then aR0 n else 30
theorem pR_or (s n : Nat) : pR s n = aR0 n ∨ pR s n = 30 := by
  unfold pR
  cases Nat.blt 0 n && Nat.blt n 7 with
  | true => exact .inl rfl
  | false =>
    cases Nat.ble s n && Nat.blt n (s + 178) with
    | true => exact .inl rfl
    | false => exact .inr rfl
set_option maxRecDepth 100000 in
set_option maxHeartbeats 4000000 in
theorem pR_cl : [478, 656].all (fun s => ((List.range 6).map (· + 1) ++ (List.range 178).map (s + ·)).all (fun n => Nat.beq (aR0 n) 30 || (okc n && (List.range 150).all (fun k => Nat.beq (rtg (aR0 n) k) 99 || (match (arf n).getD k none with | some q => decide (pR s q = aR0 q) | none => true))))) = true := by decide +kernel
theorem iv_pR (h : CRF T) (hV : IV aR0 1586 aK1 aK2 T) (hs : s = 478 ∨ s = 656) : IV (pR s) 1586 (T.1 + zt (pR s) T w1 1586) (sg T + zt (pR s) T wC 1586) T := by
  refine iv_sub hV (pR_or s) (fun n k hn hk q hq => ?_)
  have d := List.all_eq_true.mp pR_cl s (by rcases hs with e | e <;> rw [e] <;> decide)
  have hm : n ∈ (List.range 6).map (· + 1) ++ (List.range 178).map (s + ·) := by
    unfold pR at hn
    cases c1 : Nat.blt 0 n && Nat.blt n 7 with
    | true =>
      obtain ⟨a, b⟩ := (Bool.and_eq_true _ _).mp c1
      have a := Nat.le_of_ble_eq_true a
      have b := Nat.le_of_ble_eq_true b
      exact List.mem_append_left _ (List.mem_map.mpr ⟨n - 1, List.mem_range.mpr (by omega), by omega⟩)
    | false =>
      rw [c1] at hn
      cases c2 : Nat.ble s n && Nat.blt n (s + 178) with
      | true =>
        obtain ⟨a, b⟩ := (Bool.and_eq_true _ _).mp c2
        have a := Nat.le_of_ble_eq_true a
        have b := Nat.le_of_ble_eq_true b
        exact List.mem_append_right _ (List.mem_map.mpr ⟨n - s, List.mem_range.mpr (by omega), by omega⟩)
      | false => rw [c2] at hn; exact absurd rfl hn
  have d := List.all_eq_true.mp d n hm
  have en : pR s n = aR0 n := (pR_or s n).resolve_right hn
  rw [en] at hn hk
  have d : (Nat.beq (aR0 n) 30 || (okc n && (List.range 150).all (fun k => Nat.beq (rtg (aR0 n) k) 99 || (match (arf n).getD k none with | some q => decide (pR s q = aR0 q) | none => true)))) = true := d
  rw [nbeq hn, Bool.false_or] at d
  obtain ⟨d1, d2⟩ := (Bool.and_eq_true _ _).mp d
  by_cases h150 : k < 150
  · have d3 := a_fin (p := fun k => Nat.beq (rtg (aR0 n) k) 99 || (match (arf n).getD k none with | some q => decide (pR s q = aR0 q) | none => true)) d2 h150
    have d3 : (Nat.beq (rtg (aR0 n) k) 99 || (match (arf n).getD k none with | some q => decide (pR s q = aR0 q) | none => true)) = true := d3
    rw [nbeq hk, Bool.false_or, ← h.at n d1 k, hq] at d3
    exact of_decide_eq_true d3
  · exact absurd (rtg_hi (Nat.not_lt.mp h150)) hk
/-- outside of its scene the parser writes nothing but the text's tokens and its own fields -/
theorem parse_out {n : Int32} {k : Nat} {r : Int32} (h : CRF T) (hV : IV aR0 1586 aK1 aK2 T) (hs : s = 478 ∨ s = 656) (h0 : 0 ≤ n.toInt) (h1 : n.toInt ≤ 1000) (hg : g_X3_parse T 6 n s = some (k, r, T1)) : (∀ m j, 7 ≤ m → (m < s ∨ s + 178 ≤ m) → T1.2.2.1 m j = T.2.2.1 m j) ∧ (∀ j, T1.2.2.1 2 j = T.2.2.1 2 j) ∧ T1.2.2.1 1 1 = T.2.2.1 1 1 ∧ IV aR0 1586 aK1 aK2 T1 := by
  obtain ⟨e1, e2, e6, e0⟩ := rrole
  have rs := (sro hs).1
  have p6 : pR s 6 = 3 := by rw [show pR s 6 = aR0 6 from rfl]; exact e6
  have ps : pR s s = 6 := by
    rw [show pR s s = aR0 s from by rcases hs with e | e <;> rw [e] <;> rfl]
    exact rs
  have c := tgo (cs_X3_parse (R := pR s) T 6 n s (iv_pR h hV hs) p6 ps ⟨h0, h1⟩) hg
  have c0 := tgo (cs_X3_parse T 6 n s hV e6 rs ⟨h0, h1⟩) hg
  have f := c.1.2
  refine ⟨fun m j hm ho => f m j ?_, fun j => f 2 j ?_, f 1 1 ?_, c0.1.1⟩
  · have q : pR s m = 30 := by
      unfold pR
      have a : (Nat.blt 0 m && Nat.blt m 7) = false := by
        cases e : Nat.blt m 7 with
        | false => exact Bool.and_false _
        | true => have := Nat.le_of_ble_eq_true e; omega
      have b : (Nat.ble s m && Nat.blt m (s + 178)) = false := by
        cases e : Nat.ble s m with
        | false => rfl
        | true =>
          cases e2 : Nat.blt m (s + 178) with
          | false => rfl
          | true =>
            have := Nat.le_of_ble_eq_true e
            have := Nat.le_of_ble_eq_true e2
            omega
      rw [a, b]
      rfl
    rw [q]
    rfl
  · rw [show pR s 2 = aR0 2 from rfl, e2]; rfl
  · rw [show pR s 1 = aR0 1 from rfl, e1]; rfl
/-! what the reference does behind its parser -/
theorem r_cp : ∀ (f : Nat) {l : Nat} {r : Int32} {S : MS}, l ≤ 131 → (∀ x, x < l → S.2.1 10 x = S.2.1 11 x) → fr_load_b67 f S (nI l) = some (r, S1) → ∃ U V, U.1 = S.1 ∧ (∀ a, a ≠ 10 → U.2.1 a = S.2.1 a) ∧ (∀ x, x < 131 → U.2.1 10 x = S.2.1 11 x) ∧ fr_copy_13_12 U 0 0 = some V ∧ fr_load_b107 16384 V 0 = some (r, S1) := by
  intro f
  induction f with
  | zero => intro l r S hl hz hf; cases hf
  | succ f ih =>
    intro l r S hl hz hf
    unfold fr_load_b67 at hf
    by_cases c1 : (131 : Int32) ≤ nI l
    · rw [if_pos c1] at hf
      have := (nI_leI (a := 131) (b := l) (by omega) (by omega)).mp c1
      obtain ⟨V, f3, hf⟩ := obind_some hf
      exact ⟨S, V, rfl, fun _ _ => rfl, fun x hx => hz x (by omega), f3, hf⟩
    · rw [if_neg c1] at hf
      have c1 : l < 131 := Nat.lt_of_not_le (fun q => c1 ((nI_leI (a := 131) (b := l) (by omega) (by omega)).mpr q))
      obtain ⟨-, hf⟩ := oif_some hf
      obtain ⟨v7, e7, hf⟩ := elet_some hf
      rw [nI_clamp (by omega)] at e7
      obtain ⟨-, hf⟩ := oif_some hf
      obtain ⟨S9, e9, hf⟩ := elet_some hf
      rw [nI_clamp (by omega)] at e9
      obtain ⟨v10, e10, hf⟩ := elet_some hf
      have e10 : v10 = nI (l + 1) := e10.trans (nI_1 l)
      rw [e10] at hf
      have n11 : S9.2.1 11 = S.2.1 11 := by rw [e9, mf_ne (by decide)]
      obtain ⟨U, V, a1, a2, a3, a4⟩ := ih (S := S9) (by omega) (fun x hx => by
        rw [n11, e9, mf_at]
        show (if x = l then v7 else S.2.1 10 x) = _
        by_cases e : x = l
        · rw [if_pos e, e7, e]
        · rw [if_neg e]; exact hz x (by omega)) hf
      exact ⟨U, V, a1.trans (by rw [e9]; rfl), fun a ha => (a2 a ha).trans (by rw [e9, mf_ne ha]), fun x hx => (a3 x hx).trans (by rw [n11]), a4⟩
def ZQ (r : Int32) (S1 : MS) : Prop := r = S1.2.1 10 9 * S1.2.1 10 10 ∧ S1.1 20 = 1
theorem z_168 {r : Int32} {k : MS → Int32 → Option (Int32 × MS)} (hk : ∀ S l, k S l = some (r, S1) → ZQ r S1) : ∀ (f : Nat) {S : MS} {l2 l3 : Int32}, fr_load_b168 k f S l2 l3 = some (r, S1) → ZQ r S1 := by
  intro f
  induction f with
  | zero => intro S l2 l3 hf; cases hf
  | succ f ih =>
    intro S l2 l3 hf
    unfold fr_load_b168 at hf
    obtain ⟨v2, e2, hf⟩ := elet_some hf
    by_cases c : v2 ≤ l3
    · rw [if_pos c] at hf
      obtain ⟨v4, e4, hf⟩ := elet_some hf
      exact hk _ _ hf
    · rw [if_neg c] at hf
      obtain ⟨v5, e5, hf⟩ := elet_some hf
      obtain ⟨v6, e6, hf⟩ := elet_some hf
      obtain ⟨r10, S7, f7, hf⟩ := obind2_some hf
      obtain ⟨r14, S11, f11, hf⟩ := obind2_some hf
      obtain ⟨r18, S15, f15, hf⟩ := obind2_some hf
      obtain ⟨-, hf⟩ := oif_some hf
      obtain ⟨S20, e20, hf⟩ := elet_some hf
      obtain ⟨v21, e21, hf⟩ := elet_some hf
      exact ih hf
theorem z_158 {r : Int32} : ∀ (f : Nat) {S : MS} {l : Int32}, fr_load_b158 f S l = some (r, S1) → ZQ r S1 := by
  intro f
  induction f with
  | zero => intro S l hf; cases hf
  | succ f ih =>
    intro S l hf
    unfold fr_load_b158 at hf
    obtain ⟨r5, S2, f2, hf⟩ := obind2_some hf
    by_cases c : r5 ≤ l
    · rw [if_pos c] at hf
      obtain ⟨S7, f7, hf⟩ := obind_some hf
      obtain ⟨S10, e10, hf⟩ := elet_some hf
      obtain ⟨S11, e11, hf⟩ := elet_some hf
      obtain ⟨S12, e12, hf⟩ := elet_some hf
      obtain ⟨S13, e13, hf⟩ := elet_some hf
      obtain ⟨r17, S14, f14, hf⟩ := obind2_some hf
      have ff := osome2 hf
      unfold fr_cellCount at f14
      obtain ⟨v2, d2, f14⟩ := elet_some f14
      obtain ⟨v3, d3, f14⟩ := elet_some f14
      obtain ⟨v4, d4, f14⟩ := elet_some f14
      have g := osome2 f14
      rw [← ff.1, ← ff.2, ← g.1, ← g.2]
      exact ⟨by rw [d4, d2, d3], by rw [e13, mi_ne (by decide), e12, e11]; show S10.1 20 = 1; rw [e10, mi_at]⟩
    · rw [if_neg c] at hf
      exact z_168 (fun S l h => ih h) 16384 hf
theorem z_107 {r : Int32} : ∀ (f : Nat) {S : MS} {l : Int32}, fr_load_b107 f S l = some (r, S1) → ZQ r S1 := by
  intro f
  induction f with
  | zero => intro S l hf; cases hf
  | succ f ih =>
    intro S l hf
    have h149 : ∀ {U : MS} {a b c : Int32}, fr_load_b149 (fr_load_b107 f) U a b c = some (r, S1) → ZQ r S1 := by
      intro U a b c hf
      unfold fr_load_b149 at hf
      obtain ⟨-, hf⟩ := oif_some hf
      obtain ⟨S3, e3, hf⟩ := elet_some hf
      obtain ⟨v4, e4, hf⟩ := elet_some hf
      exact ih hf
    unfold fr_load_b107 at hf
    obtain ⟨v2, e2, hf⟩ := elet_some hf
    by_cases c : v2 ≤ l
    · rw [if_pos c] at hf
      exact z_158 16384 hf
    · rw [if_neg c] at hf
      obtain ⟨v4, e4, hf⟩ := elet_some hf
      obtain ⟨v5, e5, hf⟩ := elet_some hf
      by_cases c2 : v5 ≤ l
      · rw [if_pos c2] at hf
        exact h149 hf
      · rw [if_neg c2] at hf
        obtain ⟨v7, e7, hf⟩ := elet_some hf
        obtain ⟨-, hf⟩ := oif_some hf
        obtain ⟨v9, e9, hf⟩ := elet_some hf
        exact h149 hf
end
set_option maxHeartbeats 1000000 in
theorem w3_fr_load_b168 {k158 : MS → Int32 → Option (Int32 × MS)} {r1 : Int32} {S1 : MS} (hk158 : ∀ (x0 : MS) (x1 : Int32), k158 x0 x1 = some (r1, S1) → FK [19, 20] [12, 17, 18, 23] x0 S1) : ∀ n : Nat, ∀ (S : MS) (y1 : Int32) (y2 : Int32), fr_load_b168 k158 n S y1 y2 = some (r1, S1) → FK [19, 20] [12, 17, 18, 23] S S1 := by
  intro n
  induction n with
  | zero =>
    intro S y1 y2 h
    have h : (none : Option (Int32 × MS)) = some (r1, S1) := h
    cases h
  | succ n ih =>
    intro S l2 l3 h
    have p0 : FK [19, 20] [12, 17, 18, 23] S S := FK.rf
    unfold fr_load_b168 at h
    obtain ⟨v2, ev2, h⟩ := elet_some h
    rcases oif_or h with ⟨-, h⟩ | ⟨-, h⟩
    · have h := h
      obtain ⟨v4, ev4, h⟩ := elet_some h
      exact p0.tr (hk158 _ _ h)
    · have h := h
      obtain ⟨v5, ev5, h⟩ := elet_some h
      obtain ⟨v6, ev6, h⟩ := elet_some h
      obtain ⟨r10, S7, eS7, h⟩ := obind2_some h
      have p1 : FK [19, 20] [12, 17, 18, 23] S S7 := p0.tr ((w_fr_centre eS7).w (by decide))
      obtain ⟨r14, S11, eS11, h⟩ := obind2_some h
      have p2 : FK [19, 20] [12, 17, 18, 23] S S11 := p1.tr ((w_fr_centre eS11).w (by decide))
      obtain ⟨r18, S15, eS15, h⟩ := obind2_some h
      have p3 : FK [19, 20] [12, 17, 18, 23] S S15 := p2.tr ((w_fr_delayFrom eS15).w (by decide))
      have h := (oif_some h).2
      obtain ⟨S20, eS20, h⟩ := elet_some h
      have p4 : FK [19, 20] [12, 17, 18, 23] S S20 := p3.tr (by rw [eS20]; exact fw_mf (by decide))
      obtain ⟨v21, ev21, h⟩ := elet_some h
      exact p4.tr (ih _ _ _ h)
set_option maxHeartbeats 1000000 in
theorem w3_fr_load_b158 {r1 : Int32} {S1 : MS} : ∀ n : Nat, ∀ (S : MS) (y1 : Int32), fr_load_b158 n S y1 = some (r1, S1) → FK [19, 20] [12, 17, 18, 23] S S1 := by
  intro n
  induction n with
  | zero =>
    intro S y1 h
    have h : (none : Option (Int32 × MS)) = some (r1, S1) := h
    cases h
  | succ n ih =>
    intro S l2 h
    have p0 : FK [19, 20] [12, 17, 18, 23] S S := FK.rf
    unfold fr_load_b158 at h
    obtain ⟨r5, S2, eS2, h⟩ := obind2_some h
    have p1 : FK [19, 20] [12, 17, 18, 23] S S2 := p0.tr ((w_fr_cellCount eS2).w (by decide))
    rcases oif_or h with ⟨-, h⟩ | ⟨-, h⟩
    · have h := h
      obtain ⟨S7, eS7, h⟩ := obind_some h
      have p2 : FK [19, 20] [12, 17, 18, 23] S S7 := p1.tr ((w_fr_records_12 eS7).w (by decide))
      obtain ⟨S10, eS10, h⟩ := elet_some h
      have p3 : FK [19, 20] [12, 17, 18, 23] S S10 := p2.tr (by rw [eS10]; exact fw_mi (by decide))
      obtain ⟨S11, eS11, h⟩ := elet_some h
      have p4 : FK [19, 20] [12, 17, 18, 23] S S11 := p3.tr (by rw [eS11]; exact fw_mf (by decide))
      obtain ⟨S12, eS12, h⟩ := elet_some h
      have p5 : FK [19, 20] [12, 17, 18, 23] S S12 := p4.tr (by rw [eS12]; exact fw_mf (by decide))
      obtain ⟨S13, eS13, h⟩ := elet_some h
      have p6 : FK [19, 20] [12, 17, 18, 23] S S13 := p5.tr (by rw [eS13]; exact fw_mi (by decide))
      obtain ⟨r17, S14, eS14, h⟩ := obind2_some h
      have p7 : FK [19, 20] [12, 17, 18, 23] S S14 := p6.tr ((w_fr_cellCount eS14).w (by decide))
      rw [← (osome2 h).2]
      exact p7
    · have h := h
      exact p1.tr (w3_fr_load_b168 ih _ _ _ _ h)
set_option maxHeartbeats 1000000 in
theorem w3_fr_load_b149 {k107 : MS → Int32 → Option (Int32 × MS)} {s0 : Int32} {s1 : Int32} {l2 : Int32} {S : MS} {r1 : Int32} {S1 : MS} (hk107 : ∀ (x0 : MS) (x1 : Int32), k107 x0 x1 = some (r1, S1) → FK [19, 20] [12, 17, 18, 23] x0 S1) (h : fr_load_b149 k107 S s0 s1 l2 = some (r1, S1)) : FK [19, 20] [12, 17, 18, 23] S S1 := by
  have p0 : FK [19, 20] [12, 17, 18, 23] S S := FK.rf
  unfold fr_load_b149 at h
  have h := (oif_some h).2
  obtain ⟨S3, eS3, h⟩ := elet_some h
  have p1 : FK [19, 20] [12, 17, 18, 23] S S3 := p0.tr (by rw [eS3]; exact fw_mf (by decide))
  obtain ⟨v4, ev4, h⟩ := elet_some h
  exact p1.tr (hk107 _ _ h)
set_option maxHeartbeats 1000000 in
theorem w3_fr_load_b107 {r1 : Int32} {S1 : MS} : ∀ n : Nat, ∀ (S : MS) (y1 : Int32), fr_load_b107 n S y1 = some (r1, S1) → FK [19, 20] [12, 17, 18, 23] S S1 := by
  intro n
  induction n with
  | zero =>
    intro S y1 h
    have h : (none : Option (Int32 × MS)) = some (r1, S1) := h
    cases h
  | succ n ih =>
    intro S l2 h
    have p0 : FK [19, 20] [12, 17, 18, 23] S S := FK.rf
    unfold fr_load_b107 at h
    obtain ⟨v2, ev2, h⟩ := elet_some h
    rcases oif_or h with ⟨-, h⟩ | ⟨-, h⟩
    · have h := h
      exact p0.tr (w3_fr_load_b158  _ _ _ h)
    · have h := h
      obtain ⟨v4, ev4, h⟩ := elet_some h
      obtain ⟨v5, ev5, h⟩ := elet_some h
      rcases oif_or h with ⟨-, h⟩ | ⟨-, h⟩
      · have h := h
        exact p0.tr (w3_fr_load_b149 ih h)
      · have h := h
        obtain ⟨v7, ev7, h⟩ := elet_some h
        have h := (oif_some h).2
        obtain ⟨v9, ev9, h⟩ := elet_some h
        exact p0.tr (w3_fr_load_b149 ih h)
end
section
/-! 21c.rload.lean.txt -/
section
variable {T T1 : AT} {S S1 : MS} {s : Nat}
theorem crf_eq (h : CRF T) (e : T1.2.2.2.2 = T.2.2.2.2) : CRF T1 := by
  unfold CRF at h ⊢
  rw [e]
  exact h
theorem rsrole (hs : s = 478 ∨ s = 656) : aR0 s = 6 := (sro hs).1
theorem seq_of (h : ∀ m j, s ≤ m → m < s + 178 → T1.2.2.1 m j = T.2.2.1 m j) : SEQ s T T1 := ⟨fun j _ => h _ _ (by omega) (by omega), fun j _ => h _ _ (by omega) (by omega), fun j => h _ _ (by omega) (by omega), fun m j a b => h _ _ (by omega) (by omega), fun m j a b => h _ _ (by omega) (by omega), fun m j a b _ => h _ _ (by omega) (by omega), fun m j a b _ => h _ _ (by omega) (by omega)⟩
set_option maxHeartbeats 400000 in
theorem r1_load {a0 r1 r2 : Int32} {k1 : Nat} (hV : IV aR0 1586 aK1 aK2 T) (hJ : JJ S) (h : R1 T S) (hg : g_X11_load T 0 a0 = some (k1, r1, T1)) (hf : fr_load S a0 = some (r2, S1)) : R1 T1 S1 ∧ (k1 = 0 ∧ S1.1 0 = 0 ∧ r1 = r2 ∨ k1 = 2 ∧ S1.1 0 = 1 ∨ k1 = 3 ∧ S1.1 0 = 2) := by
  have z0 : (0 : Int32).toInt = 0 := by decide
  obtain ⟨hc, hB, h5, h6, w0, hw0, h14, hr⟩ := h
  obtain ⟨d1, d2, d6, d0⟩ := rrole
  obtain ⟨-, -, -, -, -, -, -, t8, t9, -⟩ := txr_dec
  have c00 : T.2.2.2.2 0 0 = some 1 := (hc.2.1 0 (by decide) (by decide)).trans t8
  have c01 : T.2.2.2.2 0 1 = some 6 := (hc.2.1 1 (by decide) (by decide)).trans t9
  have h1000 : (S.1 2).toInt ≤ 1000 := (jj_ib hJ).1.1.2
  unfold fr_load at hf
  obtain ⟨S2, e2, hf⟩ := elet_some hf
  obtain ⟨v3, e3, hf⟩ := elet_some hf
  have e3 : v3 = S.1 2 := by rw [e3, e2]; rfl
  obtain ⟨r4, f4, hf⟩ := obind_some hf
  have out : g_X11_load_b15 T = some (k1, r1, T1) → (∃ r10 S7, fr_throwsAt S2 1 = some (r10, S7) ∧ S1 = S7) → R1 T1 S1 ∧ (k1 = 0 ∧ S1.1 0 = 0 ∧ r1 = r2 ∨ k1 = 2 ∧ S1.1 0 = 1 ∨ k1 = 3 ∧ S1.1 0 = 2) := by
    intro hg q
    obtain ⟨r10, S7, f7, e7⟩ := q
    unfold g_X11_load_b15 at hg
    have g := osome3 hg
    unfold fr_throwsAt at f7
    obtain ⟨U, eU, f7⟩ := elet_some f7
    have g7 := (osome2 f7).2
    rw [← g.2.2, e7, ← g7, eU, e2]
    refine ⟨r1_keep (W := []) (T := T) (S := S) ⟨hc, hB, h5, h6, w0, hw0, h14, hr⟩ hV FW.rf (by decide +kernel) (GR.rf T) ⟨rfl, rfl, rfl, rfl, rfl, rfl⟩, .inr (.inl ⟨g.1.symm, rfl⟩)⟩
  rcases tin2 f4 with ⟨c4, c0, c1⟩ | ⟨c4, cn⟩
  rotate_left
  · rw [if_pos c4] at hf
    obtain ⟨r10, S7, f7, hf⟩ := obind2_some hf
    refine out ?_ ⟨r10, S7, f7, (osome2 hf).2.symm⟩
    unfold g_X11_load at hg
    by_cases b0 : a0 < 0
    · rw [if_pos b0] at hg; exact hg
    · rw [if_neg b0] at hg
      obtain ⟨-, hg⟩ := oif_some hg
      obtain ⟨n4, e4, hg⟩ := obind_some hg
      rw [c00] at e4
      cases e4
      obtain ⟨-, hg⟩ := oif_some hg
      obtain ⟨v6, e6, hg⟩ := elet_some hg
      rw [if_neg (fun q => cn ⟨Int32.not_lt.mp b0, by rw [e3, ← hB.1, ← e6]; exact q⟩)] at hg
      exact hg
  rw [if_neg (by rw [c4]; decide)] at hf
  rw [e3] at c1
  have q0 := i_le c0
  have q1 := i_le c1
  obtain ⟨n, hn, en⟩ := nI_of01 (x := a0) (a := 1001) (by omega) (by omega) (by omega)
  obtain ⟨S11, e11, hf⟩ := elet_some hf
  obtain ⟨S12, e12, hf⟩ := elet_some hf
  obtain ⟨S13, e13, hf⟩ := elet_some hf
  obtain ⟨S14, e14, hf⟩ := elet_some hf
  obtain ⟨S15, e15, hf⟩ := elet_some hf
  obtain ⟨S16, f16, hf⟩ := obind_some hf
  obtain ⟨v19, e19, hf⟩ := elet_some hf
  have s15 : S15 = mi (mi (mi (mi (mi (mi S 0 0) 3 a0) 2 0) 4 0) 5 0) 6 (-1) := by rw [e15, e14, e13, e12, e11, e2]
  have k16 := w_fr_readText f16
  have j16 : ∀ k, k = 0 ∨ k = 2 ∨ k = 20 → S16.1 k = S15.1 k := fun k hk => by rcases hk with e | e | e <;> rw [e] <;> exact k16.1 _ (by decide)
  unfold g_X11_load at hg
  rw [if_neg (Int32.not_lt.mpr c0)] at hg
  obtain ⟨-, hg⟩ := oif_some hg
  obtain ⟨n4, en4, hg⟩ := obind_some hg
  rw [c00] at en4
  cases en4
  obtain ⟨-, hg⟩ := oif_some hg
  obtain ⟨v6, e6, hg⟩ := elet_some hg
  rw [if_pos (by rw [e6, hB.1]; exact c1)] at hg
  obtain ⟨-, hg⟩ := oif_some hg
  obtain ⟨n9, en9, hg⟩ := obind_some hg
  rw [c00] at en9
  cases en9
  obtain ⟨-, hg⟩ := oif_some hg
  obtain ⟨T11, e11', hg⟩ := elet_some hg
  have R11 : T11.2.2.2.2 = T.2.2.2.2 := by rw [e11']; rfl
  have hc11 := crf_eq hc R11
  have hV11 : IV aR0 1586 aK1 aK2 T11 := by
    rw [e11']
    exact iv_uI hV d1 (by decide) (by decide) (rfl : iR 9 1 = (0, 1000)) (by decide) (.inl rfl)
  obtain ⟨u, w, hu, hw, huw, e15u, e14w⟩ : ∃ u w, (u = 478 ∨ u = 656) ∧ (w = 478 ∨ w = 656) ∧ u ≠ w ∧ T.2.2.2.2 0 15 = some u ∧ T.2.2.2.2 0 14 = some w := by
    rcases hc.2.2 with ⟨a, b⟩ | ⟨a, b⟩
    · exact ⟨656, 478, .inr rfl, .inl rfl, by decide, b, a⟩
    · exact ⟨478, 656, .inl rfl, .inr rfl, by decide, b, a⟩
  have ew : w0 = w := by
    rw [h14] at e14w
    exact Option.some.inj e14w
  subst ew
  obtain ⟨-, hg⟩ := oif_some hg
  obtain ⟨n13, en13, hg⟩ := obind_some hg
  rw [R11, c01] at en13
  cases en13
  obtain ⟨-, hg⟩ := oif_some hg
  obtain ⟨n15, en15, hg⟩ := obind_some hg
  rw [R11, e15u] at en15
  cases en15
  obtain ⟨-, hg⟩ := oif_some hg
  have lp : ∀ {k : Nat} {r : Int32} {U : AT}, g_X3_parse T11 6 a0 u = some (k, r, U) → TXq u T11 U S16 k := fun {k r U} g => by
    rw [en] at g
    exact l_parse (b := S.2.1 1) hu (hc11.txr hV11) (hc11.srf hu) (fun j hj => by rw [e11', ui_ne (.inl (by decide))]; exact hB.2 j hj) (by omega) (by rw [s15]; rfl) (by rw [s15]; exact en) (by rw [s15]; rfl) (by rw [s15]; rfl) (by rw [s15]; rfl) g f16
  have po := fun {k : Nat} {r : Int32} {U : AT} (g : g_X3_parse T11 6 a0 u = some (k, r, U)) => parse_out hc11 hV11 hu (by omega) (by omega) g
  have seqw : ∀ {k : Nat} {r : Int32} {U : AT}, g_X3_parse T11 6 a0 u = some (k, r, U) → SEQ w0 T U := fun {k r U} g => seq_of (fun m j a b => by
    rw [(po g).1 m j (by omega) (by omega), e11', ui_ne (.inl (by omega))])
  have l11 : T11.2.2.1 1 1 = 0 := by rw [e11', ui_at]
  have b11 : ∀ j, T11.2.2.1 2 j = T.2.2.1 2 j := fun j => by rw [e11', ui_ne (.inl (by decide))]
  have s2 : S15.1 2 = 0 := by rw [s15]; rfl
  have s00 : S15.1 0 = 0 := by rw [s15]; rfl
  have s20 : S15.1 20 = S.1 20 := by rw [s15]; rfl
  have sA : S15.2 = S.2 := by rw [s15]; rfl
  rcases othr_k hg with ⟨r9, g9, z9⟩ | ⟨r19, T17, g9, hg⟩
  · rcases lp g9 with ⟨z, -⟩ | ⟨z1, z2⟩
    · exact absurd z z9
    rw [if_neg (st_le z2.1 e19)] at hf
    obtain ⟨r24, S21, f21, hf⟩ := obind2_some hf
    unfold fr_throwsAt at f21
    obtain ⟨U, eU, f21⟩ := elet_some f21
    have g21 := (osome2 f21).2
    have ff := (osome2 hf).2
    have eS : S1 = mi S16 0 2 := by rw [← ff, ← g21, eU]
    have p := po g9
    have R1' : T1.2.2.2.2 = T.2.2.2.2 := (s_X3_parse g9).2.2.trans R11
    refine ⟨⟨crf_eq hc R1', ⟨?_, fun k hk => ?_⟩, ?_, ?_, rs_eq hw0 (seqw g9) (fun x _ => ?_) ?_ (by rw [R1']; exact h14) hr⟩, .inr (.inr ⟨z1, ?_⟩)⟩
    · rw [p.2.2.1, l11, eS, mi_ne (by decide), j16 2 (by omega), s2]
    · rw [p.2.1, b11, hB.2 k hk, eS]
      show _ = S16.2.1 1 k
      rw [k16.2 1 (by decide), sA]
    · rw [eS, mi_ne (by decide)]; exact z2.2.1
    · rw [eS, mi_ne (by decide)]; exact z2.2.2
    · rw [eS]
      show S16.2.1 10 x = _
      rw [k16.2 10 (by decide), sA]
    · rw [eS, mi_ne (by decide), j16 20 (by omega), s20]
    · rw [eS, mi_at]
  · rcases lp g9 with ⟨-, C17, R17, p2, p3, u5, u6, u4, u8⟩ | ⟨z, -⟩
    rotate_left
    · exact absurd z (by decide)
    have p := po g9
    have R17 := R17.trans R11
    rw [if_pos (by rw [e19, u5]; decide)] at hf
    obtain ⟨U, V, a1, a2, a3, fV, hf⟩ := r_cp 16384 (l := 0) (by omega) (fun x hx => absurd hx (Nat.not_lt_zero x)) hf
    have kV := w_fr_copy_13_12 fV
    have k1' := w3_fr_load_b107 _ _ _ hf
    have zq := z_107 _ hf
    have sc : ∀ k, k = 0 ∨ k = 2 ∨ k = 5 ∨ k = 6 → S1.1 k = S16.1 k := fun k hk => by
      rw [← a1]
      rcases hk with e | e | e | e <;> rw [e] <;> exact (k1'.1 _ (by decide)).trans (kV.1 _ (by decide))
    have sp : ∀ x, x < 131 → S1.2.1 10 x = S16.2.1 11 x := fun x hx => by
      rw [k1'.2 10 (by decide), kV.2 10 (by decide)]
      exact a3 x hx
    have sb : S1.2.1 1 = S.2.1 1 := by
      rw [k1'.2 1 (by decide), kV.2 1 (by decide), a2 1 (by decide), k16.2 1 (by decide), sA]
    obtain ⟨-, hg⟩ := oif_some hg
    obtain ⟨n22, en22, hg⟩ := obind_some hg
    rw [R17, h14] at en22
    cases en22
    obtain ⟨-, hg⟩ := oif_some hg
    obtain ⟨n24, en24, hg⟩ := obind_some hg
    rw [R17, e15u] at en24
    cases en24
    obtain ⟨-, hg⟩ := oif_some hg
    obtain ⟨-, hg⟩ := oif_some hg
    obtain ⟨T27, e27, hg⟩ := elet_some hg
    obtain ⟨-, hg⟩ := oif_some hg
    obtain ⟨-, hg⟩ := oif_some hg
    obtain ⟨T30, e30, hg⟩ := elet_some hg
    obtain ⟨-, hg⟩ := oif_some hg
    obtain ⟨T32, g32, hg⟩ := obind_some hg
    have hV27 : IV aR0 1586 aK1 aK2 T27 := by
      rw [e27]
      exact iv_uR p.2.2.2 d0 (by decide) (by decide) rfl rfl (rsrole hu) ⟨by decide, by decide⟩
    have hV30 : IV aR0 1586 aK1 aK2 T30 := by
      rw [e30]
      exact iv_uR hV27 d0 (by decide) (by decide) rfl rfl (rsrole hw0) ⟨by decide, by decide⟩
    have i30 : T30.2.2.1 = T17.2.2.1 := by rw [e30, e27]; rfl
    have r30 : ∀ n k, n ≠ 0 → T30.2.2.2.2 n k = T.2.2.2.2 n k := fun n k hn => by
      rw [e30]
      show va_up T27.2.2.2.2 0 _ n k = _
      rw [va_up_ne _ _ hn, e27]
      show va_up T17.2.2.2.2 0 _ n k = _
      rw [va_up_ne _ _ hn, R17]
    have r30' : ∀ k, T30.2.2.2.2 0 k = if k = 15 then some w0 else if k = 14 then some u else T.2.2.2.2 0 k := fun k => by
      rw [e30]
      show va_up T27.2.2.2.2 0 (va_up (T27.2.2.2.2 0) 15 (some w0)) 0 k = _
      rw [va_up_self, e27]
      show (if k = 15 then some w0 else va_up T17.2.2.2.2 0 (va_up (T17.2.2.2.2 0) 14 (some u)) 0 k) = _
      rw [va_up_self, R17]
      rfl
    have hc30 : CRF T30 := by
      refine ⟨fun n hn hs hr k => (r30 n k hn).trans (hc.1 n hn hs hr k), fun k b14 b15 => by rw [r30', if_neg b15, if_neg b14]; exact hc.2.1 k b14 b15, ?_⟩
      rw [r30', r30', if_neg (by decide), if_pos rfl, if_pos rfl]
      rcases hu with e | e <;> rcases hw0 with e' | e' <;> subst e <;> subst e'
      · exact absurd rfl huw
      · exact .inl ⟨rfl, rfl⟩
      · exact .inr ⟨rfl, rfl⟩
      · exact absurd rfl huw
    have cb := tgo (cs_X11_begin T30 0 hV30 d0) g32
    have gb := sr_X11_begin g32
    have hc32 : CRF T32 := crf_gr hc30 hV30 gb
    have e14' : T32.2.2.2.2 0 14 = some u := by
      have q : T32.2.2.2.2 0 14 = T30.2.2.2.2 0 14 := by
        refine gb.2 0 14 (Nat.lt_of_lt_of_le (by decide) hV30.1.2.2) ?_
        rw [hV30.2.1 0 (iv_sta hV30 d0 (by decide) (by decide)), d0]
        decide
      rw [q, r30', if_neg (by decide), if_pos rfl]
    have sq : SEQ u T17 T32 := by
      have q := fw_seq (s := u) cb.2 (by decide +kernel) hu
      unfold SEQ at q ⊢
      rw [i30] at q
      exact q
    have sce : SCE u T32 (S1.2.1 10) := sce_eq (sce_of C17) sq sp
    unfold g_X11_load_b65 at hg
    obtain ⟨-, hg⟩ := oif_some hg
    obtain ⟨n3, en3, hg⟩ := obind_some hg
    rw [e14'] at en3
    cases en3
    obtain ⟨-, hg⟩ := oif_some hg
    obtain ⟨n5, en5, hg⟩ := obind_some hg
    rw [(hc32.srf hu).2.1] at en5
    cases en5
    obtain ⟨-, hg⟩ := oif_some hg
    obtain ⟨r9', T7, g7, hg⟩ := obind2_some hg
    unfold g_X1_cells at g7
    obtain ⟨-, g7⟩ := oif_some g7
    obtain ⟨x3, y3, g7⟩ := elet_some g7
    obtain ⟨-, g7⟩ := oif_some g7
    obtain ⟨x5, y5, g7⟩ := elet_some g7
    obtain ⟨x6, y6, g7⟩ := elet_some g7
    have gg := osome2 g7
    have g := osome3 hg
    rw [← g.2.2, ← gg.2]
    refine ⟨⟨hc32, ⟨?_, fun k hk => ?_⟩, ?_, ?_, u, hu, e14', .inl ⟨zq.2, sce, by rw [sp 4 (by decide)]; exact u4, by rw [sp 8 (by decide)]; exact u8⟩⟩, .inl ⟨g.1.symm, ?_, ?_⟩⟩
    · rw [cb.2 1 1 (by rw [d1]; rfl), i30, p.2.2.1, l11, sc 2 (by omega), j16 2 (by omega), s2]
    · rw [cb.2 2 k (by rw [d2]; rfl), i30, p.2.1, b11, hB.2 k hk, sb]
    · rw [cb.2 6 2 (by rw [d6]; rfl), i30, p2, sc 5 (by omega), u5]
    · rw [cb.2 6 3 (by rw [d6]; rfl), i30, p3, sc 6 (by omega), u6]
    · rw [sc 0 (by omega), j16 0 (by omega), s00]
    · rw [← g.2.1, ← gg.1, y6, y3, y5, sce.2.2.1.1, sce.2.2.1.2.1]
      exact zq.1.symm
end
end
section
/-! 21c2.point.lean.txt -/
section
variable {T T1 : AT} {S S1 : MS} {s : Nat}
/-- the cells of the Sources of both scenes -/
def P7 (m : Nat) : Prop := 650 ≤ m ∧ m < 656 ∨ 828 ≤ m ∧ m < 834
def C7 (m : Nat) (T : AT) : Prop := m < T.1 ∧ T.2.1 m = (7, 0)
theorem QF.app (h : QF T T1) {m : Nat} (c : C7 m T) : C7 m T1 ∧ ∀ j, T1.2.2.1 m j = T.2.2.1 m j := ⟨⟨Nat.lt_of_lt_of_le c.1 h.1.1, (h.1.2.1 m c.1).trans c.2⟩, fun j => h.2 m j c.1 c.2⟩
theorem p7_dec : (List.range 1586).all (fun m => !((Nat.ble 650 m && Nat.blt m 656) || (Nat.ble 828 m && Nat.blt m 834)) || Nat.beq (aR0 m) 7) = true := by decide +kernel
theorem c7_of (hV : IV aR0 1586 aK1 aK2 T) {m : Nat} (hm : P7 m) : C7 m T := by
  have h15 : m < 1586 := by unfold P7 at hm; omega
  have r : aR0 m = 7 := by
    have d := a_fin p7_dec h15
    rcases hm with ⟨a, b⟩ | ⟨a, b⟩
    · rw [show Nat.ble 650 m = true from Nat.ble_eq_true_of_le a, show Nat.blt m 656 = true from Nat.ble_eq_true_of_le b] at d
      exact Nat.eq_of_beq_eq_true (by simpa using d)
    · rw [show Nat.ble 828 m = true from Nat.ble_eq_true_of_le a, show Nat.blt m 834 = true from Nat.ble_eq_true_of_le b] at d
      exact Nat.eq_of_beq_eq_true (by simpa using d)
  have st := iv_sta hV r (by decide) (by decide)
  exact ⟨iv_lt hV st, by rw [hV.2.1 m st, r]; rfl⟩
set_option maxRecDepth 100000 in
theorem pt_dec : okc 7 = true ∧ (arf 7).getD 1 none = some 21 ∧ (arf 0).getD 2 none = some 7 := by decide +kernel
theorem q_rp {a b : Nat} {c d : Int32} (h21 : T.2.2.2.2 7 1 = some 21) (hg : g_X5_recordPoint T 7 a b c d = some T1) {m : Nat} (hm : P7 m) (cm : C7 m T) : C7 m T1 ∧ ∀ j, T1.2.2.1 m j = T.2.2.1 m j := by
  have m21 : m ≠ 21 := by unfold P7 at hm; omega
  have up : ∀ {U : AT} {k : Nat} {v : Int32}, C7 m U → C7 m (uI U 21 k v) ∧ ∀ j, (uI U 21 k v).2.2.1 m j = U.2.2.1 m j := fun c => ⟨c, fun j => ui_ne (.inl m21)⟩
  unfold g_X5_recordPoint at hg
  obtain ⟨-, hg⟩ := oif_some hg
  obtain ⟨T3, g3, hg⟩ := obind_some hg
  obtain ⟨c3, e3⟩ := (sq_X5_silence g3).app cm
  have r3 : T3.2.2.2.2 = T.2.2.2.2 := (s_X5_silence g3).2.2
  obtain ⟨-, hg⟩ := oif_some hg
  obtain ⟨n6, en6, hg⟩ := obind_some hg
  rw [r3, h21] at en6
  cases en6
  obtain ⟨-, hg⟩ := oif_some hg
  obtain ⟨T8, e8, hg⟩ := elet_some hg
  obtain ⟨c8, f8⟩ := up (k := 0) (v := 0) c3
  rw [← e8] at c8 f8
  have r8 : T8.2.2.2.2 = T.2.2.2.2 := by rw [e8]; exact r3
  obtain ⟨-, hg⟩ := oif_some hg
  obtain ⟨n10, en10, hg⟩ := obind_some hg
  rw [r8, h21] at en10
  cases en10
  obtain ⟨-, hg⟩ := oif_some hg
  obtain ⟨T12, e12, hg⟩ := elet_some hg
  obtain ⟨c12, f12⟩ := up (k := 5) (v := 100) c8
  rw [← e12] at c12 f12
  have r12 : T12.2.2.2.2 = T.2.2.2.2 := by rw [e12]; exact r8
  obtain ⟨-, hg⟩ := oif_some hg
  obtain ⟨n14, en14, hg⟩ := obind_some hg
  rw [r12, h21] at en14
  cases en14
  obtain ⟨-, hg⟩ := oif_some hg
  obtain ⟨T16, e16, hg⟩ := elet_some hg
  obtain ⟨c16, f16⟩ := up (k := 6) (v := d) c12
  rw [← e16] at c16 f16
  obtain ⟨-, hg⟩ := oif_some hg
  obtain ⟨n18, -, hg⟩ := obind_some hg
  obtain ⟨-, hg⟩ := oif_some hg
  obtain ⟨r22, T20, g20, hg⟩ := obind2_some hg
  obtain ⟨c20, f20⟩ := (sq_X1_centreX g20).app c16
  obtain ⟨-, hg⟩ := oif_some hg
  obtain ⟨n25, -, hg⟩ := obind_some hg
  obtain ⟨-, hg⟩ := oif_some hg
  obtain ⟨r29, T27, g27, hg⟩ := obind2_some hg
  obtain ⟨c27, f27⟩ := (sq_X1_centreY g27).app c20
  obtain ⟨c1, f1⟩ := (sq_X5_recordPoint_b53 _ _ _ _ _ _ _ _ hg).app c27
  exact ⟨c1, fun j => by rw [f1, f27, f20, f16, f12, f8, e3]⟩
theorem q_point {a0 a1 : Int32} (hV : IV aR0 1586 aK1 aK2 T) (hc : CRF T) (hg : g_X11_recordPoint T 0 a0 a1 = some T1) {m : Nat} (hm : P7 m) (cm : C7 m T) : C7 m T1 ∧ ∀ j, T1.2.2.1 m j = T.2.2.1 m j := by
  obtain ⟨o7, a7, a2⟩ := pt_dec
  unfold g_X11_recordPoint at hg
  obtain ⟨-, hg⟩ := oif_some hg
  obtain ⟨n3, en3, hg⟩ := obind_some hg
  obtain ⟨-, hg⟩ := oif_some hg
  obtain ⟨n5, en5, hg⟩ := obind_some hg
  obtain ⟨-, hg⟩ := oif_some hg
  obtain ⟨T7, g7, hg⟩ := obind_some hg
  obtain ⟨c7, f7⟩ := (sq_X8_copyFrom g7).app cm
  have hc7 : CRF T7 := crf_gr hc hV (sr_X8_copyFrom g7)
  unfold g_X11_recordPoint_b11 at hg
  obtain ⟨-, hg⟩ := oif_some hg
  obtain ⟨m3, em3, hg⟩ := obind_some hg
  rw [(hc7.2.1 2 (by decide) (by decide)).trans a2] at em3
  cases em3
  obtain ⟨-, hg⟩ := oif_some hg
  obtain ⟨m5, em5, hg⟩ := obind_some hg
  obtain ⟨-, hg⟩ := oif_some hg
  obtain ⟨m7, em7, hg⟩ := obind_some hg
  obtain ⟨-, hg⟩ := oif_some hg
  obtain ⟨T9, g9, hg⟩ := obind_some hg
  obtain ⟨c9, f9⟩ := q_rp ((hc7.at 7 o7 1).trans a7) g9 hm c7
  rw [← osome1 (show some T9 = some T1 from hg)]
  exact ⟨c9, fun j => (f9 j).trans (f7 j)⟩
theorem need_same {k : Nat} {r : Int32} : (∀ {o : Nat}, g_X11_needCamera T o = some (k, r, T1) → T1 = T) ∧ (∀ {o : Nat} {a : Int32}, g_X11_needCell T o a = some (k, r, T1) → T1 = T) ∧ (∀ {a b c : Int32}, g_X11_needRange T a b c = some (k, r, T1) → T1 = T) := by
  have idx : ∀ {U U1 : AT} {k : Nat} {r a b : Int32}, g_X11_needIndex U a b = some (k, r, U1) → U1 = U := by
    intro U U1 k r a b hg
    unfold g_X11_needIndex at hg
    by_cases c0 : a < 0
    · rw [if_pos c0] at hg
      exact (osome3 (show some ((2 : Nat), (0 : Int32), U) = some (k, r, U1) from hg)).2.2.symm
    · rw [if_neg c0] at hg
      by_cases c1 : a < b
      · rw [if_pos c1] at hg
        exact (osome3 hg).2.2.symm
      · rw [if_neg c1] at hg
        exact (osome3 (show some ((2 : Nat), (0 : Int32), U) = some (k, r, U1) from hg)).2.2.symm
  refine ⟨fun {o} hg => ?_, fun {o a} hg => ?_, fun {a b c} hg => ?_⟩
  · unfold g_X11_needCamera at hg
    obtain ⟨-, hg⟩ := oif_some hg
    obtain ⟨n3, e3, hg⟩ := obind_some hg
    obtain ⟨-, hg⟩ := oif_some hg
    obtain ⟨v5, e5, hg⟩ := elet_some hg
    by_cases c : v5 = 0
    · rw [if_pos c] at hg; exact (osome3 hg).2.2.symm
    · rw [if_neg c] at hg; exact (osome3 hg).2.2.symm
  · unfold g_X11_needCell at hg
    obtain ⟨-, hg⟩ := oif_some hg
    obtain ⟨n3, e3, hg⟩ := obind_some hg
    obtain ⟨-, hg⟩ := oif_some hg
    obtain ⟨n5, e5, hg⟩ := obind_some hg
    obtain ⟨-, hg⟩ := oif_some hg
    obtain ⟨r9, T7, g7, hg⟩ := obind2_some hg
    have e7 : T7 = T := by
      unfold g_X1_cells at g7
      obtain ⟨-, g7⟩ := oif_some g7
      obtain ⟨x3, y3, g7⟩ := elet_some g7
      obtain ⟨-, g7⟩ := oif_some g7
      obtain ⟨x5, y5, g7⟩ := elet_some g7
      obtain ⟨x6, y6, g7⟩ := elet_some g7
      exact (osome2 g7).2.symm
    rcases othr_k hg with ⟨r9', g9, -⟩ | ⟨r9', T9, g9, hg⟩
    · exact (idx g9).trans e7
    · have g := osome3 hg
      exact g.2.2.symm.trans ((idx g9).trans e7)
  · unfold g_X11_needRange at hg
    by_cases c0 : a < b
    · rw [if_pos c0] at hg
      exact (osome3 (show some ((3 : Nat), (0 : Int32), T) = some (k, r, T1) from hg)).2.2.symm
    · rw [if_neg c0] at hg
      by_cases c1 : a ≤ c
      · rw [if_pos c1] at hg
        exact (osome3 hg).2.2.symm
      · rw [if_neg c1] at hg
        exact (osome3 (show some ((3 : Nat), (0 : Int32), T) = some (k, r, T1) from hg)).2.2.symm
theorem q_pointBest {a0 a1 r : Int32} {k : Nat} (hV : IV aR0 1586 aK1 aK2 T) (hc : CRF T) (hg : g_X11_pointBest T 0 a0 a1 = some (k, r, T1)) {m : Nat} (hm : P7 m) : ∀ j, T1.2.2.1 m j = T.2.2.1 m j := by
  have cm := c7_of hV hm
  unfold g_X11_pointBest at hg
  obtain ⟨-, hg⟩ := oif_some hg
  rcases othr_k hg with ⟨r9, g9, -⟩ | ⟨r5, T3, g9, hg⟩
  · rw [need_same.1 g9]; exact fun _ => rfl
  rw [need_same.1 g9] at hg
  obtain ⟨-, hg⟩ := oif_some hg
  rcases othr_k hg with ⟨r9, g9, -⟩ | ⟨r10, T8, g9, hg⟩
  · rw [need_same.2.1 g9]; exact fun _ => rfl
  rw [need_same.2.1 g9] at hg
  rcases othr_k hg with ⟨r9, g9, -⟩ | ⟨r14, T12, g9, hg⟩
  · rw [need_same.2.2 g9]; exact fun _ => rfl
  rw [need_same.2.2 g9] at hg
  obtain ⟨-, hg⟩ := oif_some hg
  obtain ⟨T17, g17, hg⟩ := obind_some hg
  obtain ⟨c17, f17⟩ := q_point hV hc g17 hm cm
  unfold g_X11_pointBest_b22 at hg
  obtain ⟨-, hg⟩ := oif_some hg
  obtain ⟨r4, U, gU, hg⟩ := obind2_some hg
  obtain ⟨-, fU⟩ := (sq_X11_trialBest gU).app c17
  have g := osome3 (show some ((0 : Nat), r4, U) = some (k, r, T1) from hg)
  rw [← g.2.2]
  exact fun j => (fU j).trans (f17 j)
theorem q_pointPower {a0 a1 a2 : Int32} {r : Int64} {k : Nat} (hV : IV aR0 1586 aK1 aK2 T) (hc : CRF T) (hg : g_X11_pointPower T 0 a0 a1 a2 = some (k, r, T1)) {m : Nat} (hm : P7 m) : ∀ j, T1.2.2.1 m j = T.2.2.1 m j := by
  have cm := c7_of hV hm
  unfold g_X11_pointPower at hg
  obtain ⟨-, hg⟩ := oif_some hg
  rcases othr_k hg with ⟨r9, g9, -⟩ | ⟨r5, T3, g9, hg⟩
  · rw [need_same.1 g9]; exact fun _ => rfl
  rw [need_same.1 g9] at hg
  obtain ⟨-, hg⟩ := oif_some hg
  rcases othr_k hg with ⟨r9, g9, -⟩ | ⟨r10, T8, g9, hg⟩
  · rw [need_same.2.1 g9]; exact fun _ => rfl
  rw [need_same.2.1 g9] at hg
  obtain ⟨-, hg⟩ := oif_some hg
  rcases othr_k hg with ⟨r9, g9, -⟩ | ⟨r15, T13, g9, hg⟩
  · rw [need_same.2.1 g9]; exact fun _ => rfl
  rw [need_same.2.1 g9] at hg
  rcases othr_k hg with ⟨r9, g9, -⟩ | ⟨r19, T17, g9, hg⟩
  · rw [need_same.2.2 g9]; exact fun _ => rfl
  rw [need_same.2.2 g9] at hg
  obtain ⟨-, hg⟩ := oif_some hg
  obtain ⟨T22, g22, hg⟩ := obind_some hg
  obtain ⟨c22, f22⟩ := q_point hV hc g22 hm cm
  unfold g_X11_pointPower_b27 at hg
  obtain ⟨-, hg⟩ := oif_some hg
  obtain ⟨n3, -, hg⟩ := obind_some hg
  obtain ⟨-, hg⟩ := oif_some hg
  obtain ⟨n5, -, hg⟩ := obind_some hg
  obtain ⟨-, hg⟩ := oif_some hg
  obtain ⟨n7, -, hg⟩ := obind_some hg
  obtain ⟨-, hg⟩ := oif_some hg
  obtain ⟨-, hg⟩ := oif_some hg
  obtain ⟨n10, -, hg⟩ := obind_some hg
  obtain ⟨-, hg⟩ := oif_some hg
  obtain ⟨n12, -, hg⟩ := obind_some hg
  obtain ⟨-, hg⟩ := oif_some hg
  obtain ⟨T14, g14, hg⟩ := obind_some hg
  obtain ⟨c14, f14⟩ := (sq_X8_powerOf g14).app c22
  obtain ⟨-, fz⟩ := (sq_X11_pointPower_b48 _ _ hg).app c14
  exact fun j => (fz j).trans ((f14 j).trans (f22 j))
/-- as r1_keep, where a Source's fields may change elsewhere -/
def scodes7 : List Nat := (List.range 18).map (192 + ·) ++ (List.range 8).map (32 + ·) ++ (List.range 4).map (64 + ·) ++ [1888, 1760, 1792, 1824, 1856]
def okW7 (W : List Nat) : Bool := scodes7.all (fun x => !(W.contains x)) && !(W.contains 289) && !(W.contains 1312) && !(W.contains 98) && !(W.contains 99)
theorem fw_seq7 {W : List Nat} (h : FW aR0 W T T1) (c : scodes7.all (fun x => !(W.contains x)) = true) (hs : s = 478 ∨ s = 656) (h7 : ∀ m, P7 m → ∀ j, T1.2.2.1 m j = T.2.2.1 m j) : SEQ s T T1 := by
  obtain ⟨r0, r1, r2, r3, r4, r5, r6, r7, r8, r9⟩ := sro hs
  have sc : ∀ {x : Nat}, x ∈ scodes7 → W.contains x = false := fun {x} hx => con_f (List.all_eq_true.mp c x hx)
  have k0 : ∀ j, j < 18 → 192 + j ∈ scodes7 := fun j hj => List.mem_append_left _ (List.mem_append_left _ (List.mem_append_left _ (List.mem_map.mpr ⟨j, List.mem_range.mpr hj, rfl⟩)))
  have k1 : ∀ j, j < 8 → 32 + j ∈ scodes7 := fun j hj => List.mem_append_left _ (List.mem_append_left _ (List.mem_append_right _ (List.mem_map.mpr ⟨j, List.mem_range.mpr hj, rfl⟩)))
  have k2 : ∀ j, j < 4 → 64 + j ∈ scodes7 := fun j hj => List.mem_append_left _ (List.mem_append_right _ (List.mem_map.mpr ⟨j, List.mem_range.mpr hj, rfl⟩))
  have ka : ∀ x, x ∈ [1888, 1760, 1792, 1824, 1856] → x ∈ scodes7 := fun x hx => List.mem_append_right _ hx
  refine ⟨fun j hj => h _ _ ?_, fun j hj => h _ _ ?_, fun j => h _ _ ?_, fun m j a b => h _ _ ?_, fun m j a b => h _ _ ?_, fun m j a b d => h _ _ ?_, fun m j a b d => h7 m (by unfold P7; omega) j⟩
  · rw [r0]; exact sc (k0 j hj)
  · rw [r1]; exact sc (k1 j hj)
  · rw [r2]; exact sc (ka 1888 (by decide))
  · have q := r3 (m - (s + 5)) (by omega)
    rw [show s + 5 + (m - (s + 5)) = m from by omega] at q
    rw [q]; exact sc (ka 1888 (by decide))
  · rcases (show m = s + 11 ∨ m = s + 12 ∨ m = s + 13 ∨ m = s + 14 by omega) with e | e | e | e <;> rw [e]
    · rw [r4]; exact sc (ka 1760 (by decide))
    · rw [r5]; exact sc (ka 1792 (by decide))
    · rw [r6]; exact sc (ka 1824 (by decide))
    · rw [r7]; exact sc (ka 1856 (by decide))
  · have q := r8 (m - (s + 160)) (by omega)
    rw [show s + 160 + (m - (s + 160)) = m from by omega] at q
    rw [q]; exact sc (k2 j d)
theorem r1_keep7 {W : List Nat} (h : R1 T S) (hV : IV aR0 1586 aK1 aK2 T) (hw : FW aR0 W T T1) (c : okW7 W = true) (hc1 : CRF T1) (e14 : T1.2.2.2.2 0 14 = T.2.2.2.2 0 14) (hf : FKq S S1) (h7 : ∀ m, P7 m → ∀ j, T1.2.2.1 m j = T.2.2.1 m j) : R1 T1 S1 := by
  obtain ⟨hc, ⟨hl, hb⟩, h5, h6, s, hs, h14, hr⟩ := h
  unfold okW7 at c
  simp only [Bool.and_eq_true] at c
  obtain ⟨⟨⟨⟨c0, c1⟩, c2⟩, c3⟩, c4⟩ := c
  obtain ⟨r1, r2, r6, r0⟩ := rrole
  refine ⟨hc1, ⟨?_, fun k hk => ?_⟩, ?_, ?_, rs_eq hs (fw_seq7 hw c0 hs h7) (fun x _ => by rw [hf.2.2.2.2.2]) hf.2.2.2.1 (e14.trans h14) hr⟩
  · rw [hw 1 1 (by rw [r1]; exact con_f c1), hf.1]; exact hl
  · rw [hw 2 k (by rw [r2]; exact con_f c2), hf.2.2.2.2.1]; exact hb k hk
  · rw [hw 6 2 (by rw [r6]; exact con_f c3), hf.2.1]; exact h5
  · rw [hw 6 3 (by rw [r6]; exact con_f c4), hf.2.2.1]; exact h6
theorem e14_gr (hV : IV aR0 1586 aK1 aK2 T) (hg : GR T T1) : T1.2.2.2.2 0 14 = T.2.2.2.2 0 14 := by
  refine hg.2 0 14 (Nat.lt_of_lt_of_le (by decide) hV.1.2.2) ?_
  rw [hV.2.1 0 (iv_sta hV rrole.2.2.2 (by decide) (by decide)), rrole.2.2.2]
  decide
end
end
section
/-! 21d.keep.lean.txt -/
set_option maxRecDepth 100000 in
theorem r1_0 : R1 aT0 mS0 := by
  refine ⟨⟨fun n _ _ _ k => rfl, fun k _ _ => rfl, .inl ⟨by decide +kernel, by decide +kernel⟩⟩, ⟨by decide +kernel, fun k _ => ?_⟩, by decide +kernel, by decide +kernel, 478, .inl rfl, by decide +kernel, .inr ⟨by decide +kernel, by decide +kernel, by decide +kernel, by decide +kernel, by decide +kernel, by decide +kernel, by decide +kernel⟩⟩
  show fviR (aR0 2) k = 0
  rw [rrole.2.1]
  rfl
theorem r1_append {T : AT} {S : MS} {a0 a1 a2 a3 a4 r1 r2 : Int32} {T1 : AT} {S1 : MS} (hV : IV aR0 1586 aK1 aK2 T) (hJ : JJ S) (h : R1 T S) (hg : g_X11_append T 0 a0 a1 a2 a3 a4 = some (r1, T1)) (hf : fr_append S a0 a1 a2 a3 a4 = some (r2, S1)) : R1 T1 S1 := by
  obtain ⟨hc, hB, h5, h6, s, hs, h14, hr⟩ := h
  obtain ⟨d1, d2, d6, d0⟩ := rrole
  obtain ⟨a1', -, b1, -, -, -, -, t8, -, -⟩ := txr_dec
  have q := k_append ((hc.2.1 0 (by decide) (by decide)).trans t8) ((hc.at 1 a1' 0).trans b1) hB hg hf
  have c := tgo (cs_X11_append T 0 a0 a1 a2 a3 a4 hV d0) hg
  have f := w_fr_append hf
  refine ⟨crf_eq hc q.2.2, q.2.1, ?_, ?_, rs_eq hs (fw_seq c.1.2 (by decide +kernel) hs) (fun x _ => by rw [f.2 10 (by decide)]) (f.1 20 (by decide)) (by rw [q.2.2]; exact h14) hr⟩
  · rw [c.1.2 6 2 (by rw [d6]; rfl), f.1 5 (by decide)]; exact h5
  · rw [c.1.2 6 3 (by rw [d6]; rfl), f.1 6 (by decide)]; exact h6
theorem r1_parseError {T : AT} {S : MS} {r1 : Int32} {r2 : Int32} {T1 : AT} {S1 : MS} (hV : IV aR0 1586 aK1 aK2 T) (hJ : JJ S) (h : R1 T S) (hg : g_X11_parseError T 0 = some (r1, T1)) (hf : fr_parseError S = some (r2, S1)) : R1 T1 S1 := by
  have c := tgo (cs_X11_parseError T 0  hV rrole.2.2.2) hg
  have f := w_fr_parseError hf
  exact r1_keep (W := []) h hV (by rw [show T1 = T from c.1]; exact FW.rf) (by decide +kernel) (by rw [show T1 = T from c.1]; exact GR.rf T) ⟨f.1 2 (by decide), f.1 5 (by decide), f.1 6 (by decide), f.1 20 (by decide), f.2 1 (by decide), f.2 10 (by decide)⟩
theorem r1_errorPosition {T : AT} {S : MS} {r1 : Int32} {r2 : Int32} {T1 : AT} {S1 : MS} (hV : IV aR0 1586 aK1 aK2 T) (hJ : JJ S) (h : R1 T S) (hg : g_X11_errorPosition T 0 = some (r1, T1)) (hf : fr_errorPosition S = some (r2, S1)) : R1 T1 S1 := by
  have c := tgo (cs_X11_errorPosition T 0  hV rrole.2.2.2) hg
  have f := w_fr_errorPosition hf
  exact r1_keep (W := []) h hV (by rw [show T1 = T from c.1]; exact FW.rf) (by decide +kernel) (by rw [show T1 = T from c.1]; exact GR.rf T) ⟨f.1 2 (by decide), f.1 5 (by decide), f.1 6 (by decide), f.1 20 (by decide), f.2 1 (by decide), f.2 10 (by decide)⟩
theorem r1_buffered {T : AT} {S : MS} {r1 : Int32} {r2 : Int32} {T1 : AT} {S1 : MS} (hV : IV aR0 1586 aK1 aK2 T) (hJ : JJ S) (h : R1 T S) (hg : g_X11_buffered T 0 = some (r1, T1)) (hf : fr_buffered S = some (r2, S1)) : R1 T1 S1 := by
  have c := tgo (cs_X11_buffered T 0  hV rrole.2.2.2) hg
  have f := w_fr_buffered hf
  exact r1_keep (W := []) h hV (by rw [show T1 = T from c.1]; exact FW.rf) (by decide +kernel) (by rw [show T1 = T from c.1]; exact GR.rf T) ⟨f.1 2 (by decide), f.1 5 (by decide), f.1 6 (by decide), f.1 20 (by decide), f.2 1 (by decide), f.2 10 (by decide)⟩
theorem r1_mics {T : AT} {S : MS} {r1 : Int32} {r2 : Int32} {T1 : AT} {S1 : MS} (hV : IV aR0 1586 aK1 aK2 T) (hJ : JJ S) (h : R1 T S) (hg : g_X11_mics T 0 = some (r1, T1)) (hf : fr_mics S = some (r2, S1)) : R1 T1 S1 := by
  have c := tgo (cs_X11_mics T 0  hV rrole.2.2.2) hg
  have f := w_fr_mics hf
  exact r1_keep (W := []) h hV (by rw [show T1 = T from c.1]; exact FW.rf) (by decide +kernel) (by rw [show T1 = T from c.1]; exact GR.rf T) ⟨f.1 2 (by decide), f.1 5 (by decide), f.1 6 (by decide), f.1 20 (by decide), f.2 1 (by decide), f.2 10 (by decide)⟩
theorem r1_micAt {T : AT} {S : MS} {a0 a1 : Int32} {r1 : Int32} {r2 : Int32} {k1 : Nat} {T1 : AT} {S1 : MS} (hV : IV aR0 1586 aK1 aK2 T) (hJ : JJ S) (h : R1 T S) (hg : g_X11_micAt T 0 a0 a1 = some (k1, r1, T1)) (hf : fr_micAt S a0 a1 = some (r2, S1)) : R1 T1 S1 := by
  have c := tgo (cs_X11_micAt T 0 a0 a1 hV rrole.2.2.2) hg
  have f := w_fr_micAt hf
  exact r1_keep (W := []) h hV (by rw [show T1 = T from c.1]; exact FW.rf) (by decide +kernel) (by rw [show T1 = T from c.1]; exact GR.rf T) ⟨f.1 2 (by decide), f.1 5 (by decide), f.1 6 (by decide), f.1 20 (by decide), f.2 1 (by decide), f.2 10 (by decide)⟩
theorem r1_isMuted {T : AT} {S : MS} {a0 : Int32} {r1 : Int32} {r2 : Int32} {k1 : Nat} {T1 : AT} {S1 : MS} (hV : IV aR0 1586 aK1 aK2 T) (hJ : JJ S) (h : R1 T S) (hg : g_X11_isMuted T 0 a0 = some (k1, r1, T1)) (hf : fr_isMuted S a0 = some (r2, S1)) : R1 T1 S1 := by
  have c := tgo (cs_X11_isMuted T 0 a0 hV rrole.2.2.2) hg
  have f := w_fr_isMuted hf
  exact r1_keep (W := []) h hV (by rw [show T1 = T from c.1]; exact FW.rf) (by decide +kernel) (by rw [show T1 = T from c.1]; exact GR.rf T) ⟨f.1 2 (by decide), f.1 5 (by decide), f.1 6 (by decide), f.1 20 (by decide), f.2 1 (by decide), f.2 10 (by decide)⟩
theorem r1_columns {T : AT} {S : MS} {r1 : Int32} {r2 : Int32} {T1 : AT} {S1 : MS} (hV : IV aR0 1586 aK1 aK2 T) (hJ : JJ S) (h : R1 T S) (hg : g_X11_columns T 0 = some (r1, T1)) (hf : fr_columns S = some (r2, S1)) : R1 T1 S1 := by
  have c := tgo (cs_X11_columns T 0  hV rrole.2.2.2) hg
  have f := w_fr_columns hf
  exact r1_keep (W := []) h hV (by rw [show T1 = T from c.1]; exact FW.rf) (by decide +kernel) (by rw [show T1 = T from c.1]; exact GR.rf T) ⟨f.1 2 (by decide), f.1 5 (by decide), f.1 6 (by decide), f.1 20 (by decide), f.2 1 (by decide), f.2 10 (by decide)⟩
theorem r1_rows {T : AT} {S : MS} {r1 : Int32} {r2 : Int32} {T1 : AT} {S1 : MS} (hV : IV aR0 1586 aK1 aK2 T) (hJ : JJ S) (h : R1 T S) (hg : g_X11_rows T 0 = some (r1, T1)) (hf : fr_rows S = some (r2, S1)) : R1 T1 S1 := by
  have c := tgo (cs_X11_rows T 0  hV rrole.2.2.2) hg
  have f := w_fr_rows hf
  exact r1_keep (W := []) h hV (by rw [show T1 = T from c.1]; exact FW.rf) (by decide +kernel) (by rw [show T1 = T from c.1]; exact GR.rf T) ⟨f.1 2 (by decide), f.1 5 (by decide), f.1 6 (by decide), f.1 20 (by decide), f.2 1 (by decide), f.2 10 (by decide)⟩
theorem r1_cellAt {T : AT} {S : MS} {a0 a1 : Int32} {r1 : Int32} {r2 : Int32} {k1 : Nat} {T1 : AT} {S1 : MS} (hV : IV aR0 1586 aK1 aK2 T) (hJ : JJ S) (h : R1 T S) (hg : g_X11_cellAt T 0 a0 a1 = some (k1, r1, T1)) (hf : fr_cellAt S a0 a1 = some (r2, S1)) : R1 T1 S1 := by
  have c := tgo (cs_X11_cellAt T 0 a0 a1 hV rrole.2.2.2) hg
  have f := w_fr_cellAt hf
  exact r1_keep (W := []) h hV (by rw [show T1 = T from c.1]; exact FW.rf) (by decide +kernel) (by rw [show T1 = T from c.1]; exact GR.rf T) ⟨f.1 2 (by decide), f.1 5 (by decide), f.1 6 (by decide), f.1 20 (by decide), f.2 1 (by decide), f.2 10 (by decide)⟩
theorem r1_sources {T : AT} {S : MS} {r1 : Int32} {r2 : Int32} {T1 : AT} {S1 : MS} (hV : IV aR0 1586 aK1 aK2 T) (hJ : JJ S) (h : R1 T S) (hg : g_X11_sources T 0 = some (r1, T1)) (hf : fr_sources S = some (r2, S1)) : R1 T1 S1 := by
  have c := tgo (cs_X11_sources T 0  hV rrole.2.2.2) hg
  have f := w_fr_sources hf
  exact r1_keep (W := []) h hV (by rw [show T1 = T from c.1]; exact FW.rf) (by decide +kernel) (by rw [show T1 = T from c.1]; exact GR.rf T) ⟨f.1 2 (by decide), f.1 5 (by decide), f.1 6 (by decide), f.1 20 (by decide), f.2 1 (by decide), f.2 10 (by decide)⟩
theorem r1_sourceAt {T : AT} {S : MS} {a0 a1 a2 : Int32} {r1 : Int32} {r2 : Int32} {k1 : Nat} {T1 : AT} {S1 : MS} (hV : IV aR0 1586 aK1 aK2 T) (hJ : JJ S) (h : R1 T S) (hg : g_X11_sourceAt T 0 a0 a1 a2 = some (k1, r1, T1)) (hf : fr_sourceAt S a0 a1 a2 = some (r2, S1)) : R1 T1 S1 := by
  have c := tgo (cs_X11_sourceAt T 0 a0 a1 a2 hV rrole.2.2.2) hg
  have f := w_fr_sourceAt hf
  exact r1_keep (W := []) h hV (by rw [show T1 = T from c.1]; exact FW.rf) (by decide +kernel) (by rw [show T1 = T from c.1]; exact GR.rf T) ⟨f.1 2 (by decide), f.1 5 (by decide), f.1 6 (by decide), f.1 20 (by decide), f.2 1 (by decide), f.2 10 (by decide)⟩
theorem r1_isOn {T : AT} {S : MS} {a0 : Int32} {r1 : Int32} {r2 : Int32} {k1 : Nat} {T1 : AT} {S1 : MS} (hV : IV aR0 1586 aK1 aK2 T) (hJ : JJ S) (h : R1 T S) (hg : g_X11_isOn T 0 a0 = some (k1, r1, T1)) (hf : fr_isOn S a0 = some (r2, S1)) : R1 T1 S1 := by
  have c := tgo (cs_X11_isOn T 0 a0 hV rrole.2.2.2) hg
  have f := w_fr_isOn hf
  exact r1_keep (W := []) h hV (by rw [show T1 = T from c.1]; exact FW.rf) (by decide +kernel) (by rw [show T1 = T from c.1]; exact GR.rf T) ⟨f.1 2 (by decide), f.1 5 (by decide), f.1 6 (by decide), f.1 20 (by decide), f.2 1 (by decide), f.2 10 (by decide)⟩
theorem r1_waveAt {T : AT} {S : MS} {a0 a1 : Int32} {r1 : Int32} {r2 : Int32} {k1 : Nat} {T1 : AT} {S1 : MS} (hV : IV aR0 1586 aK1 aK2 T) (hJ : JJ S) (h : R1 T S) (hg : g_X11_waveAt T 0 a0 a1 = some (k1, r1, T1)) (hf : fr_waveAt S a0 a1 = some (r2, S1)) : R1 T1 S1 := by
  have c := tgo (cs_X11_waveAt T 0 a0 a1 hV rrole.2.2.2) hg
  have f := w_fr_waveAt hf
  exact r1_keep (W := []) h hV (by rw [show T1 = T from c.1]; exact FW.rf) (by decide +kernel) (by rw [show T1 = T from c.1]; exact GR.rf T) ⟨f.1 2 (by decide), f.1 5 (by decide), f.1 6 (by decide), f.1 20 (by decide), f.2 1 (by decide), f.2 10 (by decide)⟩
theorem r1_samples {T : AT} {S : MS} {r1 : Int32} {r2 : Int32} {T1 : AT} {S1 : MS} (hV : IV aR0 1586 aK1 aK2 T) (hJ : JJ S) (h : R1 T S) (hg : g_X11_samples T 0 = some (r1, T1)) (hf : fr_samples S = some (r2, S1)) : R1 T1 S1 := by
  have c := tgo (cs_X11_samples T 0  hV rrole.2.2.2) hg
  have f := w_fr_samples hf
  exact r1_keep (W := []) h hV (by rw [show T1 = T from c.1]; exact FW.rf) (by decide +kernel) (by rw [show T1 = T from c.1]; exact GR.rf T) ⟨f.1 2 (by decide), f.1 5 (by decide), f.1 6 (by decide), f.1 20 (by decide), f.2 1 (by decide), f.2 10 (by decide)⟩
theorem r1_delay {T : AT} {S : MS} {a0 a1 : Int32} {r1 : Int32} {r2 : Int32} {k1 : Nat} {T1 : AT} {S1 : MS} (hV : IV aR0 1586 aK1 aK2 T) (hJ : JJ S) (h : R1 T S) (hg : g_X11_delay T 0 a0 a1 = some (k1, r1, T1)) (hf : fr_delay S a0 a1 = some (r2, S1)) : R1 T1 S1 := by
  have c := tgo (cs_X11_delay T 0 a0 a1 hV rrole.2.2.2) hg
  have f := w_fr_delay hf
  exact r1_keep (W := []) h hV (by rw [show T1 = T from c.1]; exact FW.rf) (by decide +kernel) (by rw [show T1 = T from c.1]; exact GR.rf T) ⟨f.1 2 (by decide), f.1 5 (by decide), f.1 6 (by decide), f.1 20 (by decide), f.2 1 (by decide), f.2 10 (by decide)⟩
theorem r1_delayTo {T : AT} {S : MS} {a0 a1 a2 : Int32} {r1 : Int32} {r2 : Int32} {k1 : Nat} {T1 : AT} {S1 : MS} (hV : IV aR0 1586 aK1 aK2 T) (hJ : JJ S) (h : R1 T S) (hg : g_X11_delayTo T 0 a0 a1 a2 = some (k1, r1, T1)) (hf : fr_delayTo S a0 a1 a2 = some (r2, S1)) : R1 T1 S1 := by
  have c := tgo (cs_X11_delayTo T 0 a0 a1 a2 hV rrole.2.2.2) hg
  have f := w_fr_delayTo hf
  exact r1_keep (W := []) h hV (by rw [show T1 = T from c.1]; exact FW.rf) (by decide +kernel) (by rw [show T1 = T from c.1]; exact GR.rf T) ⟨f.1 2 (by decide), f.1 5 (by decide), f.1 6 (by decide), f.1 20 (by decide), f.2 1 (by decide), f.2 10 (by decide)⟩
theorem r1_spread {T : AT} {S : MS} {a0 : Int32} {r1 : Int32} {r2 : Int32} {k1 : Nat} {T1 : AT} {S1 : MS} (hV : IV aR0 1586 aK1 aK2 T) (hJ : JJ S) (h : R1 T S) (hg : g_X11_spread T 0 a0 = some (k1, r1, T1)) (hf : fr_spread S a0 = some (r2, S1)) : R1 T1 S1 := by
  have c := tgo (cs_X11_spread T 0 a0 hV rrole.2.2.2) hg
  have f := w_fr_spread hf
  exact r1_keep (W := []) h hV (by rw [show T1 = T from c.1]; exact FW.rf) (by decide +kernel) (by rw [show T1 = T from c.1]; exact GR.rf T) ⟨f.1 2 (by decide), f.1 5 (by decide), f.1 6 (by decide), f.1 20 (by decide), f.2 1 (by decide), f.2 10 (by decide)⟩
theorem r1_window {T : AT} {S : MS} {a0 : Int32} {r1 : Int32} {r2 : Int32} {k1 : Nat} {T1 : AT} {S1 : MS} (hV : IV aR0 1586 aK1 aK2 T) (hJ : JJ S) (h : R1 T S) (hg : g_X11_window T 0 a0 = some (k1, r1, T1)) (hf : fr_window S a0 = some (r2, S1)) : R1 T1 S1 := by
  have c := tgo (cs_X11_window T 0 a0 hV rrole.2.2.2) hg
  have f := w_fr_window hf
  exact r1_keep (W := []) h hV (by rw [show T1 = T from c.1]; exact FW.rf) (by decide +kernel) (by rw [show T1 = T from c.1]; exact GR.rf T) ⟨f.1 2 (by decide), f.1 5 (by decide), f.1 6 (by decide), f.1 20 (by decide), f.2 1 (by decide), f.2 10 (by decide)⟩
theorem r1_sample {T : AT} {S : MS} {a0 a1 : Int32} {r1 : Int32} {r2 : Int32} {k1 : Nat} {T1 : AT} {S1 : MS} (hV : IV aR0 1586 aK1 aK2 T) (hJ : JJ S) (h : R1 T S) (hg : g_X11_sample T 0 a0 a1 = some (k1, r1, T1)) (hf : fr_sample S a0 a1 = some (r2, S1)) : R1 T1 S1 := by
  have c := tgo (cs_X11_sample T 0 a0 a1 hV rrole.2.2.2) hg
  have f := w_fr_sample hf
  exact r1_keep (W := []) h hV (by rw [show T1 = T from c.1]; exact FW.rf) (by decide +kernel) (by rw [show T1 = T from c.1]; exact GR.rf T) ⟨f.1 2 (by decide), f.1 5 (by decide), f.1 6 (by decide), f.1 20 (by decide), f.2 1 (by decide), f.2 10 (by decide)⟩
theorem r1_beam {T : AT} {S : MS} {a0 a1 : Int32} {r1 : Int32} {r2 : Int32} {k1 : Nat} {T1 : AT} {S1 : MS} (hV : IV aR0 1586 aK1 aK2 T) (hJ : JJ S) (h : R1 T S) (hg : g_X11_beam T 0 a0 a1 = some (k1, r1, T1)) (hf : fr_beam S a0 a1 = some (r2, S1)) : R1 T1 S1 := by
  have c := tgo (cs_X11_beam T 0 a0 a1 hV rrole.2.2.2) hg
  have f := w_fr_beam hf
  exact r1_keep h hV (T1 := T1) c.1.2 (by decide +kernel) (sr_X11_beam hg) ⟨f.1 2 (by decide), f.1 5 (by decide), f.1 6 (by decide), f.1 20 (by decide), f.2 1 (by decide), f.2 10 (by decide)⟩
theorem r1_power {T : AT} {S : MS} {a0 : Int32} {r1 : Int64} {r2 : Int64} {k1 : Nat} {T1 : AT} {S1 : MS} (hV : IV aR0 1586 aK1 aK2 T) (hJ : JJ S) (h : R1 T S) (hg : g_X11_power T 0 a0 = some (k1, r1, T1)) (hf : fr_power S a0 = some (r2, S1)) : R1 T1 S1 := by
  have c := tgo (cs_X11_power T 0 a0 hV rrole.2.2.2) hg
  have f := w_fr_power hf
  exact r1_keep h hV (T1 := T1) c.1.2 (by decide +kernel) (sr_X11_power hg) ⟨f.1 2 (by decide), f.1 5 (by decide), f.1 6 (by decide), f.1 20 (by decide), f.2 1 (by decide), f.2 10 (by decide)⟩
theorem r1_powerAt {T : AT} {S : MS} {a0 a1 : Int32} {r1 : Int64} {r2 : Int64} {k1 : Nat} {T1 : AT} {S1 : MS} (hV : IV aR0 1586 aK1 aK2 T) (hJ : JJ S) (h : R1 T S) (hg : g_X11_powerAt T 0 a0 a1 = some (k1, r1, T1)) (hf : fr_powerAt S a0 a1 = some (r2, S1)) : R1 T1 S1 := by
  have c := tgo (cs_X11_powerAt T 0 a0 a1 hV rrole.2.2.2) hg
  have f := w_fr_powerAt hf
  exact r1_keep h hV (T1 := T1) c.1.2 (by decide +kernel) (sr_X11_powerAt hg) ⟨f.1 2 (by decide), f.1 5 (by decide), f.1 6 (by decide), f.1 20 (by decide), f.2 1 (by decide), f.2 10 (by decide)⟩
theorem r1_best {T : AT} {S : MS} {r1 : Int32} {r2 : Int32} {k1 : Nat} {T1 : AT} {S1 : MS} (hV : IV aR0 1586 aK1 aK2 T) (hJ : JJ S) (h : R1 T S) (hg : g_X11_best T 0 = some (k1, r1, T1)) (hf : fr_best S = some (r2, S1)) : R1 T1 S1 := by
  have c := tgo (cs_X11_best T 0  hV rrole.2.2.2) hg
  have f := w_fr_best hf
  exact r1_keep h hV (T1 := T1) c.1.2 (by decide +kernel) (sr_X11_best hg) ⟨f.1 2 (by decide), f.1 5 (by decide), f.1 6 (by decide), f.1 20 (by decide), f.2 1 (by decide), f.2 10 (by decide)⟩
theorem r1_bestPower {T : AT} {S : MS} {r1 : Int64} {r2 : Int64} {k1 : Nat} {T1 : AT} {S1 : MS} (hV : IV aR0 1586 aK1 aK2 T) (hJ : JJ S) (h : R1 T S) (hg : g_X11_bestPower T 0 = some (k1, r1, T1)) (hf : fr_bestPower S = some (r2, S1)) : R1 T1 S1 := by
  have c := tgo (cs_X11_bestPower T 0  hV rrole.2.2.2) hg
  have f := w_fr_bestPower hf
  exact r1_keep h hV (T1 := T1) c.1.2 (by decide +kernel) (sr_X11_bestPower hg) ⟨f.1 2 (by decide), f.1 5 (by decide), f.1 6 (by decide), f.1 20 (by decide), f.2 1 (by decide), f.2 10 (by decide)⟩
theorem r1_meanPower {T : AT} {S : MS} {r1 : Int64} {r2 : Int64} {k1 : Nat} {T1 : AT} {S1 : MS} (hV : IV aR0 1586 aK1 aK2 T) (hJ : JJ S) (h : R1 T S) (hg : g_X11_meanPower T 0 = some (k1, r1, T1)) (hf : fr_meanPower S = some (r2, S1)) : R1 T1 S1 := by
  have c := tgo (cs_X11_meanPower T 0  hV rrole.2.2.2) hg
  have f := w_fr_meanPower hf
  exact r1_keep h hV (T1 := T1) c.1.2 (by decide +kernel) (sr_X11_meanPower hg) ⟨f.1 2 (by decide), f.1 5 (by decide), f.1 6 (by decide), f.1 20 (by decide), f.2 1 (by decide), f.2 10 (by decide)⟩
theorem r1_peaks {T : AT} {S : MS} {r1 : Int32} {r2 : Int32} {k1 : Nat} {T1 : AT} {S1 : MS} (hV : IV aR0 1586 aK1 aK2 T) (hJ : JJ S) (h : R1 T S) (hg : g_X11_peaks T 0 = some (k1, r1, T1)) (hf : fr_peaks S = some (r2, S1)) : R1 T1 S1 := by
  have c := tgo (cs_X11_peaks T 0  hV rrole.2.2.2) hg
  have f := w_fr_peaks hf
  exact r1_keep h hV (T1 := T1) c.1.2 (by decide +kernel) (sr_X11_peaks hg) ⟨f.1 2 (by decide), f.1 5 (by decide), f.1 6 (by decide), f.1 20 (by decide), f.2 1 (by decide), f.2 10 (by decide)⟩
theorem r1_peakAt {T : AT} {S : MS} {a0 : Int32} {r1 : Int32} {r2 : Int32} {k1 : Nat} {T1 : AT} {S1 : MS} (hV : IV aR0 1586 aK1 aK2 T) (hJ : JJ S) (h : R1 T S) (hg : g_X11_peakAt T 0 a0 = some (k1, r1, T1)) (hf : fr_peakAt S a0 = some (r2, S1)) : R1 T1 S1 := by
  have c := tgo (cs_X11_peakAt T 0 a0 hV rrole.2.2.2) hg
  have f := w_fr_peakAt hf
  exact r1_keep h hV (T1 := T1) c.1.2 (by decide +kernel) (sr_X11_peakAt hg) ⟨f.1 2 (by decide), f.1 5 (by decide), f.1 6 (by decide), f.1 20 (by decide), f.2 1 (by decide), f.2 10 (by decide)⟩
theorem r1_isPeak {T : AT} {S : MS} {a0 : Int32} {r1 : Int32} {r2 : Int32} {k1 : Nat} {T1 : AT} {S1 : MS} (hV : IV aR0 1586 aK1 aK2 T) (hJ : JJ S) (h : R1 T S) (hg : g_X11_isPeak T 0 a0 = some (k1, r1, T1)) (hf : fr_isPeak S a0 = some (r2, S1)) : R1 T1 S1 := by
  have c := tgo (cs_X11_isPeak T 0 a0 hV rrole.2.2.2) hg
  have f := w_fr_isPeak hf
  exact r1_keep h hV (T1 := T1) c.1.2 (by decide +kernel) (sr_X11_isPeak hg) ⟨f.1 2 (by decide), f.1 5 (by decide), f.1 6 (by decide), f.1 20 (by decide), f.2 1 (by decide), f.2 10 (by decide)⟩
theorem r1_zonePower {T : AT} {S : MS} {a0 : Int32} {r1 : Int64} {r2 : Int64} {k1 : Nat} {T1 : AT} {S1 : MS} (hV : IV aR0 1586 aK1 aK2 T) (hJ : JJ S) (h : R1 T S) (hg : g_X11_zonePower T 0 a0 = some (k1, r1, T1)) (hf : fr_zonePower S a0 = some (r2, S1)) : R1 T1 S1 := by
  have c := tgo (cs_X11_zonePower T 0 a0 hV rrole.2.2.2) hg
  have f := w_fr_zonePower hf
  exact r1_keep h hV (T1 := T1) c.1.2 (by decide +kernel) (sr_X11_zonePower hg) ⟨f.1 2 (by decide), f.1 5 (by decide), f.1 6 (by decide), f.1 20 (by decide), f.2 1 (by decide), f.2 10 (by decide)⟩
theorem r1_zoneBest {T : AT} {S : MS} {a0 : Int32} {r1 : Int32} {r2 : Int32} {k1 : Nat} {T1 : AT} {S1 : MS} (hV : IV aR0 1586 aK1 aK2 T) (hJ : JJ S) (h : R1 T S) (hg : g_X11_zoneBest T 0 a0 = some (k1, r1, T1)) (hf : fr_zoneBest S a0 = some (r2, S1)) : R1 T1 S1 := by
  have c := tgo (cs_X11_zoneBest T 0 a0 hV rrole.2.2.2) hg
  have f := w_fr_zoneBest hf
  exact r1_keep h hV (T1 := T1) c.1.2 (by decide +kernel) (sr_X11_zoneBest hg) ⟨f.1 2 (by decide), f.1 5 (by decide), f.1 6 (by decide), f.1 20 (by decide), f.2 1 (by decide), f.2 10 (by decide)⟩
theorem r1_contrast {T : AT} {S : MS} {r1 : UInt32} {r2 : UInt32} {k1 : Nat} {T1 : AT} {S1 : MS} (hV : IV aR0 1586 aK1 aK2 T) (hJ : JJ S) (h : R1 T S) (hg : g_X11_contrast T 0 = some (k1, r1, T1)) (hf : fr_contrast S = some (r2, S1)) : R1 T1 S1 := by
  have c := tgo (cs_X11_contrast T 0  hV rrole.2.2.2) hg
  have f := w_fr_contrast hf
  exact r1_keep h hV (T1 := T1) c.1.2 (by decide +kernel) (sr_X11_contrast hg) ⟨f.1 2 (by decide), f.1 5 (by decide), f.1 6 (by decide), f.1 20 (by decide), f.2 1 (by decide), f.2 10 (by decide)⟩
theorem r1_alias {T : AT} {S : MS} {a0 a1 a2 : Int32} {r1 : Int32} {r2 : Int32} {k1 : Nat} {T1 : AT} {S1 : MS} (hV : IV aR0 1586 aK1 aK2 T) (hJ : JJ S) (h : R1 T S) (hg : g_X11_alias T 0 a0 a1 a2 = some (k1, r1, T1)) (hf : fr_alias S a0 a1 a2 = some (r2, S1)) : R1 T1 S1 := by
  have c := tgo (cs_X11_alias T 0 a0 a1 a2 hV rrole.2.2.2) hg
  have f := w_fr_alias hf
  exact r1_keep (W := []) h hV (by rw [show T1 = T from c.1]; exact FW.rf) (by decide +kernel) (by rw [show T1 = T from c.1]; exact GR.rf T) ⟨f.1 2 (by decide), f.1 5 (by decide), f.1 6 (by decide), f.1 20 (by decide), f.2 1 (by decide), f.2 10 (by decide)⟩
theorem r1_isAlias {T : AT} {S : MS} {a0 a1 a2 : Int32} {r1 : Int32} {r2 : Int32} {k1 : Nat} {T1 : AT} {S1 : MS} (hV : IV aR0 1586 aK1 aK2 T) (hJ : JJ S) (h : R1 T S) (hg : g_X11_isAlias T 0 a0 a1 a2 = some (k1, r1, T1)) (hf : fr_isAlias S a0 a1 a2 = some (r2, S1)) : R1 T1 S1 := by
  have c := tgo (cs_X11_isAlias T 0 a0 a1 a2 hV rrole.2.2.2) hg
  have f := w_fr_isAlias hf
  exact r1_keep h hV (T1 := T1) c.1.2 (by decide +kernel) (sr_X11_isAlias hg) ⟨f.1 2 (by decide), f.1 5 (by decide), f.1 6 (by decide), f.1 20 (by decide), f.2 1 (by decide), f.2 10 (by decide)⟩
theorem r1_aliases {T : AT} {S : MS} {a0 a1 : Int32} {r1 : Int32} {r2 : Int32} {k1 : Nat} {T1 : AT} {S1 : MS} (hV : IV aR0 1586 aK1 aK2 T) (hJ : JJ S) (h : R1 T S) (hg : g_X11_aliases T 0 a0 a1 = some (k1, r1, T1)) (hf : fr_aliases S a0 a1 = some (r2, S1)) : R1 T1 S1 := by
  have c := tgo (cs_X11_aliases T 0 a0 a1 hV rrole.2.2.2) hg
  have f := w_fr_aliases hf
  exact r1_keep h hV (T1 := T1) c.1.2 (by decide +kernel) (sr_X11_aliases hg) ⟨f.1 2 (by decide), f.1 5 (by decide), f.1 6 (by decide), f.1 20 (by decide), f.2 1 (by decide), f.2 10 (by decide)⟩
theorem r1_blockPower {T : AT} {S : MS} {a0 a1 a2 : Int32} {r1 : Int64} {r2 : Int64} {k1 : Nat} {T1 : AT} {S1 : MS} (hV : IV aR0 1586 aK1 aK2 T) (hJ : JJ S) (h : R1 T S) (hg : g_X11_blockPower T 0 a0 a1 a2 = some (k1, r1, T1)) (hf : fr_blockPower S a0 a1 a2 = some (r2, S1)) : R1 T1 S1 := by
  have c := tgo (cs_X11_blockPower T 0 a0 a1 a2 hV rrole.2.2.2) hg
  have f := w_fr_blockPower hf
  exact r1_keep h hV (T1 := T1) c.1.2 (by decide +kernel) (sr_X11_blockPower hg) ⟨f.1 2 (by decide), f.1 5 (by decide), f.1 6 (by decide), f.1 20 (by decide), f.2 1 (by decide), f.2 10 (by decide)⟩
theorem r1_blockBest {T : AT} {S : MS} {a0 a1 : Int32} {r1 : Int32} {r2 : Int32} {k1 : Nat} {T1 : AT} {S1 : MS} (hV : IV aR0 1586 aK1 aK2 T) (hJ : JJ S) (h : R1 T S) (hg : g_X11_blockBest T 0 a0 a1 = some (k1, r1, T1)) (hf : fr_blockBest S a0 a1 = some (r2, S1)) : R1 T1 S1 := by
  have c := tgo (cs_X11_blockBest T 0 a0 a1 hV rrole.2.2.2) hg
  have f := w_fr_blockBest hf
  exact r1_keep h hV (T1 := T1) c.1.2 (by decide +kernel) (sr_X11_blockBest hg) ⟨f.1 2 (by decide), f.1 5 (by decide), f.1 6 (by decide), f.1 20 (by decide), f.2 1 (by decide), f.2 10 (by decide)⟩
theorem r1_path {T : AT} {S : MS} {a0 : Int32} {r1 : Int32} {r2 : Int32} {k1 : Nat} {T1 : AT} {S1 : MS} (hV : IV aR0 1586 aK1 aK2 T) (hJ : JJ S) (h : R1 T S) (hg : g_X11_path T 0 a0 = some (k1, r1, T1)) (hf : fr_path S a0 = some (r2, S1)) : R1 T1 S1 := by
  have c := tgo (cs_X11_path T 0 a0 hV rrole.2.2.2) hg
  have f := w_fr_path hf
  exact r1_keep h hV (T1 := T1) c.1.2 (by decide +kernel) (sr_X11_path hg) ⟨f.1 2 (by decide), f.1 5 (by decide), f.1 6 (by decide), f.1 20 (by decide), f.2 1 (by decide), f.2 10 (by decide)⟩
theorem r1_trackScore {T : AT} {S : MS} {a0 : Int32} {r1 : Int64} {r2 : Int64} {k1 : Nat} {T1 : AT} {S1 : MS} (hV : IV aR0 1586 aK1 aK2 T) (hJ : JJ S) (h : R1 T S) (hg : g_X11_trackScore T 0 a0 = some (k1, r1, T1)) (hf : fr_trackScore S a0 = some (r2, S1)) : R1 T1 S1 := by
  have c := tgo (cs_X11_trackScore T 0 a0 hV rrole.2.2.2) hg
  have f := w_fr_trackScore hf
  exact r1_keep h hV (T1 := T1) c.1.2 (by decide +kernel) (sr_X11_trackScore hg) ⟨f.1 2 (by decide), f.1 5 (by decide), f.1 6 (by decide), f.1 20 (by decide), f.2 1 (by decide), f.2 10 (by decide)⟩
theorem r1_trackCell {T : AT} {S : MS} {a0 a1 : Int32} {r1 : Int32} {r2 : Int32} {k1 : Nat} {T1 : AT} {S1 : MS} (hV : IV aR0 1586 aK1 aK2 T) (hJ : JJ S) (h : R1 T S) (hg : g_X11_trackCell T 0 a0 a1 = some (k1, r1, T1)) (hf : fr_trackCell S a0 a1 = some (r2, S1)) : R1 T1 S1 := by
  have c := tgo (cs_X11_trackCell T 0 a0 a1 hV rrole.2.2.2) hg
  have f := w_fr_trackCell hf
  exact r1_keep h hV (T1 := T1) c.1.2 (by decide +kernel) (sr_X11_trackCell hg) ⟨f.1 2 (by decide), f.1 5 (by decide), f.1 6 (by decide), f.1 20 (by decide), f.2 1 (by decide), f.2 10 (by decide)⟩
theorem r1_movingPower {T : AT} {S : MS} {a0 a1 a2 : Int32} {r1 : Int64} {r2 : Int64} {k1 : Nat} {T1 : AT} {S1 : MS} (hV : IV aR0 1586 aK1 aK2 T) (hJ : JJ S) (h : R1 T S) (hg : g_X11_movingPower T 0 a0 a1 a2 = some (k1, r1, T1)) (hf : fr_movingPower S a0 a1 a2 = some (r2, S1)) : R1 T1 S1 := by
  have c := tgo (cs_X11_movingPower T 0 a0 a1 a2 hV rrole.2.2.2) hg
  have f := w_fr_movingPower hf
  exact r1_keep h hV (T1 := T1) c.1.2 (by decide +kernel) (sr_X11_movingPower hg) ⟨f.1 2 (by decide), f.1 5 (by decide), f.1 6 (by decide), f.1 20 (by decide), f.2 1 (by decide), f.2 10 (by decide)⟩
theorem r1_bestVelocity {T : AT} {S : MS} {a0 a1 a2 : Int32} {r1 : Int32} {r2 : Int32} {k1 : Nat} {T1 : AT} {S1 : MS} (hV : IV aR0 1586 aK1 aK2 T) (hJ : JJ S) (h : R1 T S) (hg : g_X11_bestVelocity T 0 a0 a1 a2 = some (k1, r1, T1)) (hf : fr_bestVelocity S a0 a1 a2 = some (r2, S1)) : R1 T1 S1 := by
  have c := tgo (cs_X11_bestVelocity T 0 a0 a1 a2 hV rrole.2.2.2) hg
  have f := w_fr_bestVelocity hf
  exact r1_keep h hV (T1 := T1) c.1.2 (by decide +kernel) (sr_X11_bestVelocity hg) ⟨f.1 2 (by decide), f.1 5 (by decide), f.1 6 (by decide), f.1 20 (by decide), f.2 1 (by decide), f.2 10 (by decide)⟩
theorem r1_correlation {T : AT} {S : MS} {a0 a1 a2 : Int32} {r1 : Int64} {r2 : Int64} {k1 : Nat} {T1 : AT} {S1 : MS} (hV : IV aR0 1586 aK1 aK2 T) (hJ : JJ S) (h : R1 T S) (hg : g_X11_correlation T 0 a0 a1 a2 = some (k1, r1, T1)) (hf : fr_correlation S a0 a1 a2 = some (r2, S1)) : R1 T1 S1 := by
  have c := tgo (cs_X11_correlation T 0 a0 a1 a2 hV rrole.2.2.2) hg
  have f := w_fr_correlation hf
  exact r1_keep h hV (T1 := T1) c.1.2 (by decide +kernel) (sr_X11_correlation hg) ⟨f.1 2 (by decide), f.1 5 (by decide), f.1 6 (by decide), f.1 20 (by decide), f.2 1 (by decide), f.2 10 (by decide)⟩
theorem r1_bestLag {T : AT} {S : MS} {a0 a1 a2 : Int32} {r1 : Int32} {r2 : Int32} {k1 : Nat} {T1 : AT} {S1 : MS} (hV : IV aR0 1586 aK1 aK2 T) (hJ : JJ S) (h : R1 T S) (hg : g_X11_bestLag T 0 a0 a1 a2 = some (k1, r1, T1)) (hf : fr_bestLag S a0 a1 a2 = some (r2, S1)) : R1 T1 S1 := by
  have c := tgo (cs_X11_bestLag T 0 a0 a1 a2 hV rrole.2.2.2) hg
  have f := w_fr_bestLag hf
  exact r1_keep h hV (T1 := T1) c.1.2 (by decide +kernel) (sr_X11_bestLag hg) ⟨f.1 2 (by decide), f.1 5 (by decide), f.1 6 (by decide), f.1 20 (by decide), f.2 1 (by decide), f.2 10 (by decide)⟩
theorem r1_level {T : AT} {S : MS} {a0 : Int32} {r1 : Int64} {r2 : Int64} {k1 : Nat} {T1 : AT} {S1 : MS} (hV : IV aR0 1586 aK1 aK2 T) (hJ : JJ S) (h : R1 T S) (hg : g_X11_level T 0 a0 = some (k1, r1, T1)) (hf : fr_level S a0 = some (r2, S1)) : R1 T1 S1 := by
  have c := tgo (cs_X11_level T 0 a0 hV rrole.2.2.2) hg
  have f := w_fr_level hf
  exact r1_keep h hV (T1 := T1) c.1.2 (by decide +kernel) (sr_X11_level hg) ⟨f.1 2 (by decide), f.1 5 (by decide), f.1 6 (by decide), f.1 20 (by decide), f.2 1 (by decide), f.2 10 (by decide)⟩
theorem r1_loudest {T : AT} {S : MS} {a0 : Int32} {r1 : Int32} {r2 : Int32} {k1 : Nat} {T1 : AT} {S1 : MS} (hV : IV aR0 1586 aK1 aK2 T) (hJ : JJ S) (h : R1 T S) (hg : g_X11_loudest T 0 a0 = some (k1, r1, T1)) (hf : fr_loudest S a0 = some (r2, S1)) : R1 T1 S1 := by
  have c := tgo (cs_X11_loudest T 0 a0 hV rrole.2.2.2) hg
  have f := w_fr_loudest hf
  exact r1_keep h hV (T1 := T1) c.1.2 (by decide +kernel) (sr_X11_loudest hg) ⟨f.1 2 (by decide), f.1 5 (by decide), f.1 6 (by decide), f.1 20 (by decide), f.2 1 (by decide), f.2 10 (by decide)⟩
theorem r1_writeMap {T : AT} {S : MS} {r1 : Int32} {r2 : Int32} {k1 : Nat} {T1 : AT} {S1 : MS} (hV : IV aR0 1586 aK1 aK2 T) (hJ : JJ S) (h : R1 T S) (hg : g_X11_writeMap T 0 = some (k1, r1, T1)) (hf : fr_writeMap S = some (r2, S1)) : R1 T1 S1 := by
  have c := tgo (cs_X11_writeMap T 0  hV rrole.2.2.2) hg
  have f := w_fr_writeMap hf
  exact r1_keep h hV (T1 := T1) c.1.2 (by decide +kernel) (sr_X11_writeMap hg) ⟨f.1 2 (by decide), f.1 5 (by decide), f.1 6 (by decide), f.1 20 (by decide), f.2 1 (by decide), f.2 10 (by decide)⟩
theorem r1_mapByte {T : AT} {S : MS} {a0 : Int32} {r1 : Int32} {r2 : Int32} {k1 : Nat} {T1 : AT} {S1 : MS} (hV : IV aR0 1586 aK1 aK2 T) (hJ : JJ S) (h : R1 T S) (hg : g_X11_mapByte T 0 a0 = some (k1, r1, T1)) (hf : fr_mapByte S a0 = some (r2, S1)) : R1 T1 S1 := by
  have c := tgo (cs_X11_mapByte T 0 a0 hV rrole.2.2.2) hg
  have f := w_fr_mapByte hf
  exact r1_keep (W := []) h hV (by rw [show T1 = T from c.1]; exact FW.rf) (by decide +kernel) (by rw [show T1 = T from c.1]; exact GR.rf T) ⟨f.1 2 (by decide), f.1 5 (by decide), f.1 6 (by decide), f.1 20 (by decide), f.2 1 (by decide), f.2 10 (by decide)⟩
theorem r1_pointBest {T : AT} {S : MS} {a0 a1 : Int32} {r1 : Int32} {r2 : Int32} {k1 : Nat} {T1 : AT} {S1 : MS} (hV : IV aR0 1586 aK1 aK2 T) (hJ : JJ S) (h : R1 T S) (hg : g_X11_pointBest T 0 a0 a1 = some (k1, r1, T1)) (hf : fr_pointBest S a0 a1 = some (r2, S1)) : R1 T1 S1 := by
  have c := tgo (cs_X11_pointBest T 0 a0 a1 hV rrole.2.2.2) hg
  have f := w_fr_pointBest hf
  exact r1_keep7 h hV (T1 := T1) c.1.2 (by decide +kernel) (crf_gr h.1 hV (sr_X11_pointBest hg)) (e14_gr hV (sr_X11_pointBest hg)) ⟨f.1 2 (by decide), f.1 5 (by decide), f.1 6 (by decide), f.1 20 (by decide), f.2 1 (by decide), f.2 10 (by decide)⟩ (fun m hm => q_pointBest hV h.1 hg hm)
theorem r1_pointPower {T : AT} {S : MS} {a0 a1 a2 : Int32} {r1 : Int64} {r2 : Int64} {k1 : Nat} {T1 : AT} {S1 : MS} (hV : IV aR0 1586 aK1 aK2 T) (hJ : JJ S) (h : R1 T S) (hg : g_X11_pointPower T 0 a0 a1 a2 = some (k1, r1, T1)) (hf : fr_pointPower S a0 a1 a2 = some (r2, S1)) : R1 T1 S1 := by
  have c := tgo (cs_X11_pointPower T 0 a0 a1 a2 hV rrole.2.2.2) hg
  have f := w_fr_pointPower hf
  exact r1_keep7 h hV (T1 := T1) c.1.2 (by decide +kernel) (crf_gr h.1 hV (sr_X11_pointPower hg)) (e14_gr hV (sr_X11_pointPower hg)) ⟨f.1 2 (by decide), f.1 5 (by decide), f.1 6 (by decide), f.1 20 (by decide), f.2 1 (by decide), f.2 10 (by decide)⟩ (fun m hm => q_pointPower hV h.1 hg hm)
theorem r1_bestWithout {T : AT} {S : MS} {a0 : Int32} {r1 : Int32} {r2 : Int32} {k1 : Nat} {T1 : AT} {S1 : MS} (hV : IV aR0 1586 aK1 aK2 T) (hJ : JJ S) (h : R1 T S) (hg : g_X11_bestWithout T 0 a0 = some (k1, r1, T1)) (hf : fr_bestWithout S a0 = some (r2, S1)) : R1 T1 S1 := by
  have c := tgo (cs_X11_bestWithout T 0 a0 hV rrole.2.2.2) hg
  have f := w_fr_bestWithout hf
  exact r1_keep h hV (T1 := T1) c.1.2 (by decide +kernel) (sr_X11_bestWithout hg) ⟨f.1 2 (by decide), f.1 5 (by decide), f.1 6 (by decide), f.1 20 (by decide), f.2 1 (by decide), f.2 10 (by decide)⟩
theorem r1_bestIfOff {T : AT} {S : MS} {a0 : Int32} {r1 : Int32} {r2 : Int32} {k1 : Nat} {T1 : AT} {S1 : MS} (hV : IV aR0 1586 aK1 aK2 T) (hJ : JJ S) (h : R1 T S) (hg : g_X11_bestIfOff T 0 a0 = some (k1, r1, T1)) (hf : fr_bestIfOff S a0 = some (r2, S1)) : R1 T1 S1 := by
  have c := tgo (cs_X11_bestIfOff T 0 a0 hV rrole.2.2.2) hg
  have f := w_fr_bestIfOff hf
  exact r1_keep h hV (T1 := T1) c.1.2 (by decide +kernel) (sr_X11_bestIfOff hg) ⟨f.1 2 (by decide), f.1 5 (by decide), f.1 6 (by decide), f.1 20 (by decide), f.2 1 (by decide), f.2 10 (by decide)⟩
theorem r1_cleaned {T : AT} {S : MS} {r1 : Int32} {r2 : Int32} {k1 : Nat} {T1 : AT} {S1 : MS} (hV : IV aR0 1586 aK1 aK2 T) (hJ : JJ S) (h : R1 T S) (hg : g_X11_cleaned T 0 = some (k1, r1, T1)) (hf : fr_cleaned S = some (r2, S1)) : R1 T1 S1 := by
  have c := tgo (cs_X11_cleaned T 0  hV rrole.2.2.2) hg
  have f := w_fr_cleaned hf
  exact r1_keep (W := []) h hV (by rw [show T1 = T from c.1]; exact FW.rf) (by decide +kernel) (by rw [show T1 = T from c.1]; exact GR.rf T) ⟨f.1 2 (by decide), f.1 5 (by decide), f.1 6 (by decide), f.1 20 (by decide), f.2 1 (by decide), f.2 10 (by decide)⟩
theorem r1_undo {T : AT} {S : MS} {r1 : Int32} {r2 : Int32} {k1 : Nat} {T1 : AT} {S1 : MS} (hV : IV aR0 1586 aK1 aK2 T) (hJ : JJ S) (h : R1 T S) (hg : g_X11_undo T 0 = some (k1, r1, T1)) (hf : fr_undo S = some (r2, S1)) : R1 T1 S1 := by
  have c := tgo (cs_X11_undo T 0  hV rrole.2.2.2) hg
  have f := w_fr_undo hf
  exact r1_keep h hV (T1 := T1) c.1.2 (by decide +kernel) (sr_X11_undo hg) ⟨f.1 2 (by decide), f.1 5 (by decide), f.1 6 (by decide), f.1 20 (by decide), f.2 1 (by decide), f.2 10 (by decide)⟩
theorem r1_undoable {T : AT} {S : MS} {r1 : Int32} {r2 : Int32} {T1 : AT} {S1 : MS} (hV : IV aR0 1586 aK1 aK2 T) (hJ : JJ S) (h : R1 T S) (hg : g_X11_undoable T 0 = some (r1, T1)) (hf : fr_undoable S = some (r2, S1)) : R1 T1 S1 := by
  have c := tgo (cs_X11_undoable T 0  hV rrole.2.2.2) hg
  have f := w_fr_undoable hf
  exact r1_keep (W := []) h hV (by rw [show T1 = T from c.1]; exact FW.rf) (by decide +kernel) (by rw [show T1 = T from c.1]; exact GR.rf T) ⟨f.1 2 (by decide), f.1 5 (by decide), f.1 6 (by decide), f.1 20 (by decide), f.2 1 (by decide), f.2 10 (by decide)⟩
end
section
/-! 22a.ask.lean.txt -/
/-! who may ask: the class throws what the reference tells -/
section
variable {T T1 : AT} {S S1 : MS} {s k : Nat} {r : Int32}
theorem c_idx {a0 a1 : Int32} (hg : g_X11_needIndex T a0 a1 = some (k, r, T1)) : T1 = T ∧ (k = 0 ∧ 0 ≤ a0.toInt ∧ a0.toInt < a1.toInt ∨ k = 2 ∧ ¬ (0 ≤ a0.toInt ∧ a0.toInt < a1.toInt)) := by
  have z0 : (0 : Int32).toInt = 0 := by decide
  unfold g_X11_needIndex at hg
  by_cases c0 : a0 < 0
  · rw [if_pos c0] at hg
    have c0 := i_lt c0
    have g := osome3 (show some ((2 : Nat), (0 : Int32), T) = some (k, r, T1) from hg)
    exact ⟨g.2.2.symm, .inr ⟨g.1.symm, fun q => by omega⟩⟩
  · rw [if_neg c0] at hg
    have c0 := i_nlt c0
    by_cases c1 : a0 < a1
    · rw [if_pos c1] at hg
      have c1 := i_lt c1
      have g := osome3 hg
      exact ⟨g.2.2.symm, .inl ⟨g.1.symm, by omega, c1⟩⟩
    · rw [if_neg c1] at hg
      have c1 := i_nlt c1
      have g := osome3 (show some ((2 : Nat), (0 : Int32), T) = some (k, r, T1) from hg)
      exact ⟨g.2.2.symm, .inr ⟨g.1.symm, fun q => by omega⟩⟩
theorem c_rng {a0 a1 a2 : Int32} (hg : g_X11_needRange T a0 a1 a2 = some (k, r, T1)) : T1 = T ∧ (k = 0 ∧ a1.toInt ≤ a0.toInt ∧ a0.toInt ≤ a2.toInt ∨ k = 3 ∧ ¬ (a1.toInt ≤ a0.toInt ∧ a0.toInt ≤ a2.toInt)) := by
  unfold g_X11_needRange at hg
  by_cases c0 : a0 < a1
  · rw [if_pos c0] at hg
    have c0 := i_lt c0
    have g := osome3 (show some ((3 : Nat), (0 : Int32), T) = some (k, r, T1) from hg)
    exact ⟨g.2.2.symm, .inr ⟨g.1.symm, fun q => by omega⟩⟩
  · rw [if_neg c0] at hg
    have c0 := i_nlt c0
    by_cases c1 : a0 ≤ a2
    · rw [if_pos c1] at hg
      have c1 := i_le c1
      have g := osome3 hg
      exact ⟨g.2.2.symm, .inl ⟨g.1.symm, c0, c1⟩⟩
    · rw [if_neg c1] at hg
      have c1 := i_nle c1
      have g := osome3 (show some ((3 : Nat), (0 : Int32), T) = some (k, r, T1) from hg)
      exact ⟨g.2.2.symm, .inr ⟨g.1.symm, fun q => by omega⟩⟩
theorem c_cam (h14 : T.2.2.2.2 0 14 = some s) (hg : g_X11_needCamera T 0 = some (k, r, T1)) : T1 = T ∧ (k = 0 ∧ T.2.2.1 s 5 ≠ 0 ∨ k = 1 ∧ T.2.2.1 s 5 = 0) := by
  unfold g_X11_needCamera at hg
  obtain ⟨-, hg⟩ := oif_some hg
  obtain ⟨n3, e3, hg⟩ := obind_some hg
  rw [h14] at e3
  cases e3
  obtain ⟨-, hg⟩ := oif_some hg
  obtain ⟨v5, e5, hg⟩ := elet_some hg
  by_cases c : v5 = 0
  · rw [if_pos c] at hg
    have g := osome3 hg
    exact ⟨g.2.2.symm, .inr ⟨g.1.symm, e5.symm.trans c⟩⟩
  · rw [if_neg c] at hg
    have g := osome3 hg
    exact ⟨g.2.2.symm, .inl ⟨g.1.symm, fun q => c (e5.trans q)⟩⟩
theorem c_mic {a0 : Int32} (h14 : T.2.2.2.2 0 14 = some s) (hg : g_X11_needMic T 0 a0 = some (k, r, T1)) : T1 = T ∧ (k = 0 ∧ 0 ≤ a0.toInt ∧ a0.toInt < (T.2.2.1 s 5).toInt ∨ k = 2 ∧ ¬ (0 ≤ a0.toInt ∧ a0.toInt < (T.2.2.1 s 5).toInt)) := by
  unfold g_X11_needMic at hg
  obtain ⟨-, hg⟩ := oif_some hg
  obtain ⟨n3, e3, hg⟩ := obind_some hg
  rw [h14] at e3
  cases e3
  obtain ⟨-, hg⟩ := oif_some hg
  obtain ⟨v5, e5, hg⟩ := elet_some hg
  rw [← e5]
  rcases othr_k hg with ⟨r9, g9, -⟩ | ⟨r9, T9, g9, hg⟩
  · exact c_idx g9
  · obtain ⟨a, b⟩ := c_idx g9
    have g := osome3 hg
    rw [← g.1, ← g.2.2]
    exact ⟨a, b⟩
theorem c_src {a0 : Int32} (h14 : T.2.2.2.2 0 14 = some s) (hg : g_X11_needSource T 0 a0 = some (k, r, T1)) : T1 = T ∧ (k = 0 ∧ 0 ≤ a0.toInt ∧ a0.toInt < (T.2.2.1 s 8).toInt ∨ k = 2 ∧ ¬ (0 ≤ a0.toInt ∧ a0.toInt < (T.2.2.1 s 8).toInt)) := by
  unfold g_X11_needSource at hg
  obtain ⟨-, hg⟩ := oif_some hg
  obtain ⟨n3, e3, hg⟩ := obind_some hg
  rw [h14] at e3
  cases e3
  obtain ⟨-, hg⟩ := oif_some hg
  obtain ⟨v5, e5, hg⟩ := elet_some hg
  rw [← e5]
  rcases othr_k hg with ⟨r9, g9, -⟩ | ⟨r9, T9, g9, hg⟩
  · exact c_idx g9
  · obtain ⟨a, b⟩ := c_idx g9
    have g := osome3 hg
    rw [← g.1, ← g.2.2]
    exact ⟨a, b⟩
theorem c_cell {a0 : Int32} (hF : SRF s T) (h14 : T.2.2.2.2 0 14 = some s) (hg : g_X11_needCell T 0 a0 = some (k, r, T1)) : T1 = T ∧ (k = 0 ∧ 0 ≤ a0.toInt ∧ a0.toInt < (T.2.2.1 (s + 2) 3 * T.2.2.1 (s + 2) 4).toInt ∨ k = 2 ∧ ¬ (0 ≤ a0.toInt ∧ a0.toInt < (T.2.2.1 (s + 2) 3 * T.2.2.1 (s + 2) 4).toInt)) := by
  unfold g_X11_needCell at hg
  obtain ⟨-, hg⟩ := oif_some hg
  obtain ⟨n3, e3, hg⟩ := obind_some hg
  rw [h14] at e3
  cases e3
  obtain ⟨-, hg⟩ := oif_some hg
  obtain ⟨n5, e5, hg⟩ := obind_some hg
  rw [hF.2.1] at e5
  cases e5
  obtain ⟨-, hg⟩ := oif_some hg
  obtain ⟨r9, T7, g7, hg⟩ := obind2_some hg
  unfold g_X1_cells at g7
  obtain ⟨-, g7⟩ := oif_some g7
  obtain ⟨x3, y3, g7⟩ := elet_some g7
  obtain ⟨-, g7⟩ := oif_some g7
  obtain ⟨x5, y5, g7⟩ := elet_some g7
  obtain ⟨x6, y6, g7⟩ := elet_some g7
  have gg := osome2 g7
  rw [← gg.2, ← gg.1] at hg
  rw [← y3, ← y5, ← y6]
  rcases othr_k hg with ⟨r9, g9, -⟩ | ⟨r9, T9, g9, hg⟩
  · exact c_idx g9
  · obtain ⟨a, b⟩ := c_idx g9
    have g := osome3 hg
    rw [← g.1, ← g.2.2]
    exact ⟨a, b⟩
/-- what the reference tells of a question -/
def wAsk (S : MS) (a : Int32) : Int32 := if S.1 20 = 0 then 1 else if a = 0 then 2 else 0
theorem r_ask {a : Int32} (hf : fr_mayAsk S a = some (r, S1)) : S1 = mi S 0 (wAsk S a) ∧ r = if wAsk S a = 0 then 1 else 0 := by
  have key : ∀ {w : Int32}, fr_mayAsk_b21 S w = some (r, S1) → S1 = mi S 0 w ∧ r = if w = 0 then 1 else 0 := by
    intro w hf
    unfold fr_mayAsk_b21 at hf
    obtain ⟨S2, e2, hf⟩ := elet_some hf
    obtain ⟨v3, e3, hf⟩ := elet_some hf
    have e3 : v3 = w := by rw [e3, e2, mi_at]
    by_cases c : v3 = 0
    · rw [if_pos c] at hf
      unfold fr_mayAsk_b36 at hf
      obtain ⟨-, hf⟩ := oif_some hf
      have f := osome2 hf
      rw [if_pos (e3.symm.trans c), ← f.1, ← f.2, e2]
      exact ⟨rfl, rfl⟩
    · rw [if_neg c] at hf
      unfold fr_mayAsk_b36 at hf
      obtain ⟨-, hf⟩ := oif_some hf
      have f := osome2 hf
      rw [if_neg (fun q => c (e3.trans q)), ← f.1, ← f.2, e2]
      exact ⟨rfl, rfl⟩
  unfold fr_mayAsk at hf
  obtain ⟨v2, e2, hf⟩ := elet_some hf
  unfold wAsk
  by_cases c : v2 = 0
  · rw [if_pos c] at hf
    rw [if_pos (e2.symm.trans c)]
    exact key hf
  · rw [if_neg c] at hf
    rw [if_neg (fun q => c (e2.trans q))]
    by_cases c2 : a = 0
    · rw [if_pos c2] at hf ⊢
      exact key hf
    · rw [if_neg c2] at hf ⊢
      exact key hf
theorem r_cell {a : Int32} (hf : fr_isCell S a = some (r, S1)) : S1 = S ∧ r = if 0 ≤ a ∧ a ≤ S.2.1 10 9 * S.2.1 10 10 - 1 then 1 else 0 := by
  unfold fr_isCell at hf
  obtain ⟨r5, S2, f5, hf⟩ := obind2_some hf
  unfold fr_cellCount at f5
  obtain ⟨v2, d2, f5⟩ := elet_some f5
  obtain ⟨v3, d3, f5⟩ := elet_some f5
  obtain ⟨v4, d4, f5⟩ := elet_some f5
  have g := osome2 f5
  obtain ⟨v6, d6, hf⟩ := elet_some hf
  obtain ⟨r7, f7, hf⟩ := obind_some hf
  obtain ⟨-, hf⟩ := oif_some hf
  have f := osome2 hf
  rw [← f.1, ← f.2, ← g.2]
  refine ⟨rfl, ?_⟩
  rw [r_in f7, d6, ← g.1, d4, d2, d3]
theorem r_mic {a : Int32} (hf : fr_isMic S a = some (r, S1)) : S1 = S ∧ r = if 0 ≤ a ∧ a ≤ S.2.1 10 4 - 1 then 1 else 0 := by
  unfold fr_isMic at hf
  obtain ⟨v2, d2, hf⟩ := elet_some hf
  obtain ⟨v3, d3, hf⟩ := elet_some hf
  obtain ⟨r4, f4, hf⟩ := obind_some hf
  obtain ⟨-, hf⟩ := oif_some hf
  have f := osome2 hf
  rw [← f.1, ← f.2]
  refine ⟨rfl, ?_⟩
  rw [r_in f4, d3, d2]
end
end
section
/-! 22b.cell.lean.txt -/
/-! answers of the scene alone: where a cell lies -/
section
variable {T T1 : AT} {S S1 : MS} {k1 : Nat} {r1 r2 : Int32}
theorem r_thr {v r : Int32} (hf : fr_throwsAt S v = some (r, S1)) : S1 = mi S 0 v := by
  unfold fr_throwsAt at hf
  obtain ⟨S2, e2, hf⟩ := elet_some hf
  rw [← (osome2 hf).2, e2]
theorem r_pl (hJ : JJ S) (h : S.1 20 = 1) : PL (S.2.1 10) := by
  rcases hJ with ⟨P, hP, h1⟩ | h1
  · rw [h1.1]
    exact hP
  · have q := h1.1.2.1
    rw [h] at q
    exact absurd q (by decide)
theorem pl_cell (hP : PL (S.2.1 10)) : (S.2.1 10 9 * S.2.1 10 10).toInt = (S.2.1 10 9).toInt * (S.2.1 10 10).toInt ∧ 1 ≤ (S.2.1 10 9 * S.2.1 10 10).toInt ∧ (S.2.1 10 9 * S.2.1 10 10).toInt ≤ 144 ∧ (S.2.1 10 9 * S.2.1 10 10 - 1).toInt = (S.2.1 10 9 * S.2.1 10 10).toInt - 1 := by
  obtain ⟨a, b⟩ := pl_cells hP
  have e : (S.2.1 10 9 * S.2.1 10 10).toInt = (S.2.1 10 9).toInt * (S.2.1 10 10).toInt := by
    rw [Int32.toInt_mul, bm32 (by omega) (by omega)]
  have z1 : (1 : Int32).toInt = 1 := by decide
  have e2 := i_sub (v := S.2.1 10 9 * S.2.1 10 10 - 1) rfl (by omega) (by omega)
  exact ⟨e, by omega, by omega, by omega⟩
/-- a question of a cell, in both: the reference's word and the class's code -/
theorem a_row {a v : Int32} {T : AT} {o : Nat} {r : Int32} (ha : 0 ≤ a.toInt) (hv : 1 ≤ v.toInt) (e : T.2.2.1 o 3 = v) (hg : g_X1_rowOf T o a = some (r, T1)) : T1 = T ∧ r = a / v := by
  unfold g_X1_rowOf at hg
  obtain ⟨v2, e2, hg⟩ := elet_some hg
  obtain ⟨-, hg⟩ := oif_some hg
  obtain ⟨v4, e4, hg⟩ := elet_some hg
  obtain ⟨v5, e5, hg⟩ := elet_some hg
  obtain ⟨r6, g6, hg⟩ := obind_some hg
  obtain ⟨v8, e8, hg⟩ := elet_some hg
  have q := tgo (cs_X11_quotient2 _ _) g6 a v e2 (by rw [e5, e4, e]) ha (by omega)
  have g := osome2 hg
  rw [← g.1, ← g.2, e8]
  refine ⟨rfl, Int32.toInt_inj.mp ?_⟩
  rw [q]
  have hd := i_div (v := a / v) rfl ha hv (Int.le_refl _)
  have h2 := i_any a
  rw [Int32.toInt_div, Int.tdiv_eq_ediv_of_nonneg ha]
  have h3 : a.toInt / v.toInt ≤ a.toInt := Int.ediv_le_self _ ha
  have h4 : 0 ≤ a.toInt / v.toInt := Int.ediv_nonneg ha (by omega)
  exact (bm32 (by omega) (by omega)).symm
theorem a_col {a v : Int32} {T : AT} {o : Nat} {r : Int32} (hv : ¬ v = 0) (e : T.2.2.1 o 3 = v) (hg : g_X1_columnOf T o a = some (r, T1)) : T1 = T ∧ r = a - a / v * v := by
  unfold g_X1_columnOf at hg
  obtain ⟨-, hg⟩ := oif_some hg
  obtain ⟨v3, e3, hg⟩ := elet_some hg
  obtain ⟨r4, g4, hg⟩ := obind_some hg
  unfold g_X11_remainder g_X11_remainder_b11 at g4
  rw [e3, e, if_neg hv] at g4
  obtain ⟨-, g4⟩ := oif_some g4
  obtain ⟨v4, e4, g4⟩ := elet_some g4
  have g := osome2 hg
  rw [← g.1, ← g.2, ← Option.some.inj g4, e4]
  exact ⟨rfl, rfl⟩
end
end
section
/-! 22c.wave.lean.txt -/
/-! answers of the scene alone: a source's wave -/
section
variable {T T1 : AT} {S S1 : MS} {k1 : Nat} {r1 r2 : Int32}
theorem q64d (x y : Int32) : (x.toInt64 / y.toInt64).toInt32 = x / y := by
  refine Int32.toInt_inj.mp ?_
  rw [Int64.toInt_toInt32, Int64.toInt_div, Int32.toInt_toInt64, Int32.toInt_toInt64, Int32.toInt_div]
  exact Int.bmod_bmod_of_dvd (by decide)
theorem cl_off {a c : Int32} {n : Nat} (hc : c.toInt = n) (hn : n ≤ 1000) (h0 : 0 ≤ a.toInt) (h1 : a.toInt < 1000) : (c + a).toNatClampNeg = n + a.toNatClampNeg := by
  have e := i_add (v := c + a) rfl (by omega) (by omega)
  have e1 := i_cl (i := c + a) (by omega)
  have e2 := i_cl h0
  omega
theorem a_quo {x y : Int32} {r : Int64} (hb : ¬ y = 0) (hg : g_X11_quotient x.toInt64 y.toInt64 = some r) : r.toInt32 = x / y := by
  have z0 : (0 : Int32).toInt = 0 := by decide
  unfold g_X11_quotient g_X11_quotient_b13 at hg
  obtain ⟨v2, e2, hg⟩ := elet_some hg
  have n2 : ¬ v2 = 0 := by
    intro q
    rw [e2, lg_cmp_eq] at q
    exact i_nz64 (fun q => i_ne hb (by omega)) q
  rw [if_neg n2] at hg
  obtain ⟨-, hg⟩ := oif_some hg
  obtain ⟨v5, e5, hg⟩ := elet_some hg
  rw [← Option.some.inj hg, e5]
  exact q64d x y
end
end
section
/-! 22e.from.lean.txt -/
/-! answers of the scene alone: a delay to a point -/
section
variable {T T1 : AT} {S S1 : MS} {k1 : Nat} {r1 r2 : Int32}
theorem groot_step {n : Nat} {l0 l1 l2 : Int32} (h : ¬ l2 ≤ 0) : g_X11_root_b6 (n + 1) l0 l1 l2 = if l0 < (l1 + l2) * (l1 + l2) then g_X11_root_b6 n l0 l1 (l2 >>> (1 &&& 31)) else g_X11_root_b6 n l0 (l1 + l2) (l2 >>> (1 &&& 31)) := by
  conv => lhs; unfold g_X11_root_b6
  rw [if_neg h]
  rfl
theorem groot_cmp {l0 m : Int32} (h0 : 0 ≤ m.toInt) (h1 : m.toInt ≤ 32768) : l0 < m * m ↔ l0.toInt < m.toInt * m.toInt := by
  have q := imul_nn h0 h1 h0 h1
  rw [Int32.lt_iff_toInt_lt, Int32.toInt_mul, bm32 (by omega) (by omega)]
theorem shr_half {l2 : Int32} {c : Int} (h : l2.toInt = 2 * c) (h0 : 0 ≤ c) : l2 >>> (1 &&& 31) = l2 / 2 := by
  refine Int32.toInt_inj.mp ?_
  have q := i_shr (v := l2 >>> (1 &&& 31)) rfl
  have e := half h h0
  omega
theorem roots (l0 : Int32) : ∀ (k n n' : Nat) (l1 l2 : Int32), k + 2 ≤ n → k + 2 ≤ n' → l2.toInt = 2 ^ k → 0 ≤ l1.toInt → l1.toInt + 2 * 2 ^ k ≤ 32768 → fr_root_b6 n l0 l1 l2 = g_X11_root_b6 n' l0 l1 l2 := by
  intro k
  induction k with
  | zero =>
    intro n n' l1 l2 hn hn' h2 h1 hs
    obtain ⟨n, rfl⟩ : ∃ j, n = j + 2 := ⟨n - 2, by omega⟩
    obtain ⟨n', rfl⟩ : ∃ j, n' = j + 2 := ⟨n' - 2, by omega⟩
    have h2 : l2.toInt = 1 := h2
    have hs : l1.toInt + 2 * 1 ≤ 32768 := hs
    have e : l2 = 1 := Int32.toInt_inj.mp (by rw [h2]; decide)
    rw [e]
    have z1 : (1 : Int32).toInt = 1 := by decide
    have hm : (l1 + 1).toInt = l1.toInt + 1 := by rw [Int32.toInt_add, z1, bm32 (by omega) (by omega)]
    have la : ∀ x : Int32, fr_root_b6 (n + 1) l0 x 0 = some x := fun x => by
      conv => lhs; unfold fr_root_b6
      rw [if_pos (by decide)]
    have lb : ∀ x : Int32, g_X11_root_b6 (n' + 1) l0 x 0 = some x := fun x => by
      conv => lhs; unfold g_X11_root_b6
      rw [if_pos (by decide)]
    rw [root_step (by decide), groot_step (by decide), show (1 : Int32) / 2 = 0 by decide, show (1 : Int32) >>> (1 &&& 31) = 0 by decide, la, la, lb, lb]
    by_cases c : l0.toInt < (l1 + 1).toInt * (l1 + 1).toInt
    · rw [if_pos ((root_cmp (by omega) (by omega)).mpr c), if_pos ((groot_cmp (by omega) (by omega)).mpr c)]
    · rw [if_neg (fun q => c ((root_cmp (by omega) (by omega)).mp q)), if_neg (fun q => c ((groot_cmp (by omega) (by omega)).mp q))]
  | succ k ih =>
    intro n n' l1 l2 hn hn' h2 h1 hs
    obtain ⟨n, rfl⟩ : ∃ j, n = j + 1 := ⟨n - 1, by omega⟩
    obtain ⟨n', rfl⟩ : ∃ j, n' = j + 1 := ⟨n' - 1, by omega⟩
    have hp : (2 : Int) ^ (k + 1) = 2 * 2 ^ k := by rw [Int.pow_succ, Int.mul_comm]
    have h0 : (0 : Int) < 2 ^ k := Int.pow_pos (by decide)
    rw [hp] at h2 hs
    generalize hb : (2 : Int) ^ k = b at h2 hs h0 ih
    have h00 : (0 : Int32).toInt = 0 := by decide
    have hl : ¬ l2 ≤ 0 := fun q => by have := Int32.le_iff_toInt_le.mp q; omega
    have hm : (l1 + l2).toInt = l1.toInt + 2 * b := by rw [Int32.toInt_add, h2, bm32 (by omega) (by omega)]
    have hh := half h2 (by omega)
    rw [root_step hl, groot_step hl, shr_half h2 (by omega)]
    by_cases c : l0.toInt < (l1 + l2).toInt * (l1 + l2).toInt
    · rw [if_pos ((root_cmp (by omega) (by omega)).mpr c), if_pos ((groot_cmp (by omega) (by omega)).mpr c)]
      exact ih n n' l1 (l2 / 2) (by omega) (by omega) hh h1 (by omega)
    · rw [if_neg (fun q => c ((root_cmp (by omega) (by omega)).mp q)), if_neg (fun q => c ((groot_cmp (by omega) (by omega)).mp q))]
      exact ih n n' (l1 + l2) (l2 / 2) (by omega) (by omega) hh (by omega) (by omega)
theorem root_eq {a : Int32} (h : a.toInt < 1073741824) : fr_root a = g_X11_root a := by
  have e : fr_root a = fr_root_b6 (16383 + 1) a 0 32768 := rfl
  have z : ((0 : Int32) + 32768).toInt = 32768 := by decide
  rw [e, root_step (by decide), if_pos ((root_cmp (by decide) (by decide)).mpr (by rw [z]; exact h)), show (32768 : Int32) / 2 = 16384 by decide]
  exact roots a 14 16383 16384 0 16384 (by decide) (by decide) (by decide) (by decide) (by decide)
end
end
section
/-! 22h.map.lean.txt -/
/-! a cell's byte: both count one more -/
section
variable {T T1 : AT} {S S1 : MS}
theorem fk_rf : FKq S S := ⟨rfl, rfl, rfl, rfl, rfl, rfl⟩
end
end
section
/-! 22i.loop.lean.txt -/
/-! the map's bytes: as many in both -/
section
theorem nI_p1 (x : Nat) : nI x + 1 = nI (x + 1) := nI_add x 1
end
end
section
/-! 23a.rcopy.lean.txt -/
/-! the reference's copies of a state: what stands where behind them -/
theorem x_copy_12_15_b3 {o1 o3 : Nat} (h1 : o1 + 2455 ≤ 2455) (h3 : o3 + 2455 ≤ 14730) {S0 S1 : MS} : ∀ (f l : Nat) {S : MS}, l ≤ 2455 → S.2.1 12 = S0.2.1 12 → (∀ x, S.2.1 15 x = if o3 ≤ x ∧ x < o3 + l then S0.2.1 12 (o1 + (x - o3)) else S0.2.1 15 x) → fr_copy_12_15_b3 f S (nI o1) (nI o3) (nI l) = some S1 → ∀ x, S1.2.1 15 x = if o3 ≤ x ∧ x < o3 + 2455 then S0.2.1 12 (o1 + (x - o3)) else S0.2.1 15 x := by
  intro f
  induction f with
  | zero => intro l S hl hA hB h; cases h
  | succ f ih =>
    intro l S hl hA hB h
    unfold fr_copy_12_15_b3 at h
    by_cases c : l = 2455
    · subst c
      rw [if_pos (show (2455 : Int32) ≤ nI 2455 from by decide)] at h
      rw [← osome1 h]
      exact hB
    · rw [if_neg (fun q => c (by have := (nI_leI (a := 2455) (by decide) (by omega)).mp q; omega))] at h
      obtain ⟨v3, e3, h⟩ := elet_some h
      obtain ⟨v4, e4, h⟩ := elet_some h
      obtain ⟨-, h⟩ := oif_some h
      obtain ⟨v6, e6, h⟩ := elet_some h
      obtain ⟨-, h⟩ := oif_some h
      obtain ⟨S8, e8, h⟩ := elet_some h
      obtain ⟨v9, e9, h⟩ := elet_some h
      have k3 : v3.toNatClampNeg = o3 + l := by rw [e3, nI_add, nI_clamp (by omega)]
      have k4 : v4.toNatClampNeg = o1 + l := by rw [e4, nI_add, nI_clamp (by omega)]
      rw [show v9 = nI (l + 1) from e9.trans (nI_p1 l)] at h
      refine ih (l + 1) (by omega) ?_ (fun x => ?_) h
      · rw [e8, mf_ne (by decide)]; exact hA
      · rw [e8, mf_at, k3]
        show (if x = o3 + l then v6 else S.2.1 15 x) = _
        by_cases q : x = o3 + l
        · rw [if_pos q, if_pos (by omega), e6, k4, hA, show o1 + (x - o3) = o1 + l from by omega]
        · rw [if_neg q, hB x]
          by_cases p : o3 ≤ x ∧ x < o3 + l
          · rw [if_pos p, if_pos (by omega)]
          · rw [if_neg p, if_neg (by omega)]
theorem x_copy_12_15 {o1 o3 : Nat} {S S1 : MS} (h1 : o1 + 2455 ≤ 2455) (h3 : o3 + 2455 ≤ 14730) (h : fr_copy_12_15 S (nI o1) (nI o3) = some S1) : ∀ x, S1.2.1 15 x = if o3 ≤ x ∧ x < o3 + 2455 then S.2.1 12 (o1 + (x - o3)) else S.2.1 15 x :=
  x_copy_12_15_b3 h1 h3 16384 0 (by decide) rfl (fun x => (if_neg (by omega)).symm) h
theorem x_copy_15_12_b3 {o1 o3 : Nat} (h1 : o1 + 2455 ≤ 14730) (h3 : o3 + 2455 ≤ 2455) {S0 S1 : MS} : ∀ (f l : Nat) {S : MS}, l ≤ 2455 → S.2.1 15 = S0.2.1 15 → (∀ x, S.2.1 12 x = if o3 ≤ x ∧ x < o3 + l then S0.2.1 15 (o1 + (x - o3)) else S0.2.1 12 x) → fr_copy_15_12_b3 f S (nI o1) (nI o3) (nI l) = some S1 → ∀ x, S1.2.1 12 x = if o3 ≤ x ∧ x < o3 + 2455 then S0.2.1 15 (o1 + (x - o3)) else S0.2.1 12 x := by
  intro f
  induction f with
  | zero => intro l S hl hA hB h; cases h
  | succ f ih =>
    intro l S hl hA hB h
    unfold fr_copy_15_12_b3 at h
    by_cases c : l = 2455
    · subst c
      rw [if_pos (show (2455 : Int32) ≤ nI 2455 from by decide)] at h
      rw [← osome1 h]
      exact hB
    · rw [if_neg (fun q => c (by have := (nI_leI (a := 2455) (by decide) (by omega)).mp q; omega))] at h
      obtain ⟨v3, e3, h⟩ := elet_some h
      obtain ⟨v4, e4, h⟩ := elet_some h
      obtain ⟨-, h⟩ := oif_some h
      obtain ⟨v6, e6, h⟩ := elet_some h
      obtain ⟨-, h⟩ := oif_some h
      obtain ⟨S8, e8, h⟩ := elet_some h
      obtain ⟨v9, e9, h⟩ := elet_some h
      have k3 : v3.toNatClampNeg = o3 + l := by rw [e3, nI_add, nI_clamp (by omega)]
      have k4 : v4.toNatClampNeg = o1 + l := by rw [e4, nI_add, nI_clamp (by omega)]
      rw [show v9 = nI (l + 1) from e9.trans (nI_p1 l)] at h
      refine ih (l + 1) (by omega) ?_ (fun x => ?_) h
      · rw [e8, mf_ne (by decide)]; exact hA
      · rw [e8, mf_at, k3]
        show (if x = o3 + l then v6 else S.2.1 12 x) = _
        by_cases q : x = o3 + l
        · rw [if_pos q, if_pos (by omega), e6, k4, hA, show o1 + (x - o3) = o1 + l from by omega]
        · rw [if_neg q, hB x]
          by_cases p : o3 ≤ x ∧ x < o3 + l
          · rw [if_pos p, if_pos (by omega)]
          · rw [if_neg p, if_neg (by omega)]
theorem x_copy_15_12 {o1 o3 : Nat} {S S1 : MS} (h1 : o1 + 2455 ≤ 14730) (h3 : o3 + 2455 ≤ 2455) (h : fr_copy_15_12 S (nI o1) (nI o3) = some S1) : ∀ x, S1.2.1 12 x = if o3 ≤ x ∧ x < o3 + 2455 then S.2.1 15 (o1 + (x - o3)) else S.2.1 12 x :=
  x_copy_15_12_b3 h1 h3 16384 0 (by decide) rfl (fun x => (if_neg (by omega)).symm) h
theorem x_copy_12_16_b3 {o1 o3 : Nat} (h1 : o1 + 2455 ≤ 2455) (h3 : o3 + 2455 ≤ 4910) {S0 S1 : MS} : ∀ (f l : Nat) {S : MS}, l ≤ 2455 → S.2.1 12 = S0.2.1 12 → (∀ x, S.2.1 16 x = if o3 ≤ x ∧ x < o3 + l then S0.2.1 12 (o1 + (x - o3)) else S0.2.1 16 x) → fr_copy_12_16_b3 f S (nI o1) (nI o3) (nI l) = some S1 → ∀ x, S1.2.1 16 x = if o3 ≤ x ∧ x < o3 + 2455 then S0.2.1 12 (o1 + (x - o3)) else S0.2.1 16 x := by
  intro f
  induction f with
  | zero => intro l S hl hA hB h; cases h
  | succ f ih =>
    intro l S hl hA hB h
    unfold fr_copy_12_16_b3 at h
    by_cases c : l = 2455
    · subst c
      rw [if_pos (show (2455 : Int32) ≤ nI 2455 from by decide)] at h
      rw [← osome1 h]
      exact hB
    · rw [if_neg (fun q => c (by have := (nI_leI (a := 2455) (by decide) (by omega)).mp q; omega))] at h
      obtain ⟨v3, e3, h⟩ := elet_some h
      obtain ⟨v4, e4, h⟩ := elet_some h
      obtain ⟨-, h⟩ := oif_some h
      obtain ⟨v6, e6, h⟩ := elet_some h
      obtain ⟨-, h⟩ := oif_some h
      obtain ⟨S8, e8, h⟩ := elet_some h
      obtain ⟨v9, e9, h⟩ := elet_some h
      have k3 : v3.toNatClampNeg = o3 + l := by rw [e3, nI_add, nI_clamp (by omega)]
      have k4 : v4.toNatClampNeg = o1 + l := by rw [e4, nI_add, nI_clamp (by omega)]
      rw [show v9 = nI (l + 1) from e9.trans (nI_p1 l)] at h
      refine ih (l + 1) (by omega) ?_ (fun x => ?_) h
      · rw [e8, mf_ne (by decide)]; exact hA
      · rw [e8, mf_at, k3]
        show (if x = o3 + l then v6 else S.2.1 16 x) = _
        by_cases q : x = o3 + l
        · rw [if_pos q, if_pos (by omega), e6, k4, hA, show o1 + (x - o3) = o1 + l from by omega]
        · rw [if_neg q, hB x]
          by_cases p : o3 ≤ x ∧ x < o3 + l
          · rw [if_pos p, if_pos (by omega)]
          · rw [if_neg p, if_neg (by omega)]
theorem x_copy_12_16 {o1 o3 : Nat} {S S1 : MS} (h1 : o1 + 2455 ≤ 2455) (h3 : o3 + 2455 ≤ 4910) (h : fr_copy_12_16 S (nI o1) (nI o3) = some S1) : ∀ x, S1.2.1 16 x = if o3 ≤ x ∧ x < o3 + 2455 then S.2.1 12 (o1 + (x - o3)) else S.2.1 16 x :=
  x_copy_12_16_b3 h1 h3 16384 0 (by decide) rfl (fun x => (if_neg (by omega)).symm) h
theorem x_copy_16_12_b3 {o1 o3 : Nat} (h1 : o1 + 2455 ≤ 4910) (h3 : o3 + 2455 ≤ 2455) {S0 S1 : MS} : ∀ (f l : Nat) {S : MS}, l ≤ 2455 → S.2.1 16 = S0.2.1 16 → (∀ x, S.2.1 12 x = if o3 ≤ x ∧ x < o3 + l then S0.2.1 16 (o1 + (x - o3)) else S0.2.1 12 x) → fr_copy_16_12_b3 f S (nI o1) (nI o3) (nI l) = some S1 → ∀ x, S1.2.1 12 x = if o3 ≤ x ∧ x < o3 + 2455 then S0.2.1 16 (o1 + (x - o3)) else S0.2.1 12 x := by
  intro f
  induction f with
  | zero => intro l S hl hA hB h; cases h
  | succ f ih =>
    intro l S hl hA hB h
    unfold fr_copy_16_12_b3 at h
    by_cases c : l = 2455
    · subst c
      rw [if_pos (show (2455 : Int32) ≤ nI 2455 from by decide)] at h
      rw [← osome1 h]
      exact hB
    · rw [if_neg (fun q => c (by have := (nI_leI (a := 2455) (by decide) (by omega)).mp q; omega))] at h
      obtain ⟨v3, e3, h⟩ := elet_some h
      obtain ⟨v4, e4, h⟩ := elet_some h
      obtain ⟨-, h⟩ := oif_some h
      obtain ⟨v6, e6, h⟩ := elet_some h
      obtain ⟨-, h⟩ := oif_some h
      obtain ⟨S8, e8, h⟩ := elet_some h
      obtain ⟨v9, e9, h⟩ := elet_some h
      have k3 : v3.toNatClampNeg = o3 + l := by rw [e3, nI_add, nI_clamp (by omega)]
      have k4 : v4.toNatClampNeg = o1 + l := by rw [e4, nI_add, nI_clamp (by omega)]
      rw [show v9 = nI (l + 1) from e9.trans (nI_p1 l)] at h
      refine ih (l + 1) (by omega) ?_ (fun x => ?_) h
      · rw [e8, mf_ne (by decide)]; exact hA
      · rw [e8, mf_at, k3]
        show (if x = o3 + l then v6 else S.2.1 12 x) = _
        by_cases q : x = o3 + l
        · rw [if_pos q, if_pos (by omega), e6, k4, hA, show o1 + (x - o3) = o1 + l from by omega]
        · rw [if_neg q, hB x]
          by_cases p : o3 ≤ x ∧ x < o3 + l
          · rw [if_pos p, if_pos (by omega)]
          · rw [if_neg p, if_neg (by omega)]
theorem x_copy_16_12 {o1 o3 : Nat} {S S1 : MS} (h1 : o1 + 2455 ≤ 4910) (h3 : o3 + 2455 ≤ 2455) (h : fr_copy_16_12 S (nI o1) (nI o3) = some S1) : ∀ x, S1.2.1 12 x = if o3 ≤ x ∧ x < o3 + 2455 then S.2.1 16 (o1 + (x - o3)) else S.2.1 12 x :=
  x_copy_16_12_b3 h1 h3 16384 0 (by decide) rfl (fun x => (if_neg (by omega)).symm) h
theorem x_copy_13_12_b3 {o1 o3 : Nat} (h1 : o1 + 2455 ≤ 2455) (h3 : o3 + 2455 ≤ 2455) {S0 S1 : MS} : ∀ (f l : Nat) {S : MS}, l ≤ 2455 → S.2.1 13 = S0.2.1 13 → (∀ x, S.2.1 12 x = if o3 ≤ x ∧ x < o3 + l then S0.2.1 13 (o1 + (x - o3)) else S0.2.1 12 x) → fr_copy_13_12_b3 f S (nI o1) (nI o3) (nI l) = some S1 → ∀ x, S1.2.1 12 x = if o3 ≤ x ∧ x < o3 + 2455 then S0.2.1 13 (o1 + (x - o3)) else S0.2.1 12 x := by
  intro f
  induction f with
  | zero => intro l S hl hA hB h; cases h
  | succ f ih =>
    intro l S hl hA hB h
    unfold fr_copy_13_12_b3 at h
    by_cases c : l = 2455
    · subst c
      rw [if_pos (show (2455 : Int32) ≤ nI 2455 from by decide)] at h
      rw [← osome1 h]
      exact hB
    · rw [if_neg (fun q => c (by have := (nI_leI (a := 2455) (by decide) (by omega)).mp q; omega))] at h
      obtain ⟨v3, e3, h⟩ := elet_some h
      obtain ⟨v4, e4, h⟩ := elet_some h
      obtain ⟨-, h⟩ := oif_some h
      obtain ⟨v6, e6, h⟩ := elet_some h
      obtain ⟨-, h⟩ := oif_some h
      obtain ⟨S8, e8, h⟩ := elet_some h
      obtain ⟨v9, e9, h⟩ := elet_some h
      have k3 : v3.toNatClampNeg = o3 + l := by rw [e3, nI_add, nI_clamp (by omega)]
      have k4 : v4.toNatClampNeg = o1 + l := by rw [e4, nI_add, nI_clamp (by omega)]
      rw [show v9 = nI (l + 1) from e9.trans (nI_p1 l)] at h
      refine ih (l + 1) (by omega) ?_ (fun x => ?_) h
      · rw [e8, mf_ne (by decide)]; exact hA
      · rw [e8, mf_at, k3]
        show (if x = o3 + l then v6 else S.2.1 12 x) = _
        by_cases q : x = o3 + l
        · rw [if_pos q, if_pos (by omega), e6, k4, hA, show o1 + (x - o3) = o1 + l from by omega]
        · rw [if_neg q, hB x]
          by_cases p : o3 ≤ x ∧ x < o3 + l
          · rw [if_pos p, if_pos (by omega)]
          · rw [if_neg p, if_neg (by omega)]
theorem x_copy_13_12 {o1 o3 : Nat} {S S1 : MS} (h1 : o1 + 2455 ≤ 2455) (h3 : o3 + 2455 ≤ 2455) (h : fr_copy_13_12 S (nI o1) (nI o3) = some S1) : ∀ x, S1.2.1 12 x = if o3 ≤ x ∧ x < o3 + 2455 then S.2.1 13 (o1 + (x - o3)) else S.2.1 12 x :=
  x_copy_13_12_b3 h1 h3 16384 0 (by decide) rfl (fun x => (if_neg (by omega)).symm) h
end
section
/-! 23b.ccopy.lean.txt -/
/-! the class's copies of a state -/
section
variable {T T1 : AT} {S S1 : MS} {d e : Nat}
def sds : List Nat := [242, 336, 834, 928, 1022, 1116, 1210, 1304, 1398, 1492]
set_option maxRecDepth 100000 in
theorem sd_dec : sds.all (fun d => okc d && decide ((arf d).getD 3 none = some (d + 1)) && decide ((arf d).getD 4 none = some (d + 2)) && decide ((arf d).getD 5 none = some (d + 3)) && decide ((arf d).getD 6 none = some (d + 4)) && decide ((arf d).getD 7 none = some (d + 5)) && decide ((arf d).getD 8 none = some (d + 6)) && decide ((arf d).getD 9 none = some (d + 7)) && decide ((arf d).getD 10 none = some (d + 8)) && decide ((arf d).getD 11 none = some (d + 51))) = true := by decide +kernel
set_option maxRecDepth 100000 in
theorem sd_rdec : sds.all (fun d => Nat.beq (aR0 d) 8 && Nat.beq (aR0 (d + 1)) 62 && Nat.beq (aR0 (d + 2)) 63 && Nat.beq (aR0 (d + 3)) 64 && Nat.beq (aR0 (d + 4)) 65 && Nat.beq (aR0 (d + 5)) 65 && Nat.beq (aR0 (d + 6)) 66 && Nat.beq (aR0 (d + 7)) 66 && Nat.beq (aR0 (d + 8)) 104 && Nat.beq (aR0 (d + 51)) 101) = true := by decide +kernel
theorem sd_ddec : sds.all (fun d => Nat.ble 242 d && Nat.ble d 1492 && (Nat.ble (d + 94) 430 || Nat.ble 834 d) && sds.all (fun e => Nat.beq d e || Nat.ble (d + 94) e || Nat.ble (e + 94) d)) = true := by decide +kernel
theorem sd_rf (hc : CRF T) (hd : d ∈ sds) : T.2.2.2.2 d 3 = some (d + 1) ∧ T.2.2.2.2 d 4 = some (d + 2) ∧ T.2.2.2.2 d 5 = some (d + 3) ∧ T.2.2.2.2 d 6 = some (d + 4) ∧ T.2.2.2.2 d 7 = some (d + 5) ∧ T.2.2.2.2 d 8 = some (d + 6) ∧ T.2.2.2.2 d 9 = some (d + 7) ∧ T.2.2.2.2 d 10 = some (d + 8) ∧ T.2.2.2.2 d 11 = some (d + 51) := by
  have q := List.all_eq_true.mp sd_dec d hd
  simp only [Bool.and_eq_true, decide_eq_true_eq] at q
  obtain ⟨⟨⟨⟨⟨⟨⟨⟨⟨q0, q1⟩, q2⟩, q3⟩, q4⟩, q5⟩, q6⟩, q7⟩, q8⟩, q9⟩ := q
  have o := hc.at d q0
  exact ⟨(o _).trans q1, (o _).trans q2, (o _).trans q3, (o _).trans q4, (o _).trans q5, (o _).trans q6, (o _).trans q7, (o _).trans q8, (o _).trans q9⟩
theorem sd_ro (hd : d ∈ sds) : aR0 d = 8 ∧ aR0 (d + 1) = 62 ∧ aR0 (d + 2) = 63 ∧ aR0 (d + 3) = 64 ∧ aR0 (d + 4) = 65 ∧ aR0 (d + 5) = 65 ∧ aR0 (d + 6) = 66 ∧ aR0 (d + 7) = 66 ∧ aR0 (d + 8) = 104 ∧ aR0 (d + 51) = 101 := by
  have q := List.all_eq_true.mp sd_rdec d hd
  simp only [Bool.and_eq_true] at q
  obtain ⟨⟨⟨⟨⟨⟨⟨⟨⟨q0, q1⟩, q2⟩, q3⟩, q4⟩, q5⟩, q6⟩, q7⟩, q8⟩, q9⟩ := q
  have b := fun {x y : Nat} (h : Nat.beq x y = true) => Nat.eq_of_beq_eq_true h
  exact ⟨b q0, b q1, b q2, b q3, b q4, b q5, b q6, b q7, b q8, b q9⟩
theorem sd_in (hd : d ∈ sds) : 242 ≤ d ∧ d ≤ 1492 ∧ (d + 94 ≤ 430 ∨ 834 ≤ d) := by
  have q := List.all_eq_true.mp sd_ddec d hd
  simp only [Bool.and_eq_true, Bool.or_eq_true] at q
  obtain ⟨⟨⟨q0, q1⟩, q2⟩, -⟩ := q
  exact ⟨Nat.le_of_ble_eq_true q0, Nat.le_of_ble_eq_true q1, q2.imp Nat.le_of_ble_eq_true Nat.le_of_ble_eq_true⟩
theorem sd_gap (hd : d ∈ sds) (he : e ∈ sds) (hne : d ≠ e) : d + 94 ≤ e ∨ e + 94 ≤ d := by
  have q := List.all_eq_true.mp sd_ddec d hd
  simp only [Bool.and_eq_true] at q
  have q := List.all_eq_true.mp q.2 e he
  simp only [Bool.or_eq_true] at q
  rcases q with (q | q) | q
  · exact absurd (Nat.eq_of_beq_eq_true q) hne
  · exact .inl (Nat.le_of_ble_eq_true q)
  · exact .inr (Nat.le_of_ble_eq_true q)
/-- the cells of d are those of e; all else is as it was, but for Wides -/
def CPd (d e : Nat) (T T1 : AT) : Prop := (∀ j, j < 3 → T1.2.2.1 d j = T.2.2.1 e j) ∧ (∀ k, k < 12 → T1.2.2.1 (d + 1) k = T.2.2.1 (e + 1) k ∧ T1.2.2.1 (d + 2) k = T.2.2.1 (e + 2) k) ∧ (∀ k, k < 6 → T1.2.2.1 (d + 3) k = T.2.2.1 (e + 3) k ∧ T1.2.2.1 (d + 4) k = T.2.2.1 (e + 4) k ∧ T1.2.2.1 (d + 5) k = T.2.2.1 (e + 5) k ∧ T1.2.2.1 (d + 6) k = T.2.2.1 (e + 6) k ∧ T1.2.2.1 (d + 7) k = T.2.2.1 (e + 7) k) ∧ ∀ m k, (m < d ∨ d + 8 ≤ m) → isW (aR0 m) = false → T1.2.2.1 m k = T.2.2.1 m k
def IA (T0 T : AT) : Prop := T.2.2.2.2 = T0.2.2.2.2 ∧ IV aR0 1586 aK1 aK2 T
theorem ia_uI {T0 : AT} {n r k : Nat} {v : Int32} {a b : Int} (h : IA T0 T) (hr : aR0 n = r) (h1 : r ≠ 99) (h2 : r ≠ 30) (hi : iR r k = (a, b)) (hv : a ≤ v.toInt ∧ v.toInt ≤ b) (hw : isW r = false ∨ k ≠ 2) : IA T0 (uI T n k v) := ⟨h.1, iv_uI h.2 hr h1 h2 hi hv hw⟩
theorem c_cp64 {T0 : AT} (hc : CRF T0) (hd : d ∈ sds) (he : e ∈ sds) (hne : d ≠ e) : ∀ (f l : Nat) {T : AT}, l ≤ 6 → IA T0 T → (∀ j, j < 3 → T.2.2.1 d j = T0.2.2.1 e j) → (∀ k, k < 12 → T.2.2.1 (d + 1) k = T0.2.2.1 (e + 1) k ∧ T.2.2.1 (d + 2) k = T0.2.2.1 (e + 2) k) → (∀ k, k < l → T.2.2.1 (d + 3) k = T0.2.2.1 (e + 3) k ∧ T.2.2.1 (d + 4) k = T0.2.2.1 (e + 4) k ∧ T.2.2.1 (d + 5) k = T0.2.2.1 (e + 5) k ∧ T.2.2.1 (d + 6) k = T0.2.2.1 (e + 6) k ∧ T.2.2.1 (d + 7) k = T0.2.2.1 (e + 7) k) → (∀ m k, (m < d ∨ d + 8 ≤ m) → T.2.2.1 m k = T0.2.2.1 m k) → g_X8_copyFrom_b64 f T d e (nI l) = some T1 → CPd d e T0 T1 := by
  obtain ⟨-, -, d5, d6, d7, d8, d9, d10, -⟩ := sd_rf hc hd
  obtain ⟨-, -, e5, e6, e7, e8, e9, e10, -⟩ := sd_rf hc he
  obtain ⟨-, -, -, rd3, rd4, rd5, rd6, rd7, rd8, -⟩ := sd_ro hd
  obtain ⟨-, -, -, re3, re4, re5, re6, re7, re8, -⟩ := sd_ro he
  have gap := sd_gap hd he hne
  intro f
  induction f with
  | zero => intro l T hl hI h3 h12 h6 ho h; cases h
  | succ f ih =>
    intro l T hl hI h3 h12 h6 ho h
    unfold g_X8_copyFrom_b64 at h
    by_cases c : l = 6
    · subst c
      rw [if_pos (show (6 : Int32) ≤ nI 6 from by decide)] at h
      obtain ⟨-, h⟩ := oif_some h
      obtain ⟨n4, en4, h⟩ := obind_some h
      rw [hI.1, d10] at en4
      cases en4
      obtain ⟨-, h⟩ := oif_some h
      obtain ⟨n6, en6, h⟩ := obind_some h
      rw [hI.1, e10] at en6
      cases en6
      obtain ⟨-, h⟩ := oif_some h
      obtain ⟨T8, g8, h⟩ := obind_some h
      have q := (tgo (c_copyFrom rd8 (by decide) re8 (by decide) hI.2) g8).2
      rw [← osome1 (show some T8 = some T1 from h)]
      refine ⟨fun j hj => ?_, fun k hk => ⟨?_, ?_⟩, fun k hk => ⟨?_, ?_, ?_, ?_, ?_⟩, fun m k hm hw => ?_⟩
      · rw [q _ _ (.inl (by omega))]; exact h3 j hj
      · rw [q _ _ (.inl (by omega))]; exact (h12 k hk).1
      · rw [q _ _ (.inl (by omega))]; exact (h12 k hk).2
      · rw [q _ _ (.inl (by omega))]; exact (h6 k hk).1
      · rw [q _ _ (.inl (by omega))]; exact (h6 k hk).2.1
      · rw [q _ _ (.inl (by omega))]; exact (h6 k hk).2.2.1
      · rw [q _ _ (.inl (by omega))]; exact (h6 k hk).2.2.2.1
      · rw [q _ _ (.inl (by omega))]; exact (h6 k hk).2.2.2.2
      · rw [q m k (.inl (fun u => by rw [u, rd8] at hw; exact absurd hw (by decide)))]; exact ho m k hm
    · rw [if_neg (fun q => c (by have := (nI_leI (a := 6) (by decide) (by omega)).mp q; omega))] at h
      have kl : (nI l).toNatClampNeg = l := nI_clamp (by omega)
      obtain ⟨-, h⟩ := oif_some h
      obtain ⟨n11, en, h⟩ := obind_some h
      rw [hI.1, d5] at en
      cases en
      obtain ⟨-, h⟩ := oif_some h
      obtain ⟨n13, en, h⟩ := obind_some h
      rw [hI.1, e5] at en
      cases en
      obtain ⟨-, h⟩ := oif_some h
      obtain ⟨-, h⟩ := oif_some h
      obtain ⟨v16, e16, h⟩ := elet_some h
      rw [kl] at e16
      obtain ⟨-, h⟩ := oif_some h
      obtain ⟨-, h⟩ := oif_some h
      obtain ⟨-, h⟩ := oif_some h
      obtain ⟨T19, e19, h⟩ := elet_some h
      rw [kl] at e19
      have I19 : IA T0 T19 := by rw [e19]; exact ia_uI hI rd3 (by decide) (by decide) (rfl : iR 64 l = (0, 1)) (iv_int hI.2 re3 (by decide) (by decide) e16 rfl) (.inl rfl)
      obtain ⟨-, h⟩ := oif_some h
      obtain ⟨n21, en, h⟩ := obind_some h
      rw [I19.1, d6] at en
      cases en
      obtain ⟨-, h⟩ := oif_some h
      obtain ⟨n23, en, h⟩ := obind_some h
      rw [I19.1, e6] at en
      cases en
      obtain ⟨-, h⟩ := oif_some h
      obtain ⟨-, h⟩ := oif_some h
      obtain ⟨v26, e26, h⟩ := elet_some h
      rw [kl] at e26
      obtain ⟨-, h⟩ := oif_some h
      obtain ⟨-, h⟩ := oif_some h
      obtain ⟨T29, e29, h⟩ := elet_some h
      rw [kl] at e29
      have I29 : IA T0 T29 := by rw [e29]; exact ia_uI I19 rd4 (by decide) (by decide) (rfl : iR 65 l = (-2000, 2000)) (iv_int I19.2 re4 (by decide) (by decide) e26 rfl) (.inl rfl)
      obtain ⟨-, h⟩ := oif_some h
      obtain ⟨n31, en, h⟩ := obind_some h
      rw [I29.1, d7] at en
      cases en
      obtain ⟨-, h⟩ := oif_some h
      obtain ⟨n33, en, h⟩ := obind_some h
      rw [I29.1, e7] at en
      cases en
      obtain ⟨-, h⟩ := oif_some h
      obtain ⟨-, h⟩ := oif_some h
      obtain ⟨v36, e36, h⟩ := elet_some h
      rw [kl] at e36
      obtain ⟨-, h⟩ := oif_some h
      obtain ⟨-, h⟩ := oif_some h
      obtain ⟨T39, e39, h⟩ := elet_some h
      rw [kl] at e39
      have I39 : IA T0 T39 := by rw [e39]; exact ia_uI I29 rd5 (by decide) (by decide) (rfl : iR 65 l = (-2000, 2000)) (iv_int I29.2 re5 (by decide) (by decide) e36 rfl) (.inl rfl)
      obtain ⟨-, h⟩ := oif_some h
      obtain ⟨n41, en, h⟩ := obind_some h
      rw [I39.1, d8] at en
      cases en
      obtain ⟨-, h⟩ := oif_some h
      obtain ⟨n43, en, h⟩ := obind_some h
      rw [I39.1, e8] at en
      cases en
      obtain ⟨-, h⟩ := oif_some h
      obtain ⟨-, h⟩ := oif_some h
      obtain ⟨v46, e46, h⟩ := elet_some h
      rw [kl] at e46
      obtain ⟨-, h⟩ := oif_some h
      obtain ⟨-, h⟩ := oif_some h
      obtain ⟨T49, e49, h⟩ := elet_some h
      rw [kl] at e49
      have I49 : IA T0 T49 := by rw [e49]; exact ia_uI I39 rd6 (by decide) (by decide) (rfl : iR 66 l = (-999, 999)) (iv_int I39.2 re6 (by decide) (by decide) e46 rfl) (.inl rfl)
      obtain ⟨-, h⟩ := oif_some h
      obtain ⟨n51, en, h⟩ := obind_some h
      rw [I49.1, d9] at en
      cases en
      obtain ⟨-, h⟩ := oif_some h
      obtain ⟨n53, en, h⟩ := obind_some h
      rw [I49.1, e9] at en
      cases en
      obtain ⟨-, h⟩ := oif_some h
      obtain ⟨-, h⟩ := oif_some h
      obtain ⟨v56, e56, h⟩ := elet_some h
      rw [kl] at e56
      obtain ⟨-, h⟩ := oif_some h
      obtain ⟨-, h⟩ := oif_some h
      obtain ⟨T59, e59, h⟩ := elet_some h
      rw [kl] at e59
      have I59 : IA T0 T59 := by rw [e59]; exact ia_uI I49 rd7 (by decide) (by decide) (rfl : iR 66 l = (-999, 999)) (iv_int I49.2 re7 (by decide) (by decide) e56 rfl) (.inl rfl)
      obtain ⟨v60, e60, h⟩ := elet_some h
      rw [show v60 = nI (l + 1) from e60.trans (nI_p1 l)] at h
      have x16 : v16 = T0.2.2.1 (e + 3) l := by rw [e16, ho _ _ (by omega)]
      have x26 : v26 = T0.2.2.1 (e + 4) l := by rw [e26, e19, ui_ne (.inl (by omega)), ho _ _ (by omega)]
      have x36 : v36 = T0.2.2.1 (e + 5) l := by rw [e36, e29, ui_ne (.inl (by omega)), e19, ui_ne (.inl (by omega)), ho _ _ (by omega)]
      have x46 : v46 = T0.2.2.1 (e + 6) l := by rw [e46, e39, ui_ne (.inl (by omega)), e29, ui_ne (.inl (by omega)), e19, ui_ne (.inl (by omega)), ho _ _ (by omega)]
      have x56 : v56 = T0.2.2.1 (e + 7) l := by rw [e56, e49, ui_ne (.inl (by omega)), e39, ui_ne (.inl (by omega)), e29, ui_ne (.inl (by omega)), e19, ui_ne (.inl (by omega)), ho _ _ (by omega)]
      have out : ∀ m k, m < d + 3 ∨ d + 8 ≤ m ∨ k ≠ l → T59.2.2.1 m k = T.2.2.1 m k := fun m k hm => by
        rw [e59, ui_ne (by omega), e49, ui_ne (by omega), e39, ui_ne (by omega), e29, ui_ne (by omega), e19, ui_ne (by omega)]
      refine ih (l + 1) (by omega) I59 (fun j hj => ?_) (fun k hk => ⟨?_, ?_⟩) (fun k hk => ?_) (fun m k hm => ?_) h
      · rw [out _ _ (by omega)]; exact h3 j hj
      · rw [out _ _ (by omega)]; exact (h12 k hk).1
      · rw [out _ _ (by omega)]; exact (h12 k hk).2
      · by_cases q : k = l
        · subst q
          refine ⟨?_, ?_, ?_, ?_, ?_⟩
          · rw [e59, ui_ne (.inl (by omega)), e49, ui_ne (.inl (by omega)), e39, ui_ne (.inl (by omega)), e29, ui_ne (.inl (by omega)), e19, ui_at]; exact x16
          · rw [e59, ui_ne (.inl (by omega)), e49, ui_ne (.inl (by omega)), e39, ui_ne (.inl (by omega)), e29, ui_at]; exact x26
          · rw [e59, ui_ne (.inl (by omega)), e49, ui_ne (.inl (by omega)), e39, ui_at]; exact x36
          · rw [e59, ui_ne (.inl (by omega)), e49, ui_at]; exact x46
          · rw [e59, ui_at]; exact x56
        · rw [out _ _ (by omega), out _ _ (by omega), out _ _ (by omega), out _ _ (by omega), out _ _ (by omega)]
          exact h6 k (by omega)
      · rw [out _ _ (by omega)]; exact ho m k hm
theorem c_cp26 {T0 : AT} (hc : CRF T0) (hd : d ∈ sds) (he : e ∈ sds) (hne : d ≠ e) : ∀ (f l : Nat) {T : AT}, l ≤ 12 → IA T0 T → (∀ j, j < 3 → T.2.2.1 d j = T0.2.2.1 e j) → (∀ k, k < l → T.2.2.1 (d + 1) k = T0.2.2.1 (e + 1) k ∧ T.2.2.1 (d + 2) k = T0.2.2.1 (e + 2) k) → (∀ m k, (m < d ∨ d + 3 ≤ m) → T.2.2.1 m k = T0.2.2.1 m k) → g_X8_copyFrom_b26 f T d e (nI l) = some T1 → CPd d e T0 T1 := by
  obtain ⟨d3, d4, -⟩ := sd_rf hc hd
  obtain ⟨e3, e4, -⟩ := sd_rf hc he
  obtain ⟨-, rd1, rd2, -⟩ := sd_ro hd
  obtain ⟨-, re1, re2, -⟩ := sd_ro he
  have gap := sd_gap hd he hne
  intro f
  induction f with
  | zero => intro l T hl hI h3 h12 ho h; cases h
  | succ f ih =>
    intro l T hl hI h3 h12 ho h
    unfold g_X8_copyFrom_b26 at h
    by_cases c : l = 12
    · subst c
      rw [if_pos (show (12 : Int32) ≤ nI 12 from by decide)] at h
      exact c_cp64 hc hd he hne 16384 0 (by decide) hI h3 h12 (fun k hk => absurd hk (Nat.not_lt_zero k)) (fun m k hm => ho m k (by omega)) h
    · rw [if_neg (fun q => c (by have := (nI_leI (a := 12) (by decide) (by omega)).mp q; omega))] at h
      have kl : (nI l).toNatClampNeg = l := nI_clamp (by omega)
      obtain ⟨-, h⟩ := oif_some h
      obtain ⟨n4, en, h⟩ := obind_some h
      rw [hI.1, d3] at en
      cases en
      obtain ⟨-, h⟩ := oif_some h
      obtain ⟨n6, en, h⟩ := obind_some h
      rw [hI.1, e3] at en
      cases en
      obtain ⟨-, h⟩ := oif_some h
      obtain ⟨-, h⟩ := oif_some h
      obtain ⟨v9, e9, h⟩ := elet_some h
      rw [kl] at e9
      obtain ⟨-, h⟩ := oif_some h
      obtain ⟨-, h⟩ := oif_some h
      obtain ⟨-, h⟩ := oif_some h
      obtain ⟨T12, e12, h⟩ := elet_some h
      rw [kl] at e12
      have I12 : IA T0 T12 := by rw [e12]; exact ia_uI hI rd1 (by decide) (by decide) (rfl : iR 62 l = (0, 1)) (iv_int hI.2 re1 (by decide) (by decide) e9 rfl) (.inl rfl)
      obtain ⟨-, h⟩ := oif_some h
      obtain ⟨n14, en, h⟩ := obind_some h
      rw [I12.1, d4] at en
      cases en
      obtain ⟨-, h⟩ := oif_some h
      obtain ⟨n16, en, h⟩ := obind_some h
      rw [I12.1, e4] at en
      cases en
      obtain ⟨-, h⟩ := oif_some h
      obtain ⟨-, h⟩ := oif_some h
      obtain ⟨v19, e19, h⟩ := elet_some h
      rw [kl] at e19
      obtain ⟨-, h⟩ := oif_some h
      obtain ⟨-, h⟩ := oif_some h
      obtain ⟨T22, e22, h⟩ := elet_some h
      rw [kl] at e22
      have I22 : IA T0 T22 := by rw [e22]; exact ia_uI I12 rd2 (by decide) (by decide) (rfl : iR 63 l = (0, 9)) (iv_int I12.2 re2 (by decide) (by decide) e19 rfl) (.inl rfl)
      obtain ⟨v23, e23, h⟩ := elet_some h
      rw [show v23 = nI (l + 1) from e23.trans (nI_p1 l)] at h
      have x9 : v9 = T0.2.2.1 (e + 1) l := by rw [e9, ho _ _ (by omega)]
      have x19 : v19 = T0.2.2.1 (e + 2) l := by rw [e19, e12, ui_ne (.inl (by omega)), ho _ _ (by omega)]
      have out : ∀ m k, m < d + 1 ∨ d + 3 ≤ m ∨ k ≠ l → T22.2.2.1 m k = T.2.2.1 m k := fun m k hm => by
        rw [e22, ui_ne (by omega), e12, ui_ne (by omega)]
      refine ih (l + 1) (by omega) I22 (fun j hj => ?_) (fun k hk => ?_) (fun m k hm => ?_) h
      · rw [out _ _ (by omega)]; exact h3 j hj
      · by_cases q : k = l
        · subst q
          refine ⟨?_, ?_⟩
          · rw [e22, ui_ne (.inl (by omega)), e12, ui_at]; exact x9
          · rw [e22, ui_at]; exact x19
        · rw [out _ _ (by omega), out _ _ (by omega)]
          exact h12 k (by omega)
      · rw [out _ _ (by omega)]; exact ho m k hm
theorem c_stcopy (hc : CRF T) (hV : IV aR0 1586 aK1 aK2 T) (hd : d ∈ sds) (he : e ∈ sds) (hne : d ≠ e) (h : g_X8_copyFrom T d e = some T1) : CPd d e T T1 := by
  have gap := sd_gap hd he hne
  have rd := (sd_ro hd).1
  have re := (sd_ro he).1
  unfold g_X8_copyFrom at h
  obtain ⟨-, h⟩ := oif_some h
  obtain ⟨v3, e3, h⟩ := elet_some h
  obtain ⟨-, h⟩ := oif_some h
  obtain ⟨T5, e5, h⟩ := elet_some h
  obtain ⟨-, h⟩ := oif_some h
  obtain ⟨v7, e7, h⟩ := elet_some h
  obtain ⟨-, h⟩ := oif_some h
  obtain ⟨T9, e9, h⟩ := elet_some h
  obtain ⟨-, h⟩ := oif_some h
  obtain ⟨v11, e11, h⟩ := elet_some h
  obtain ⟨-, h⟩ := oif_some h
  obtain ⟨T13, e13, h⟩ := elet_some h
  have I0 : IA T T := ⟨rfl, hV⟩
  have I5 : IA T T5 := by rw [e5]; exact ia_uI I0 rd (by decide) (by decide) (rfl : iR 8 0 = (0, 12)) (iv_int I0.2 re (by decide) (by decide) e3 rfl) (.inl rfl)
  have I9 : IA T T9 := by rw [e9]; exact ia_uI I5 rd (by decide) (by decide) (rfl : iR 8 1 = (0, 200)) (iv_int I5.2 re (by decide) (by decide) e7 rfl) (.inl rfl)
  have I13 : IA T T13 := by rw [e13]; exact ia_uI I9 rd (by decide) (by decide) (rfl : iR 8 2 = (-2147483648, 2147483647)) (i_any _) (.inl rfl)
  have x7 : v7 = T.2.2.1 e 1 := by rw [e7, e5, ui_ne (.inl (by omega))]
  have x11 : v11 = T.2.2.1 e 2 := by rw [e11, e9, ui_ne (.inl (by omega)), e5, ui_ne (.inl (by omega))]
  refine c_cp26 hc hd he hne 16384 0 (by decide) I13 (fun j hj => ?_) (fun k hk => absurd hk (Nat.not_lt_zero k)) (fun m k hm => ?_) h
  · rcases (show j = 0 ∨ j = 1 ∨ j = 2 by omega) with q | q | q <;> subst q
    · rw [e13, ui_ne (.inr (by decide)), e9, ui_ne (.inr (by decide)), e5, ui_at]; exact e3
    · rw [e13, ui_ne (.inr (by decide)), e9, ui_at]; exact x7
    · rw [e13, ui_at]; exact x11
  · rw [e13, ui_ne (.inl (by omega)), e9, ui_ne (.inl (by omega)), e5, ui_ne (.inl (by omega))]
end
end
section
/-! 23c.past.lean.txt -/
/-! what is kept for undo: the reference's rows and the class's ring -/
section
variable {T T1 : AT} {S S1 : MS}
theorem nI_mulk (a b : Nat) : nI a * nI b = nI (a * b) := (Int32.ofNat_mul a b).symm
theorem x_b54 {u : Nat} (hu : u ≤ 5) (e19 : S.1 19 = nI u) (h : fr_remember_b54 S = some S1) : S1.1 19 = nI (u + 1) ∧ ∀ x, S1.2.1 15 x = if 2455 * u ≤ x ∧ x < 2455 * u + 2455 then S.2.1 12 (x - 2455 * u) else S.2.1 15 x := by
  unfold fr_remember_b54 at h
  obtain ⟨v2, e2, h⟩ := elet_some h
  obtain ⟨v3, e3, h⟩ := elet_some h
  obtain ⟨S4, f4, h⟩ := obind_some h
  obtain ⟨v7, e7, h⟩ := elet_some h
  obtain ⟨v8, e8, h⟩ := elet_some h
  obtain ⟨S9, e9, h⟩ := elet_some h
  have k3 : v3 = nI (2455 * u) := by rw [e3, e2, e19]; exact nI_mulk 2455 u
  rw [k3] at f4
  have x4 := x_copy_12_15 (o1 := 0) (o3 := 2455 * u) (by decide) (by omega) f4
  have k4 := (w_fr_copy_12_15 f4).1 19 (by decide)
  rw [← osome1 h, e9]
  refine ⟨?_, fun x => ?_⟩
  · rw [mi_at, e8, e7, k4, e19, nI_p1]
  · rw [show (mi S4 19 v8).2.1 15 x = S4.2.1 15 x from rfl, x4 x, Nat.zero_add]
theorem x_b13 {S0 : MS} (h19 : S0.1 19 = nI 6) : ∀ (f l : Nat) {S : MS}, 2455 ≤ l → l ≤ 14730 → S.1 19 = nI 6 → S.2.1 12 = S0.2.1 12 → (∀ x, S.2.1 15 x = if x + 2455 < l then S0.2.1 15 (x + 2455) else S0.2.1 15 x) → fr_remember_b13 f S (nI l) = some S1 → S1.1 19 = nI 6 ∧ (∀ k, k < 2455 → S1.2.1 15 (2455 * 5 + k) = S0.2.1 12 k) ∧ ∀ j k, j < 5 → k < 2455 → S1.2.1 15 (2455 * j + k) = S0.2.1 15 (2455 * (j + 1) + k) := by
  intro f
  induction f with
  | zero => intro l S hl0 hl e19 hA hB h; cases h
  | succ f ih =>
    intro l S hl0 hl e19 hA hB h
    unfold fr_remember_b13 at h
    by_cases c : l = 14730
    · subst c
      rw [if_pos (show (14730 : Int32) ≤ nI 14730 from by decide)] at h
      obtain ⟨v3, e3, h⟩ := elet_some h
      obtain ⟨v4, e4, h⟩ := elet_some h
      obtain ⟨S5, e5, h⟩ := elet_some h
      have e5' : S5.1 19 = nI 5 := by rw [e5, mi_at, e4, e3, e19]; decide
      obtain ⟨a, b⟩ := x_b54 (u := 5) (by decide) e5' h
      refine ⟨a, fun k hk => ?_, fun j k hj hk => ?_⟩
      · rw [b, if_pos (by omega), e5, show (mi S 19 v4).2.1 12 = S.2.1 12 from rfl, hA, show 2455 * 5 + k - 2455 * 5 = k from by omega]
      · rw [b, if_neg (by omega), e5, show (mi S 19 v4).2.1 15 = S.2.1 15 from rfl, hB, if_pos (by omega), show 2455 * j + k + 2455 = 2455 * (j + 1) + k from by omega]
    · rw [if_neg (fun q => c (by have := (nI_leI (a := 14730) (by decide) (by omega)).mp q; omega))] at h
      obtain ⟨v6, e6, h⟩ := elet_some h
      obtain ⟨-, h⟩ := oif_some h
      obtain ⟨v8, e8, h⟩ := elet_some h
      obtain ⟨-, h⟩ := oif_some h
      obtain ⟨S10, e10, h⟩ := elet_some h
      obtain ⟨v11, e11, h⟩ := elet_some h
      have kl : (nI l).toNatClampNeg = l := nI_clamp (by omega)
      have z : (2455 : Int32).toInt = 2455 := by decide
      have lI : (nI l).toInt = (l : Int) := nI_toInt (by omega)
      have q6 := i_sub e6 (by omega) (by omega)
      have k6 : v6.toNatClampNeg = l - 2455 := by
        have := i_cl (i := v6) (by omega)
        omega
      rw [show v11 = nI (l + 1) from e11.trans (nI_p1 l)] at h
      refine ih (l + 1) (by omega) (by omega) (by rw [e10]; exact e19) (by rw [e10, mf_ne (by decide)]; exact hA) (fun x => ?_) h
      rw [e10, mf_at, k6]
      show (if x = l - 2455 then v8 else S.2.1 15 x) = _
      by_cases q : x = l - 2455
      · rw [if_pos q, if_pos (by omega), e8, kl, hB, if_neg (by omega), show x + 2455 = l from by omega]
      · rw [if_neg q, hB]
        by_cases p : x + 2455 < l
        · rw [if_pos p, if_pos (by omega)]
        · rw [if_neg p, if_neg (by omega)]
/-- the reference keeps one more state, of six the last six -/
theorem x_remember {u : Nat} (hu : u ≤ 6) (e19 : S.1 19 = nI u) (h : fr_remember S = some S1) : ∃ v, (u ≤ 5 ∧ v = u + 1 ∨ u = 6 ∧ v = 6) ∧ S1.1 19 = nI v ∧ (∀ k, k < 2455 → S1.2.1 15 (2455 * (v - 1) + k) = S.2.1 12 k) ∧ ∀ j k, j + 1 < v → k < 2455 → S1.2.1 15 (2455 * j + k) = S.2.1 15 (2455 * (j + (u + 1 - v)) + k) := by
  unfold fr_remember at h
  obtain ⟨v2, e2, h⟩ := elet_some h
  by_cases c : u = 6
  · subst c
    rw [if_pos (show v2 = 6 from e2.trans e19)] at h
    obtain ⟨a, b, d⟩ := x_b13 e19 16384 2455 (by decide) (by decide) e19 rfl (fun x => (if_neg (by omega)).symm) h
    exact ⟨6, .inr ⟨rfl, rfl⟩, a, b, fun j k hj hk => d j k (by omega) hk⟩
  · rw [if_neg (fun q => c (by
      have := (nI_eq (a := u) (b := 6) (by omega) (by decide)).mp (e19.symm.trans (e2.symm.trans q))
      exact this))] at h
    obtain ⟨a, b⟩ := x_b54 (u := u) (by omega) e19 h
    refine ⟨u + 1, .inl ⟨by omega, rfl⟩, a, fun k hk => ?_, fun j k hj hk => ?_⟩
    · rw [b, if_pos (by omega), show 2455 * (u + 1 - 1) + k - 2455 * u = k from by omega]
    · rw [b, if_neg (by omega), show u + 1 - (u + 1) = 0 from by omega, Nat.add_zero]
theorem r_nw1 : (List.range 6).all (fun w => decide (nI w + 1 - (nI w + 1) / 6 * 6 = nI ((w + 1) % 6))) = true := by decide +kernel
theorem r_nw5 : (List.range 6).all (fun w => decide (nI w + 6 - 1 - (nI w + 6 - 1) / 6 * 6 = nI ((w + 5) % 6))) = true := by decide +kernel
set_option maxRecDepth 100000 in
theorem cam_dec : okc 430 = true ∧ okc 431 = true ∧ okc 432 = true ∧ aR0 430 = 47 ∧ aR0 431 = 48 ∧ aR0 432 = 49 ∧ aR0 66 = 4 ∧ (arf 0).getD 4 none = some 66 ∧ (arf 0).getD 6 none = some 242 ∧ (arf 0).getD 7 none = some 336 ∧ (arf 0).getD 8 none = some 430 ∧ (arf 0).getD 9 none = some 431 ∧ (arf 0).getD 10 none = some 432 ∧ (List.range 6).all (fun i => decide ((arf 430).getD i none = some (834 + 94 * i))) = true ∧ (List.range 2).all (fun i => decide ((arf 431).getD i none = some (1398 + 94 * i))) = true := by decide +kernel
theorem c_fld (hc : CRF T) : T.2.2.2.2 0 4 = some 66 ∧ T.2.2.2.2 0 6 = some 242 ∧ T.2.2.2.2 0 7 = some 336 ∧ T.2.2.2.2 0 8 = some 430 ∧ T.2.2.2.2 0 9 = some 431 ∧ T.2.2.2.2 0 10 = some 432 ∧ (∀ i, i < 6 → T.2.2.2.2 430 i = some (834 + 94 * i)) ∧ ∀ i, i < 2 → T.2.2.2.2 431 i = some (1398 + 94 * i) := by
  obtain ⟨o1, o2, -, -, -, -, -, a4, a6, a7, a8, a9, a10, ap, as⟩ := cam_dec
  have f := fun k (h1 : k ≠ 14) (h2 : k ≠ 15) => hc.2.1 k h1 h2
  exact ⟨(f 4 (by decide) (by decide)).trans a4, (f 6 (by decide) (by decide)).trans a6, (f 7 (by decide) (by decide)).trans a7, (f 8 (by decide) (by decide)).trans a8, (f 9 (by decide) (by decide)).trans a9, (f 10 (by decide) (by decide)).trans a10, fun i hi => (hc.at 430 o1 i).trans (of_decide_eq_true (a_fin (p := fun i => decide ((arf 430).getD i none = some (834 + 94 * i))) ap hi)), fun i hi => (hc.at 431 o2 i).trans (of_decide_eq_true (a_fin (p := fun i => decide ((arf 431).getD i none = some (1398 + 94 * i))) as hi))⟩
theorem past_in {i : Nat} (h : i < 6) : 834 + 94 * i ∈ sds := by
  rcases (show i = 0 ∨ i = 1 ∨ i = 2 ∨ i = 3 ∨ i = 4 ∨ i = 5 by omega) with q | q | q | q | q | q <;> subst q <;> decide
theorem slot_in {i : Nat} (h : i < 2) : 1398 + 94 * i ∈ sds := by
  rcases (show i = 0 ∨ i = 1 by omega) with q | q <;> subst q <;> decide
/-- the class keeps one more state: where, and what is changed besides -/
theorem c_keepu {u w : Nat} (hc : CRF T) (hV : IV aR0 1586 aK1 aK2 T) (hu : u ≤ 6) (hw : w ≤ 5) (e16 : T.2.2.1 0 16 = nI u) (e17 : T.2.2.1 0 17 = nI w) (h : g_X11_keepForUndo T 0 = some T1) : ∃ U, CPd (834 + 94 * ((w + 1) % 6)) 242 T U ∧ T1.2.2.1 0 16 = nI (if u = 6 then 6 else u + 1) ∧ T1.2.2.1 0 17 = nI ((w + 1) % 6) ∧ ∀ m k, m ≠ 0 → m ≠ 66 → T1.2.2.1 m k = U.2.2.1 m k := by
  obtain ⟨c4, c6, -, c8, -, -, cp, -⟩ := c_fld hc
  obtain ⟨-, -, -, -, -, -, r66, -⟩ := cam_dec
  have r0 := rrole.2.2.2
  have w6 : (w + 1) % 6 < 6 := Nat.mod_lt _ (by decide)
  unfold g_X11_keepForUndo at h
  obtain ⟨-, h⟩ := oif_some h
  obtain ⟨v3, d3, h⟩ := elet_some h
  obtain ⟨v4, d4, h⟩ := elet_some h
  obtain ⟨v5, d5, h⟩ := elet_some h
  obtain ⟨-, h⟩ := oif_some h
  obtain ⟨T7, d7, h⟩ := elet_some h
  have k5 : v5 = nI ((w + 1) % 6) := by
    rw [d5, d4, d3, e17]
    exact of_decide_eq_true (a_fin (p := fun w => decide (nI w + 1 - (nI w + 1) / 6 * 6 = nI ((w + 1) % 6))) r_nw1 (by omega))
  have I7 : IA T T7 := by
    rw [d7]
    refine ia_uI ⟨rfl, hV⟩ r0 (by decide) (by decide) (rfl : iR 11 17 = (0, 5)) ?_ (.inl rfl)
    rw [k5, nI_toInt (by omega)]
    omega
  have hc7 := crf_eq hc I7.1
  obtain ⟨-, h⟩ := oif_some h
  obtain ⟨n9, en, h⟩ := obind_some h
  rw [I7.1, c8] at en
  cases en
  obtain ⟨-, h⟩ := oif_some h
  obtain ⟨v11, d11, h⟩ := elet_some h
  have k11 : v11 = nI ((w + 1) % 6) := by rw [d11, d7, ui_at]; exact k5
  obtain ⟨-, h⟩ := oif_some h
  obtain ⟨-, h⟩ := oif_some h
  obtain ⟨n14, en, h⟩ := obind_some h
  rw [I7.1, k11, nI_clamp (by omega), cp _ w6] at en
  cases en
  obtain ⟨-, h⟩ := oif_some h
  obtain ⟨n16, en, h⟩ := obind_some h
  rw [I7.1, c6] at en
  cases en
  obtain ⟨-, h⟩ := oif_some h
  obtain ⟨T18, g18, h⟩ := obind_some h
  have cp18 := c_stcopy hc7 I7.2 (past_in w6) (show 242 ∈ sds from by decide) (by omega) g18
  have hc18 : CRF T18 := crf_gr hc7 I7.2 (sr_X8_copyFrom g18)
  have c4' := (c_fld hc18).1
  obtain ⟨p1, p2, p3, p4⟩ := cp18
  have o0 : ∀ k, T18.2.2.1 0 k = T7.2.2.1 0 k := fun k => p4 0 k (.inl (by omega)) (by rw [r0]; rfl)
  have q7 : ∀ m k, m ≠ 0 → T7.2.2.1 m k = T.2.2.1 m k := fun m k hm => by rw [d7, ui_ne (.inl hm)]
  obtain ⟨X, hX0, hX⟩ : ∃ X : AT, (∀ k, X.2.2.1 0 k = T.2.2.1 0 k) ∧ ∀ m k, m ≠ 0 → X.2.2.1 m k = T18.2.2.1 m k := ⟨(T18.1, T18.2.1, fun m k => if m = 0 then T.2.2.1 0 k else T18.2.2.1 m k, T18.2.2.2), fun k => (show (if (0 : Nat) = 0 then T.2.2.1 0 k else T18.2.2.1 0 k) = _ from if_pos rfl), fun m k h => (show (if m = 0 then T.2.2.1 0 k else T18.2.2.1 m k) = _ from if_neg h)⟩
  have cpU : CPd (834 + 94 * ((w + 1) % 6)) 242 T X := by
    refine ⟨fun j hj => ?_, fun k hk => ?_, fun k hk => ?_, fun m k hm hw => ?_⟩
    · rw [hX _ _ (by omega), p1 j hj, q7 _ _ (by decide)]
    · rw [hX _ _ (by omega), hX _ _ (by omega), (p2 k hk).1, (p2 k hk).2, q7 _ _ (by decide), q7 _ _ (by decide)]
      exact ⟨rfl, rfl⟩
    · obtain ⟨s1, s2, s3, s4, s5⟩ := p3 k hk
      rw [hX _ _ (by omega), hX _ _ (by omega), hX _ _ (by omega), hX _ _ (by omega), hX _ _ (by omega), s1, s2, s3, s4, s5, q7 _ _ (by decide), q7 _ _ (by decide), q7 _ _ (by decide), q7 _ _ (by decide), q7 _ _ (by decide)]
      exact ⟨rfl, rfl, rfl, rfl, rfl⟩
    · by_cases q : m = 0
      · rw [q]; exact hX0 k
      · rw [hX m k q, p4 m k hm hw, q7 m k q]
  have last : ∀ {U T2 : AT}, U.2.2.2.2 = T18.2.2.2.2 → g_X11_keepForUndo_b48 U 0 = some T2 → T2 = uI U 66 0 0 := by
    intro U T2 hr h
    unfold g_X11_keepForUndo_b48 at h
    obtain ⟨-, h⟩ := oif_some h
    obtain ⟨n3, en, h⟩ := obind_some h
    rw [hr, c4'] at en
    cases en
    obtain ⟨-, h⟩ := oif_some h
    obtain ⟨T5, d5, h⟩ := elet_some h
    rw [← osome1 h, d5]
  unfold g_X11_keepForUndo_b29 at h
  obtain ⟨-, h⟩ := oif_some h
  obtain ⟨b3, f3, h⟩ := elet_some h
  have k3 : b3 = nI u := by rw [f3, o0, d7, ui_ne (.inr (by decide))]; exact e16
  refine ⟨_, cpU, ?_⟩
  by_cases c : u = 6
  · rw [if_pos (show (6 : Int32) ≤ b3 from by rw [k3, c]; decide)] at h
    have e := last rfl h
    rw [if_pos c]
    refine ⟨?_, ?_, fun m k h0 h66 => ?_⟩
    · rw [e, ui_ne (.inl (by decide)), ← f3, k3, c]
    · rw [e, ui_ne (.inl (by decide)), o0, d7, ui_at]; exact k5
    · rw [e, ui_ne (.inl h66), hX m k h0]
  · rw [if_neg (fun q => c (by rw [k3] at q; have := (nI_leI (a := 6) (by decide) (by omega)).mp q; omega))] at h
    obtain ⟨-, h⟩ := oif_some h
    obtain ⟨v6, f6, h⟩ := elet_some h
    obtain ⟨v7, f7, h⟩ := elet_some h
    obtain ⟨-, h⟩ := oif_some h
    obtain ⟨T9, f9, h⟩ := elet_some h
    have e := last (by rw [f9]; rfl) h
    rw [if_neg c]
    refine ⟨?_, ?_, fun m k h0 h66 => ?_⟩
    · rw [e, ui_ne (.inl (by decide)), f9, ui_at, f7, f6, ← f3, k3, nI_p1]
    · rw [e, ui_ne (.inl (by decide)), f9, ui_ne (.inr (by decide)), o0, d7, ui_at]; exact k5
    · rw [e, ui_ne (.inl h66), f9, ui_ne (.inl h0), hX m k h0]
end
end
section
/-! 23d.low.lean.txt -/
/-! what of a state's first cells the reference changes when it records anew or cleans -/
section
variable {S S1 : MS} {P : Nat → Int32}
def Low (S S1 : MS) : Prop := ∀ x, x < 55 → S1.2.1 12 x = S.2.1 12 x
theorem Low.rf : Low S S := fun _ _ => rfl
theorem Low.tr {S2 : MS} (h : Low S S1) (k : Low S1 S2) : Low S S2 := fun x hx => (k x hx).trans (h x hx)
theorem Low.eq (h : S1.2.1 12 = S.2.1 12) : Low S S1 := fun x _ => by rw [h]
theorem Low.up {k : Nat} {v : Int32} (hk : 55 ≤ k) : Low S (mf S 12 (upd (S.2.1 12) k v)) := fun x hx => by
  rw [mf_at]
  show (if x = k then v else S.2.1 12 x) = _
  rw [if_neg (by omega)]
theorem l_rec49 {k6 : MS → Int32 → Option MS} {l2 : Int32} (hP : PL P) (h0 : 0 ≤ l2.toInt) (h1 : l2.toInt ≤ 11) (hk : ∀ {S : MS} {l : Int32}, S.2.1 10 = P → l.toInt = l2.toInt + 1 → k6 S l = some S1 → Low S S1) : ∀ (f : Nat) {S : MS} {l3 : Int32}, S.2.1 10 = P → 0 ≤ l3.toInt → fr_records_12_b49 k6 f S l2 l3 = some S1 → Low S S1 := by
  have p2 := pl_2 hP
  have z1 : (1 : Int32).toInt = 1 := by decide
  have z200 : (200 : Int32).toInt = 200 := by decide
  have z55 : (55 : Int32).toInt = 55 := by decide
  intro f
  induction f with
  | zero => intro S l3 e h3 h; cases h
  | succ f ih =>
    intro S l3 e h3 h
    unfold fr_records_12_b49 at h
    obtain ⟨v2, e2, h⟩ := elet_some h
    rw [e] at e2
    rcases oif_or h with ⟨c, h⟩ | ⟨c, h⟩
    · obtain ⟨v4, e4, h⟩ := elet_some h
      exact hk e (i_add (y := 1) e4 (by omega) (by omega)) h
    · have c := i_nle c
      rw [e2] at c
      obtain ⟨v5, e5, h⟩ := elet_some h
      obtain ⟨v6, e6, h⟩ := elet_some h
      obtain ⟨v7, e7, h⟩ := elet_some h
      obtain ⟨r11, S8, f8, h⟩ := obind2_some h
      obtain ⟨r15, S12, f12, h⟩ := obind2_some h
      obtain ⟨-, h⟩ := oif_some h
      obtain ⟨S17, e17, h⟩ := elet_some h
      obtain ⟨v18, e18, h⟩ := elet_some h
      have k8 := w_fr_filtered f8
      have k12 := w_fr_bounded f12
      have q5 := i_mulk e5 z200 (by omega) (by omega)
      have q6 := i_add e6 (by omega) (by omega)
      have q7 := i_add e7 (by omega) (by omega)
      have kk := i_cl (i := v7) (by omega)
      have a12 : S12.2.1 12 = S.2.1 12 := (k12.2 12 (by decide)).trans (k8.2 12 (by decide))
      have e17' : S17.2.1 10 = P := by rw [e17, mf_ne (by decide), k12.2 10 (by decide), k8.2 10 (by decide)]; exact e
      have q18 := i_add (y := 1) e18 (by omega) (by omega)
      refine Low.tr ?_ (ih e17' (by omega) h)
      rw [e17]
      exact (Low.eq a12).tr (Low.up (by omega))
theorem l_rec6 (hP : PL P) : ∀ (f : Nat) {S : MS} {l2 : Int32}, S.2.1 10 = P → 0 ≤ l2.toInt → fr_records_12_b6 f S l2 = some S1 → Low S S1 := by
  have p4 := pl_4 hP
  have z1 : (1 : Int32).toInt = 1 := by decide
  intro f
  induction f with
  | zero => intro S l2 e h0 h; cases h
  | succ f ih =>
    intro S l2 e h0 h
    unfold fr_records_12_b6 at h
    obtain ⟨v2, e2, h⟩ := elet_some h
    rw [e] at e2
    rcases oif_or h with ⟨c, h⟩ | ⟨c, h⟩
    · rw [← osome1 h]
      exact Low.rf
    · have c := i_nle c
      rw [e2] at c
      have b18 : ∀ (g : Nat) {S : MS} {l3 : Int32}, S.2.1 10 = P → fr_records_12_b18 (fr_records_12_b6 f) g S l2 l3 = some S1 → Low S S1 := by
        intro g
        induction g with
        | zero => intro S l3 e h; cases h
        | succ g ihg =>
          intro S l3 e h
          unfold fr_records_12_b18 at h
          obtain ⟨v2, e2, h⟩ := elet_some h
          rcases oif_or h with ⟨-, h⟩ | ⟨-, h⟩
          · exact l_rec49 hP h0 (by omega) (fun {S l} a b q => ih a (by omega) q) 16384 e (by decide) h
          · obtain ⟨r7, S4, f4, h⟩ := obind2_some h
            obtain ⟨-, h⟩ := oif_some h
            obtain ⟨S9, e9, h⟩ := elet_some h
            obtain ⟨v10, e10, h⟩ := elet_some h
            have k4 := w_fr_rawAt_12 f4
            refine Low.tr (Low.eq ?_) (ihg (S := S9) ?_ h)
            · rw [e9, mf_ne (by decide)]; exact k4.2 12 (by decide)
            · rw [e9, mf_ne (by decide), k4.2 10 (by decide)]; exact e
      exact b18 16384 e h
theorem l_records (hP : PL (S.2.1 10)) (h : fr_records_12 S = some S1) : S1.2.1 12 0 = 0 ∧ ∀ x, 1 ≤ x → x < 55 → S1.2.1 12 x = S.2.1 12 x := by
  unfold fr_records_12 at h
  obtain ⟨S2, e2, h⟩ := elet_some h
  have q := l_rec6 (P := S.2.1 10) hP 16384 (S := S2) (l2 := 0) (by rw [e2, mf_ne (by decide)]) (by decide) h
  refine ⟨?_, fun x h1 h2 => ?_⟩
  · rw [q 0 (by decide), e2, mf_at]; rfl
  · rw [q x h2, e2, mf_at]
    show (if x = 0 then (0 : Int32) else S.2.1 12 x) = _
    rw [if_neg (by omega)]
/-- what a cleaning leaves: all but samples, beams and how often -/
def CLR (S S1 : MS) : Prop := (∀ x, 1 ≤ x → x < 55 → S1.2.1 12 x = S.2.1 12 x) ∧ S1.2.1 12 0 = S.2.1 12 0 + 1 ∧ (∀ k, S1.1 k = S.1 k) ∧ ∀ a, a ≠ 12 → a ≠ 29 → S1.2.1 a = S.2.1 a
theorem CLR.lo {S2 : MS} (lo : Low S S2) (f1 : ∀ k, S2.1 k = S.1 k) (f2 : ∀ a, a ≠ 12 → a ≠ 29 → S2.2.1 a = S.2.1 a) (q : CLR S2 S1) : CLR S S1 :=
  ⟨fun x a b => (q.1 x a b).trans (lo x b), q.2.1.trans (by rw [lo 0 (by decide)]), fun k => (q.2.2.1 k).trans (f1 k), fun a x y => (q.2.2.2 a x y).trans (f2 a x y)⟩
theorem CLR.of {S2 : MS} (h : FK [] [] S S2) (q : CLR S2 S1) : CLR S S1 := q.lo (Low.eq (h.2 12 rfl)) (fun k => h.1 k rfl) (fun a _ _ => h.2 a rfl)
theorem l_cl122 {k108 : MS → Int32 → Int32 → Int32 → Int32 → Option (Int32 × MS)} {r l1 l2 l3 l4 : Int32} (h0 : 0 ≤ l4.toInt) (h1 : l4.toInt ≤ 11) (hl : l3.toInt ≤ 200) (hk : ∀ {S : MS} {l : Int32}, S.2.1 10 = P → (∀ k, 0 ≤ (S.2.1 24 k).toInt ∧ (S.2.1 24 k).toInt ≤ 65535) → l.toInt = l4.toInt + 1 → k108 S l1 l2 l3 l = some (r, S1) → CLR S S1) : ∀ (f : Nat) {S : MS} {l5 : Int32}, S.2.1 10 = P → (∀ k, 0 ≤ (S.2.1 24 k).toInt ∧ (S.2.1 24 k).toInt ≤ 65535) → 0 ≤ l5.toInt → fr_clean_b122 k108 f S l1 l2 l3 l4 l5 = some (r, S1) → CLR S S1 := by
  have z1 : (1 : Int32).toInt = 1 := by decide
  have z200 : (200 : Int32).toInt = 200 := by decide
  have z55 : (55 : Int32).toInt = 55 := by decide
  have ex : ∀ {S : MS}, S.2.1 10 = P → (∀ k, 0 ≤ (S.2.1 24 k).toInt ∧ (S.2.1 24 k).toInt ≤ 65535) → fr_clean_b196 k108 S l1 l2 l3 l4 = some (r, S1) → CLR S S1 := by
    intro S e e24 h
    unfold fr_clean_b196 at h
    obtain ⟨v2, e2, h⟩ := elet_some h
    exact hk e e24 (i_add (y := 1) e2 (by omega) (by omega)) h
  intro f
  induction f with
  | zero => intro S l5 e e24 h5 h; cases h
  | succ f ih =>
    intro S l5 e e24 h5 h
    unfold fr_clean_b122 at h
    rcases oif_or h with ⟨c, h⟩ | ⟨c, h⟩
    · exact ex e e24 h
    · have c := i_nle c
      obtain ⟨r6, S3, f3, h⟩ := obind2_some h
      have k3 := w_fr_hears_12 f3
      have e3 : S3.2.1 10 = P := (k3.2 10 (by decide)).trans e
      have e324 : ∀ k, 0 ≤ (S3.2.1 24 k).toInt ∧ (S3.2.1 24 k).toInt ≤ 65535 := fun k => by rw [k3.2 24 (by decide)]; exact e24 k
      rcases oif_or h with ⟨-, h⟩ | ⟨-, h⟩
      · exact CLR.of k3 (ex e3 e324 h)
      · obtain ⟨v8, e8, h⟩ := elet_some h
        obtain ⟨v9, e9, h⟩ := elet_some h
        obtain ⟨v10, e10, h⟩ := elet_some h
        obtain ⟨-, h⟩ := oif_some h
        obtain ⟨v12, e12, h⟩ := elet_some h
        obtain ⟨v13, e13, h⟩ := elet_some h
        obtain ⟨-, h⟩ := oif_some h
        obtain ⟨v15, -, h⟩ := elet_some h
        obtain ⟨-, h⟩ := oif_some h
        obtain ⟨v17, -, h⟩ := elet_some h
        obtain ⟨v18, -, h⟩ := elet_some h
        obtain ⟨v19, -, h⟩ := elet_some h
        obtain ⟨v20, -, h⟩ := elet_some h
        obtain ⟨r24, S21, f21, h⟩ := obind2_some h
        obtain ⟨v25, -, h⟩ := elet_some h
        obtain ⟨v26, -, h⟩ := elet_some h
        obtain ⟨-, h⟩ := oif_some h
        obtain ⟨v28, -, h⟩ := elet_some h
        obtain ⟨v29, -, h⟩ := elet_some h
        obtain ⟨v30, -, h⟩ := elet_some h
        obtain ⟨-, h⟩ := oif_some h
        obtain ⟨S32, e32, h⟩ := elet_some h
        obtain ⟨v33, e33, h⟩ := elet_some h
        have k21 := w_fr_weightOf f21
        have d := e324 l4.toNatClampNeg
        rw [← e12] at d
        have q8 := i_mulk e8 z200 (by omega) (by omega)
        have q9 := i_add e9 (by omega) (by omega)
        have q10 := i_add e10 (by omega) (by omega)
        have q13 := i_add e13 (by omega) (by omega)
        have kk := i_cl (i := v13) (by omega)
        have q33 := i_add (y := 1) e33 (by omega) (by omega)
        have lo : Low S S32 := by
          rw [e32]
          exact (Low.eq ((k21.2 12 (by decide)).trans (k3.2 12 (by decide)))).tr (Low.up (by omega))
        have q := ih (S := S32) (by rw [e32, mf_ne (by decide), k21.2 10 (by decide)]; exact e3) (fun k => by rw [e32, mf_ne (by decide), k21.2 24 (by decide)]; exact e324 k) (by omega) h
        refine CLR.lo lo (fun k => ?_) (fun a n1 n2 => ?_) q
        · rw [e32, show (mf S21 12 (upd (S21.2.1 12) v13.toNatClampNeg v30)).1 k = S21.1 k from rfl, k21.1 k rfl, k3.1 k rfl]
        · rw [e32, mf_ne n1, k21.2 a rfl, k3.2 a rfl]
theorem l_cl108 (hP : PL P) {r l1 l2 l3 : Int32} (hl : l3.toInt ≤ 200) : ∀ (f : Nat) {S : MS} {l4 : Int32}, S.2.1 10 = P → (∀ k, 0 ≤ (S.2.1 24 k).toInt ∧ (S.2.1 24 k).toInt ≤ 65535) → 0 ≤ l4.toInt → fr_clean_b108 f S l1 l2 l3 l4 = some (r, S1) → CLR S S1 := by
  have p4 := pl_4 hP
  intro f
  induction f with
  | zero => intro S l4 e e24 h0 h; cases h
  | succ f ih =>
    intro S l4 e e24 h0 h
    unfold fr_clean_b108 at h
    obtain ⟨v2, e2, h⟩ := elet_some h
    rw [e] at e2
    rcases oif_or h with ⟨c, h⟩ | ⟨c, h⟩
    · obtain ⟨v4, e4, h⟩ := elet_some h
      obtain ⟨v5, e5, h⟩ := elet_some h
      obtain ⟨S6, e6, h⟩ := elet_some h
      rw [← (osome2 h).2, e6]
      refine ⟨fun x a b => ?_, ?_, fun k => rfl, fun a n1 _ => mf_ne n1⟩
      · rw [mf_at]
        show (if x = 0 then v5 else S.2.1 12 x) = _
        rw [if_neg (by omega)]
      · rw [mf_at, ← e4, ← e5]
        rfl
    · have c := i_nle c
      rw [e2] at c
      exact l_cl122 h0 (by omega) hl (fun {S l} a b d q => ih a b (by omega) q) 16384 e e24 (by decide) h
theorem l_cl76 (hP : PL P) {r l1 l2 l3 : Int32} (hl : l3.toInt ≤ 200) : ∀ (f : Nat) {S : MS} {l4 : Int32}, S.2.1 10 = P → (∀ k, 0 ≤ (S.2.1 24 k).toInt ∧ (S.2.1 24 k).toInt ≤ 65535) → fr_clean_b76 f S l1 l2 l3 l4 = some (r, S1) → CLR S S1 := by
  intro f
  induction f with
  | zero => intro S l4 e e24 h; cases h
  | succ f ih =>
    intro S l4 e e24 h
    unfold fr_clean_b76 at h
    rcases oif_or h with ⟨c, h⟩ | ⟨c, h⟩
    · exact l_cl108 hP hl 16384 e e24 (by decide) h
    · obtain ⟨r6, S3, f3, h⟩ := obind2_some h
      obtain ⟨-, h⟩ := oif_some h
      obtain ⟨S8, e8, h⟩ := elet_some h
      obtain ⟨v9, -, h⟩ := elet_some h
      have k3 := w_fr_beamAt_12 f3
      have q := ih (S := S8) (by rw [e8, mf_ne (by decide), k3.2 10 (by decide)]; exact e) (fun k => by rw [e8, mf_ne (by decide), k3.2 24 (by decide)]; exact e24 k) h
      refine CLR.lo (Low.eq (by rw [e8, mf_ne (by decide), k3.2 12 (by decide)])) (fun k => ?_) (fun a n1 n2 => ?_) q
      · rw [e8, show (mf S3 29 (upd (S3.2.1 29) l4.toNatClampNeg r6)).1 k = S3.1 k from rfl, k3.1 k rfl]
      · rw [e8, mf_ne n2, k3.2 a rfl]
end
end
section
/-! 23e.cfr.lean.txt -/
/-! what of the cells of states the class changes when it records anew or cleans -/
section
variable {T T1 : AT} {d s : Nat}
/-- the roles of a part of the cells -/
def pZ (Z : Nat → Bool) (n : Nat) : Nat := bif Z n then aR0 n else 30
theorem pZ_or (Z : Nat → Bool) (n : Nat) : pZ Z n = aR0 n ∨ pZ Z n = 30 := by
  unfold pZ
  cases Z n with
  | true => exact .inl rfl
  | false => exact .inr rfl
theorem pZ_t {Z : Nat → Bool} {n : Nat} (h : Z n = true) : pZ Z n = aR0 n := by unfold pZ; rw [h]; rfl
theorem pZ_f {Z : Nat → Bool} {n : Nat} (h : Z n = false) : pZ Z n = 30 := by unfold pZ; rw [h]; rfl
def zck (Z : Nat → Bool) (n : Nat) : Bool := (Nat.beq (aR0 n) 30 || isRW (aR0 n)) || (okc n && (List.range 150).all (fun k => Nat.beq (rtg (aR0 n) k) 99 || (match (arf n).getD k none with | some q => Z q | none => true)))
theorem rtg_rw {r k : Nat} (h : isRW r = true) (h9 : rtg r k ≠ 99) : rtg r k = 30 := by
  have hw : isW r = false := by
    unfold isRW at h
    unfold isW
    obtain ⟨a, b⟩ := (Bool.and_eq_true _ _).mp h
    have a := Nat.le_of_ble_eq_true a
    cases e : Nat.ble r 105 with
    | false => exact Bool.and_false _
    | true => have := Nat.le_of_ble_eq_true e; omega
  unfold rtg at h9 ⊢
  rw [hw, h] at h9 ⊢
  cases e : Nat.blt k 40 with
  | true => rfl
  | false => rw [e] at h9; exact absurd rfl h9
theorem iv_pZ {Z : Nat → Bool} {L : List Nat} (h : CRF T) (hV : IV aR0 1586 aK1 aK2 T) (hc : L.all (zck Z) = true) (hL : ∀ n, Z n = true → n ∈ L) : IV (pZ Z) 1586 (T.1 + zt (pZ Z) T w1 1586) (sg T + zt (pZ Z) T wC 1586) T := by
  refine iv_sub hV (pZ_or Z) (fun n k hn hk q hq => ?_)
  have zn : Z n = true := by
    cases e : Z n with
    | true => rfl
    | false => exact absurd (pZ_f e) hn
  rw [pZ_t zn] at hn hk
  have d := List.all_eq_true.mp hc n (hL n zn)
  unfold zck at d
  rw [nbeq hn, Bool.false_or] at d
  rcases (Bool.or_eq_true _ _).mp d with d | d
  · have st : sta aR0 1586 n := iv_sta hV rfl (fun e => by rw [e] at d; cases d) hn
    obtain ⟨q', e', -, hR⟩ := hV.2.2.1 n k st hk
    rw [hq] at e'
    cases e'
    rw [rtg_rw d hk] at hR
    rcases pZ_or Z q with u | u
    · exact u
    · rw [u, hR]
  · obtain ⟨d1, d2⟩ := (Bool.and_eq_true _ _).mp d
    by_cases h150 : k < 150
    · have d3 : (Nat.beq (rtg (aR0 n) k) 99 || (match (arf n).getD k none with | some q => Z q | none => true)) = true := a_fin (p := fun k => Nat.beq (rtg (aR0 n) k) 99 || (match (arf n).getD k none with | some q => Z q | none => true)) d2 h150
      rw [nbeq hk, Bool.false_or, ← h.at n d1 k, hq] at d3
      exact pZ_t d3
    · exact absurd (rtg_hi (Nat.not_lt.mp h150)) hk
def zbt (a b n : Nat) : Bool := Nat.ble a n && Nat.blt n b
theorem zbt_t {a b n : Nat} : zbt a b n = true ↔ a ≤ n ∧ n < b := by
  unfold zbt
  rw [Bool.and_eq_true]
  exact ⟨fun ⟨x, y⟩ => ⟨Nat.le_of_ble_eq_true x, Nat.le_of_ble_eq_true y⟩, fun ⟨x, y⟩ => ⟨Nat.ble_eq_true_of_le x, Nat.ble_eq_true_of_le y⟩⟩
/-- recorder, scene and one state -/
def zRec (s d n : Nat) : Bool := (zbt 7 22 n || zbt s (s + 178) n) || zbt d (d + 94) n
def zRecL (s d : Nat) : List Nat := (List.range 15).map (7 + ·) ++ (List.range 178).map (s + ·) ++ (List.range 94).map (d + ·)
theorem mem_rg {a l n : Nat} (h1 : a ≤ n) (h2 : n < a + l) : n ∈ (List.range l).map (a + ·) := List.mem_map.mpr ⟨n - a, List.mem_range.mpr (by omega), by omega⟩
theorem zRec_L {n : Nat} (h : zRec s d n = true) : n ∈ zRecL s d := by
  unfold zRec at h
  unfold zRecL
  rcases (Bool.or_eq_true _ _).mp h with h | h
  · rcases (Bool.or_eq_true _ _).mp h with h | h
    · obtain ⟨a, b⟩ := zbt_t.mp h
      exact List.mem_append_left _ (List.mem_append_left _ (mem_rg a (by omega)))
    · obtain ⟨a, b⟩ := zbt_t.mp h
      exact List.mem_append_left _ (List.mem_append_right _ (mem_rg a b))
  · obtain ⟨a, b⟩ := zbt_t.mp h
    exact List.mem_append_right _ (mem_rg a b)
set_option maxRecDepth 100000 in
set_option maxHeartbeats 4000000 in
theorem zRec_ck : [478, 656].all (fun s => [242, 336].all (fun d => (zRecL s d).all (zck (zRec s d)))) = true := by decide +kernel
theorem iv_rec (h : CRF T) (hV : IV aR0 1586 aK1 aK2 T) (hs : s = 478 ∨ s = 656) (hd : d = 242 ∨ d = 336) : IV (pZ (zRec s d)) 1586 (T.1 + zt (pZ (zRec s d)) T w1 1586) (sg T + zt (pZ (zRec s d)) T wC 1586) T := by
  refine iv_pZ h hV ?_ (fun n => zRec_L)
  have q := List.all_eq_true.mp zRec_ck s (by rcases hs with e | e <;> rw [e] <;> decide)
  exact List.all_eq_true.mp q d (by rcases hd with e | e <;> rw [e] <;> decide)
theorem zRec_ro (hs : s = 478 ∨ s = 656) (hd : d = 242 ∨ d = 336) : pZ (zRec s d) 7 = 5 ∧ pZ (zRec s d) s = 6 ∧ pZ (zRec s d) d = 8 := by
  have r7 : aR0 7 = 5 := by decide +kernel
  have rd : aR0 d = 8 := by rcases hd with e | e <;> rw [e] <;> decide +kernel
  refine ⟨(pZ_t ?_).trans r7, (pZ_t ?_).trans (rsrole hs), (pZ_t ?_).trans rd⟩
  · unfold zRec
    rw [show zbt 7 22 7 = true from rfl]
    rfl
  · unfold zRec
    rw [zbt_t.mpr ⟨Nat.le_refl s, by omega⟩, Bool.or_true]
    rfl
  · unfold zRec
    rw [zbt_t.mpr ⟨Nat.le_refl d, by omega⟩, Bool.or_true]
theorem zRec_out {m : Nat} (h : ¬ (7 ≤ m ∧ m < 22)) (h1 : ¬ (s ≤ m ∧ m < s + 178)) (h2 : ¬ (d ≤ m ∧ m < d + 94)) : pZ (zRec s d) m = 30 := by
  refine pZ_f ?_
  unfold zRec
  have f := fun {a b : Nat} (h : ¬ (a ≤ m ∧ m < b)) => show zbt a b m = false from Bool.eq_false_iff.mpr (fun q => h (zbt_t.mp q))
  rw [f h, f h1, f h2]
  rfl
/-- what recording changes of numbers: only recorder, scene and this state -/
theorem rec_out (hc : CRF T) (hV : IV aR0 1586 aK1 aK2 T) (hs : s = 478 ∨ s = 656) (hd : d = 242 ∨ d = 336) (h : g_X5_record T 7 s d = some T1) : (∀ m k, ¬ (7 ≤ m ∧ m < 22) → ¬ (s ≤ m ∧ m < s + 178) → ¬ (d ≤ m ∧ m < d + 94) → T1.2.2.1 m k = T.2.2.1 m k) ∧ IV aR0 1586 aK1 aK2 T1 ∧ FW aR0 [258, 1472, 3202] T T1 := by
  obtain ⟨r7, rs, rd⟩ := zRec_ro hs hd
  have c := tgo (cs_X5_record (R := pZ (zRec s d)) T 7 s d (iv_rec hc hV hs hd) r7 rs rd) h
  have c0 := tgo (cs_X5_record T 7 s d hV (by decide +kernel) (rsrole hs) (by rcases hd with e | e <;> rw [e] <;> decide +kernel)) h
  exact ⟨fun m k a b e => c.2 m k (by rw [zRec_out a b e]; rfl), c0.1, c0.2⟩
theorem rp_out {a b : Int32} (hc : CRF T) (hV : IV aR0 1586 aK1 aK2 T) (hs : s = 478 ∨ s = 656) (ha : 0 ≤ a.toInt ∧ a.toInt ≤ 143) (hb : 2 ≤ b.toInt ∧ b.toInt ≤ 99) (h : g_X5_recordPoint T 7 s 336 a b = some T1) : (∀ m k, ¬ (7 ≤ m ∧ m < 22) → ¬ (s ≤ m ∧ m < s + 178) → ¬ (336 ≤ m ∧ m < 430) → T1.2.2.1 m k = T.2.2.1 m k) ∧ IV aR0 1586 aK1 aK2 T1 ∧ FW aR0 [224, 229, 230, 258, 1472, 3202] T T1 := by
  obtain ⟨r7, rs, rd⟩ := zRec_ro hs (.inr rfl : 336 = 242 ∨ 336 = 336)
  have c := tgo (cs_X5_recordPoint (R := pZ (zRec s 336)) T 7 s 336 a b (iv_rec hc hV hs (.inr rfl)) r7 rs rd ha hb) h
  have c0 := tgo (cs_X5_recordPoint T 7 s 336 a b hV (by decide +kernel) (rsrole hs) (by decide +kernel) ha hb) h
  exact ⟨fun m k a b e => c.2 m k (by rw [zRec_out a b e]; rfl), c0.1, c0.2⟩
/-- behind a recording no cleaning is counted -/
theorem c_fin9 {o : Nat} : ∀ (n : Nat) (T : AT) (l3 : Int32), g_X5_finish_b9 n T o s d l3 = some T1 → T1.2.2.1 d 2 = 0 := by
  intro n
  induction n with
  | zero => intro T l3 h; cases h
  | succ n ih =>
    have b20 : ∀ (f : Nat) (T : AT) (l3 l4 : Int32), g_X5_finish_b20 (g_X5_finish_b9 n) f T o s d l3 l4 = some T1 → T1.2.2.1 d 2 = 0 := by
      intro f
      induction f with
      | zero => intro T l3 l4 h; cases h
      | succ f ih2 =>
        have b55 : ∀ {T : AT} {s0 l3 l4 : Int32}, g_X5_finish_b55 (g_X5_finish_b9 n) (g_X5_finish_b20 (g_X5_finish_b9 n) f) T s0 o s d l3 l4 = some T1 → T1.2.2.1 d 2 = 0 := by
          intro T s0 l3 l4 h
          unfold g_X5_finish_b55 at h
          obtain ⟨-, h⟩ := oif_some h
          obtain ⟨n3, -, h⟩ := obind_some h
          obtain ⟨r4, -, h⟩ := obind_some h
          obtain ⟨-, h⟩ := oif_some h
          obtain ⟨v7, -, h⟩ := elet_some h
          obtain ⟨v8, -, h⟩ := elet_some h
          obtain ⟨-, h⟩ := oif_some h
          obtain ⟨v10, -, h⟩ := elet_some h
          obtain ⟨v11, -, h⟩ := elet_some h
          obtain ⟨v12, -, h⟩ := elet_some h
          obtain ⟨-, h⟩ := oif_some h
          obtain ⟨T14, -, h⟩ := obind_some h
          unfold g_X5_finish_b87 at h
          obtain ⟨v2, -, h⟩ := elet_some h
          exact ih2 _ _ _ h
        intro T l3 l4 h
        unfold g_X5_finish_b20 at h
        obtain ⟨-, h⟩ := oif_some h
        obtain ⟨v3, -, h⟩ := elet_some h
        rcases oif_or h with ⟨-, h⟩ | ⟨-, h⟩
        · obtain ⟨v5, -, h⟩ := elet_some h
          exact ih _ _ h
        · obtain ⟨-, h⟩ := oif_some h
          obtain ⟨v7, -, h⟩ := elet_some h
          rcases oif_or h with ⟨-, h⟩ | ⟨-, h⟩
          · obtain ⟨-, h⟩ := oif_some h
            obtain ⟨r12, T10, -, h⟩ := obind2_some h
            exact b55 h
          · obtain ⟨-, h⟩ := oif_some h
            obtain ⟨r12, T10, -, h⟩ := obind2_some h
            exact b55 h
    intro T l3 h
    unfold g_X5_finish_b9 at h
    obtain ⟨-, h⟩ := oif_some h
    obtain ⟨v3, -, h⟩ := elet_some h
    rcases oif_or h with ⟨-, h⟩ | ⟨-, h⟩
    · obtain ⟨-, h⟩ := oif_some h
      obtain ⟨T6, e6, h⟩ := elet_some h
      rw [← osome1 h, e6, ui_at]
    · exact b20 _ _ _ _ h
theorem c_rec0 {o : Nat} (h : g_X5_record T o s d = some T1) : T1.2.2.1 d 2 = 0 := by
  have fin : ∀ {U U1 : AT}, g_X5_finish U o s d = some U1 → U1.2.2.1 d 2 = 0 := by
    intro U U1 h
    unfold g_X5_finish at h
    obtain ⟨-, h⟩ := oif_some h
    obtain ⟨n3, -, h⟩ := obind_some h
    obtain ⟨-, h⟩ := oif_some h
    obtain ⟨T5, -, h⟩ := obind_some h
    exact c_fin9 _ _ _ h
  have b6 : ∀ (n : Nat) (T : AT) (l3 : Int32), g_X5_record_b6 n T o s d l3 = some T1 → T1.2.2.1 d 2 = 0 := by
    intro n
    induction n with
    | zero => intro T l3 h; cases h
    | succ n ih =>
      have b92 : ∀ {T : AT} {l3 : Int32}, g_X5_record_b92 (g_X5_record_b6 n) T o s d l3 = some T1 → T1.2.2.1 d 2 = 0 := by
        intro T l3 h
        unfold g_X5_record_b92 at h
        obtain ⟨v2, -, h⟩ := elet_some h
        exact ih _ _ h
      have b34 : ∀ (f : Nat) (T : AT) (l3 : Int32) (l4 : Nat) (l5 : Int32), g_X5_record_b34 (g_X5_record_b6 n) f T o s d l3 l4 l5 = some T1 → T1.2.2.1 d 2 = 0 := by
        intro f
        induction f with
        | zero => intro T l3 l4 l5 h; cases h
        | succ f ih2 =>
          intro T l3 l4 l5 h
          unfold g_X5_record_b34 at h
          obtain ⟨-, h⟩ := oif_some h
          obtain ⟨v3, -, h⟩ := elet_some h
          rcases oif_or h with ⟨-, h⟩ | ⟨-, h⟩
          · exact b92 h
          · obtain ⟨-, h⟩ := oif_some h
            obtain ⟨n6, -, h⟩ := obind_some h
            obtain ⟨-, h⟩ := oif_some h
            obtain ⟨-, h⟩ := oif_some h
            obtain ⟨v9, -, h⟩ := elet_some h
            obtain ⟨-, h⟩ := oif_some h
            obtain ⟨n11, -, h⟩ := obind_some h
            obtain ⟨-, h⟩ := oif_some h
            obtain ⟨-, h⟩ := oif_some h
            obtain ⟨v14, -, h⟩ := elet_some h
            obtain ⟨r15, -, h⟩ := obind_some h
            obtain ⟨-, h⟩ := oif_some h
            obtain ⟨n18, -, h⟩ := obind_some h
            obtain ⟨-, h⟩ := oif_some h
            obtain ⟨-, h⟩ := oif_some h
            obtain ⟨v21, -, h⟩ := elet_some h
            obtain ⟨-, h⟩ := oif_some h
            obtain ⟨n23, -, h⟩ := obind_some h
            obtain ⟨-, h⟩ := oif_some h
            obtain ⟨-, h⟩ := oif_some h
            obtain ⟨v26, -, h⟩ := elet_some h
            obtain ⟨r27, -, h⟩ := obind_some h
            obtain ⟨-, h⟩ := oif_some h
            obtain ⟨T30, -, h⟩ := obind_some h
            obtain ⟨v32, -, h⟩ := elet_some h
            exact ih2 _ _ _ _ h
      intro T l3 h
      unfold g_X5_record_b6 at h
      obtain ⟨-, h⟩ := oif_some h
      obtain ⟨v3, -, h⟩ := elet_some h
      rcases oif_or h with ⟨-, h⟩ | ⟨-, h⟩
      · obtain ⟨-, h⟩ := oif_some h
        obtain ⟨T6, g6, h⟩ := obind_some h
        rw [← osome1 (show some T6 = some T1 from h)]
        exact fin g6
      · obtain ⟨-, h⟩ := oif_some h
        obtain ⟨n9, -, h⟩ := obind_some h
        obtain ⟨-, h⟩ := oif_some h
        obtain ⟨-, h⟩ := oif_some h
        obtain ⟨v12, -, h⟩ := elet_some h
        rcases oif_or h with ⟨-, h⟩ | ⟨-, h⟩
        · exact b92 h
        · obtain ⟨-, h⟩ := oif_some h
          obtain ⟨n15, -, h⟩ := obind_some h
          obtain ⟨-, h⟩ := oif_some h
          obtain ⟨-, h⟩ := oif_some h
          obtain ⟨n18, -, h⟩ := obind_some h
          exact b34 _ _ _ _ _ h
  unfold g_X5_record at h
  obtain ⟨-, h⟩ := oif_some h
  obtain ⟨T3, -, h⟩ := obind_some h
  exact b6 _ _ _ h
/-- a cleaning is counted -/
theorem c_sub53 {a : Nat} {l2 l3 l4 l5 : Int32} {c : Int32} {k18 : AT → Nat → Nat → Int32 → Int32 → Int32 → Int32 → Option AT} (hd : d ∈ sds) (ha : aR0 a = 50) (hk : ∀ {T : AT} {l : Int32}, CRF T → IV aR0 1586 aK1 aK2 T → T.2.2.1 d 2 = c → k18 T d a l2 l3 l4 l = some T1 → T1.2.2.1 d 2 = c + 1) : ∀ (f : Nat) {T : AT} {l6 : Int32}, CRF T → IV aR0 1586 aK1 aK2 T → T.2.2.1 d 2 = c → 0 ≤ l6.toInt → g_X8_subtractBeam_b53 k18 f T d a l2 l3 l4 l5 l6 = some T1 → T1.2.2.1 d 2 = c + 1 := by
  have rd := sd_ro hd
  have z0 : (0 : Int32).toInt = 0 := by decide
  have z1 : (1 : Int32).toInt = 1 := by decide
  have z200 : (200 : Int32).toInt = 200 := by decide
  intro f
  induction f with
  | zero => intro T l6 hc hV e h0 h; cases h
  | succ f ih =>
    have b115 : ∀ {T : AT} {l6 : Int32}, CRF T → IV aR0 1586 aK1 aK2 T → T.2.2.1 d 2 = c → 0 ≤ l6.toInt → l6.toInt ≤ 11 → g_X8_subtractBeam_b115 k18 (g_X8_subtractBeam_b53 k18 f) T d a l2 l3 l4 l5 l6 = some T1 → T1.2.2.1 d 2 = c + 1 := by
      intro T l6 hc hV e h0 h1 h
      unfold g_X8_subtractBeam_b115 at h
      obtain ⟨v2, e2, h⟩ := elet_some h
      have q2 := i_add (y := 1) e2 (by omega) (by omega)
      exact ih hc hV e (by omega) h
    intro T l6 hc hV e h0 h
    obtain ⟨-, -, -, -, -, -, -, d10, d11⟩ := sd_rf hc hd
    unfold g_X8_subtractBeam_b53 at h
    obtain ⟨-, h⟩ := oif_some h
    obtain ⟨v3, e3, h⟩ := elet_some h
    have m3 := iv_int hV rd.1 (by decide) (by decide) e3 (rfl : iR 8 0 = (0, 12))
    rcases oif_or h with ⟨-, h⟩ | ⟨cl, h⟩
    · obtain ⟨v5, -, h⟩ := elet_some h
      exact hk hc hV e h
    · have cl := i_nle cl
      obtain ⟨-, h⟩ := oif_some h
      obtain ⟨-, h⟩ := oif_some h
      obtain ⟨v8, -, h⟩ := elet_some h
      obtain ⟨v9, -, h⟩ := elet_some h
      obtain ⟨-, h⟩ := oif_some h
      obtain ⟨n11, -, h⟩ := obind_some h
      obtain ⟨-, h⟩ := oif_some h
      obtain ⟨-, h⟩ := oif_some h
      obtain ⟨v14, -, h⟩ := elet_some h
      rcases oif_or h with ⟨-, h⟩ | ⟨-, h⟩
      · rcases oif_or h with ⟨-, h⟩ | ⟨c9, h⟩
        · exact b115 hc hV e h0 (by omega) h
        · have c9 := i_nlt c9
          obtain ⟨-, h⟩ := oif_some h
          obtain ⟨v18, e18, h⟩ := elet_some h
          have m18 := iv_int hV rd.1 (by decide) (by decide) e18 (rfl : iR 8 1 = (0, 200))
          rcases oif_or h with ⟨-, h⟩ | ⟨c18, h⟩
          · exact b115 hc hV e h0 (by omega) h
          · have c18 := i_nle c18
            obtain ⟨-, h⟩ := oif_some h
            obtain ⟨n21, en, h⟩ := obind_some h
            rw [d10] at en
            cases en
            obtain ⟨r22, g22, h⟩ := obind_some h
            obtain ⟨-, h⟩ := oif_some h
            obtain ⟨n25, en, h⟩ := obind_some h
            rw [d11] at en
            cases en
            obtain ⟨-, h⟩ := oif_some h
            obtain ⟨T27, g27, h⟩ := obind_some h
            unfold g_X8_placeOf at g22
            obtain ⟨w2, f2, g22⟩ := elet_some g22
            obtain ⟨w3, f3, g22⟩ := elet_some g22
            have q2 := i_mulk2 f2 z200 (by omega) (by omega)
            have q3 := i_add f3 (by omega) (by omega)
            have e22 := osome1 g22
            have ct : (cnt 104 : Int) = 2400 := by decide
            have ct1 : (cnt 101 : Int) = 1 := by decide
            have q := tgo (c_add rd.2.2.2.2.2.2.2.2.1 (by decide) rd.2.2.2.2.2.2.2.2.2 (by decide) hV (by rw [← e22]; omega) (by omega)) g27
            refine b115 (crf_gr hc hV (sr_X10_add g27)) q.1 ?_ h0 (by omega) h
            rw [q.2.1 d 2 (.inl (by omega))]
            exact e
      · exact b115 hc hV e h0 (by omega) h
theorem c_sub18 {a : Nat} {l2 l3 l4 : Int32} {c : Int32} (hd : d ∈ sds) (ha : aR0 a = 50) : ∀ (f : Nat) {T : AT} {l5 : Int32}, CRF T → IV aR0 1586 aK1 aK2 T → T.2.2.1 d 2 = c → g_X8_subtractBeam_b18 f T d a l2 l3 l4 l5 = some T1 → T1.2.2.1 d 2 = c + 1 := by
  have rd := sd_ro hd
  have z0 : (0 : Int32).toInt = 0 := by decide
  have ct1 : (cnt 101 : Int) = 1 := by decide
  intro f
  induction f with
  | zero => intro T l5 hc hV e h; cases h
  | succ f ih =>
    intro T l5 hc hV e h
    unfold g_X8_subtractBeam_b18 at h
    rcases oif_or h with ⟨-, h⟩ | ⟨-, h⟩
    · obtain ⟨-, h⟩ := oif_some h
      obtain ⟨v4, e4, h⟩ := elet_some h
      obtain ⟨v5, e5, h⟩ := elet_some h
      obtain ⟨-, h⟩ := oif_some h
      obtain ⟨T7, e7, h⟩ := elet_some h
      rw [← osome1 h, e7, ui_at, e5, e4, e]
    · obtain ⟨-, h⟩ := oif_some h
      obtain ⟨T9, g9, h⟩ := obind_some h
      have q9 := tgo (cs_X8_focus T d a l5 hV rd.1 ha) g9
      have hc9 := crf_gr hc hV (sr_X8_focus g9)
      unfold g_X8_subtractBeam_b32 at h
      obtain ⟨-, h⟩ := oif_some h
      obtain ⟨n3, en, h⟩ := obind_some h
      rw [(sd_rf hc9 hd).2.2.2.2.2.2.2.2] at en
      cases en
      obtain ⟨-, h⟩ := oif_some h
      obtain ⟨T5, g5, h⟩ := obind_some h
      have q5 := tgo (c_multiply rd.2.2.2.2.2.2.2.2.2 (by decide) q9.1 (by omega)) g5
      have hc5 := crf_gr hc9 q9.1 (sr_X10_multiply g5)
      unfold g_X8_subtractBeam_b41 at h
      obtain ⟨-, h⟩ := oif_some h
      obtain ⟨n3, en, h⟩ := obind_some h
      rw [(sd_rf hc5 hd).2.2.2.2.2.2.2.2] at en
      cases en
      obtain ⟨-, h⟩ := oif_some h
      obtain ⟨T6, g6, h⟩ := obind_some h
      have q6 := tgo (c_divide rd.2.2.2.2.2.2.2.2.2 (by decide) q5.1 (by omega)) g6
      have hc6 := crf_gr hc5 q5.1 (sr_X10_divide g6)
      unfold g_X8_subtractBeam_b50 at h
      refine c_sub53 hd ha (fun {T l} a b e h => ih a b e h) 16384 hc6 q6.1 ?_ (by decide) h
      rw [q6.2.1 d 2 (.inl (by omega)), q5.2.1 d 2 (.inl (by omega)), q9.2 d 2 (by rw [rd.1]; rfl)]
      exact e
theorem c_subtract {a : Nat} {p : Int32} (hc : CRF T) (hV : IV aR0 1586 aK1 aK2 T) (hd : d ∈ sds) (ha : aR0 a = 50) (h : g_X8_subtractBeam T d a p = some T1) : T1.2.2.1 d 2 = T.2.2.1 d 2 + 1 := by
  have rd := (sd_ro hd).1
  unfold g_X8_subtractBeam at h
  obtain ⟨-, h⟩ := oif_some h
  obtain ⟨r5, T3, g3, h⟩ := obind2_some h
  obtain ⟨v7, -, h⟩ := elet_some h
  obtain ⟨-, h⟩ := oif_some h
  obtain ⟨r11, T9, g9, h⟩ := obind2_some h
  have e3 : T3 = T := (tgo (cs_X8_activeWeight T d hV rd) g3).1
  rw [e3] at g9
  have e9 : T9 = T := (tgo (cs_X8_windowOf T d a hV rd ha) g9).1
  rw [e9] at h
  exact c_sub18 hd ha 16384 hc hV rfl h
end
end
section
/-! 23f.rel2.lean.txt -/
/-! R2: what class and reference hold alike between calls: R1, delays, states (all but samples), the past, what is saved -/
section
variable {T T1 : AT} {S S1 : MS} {P P1 A A1 : Nat → Int32} {d e o o1 s : Nat}
def STa (T : AT) (d : Nat) (P A : Nat → Int32) (o : Nat) : Prop :=
  T.2.2.1 d 0 = P 4 ∧ T.2.2.1 d 1 = P 2 ∧ T.2.2.1 d 2 = A o
  ∧ (∀ m : Nat, (m : Int) < (P 4).toInt → T.2.2.1 (d + 1) m = A (o + 1 + m) ∧ T.2.2.1 (d + 2) m = A (o + 13 + m))
  ∧ ∀ k : Nat, (k : Int) < (P 5).toInt → T.2.2.1 (d + 3) k = A (o + 25 + k) ∧ T.2.2.1 (d + 4) k = A (o + 31 + k) ∧ T.2.2.1 (d + 5) k = A (o + 37 + k) ∧ T.2.2.1 (d + 6) k = A (o + 43 + k) ∧ T.2.2.1 (d + 7) k = A (o + 49 + k)
/-- the cells of state d in T1 stand as those of e in T, the row A1 from o1 on as A from o on -/
theorem STa.mv (h : STa T e P A o) (p4 : (P 4).toInt ≤ 12) (p5 : (P 5).toInt ≤ 6) (h3 : ∀ j, j < 3 → T1.2.2.1 d j = T.2.2.1 e j) (h12 : ∀ k, k < 12 → T1.2.2.1 (d + 1) k = T.2.2.1 (e + 1) k ∧ T1.2.2.1 (d + 2) k = T.2.2.1 (e + 2) k) (h6 : ∀ k, k < 6 → T1.2.2.1 (d + 3) k = T.2.2.1 (e + 3) k ∧ T1.2.2.1 (d + 4) k = T.2.2.1 (e + 4) k ∧ T1.2.2.1 (d + 5) k = T.2.2.1 (e + 5) k ∧ T1.2.2.1 (d + 6) k = T.2.2.1 (e + 6) k ∧ T1.2.2.1 (d + 7) k = T.2.2.1 (e + 7) k) (hA : ∀ x, x < 55 → A1 (o1 + x) = A (o + x)) (hP : ∀ x, x < 131 → P1 x = P x) : STa T1 d P1 A1 o1 := by
  obtain ⟨a0, a1, a2, am, ak⟩ := h
  refine ⟨?_, ?_, ?_, fun m hm => ?_, fun k hk => ?_⟩
  · rw [h3 0 (by decide), hP 4 (by decide)]; exact a0
  · rw [h3 1 (by decide), hP 2 (by decide)]; exact a1
  · rw [h3 2 (by decide)]
    exact a2.trans (hA 0 (by decide)).symm
  · rw [hP 4 (by decide)] at hm
    obtain ⟨b1, b2⟩ := am m hm
    obtain ⟨c1, c2⟩ := h12 m (by omega)
    rw [c1, c2, b1, b2, Nat.add_assoc o1, Nat.add_assoc o1, hA _ (by omega), hA _ (by omega), Nat.add_assoc o, Nat.add_assoc o]
    exact ⟨rfl, rfl⟩
  · rw [hP 5 (by decide)] at hk
    obtain ⟨b1, b2, b3, b4, b5⟩ := ak k hk
    obtain ⟨c1, c2, c3, c4, c5⟩ := h6 k (by omega)
    rw [c1, c2, c3, c4, c5, b1, b2, b3, b4, b5, Nat.add_assoc o1, Nat.add_assoc o1, Nat.add_assoc o1, Nat.add_assoc o1, Nat.add_assoc o1, hA _ (by omega), hA _ (by omega), hA _ (by omega), hA _ (by omega), hA _ (by omega), Nat.add_assoc o, Nat.add_assoc o, Nat.add_assoc o, Nat.add_assoc o, Nat.add_assoc o]
    exact ⟨rfl, rfl, rfl, rfl, rfl⟩
theorem STa.cg (h : STa T d P A o) (p4 : (P 4).toInt ≤ 12) (p5 : (P 5).toInt ≤ 6) (hT : ∀ m k, d ≤ m → m < d + 8 → m ≠ d ∨ k < 3 → T1.2.2.1 m k = T.2.2.1 m k) (hA : ∀ x, x < 55 → A1 (o1 + x) = A (o + x)) (hP : ∀ x, x < 131 → P1 x = P x) : STa T1 d P1 A1 o1 :=
  h.mv p4 p5 (fun j hj => hT _ _ (by omega) (by omega) (.inr hj)) (fun k _ => ⟨hT _ _ (by omega) (by omega) (.inl (by omega)), hT _ _ (by omega) (by omega) (.inl (by omega))⟩) (fun k _ => ⟨hT _ _ (by omega) (by omega) (.inl (by omega)), hT _ _ (by omega) (by omega) (.inl (by omega)), hT _ _ (by omega) (by omega) (.inl (by omega)), hT _ _ (by omega) (by omega) (.inl (by omega)), hT _ _ (by omega) (by omega) (.inl (by omega))⟩) hA hP
def DLq (T : AT) (S : MS) : Prop := ∀ s, T.2.2.2.2 0 14 = some s → ∀ c m : Nat, (c : Int) < (S.2.1 10 9 * S.2.1 10 10).toInt → (m : Int) < (S.2.1 10 4).toInt → T.2.2.1 (s + 16 + c) m = S.2.1 17 (12 * c + m)
def PSq (T : AT) (S : MS) : Prop := ∃ u w : Nat, u ≤ 6 ∧ w ≤ 5 ∧ S.1 19 = nI u ∧ T.2.2.1 0 17 = nI w ∧ ∀ j, j < u → STa T (834 + 94 * ((w + 7 + j - u) % 6)) (S.2.1 10) (S.2.1 15) (2455 * j)
def SVq (T : AT) (S : MS) : Prop := ∀ k, k < 2 → S.2.1 18 k ≠ 0 → STa T (1398 + 94 * k) (S.2.1 10) (S.2.1 16) (2455 * k)
def R2 (T : AT) (S : MS) : Prop := R1 T S ∧ T.2.2.1 0 16 = S.1 19 ∧ ((∀ k, k < 2 → T.2.2.1 432 k = S.2.1 18 k) ∧ (S.1 20 = 0 → S.1 19 = 0 ∧ ∀ k, k < 2 → S.2.1 18 k = 0)) ∧ (S.1 20 = 1 → STa T 242 (S.2.1 10) (S.2.1 12) 0 ∧ DLq T S ∧ PSq T S ∧ SVq T S)
/-- class: what R2 speaks of is as it was -/
def CKr (T T1 : AT) : Prop := T1.2.2.1 0 16 = T.2.2.1 0 16 ∧ T1.2.2.1 0 17 = T.2.2.1 0 17 ∧ (∀ k, T1.2.2.1 432 k = T.2.2.1 432 k) ∧ (∀ d, d ∈ sds → d ≠ 336 → ∀ m k, d ≤ m → m < d + 8 → m ≠ d ∨ k < 3 → T1.2.2.1 m k = T.2.2.1 m k) ∧ (∀ s c k, (s = 478 ∨ s = 656) → c < 144 → T1.2.2.1 (s + 16 + c) k = T.2.2.1 (s + 16 + c) k) ∧ T1.2.2.2.2 0 14 = T.2.2.2.2 0 14
theorem CKr.rf : CKr T T := ⟨rfl, rfl, fun _ => rfl, fun _ _ _ _ _ _ _ _ => rfl, fun _ _ _ _ _ => rfl, rfl⟩
theorem CKr.tr {T2 : AT} (h : CKr T T1) (k : CKr T1 T2) : CKr T T2 := ⟨k.1.trans h.1, k.2.1.trans h.2.1, fun j => (k.2.2.1 j).trans (h.2.2.1 j), fun d a b m j x y z => (k.2.2.2.1 d a b m j x y z).trans (h.2.2.2.1 d a b m j x y z), fun s c j x y => (k.2.2.2.2.1 s c j x y).trans (h.2.2.2.2.1 s c j x y), k.2.2.2.2.2.trans h.2.2.2.2.2⟩
def FKr (S S1 : MS) : Prop := S1.1 19 = S.1 19 ∧ S1.1 20 = S.1 20 ∧ S1.2.1 10 = S.2.1 10 ∧ S1.2.1 12 = S.2.1 12 ∧ S1.2.1 15 = S.2.1 15 ∧ S1.2.1 16 = S.2.1 16 ∧ S1.2.1 17 = S.2.1 17 ∧ S1.2.1 18 = S.2.1 18
theorem r2_pl (hP : PL (S.2.1 10)) : (S.2.1 10 4).toInt ≤ 12 ∧ (S.2.1 10 5).toInt ≤ 6 := ⟨(pl_4 hP).2, (pl_5 hP).2⟩
theorem pas_ne {i : Nat} : 834 + 94 * i ≠ 336 := by omega
theorem slo_ne {i : Nat} : 1398 + 94 * i ≠ 336 := by omega
theorem DLq.cg (h : DLq T S) (hc : CKr T T1) (hs : ∀ s, T.2.2.2.2 0 14 = some s → s = 478 ∨ s = 656) (p : (S.2.1 10 9 * S.2.1 10 10).toInt ≤ 144) (hP : S1.2.1 10 = S.2.1 10) (h17 : S1.2.1 17 = S.2.1 17) : DLq T1 S1 := by
  intro s h14 c m hc1 hm
  rw [hc.2.2.2.2.2] at h14
  rw [hP] at hc1 hm
  rw [hc.2.2.2.2.1 s c m (hs s h14) (by omega), h17]
  exact h s h14 c m hc1 hm
theorem PSq.cg (h : PSq T S) (hc : CKr T T1) (p4 : (S.2.1 10 4).toInt ≤ 12) (p5 : (S.2.1 10 5).toInt ≤ 6) (h19 : S1.1 19 = S.1 19) (hP : S1.2.1 10 = S.2.1 10) (h15 : S1.2.1 15 = S.2.1 15) : PSq T1 S1 := by
  obtain ⟨u, w, hu, hw, eu, ew, hj⟩ := h
  refine ⟨u, w, hu, hw, h19.trans eu, hc.2.1.trans ew, fun j h => ?_⟩
  rw [hP, h15]
  exact (hj j h).cg p4 p5 (hc.2.2.2.1 _ (past_in (Nat.mod_lt _ (by decide))) pas_ne) (fun _ _ => rfl) (fun _ _ => rfl)
theorem SVq.cg (h : SVq T S) (hc : CKr T T1) (p4 : (S.2.1 10 4).toInt ≤ 12) (p5 : (S.2.1 10 5).toInt ≤ 6) (hP : S1.2.1 10 = S.2.1 10) (h16 : S1.2.1 16 = S.2.1 16) (h18 : S1.2.1 18 = S.2.1 18) : SVq T1 S1 := by
  intro k hk hn
  rw [h18] at hn
  rw [hP, h16]
  exact (h k hk hn).cg p4 p5 (hc.2.2.2.1 _ (slot_in hk) slo_ne) (fun _ _ => rfl) (fun _ _ => rfl)
theorem r1_s (h : R1 T S) {s : Nat} (h14 : T.2.2.2.2 0 14 = some s) : s = 478 ∨ s = 656 := by
  obtain ⟨s', hs, e, -⟩ := h.2.2.2.2
  rw [h14] at e
  cases e
  exact hs
theorem r2_keepG (hL : S.1 20 = 1 → PL (S.2.1 10)) (h : R2 T S) (h1 : R1 T1 S1) (hT : CKr T T1) (hS : FKr S S1) : R2 T1 S1 := by
  obtain ⟨hr, h16, h18, hs⟩ := h
  obtain ⟨f19, f20, f10, f12, f15, f16, f17, f18⟩ := hS
  refine ⟨h1, hT.1.trans (h16.trans f19.symm), ⟨fun k hk => by rw [hT.2.2.1 k, f18]; exact h18.1 k hk, fun z => by
    rw [f20] at z
    rw [f19, f18]
    exact h18.2 z⟩, fun c => ?_⟩
  rw [f20] at c
  obtain ⟨a, b, p, v⟩ := hs c
  have hP := hL c
  obtain ⟨p4, p5⟩ := r2_pl hP
  refine ⟨?_, b.cg hT (fun s => r1_s hr) (pl_cell hP).2.2.1 f10 f17, p.cg hT p4 p5 f19 f10 f15, v.cg hT p4 p5 f10 f16 f18⟩
  rw [f10, f12]
  exact a.cg p4 p5 (hT.2.2.2.1 242 (by decide) (by decide)) (fun _ _ => rfl) (fun _ _ => rfl)
def okW2 (W : List Nat) : Bool := [256, 257, 258, 1984, 2016, 2048, 2080, 2112, 1600, 368, 369, 1568].all (fun x => !(W.contains x))
set_option maxRecDepth 100000 in
theorem dl_dec : [478, 656].all (fun s => (List.range 144).all (fun c => Nat.beq (aR0 (s + 16 + c)) 50)) = true := by decide +kernel
theorem dl_ro (hs : s = 478 ∨ s = 656) {c : Nat} (hc : c < 144) : aR0 (s + 16 + c) = 50 := by
  have q := List.all_eq_true.mp dl_dec s (by rcases hs with e | e <;> rw [e] <;> decide)
  exact Nat.eq_of_beq_eq_true (a_fin (p := fun c => Nat.beq (aR0 (s + 16 + c)) 50) q hc)
theorem ck_st {W : List Nat} (hw : FW aR0 W T T1) (f : ∀ x, x ∈ [256, 257, 258, 1984, 2016, 2048, 2080, 2112] → W.contains x = false) (hd : d ∈ sds) : ∀ m k, d ≤ m → m < d + 8 → m ≠ d ∨ k < 3 → T1.2.2.1 m k = T.2.2.1 m k := by
  obtain ⟨r0, r1, r2, r3, r4, r5, r6, r7, -⟩ := sd_ro hd
  intro m k h1 h2 h3
  refine hw m k ?_
  rcases (show m = d ∨ m = d + 1 ∨ m = d + 2 ∨ m = d + 3 ∨ m = d + 4 ∨ m = d + 5 ∨ m = d + 6 ∨ m = d + 7 by omega) with q | q | q | q | q | q | q | q <;> subst q
  · rw [r0]
    rcases (show k = 0 ∨ k = 1 ∨ k = 2 by omega) with q | q | q <;> subst q
    · exact f 256 (by decide)
    · exact f 257 (by decide)
    · exact f 258 (by decide)
  · rw [r1]; exact f 1984 (by decide)
  · rw [r2]; exact f 2016 (by decide)
  · rw [r3]; exact f 2048 (by decide)
  · rw [r4]; exact f 2080 (by decide)
  · rw [r5]; exact f 2080 (by decide)
  · rw [r6]; exact f 2112 (by decide)
  · rw [r7]; exact f 2112 (by decide)
theorem okW2_f {W : List Nat} (c : okW2 W = true) (x : Nat) (hx : x ∈ [256, 257, 258, 1984, 2016, 2048, 2080, 2112, 1600, 368, 369, 1568]) : W.contains x = false := con_f (W := W) (List.all_eq_true.mp c x hx)
theorem sub8 {x : Nat} (hx : x ∈ [256, 257, 258, 1984, 2016, 2048, 2080, 2112]) : x ∈ [256, 257, 258, 1984, 2016, 2048, 2080, 2112, 1600, 368, 369, 1568] := by
  rw [show [256, 257, 258, 1984, 2016, 2048, 2080, 2112, 1600, 368, 369, 1568] = [256, 257, 258, 1984, 2016, 2048, 2080, 2112] ++ [1600, 368, 369, 1568] from rfl]
  exact List.mem_append_left _ hx
theorem r432 : aR0 432 = 49 := by decide +kernel
theorem ck_fw {W : List Nat} (hV : IV aR0 1586 aK1 aK2 T) (hw : FW aR0 W T T1) (c : okW2 W = true) (hg : GR T T1) : CKr T T1 := by
  have r0 := rrole.2.2.2
  refine ⟨hw 0 16 ?_, hw 0 17 ?_, fun k => hw 432 k ?_, fun d hd _ => ck_st hw (fun x hx => okW2_f c x (sub8 hx)) hd, fun s c' k hs hc => hw _ k ?_, e14_gr hV hg⟩
  · rw [r0]; exact okW2_f c 368 (by decide)
  · rw [r0]; exact okW2_f c 369 (by decide)
  · rw [r432]; exact okW2_f c 1568 (by decide)
  · rw [dl_ro hs hc]; exact okW2_f c 1600 (by decide)
theorem ck_eq (h : T1 = T) : CKr T T1 := by rw [h]; exact CKr.rf
theorem sd_nw {m : Nat} (hd : d ∈ sds) (h1 : d ≤ m) (h2 : m < d + 8) : isW (aR0 m) = false := by
  obtain ⟨r0, r1, r2, r3, r4, r5, r6, r7, -⟩ := sd_ro hd
  rcases (show m = d ∨ m = d + 1 ∨ m = d + 2 ∨ m = d + 3 ∨ m = d + 4 ∨ m = d + 5 ∨ m = d + 6 ∨ m = d + 7 by omega) with q | q | q | q | q | q | q | q <;> subst q
  · rw [r0]; rfl
  · rw [r1]; rfl
  · rw [r2]; rfl
  · rw [r3]; rfl
  · rw [r4]; rfl
  · rw [r5]; rfl
  · rw [r6]; rfl
  · rw [r7]; rfl
/-- a copy into the state of trials -/
theorem ck_trial (hV : IV aR0 1586 aK1 aK2 T) (h : CPd 336 242 T T1) (hg : GR T T1) : CKr T T1 := by
  have r0 := rrole.2.2.2
  refine ⟨h.2.2.2 0 16 (.inl (by decide)) (by rw [r0]; rfl), h.2.2.2 0 17 (.inl (by decide)) (by rw [r0]; rfl), fun k => h.2.2.2 432 k (.inr (by decide)) (by rw [r432]; rfl), fun d hd hne m k h1 h2 _ => h.2.2.2 m k ?_ (sd_nw hd h1 h2), fun s c k hs hc => h.2.2.2 _ k (.inr (by omega)) (by rw [dl_ro hs hc]; rfl), e14_gr hV hg⟩
  have gap := sd_gap hd (show 336 ∈ sds from by decide) hne
  omega
/-- a recording into the state of trials -/
theorem ck_out {W : List Nat} (hV : IV aR0 1586 aK1 aK2 T) (hs : s = 478 ∨ s = 656) (o : ∀ m k, ¬ (7 ≤ m ∧ m < 22) → ¬ (s ≤ m ∧ m < s + 178) → ¬ (336 ≤ m ∧ m < 430) → T1.2.2.1 m k = T.2.2.1 m k) (hw : FW aR0 W T T1) (c : W.contains 1600 = false) (hg : GR T T1) : CKr T T1 := by
  refine ⟨o 0 16 (by omega) (by omega) (by omega), o 0 17 (by omega) (by omega) (by omega), fun k => o 432 k (by omega) (by omega) (by omega), fun d hd hne m k h1 h2 _ => ?_, fun s c' k hs hc => hw _ k (by rw [dl_ro hs hc]; exact c), e14_gr hV hg⟩
  have gap := sd_gap hd (show 336 ∈ sds from by decide) hne
  have si := sd_in hd
  exact o m k (by omega) (by omega) (by omega)
theorem ck_uI {n k : Nat} {v : Int32} (hn : 336 ≤ n ∧ n < 344) : CKr T (uI T n k v) := by
  refine ⟨ui_ne (.inl (by omega)), ui_ne (.inl (by omega)), fun j => ui_ne (.inl (by omega)), fun d hd hne m j h1 h2 _ => ui_ne (.inl ?_), fun s c j hs hc => ui_ne (.inl (by omega)), rfl⟩
  have gap := sd_gap hd (show 336 ∈ sds from by decide) hne
  omega
end
end
section
/-! 23g.steps.lean.txt -/
/-! R2 through the steps of a change -/
section
variable {T T1 : AT} {S S1 : MS} {s : Nat}
/-- both keep the state as it is for undo -/
theorem r2_keepu (hP : PL (S.2.1 10)) (h20 : S.1 20 = 1) (hV : IV aR0 1586 aK1 aK2 T) (h : R2 T S) (g : g_X11_keepForUndo T 0 = some T1) (f : fr_remember S = some S1) : R2 T1 S1 ∧ IV aR0 1586 aK1 aK2 T1 ∧ S1.1 20 = 1 ∧ S1.2.1 10 = S.2.1 10 ∧ S1.2.1 12 = S.2.1 12 ∧ S1.1 0 = S.1 0 ∧ ∀ m k, 242 ≤ m → m < 250 → m ≠ 242 ∨ k < 3 → T1.2.2.1 m k = T.2.2.1 m k := by
  obtain ⟨hr, h16, h18, hs⟩ := h
  obtain ⟨a, b, ⟨u, w, hu, hw, eu, ew, hj⟩, v⟩ := hs h20
  obtain ⟨p4, p5⟩ := r2_pl hP
  have c := tgo (cs_X11_keepForUndo T 0 hV rrole.2.2.2) g
  have k := w_fr_remember f
  obtain ⟨U, cp, k16, k17, ko⟩ := c_keepu hr.1 hV hu hw (h16.trans eu) ew g
  obtain ⟨x, hx, x19, xl, xo⟩ := x_remember hu eu f
  have gr := sr_X11_keepForUndo g
  have w6 : (w + 1) % 6 < 6 := Nat.mod_lt _ (by decide)
  have R : R1 T1 S1 := r1_keep hr hV c.2 (by decide +kernel) gr ⟨k.1 2 (by decide), k.1 5 (by decide), k.1 6 (by decide), k.1 20 (by decide), k.2 1 (by decide), k.2 10 (by decide)⟩
  have f10 := k.2 10 (by decide)
  have f12 := k.2 12 (by decide)
  have e14 := e14_gr hV gr
  have st : ∀ d, d ∈ sds → d ≠ 834 + 94 * ((w + 1) % 6) → ∀ m k, d ≤ m → m < d + 8 → T1.2.2.1 m k = T.2.2.1 m k := fun d hd hne m k h1 h2 => by
    have gap := sd_gap hd (past_in w6) hne
    have si := sd_in hd
    rw [ko m k (by omega) (by omega), cp.2.2.2 m k (by omega) (sd_nw hd h1 h2)]
  have s242 : ∀ m k, 242 ≤ m → m < 250 → m ≠ 242 ∨ k < 3 → T1.2.2.1 m k = T.2.2.1 m k := fun m k h1 h2 _ => st 242 (by decide) (by omega) m k h1 h2
  refine ⟨⟨R, ?_, ⟨fun j hj => ?_, fun z => absurd ((k.1 20 (by decide)).symm.trans z) (by rw [h20]; decide)⟩, fun _ => ⟨?_, ?_, ?_, ?_⟩⟩, c.1, (k.1 20 (by decide)).trans h20, f10, f12, k.1 0 (by decide), s242⟩
  · rw [k16, x19]
    rcases hx with ⟨q, q2⟩ | ⟨q, q2⟩
    · rw [if_neg (by omega), q2]
    · rw [if_pos q, q2]
  · rw [ko 432 j (by decide) (by decide), cp.2.2.2 432 j (by omega) (by rw [r432]; rfl), k.2 18 (by decide)]
    exact h18.1 j hj
  · rw [f10, f12]
    exact a.cg p4 p5 s242 (fun _ _ => rfl) (fun _ _ => rfl)
  · intro s e c' m hc hm
    rw [e14] at e
    rw [f10] at hc hm
    have si := r1_s hr e
    have pc := (pl_cell hP).2.2.1
    rw [ko _ m (by omega) (by omega), cp.2.2.2 _ m (by omega) (by rw [dl_ro si (by omega)]; rfl), k.2 17 (by decide)]
    exact b s e c' m hc hm
  · refine ⟨x, (w + 1) % 6, by omega, by omega, x19, k17, fun j hjx => ?_⟩
    rw [f10]
    by_cases q : j + 1 = x
    · have e1 : ((w + 1) % 6 + 7 + j - x) % 6 = (w + 1) % 6 := by omega
      have e2 : j = x - 1 := by omega
      rw [e1, e2]
      refine a.mv p4 p5 (fun i hi => ?_) (fun i hi => ?_) (fun i hi => ?_) (fun y hy => ?_) (fun _ _ => rfl)
      · rw [ko _ i (by omega) (by omega)]; exact cp.1 i hi
      · rw [ko _ i (by omega) (by omega), ko _ i (by omega) (by omega)]; exact cp.2.1 i hi
      · rw [ko _ i (by omega) (by omega), ko _ i (by omega) (by omega), ko _ i (by omega) (by omega), ko _ i (by omega) (by omega), ko _ i (by omega) (by omega)]; exact cp.2.2.1 i hi
      · rw [xl y (by omega), Nat.zero_add]
    · have e1 : ((w + 1) % 6 + 7 + j - x) % 6 = (w + 7 + (j + (u + 1 - x)) - u) % 6 := by omega
      have ne : (w + 7 + (j + (u + 1 - x)) - u) % 6 ≠ (w + 1) % 6 := by omega
      rw [e1]
      have l6 : (w + 7 + (j + (u + 1 - x)) - u) % 6 < 6 := Nat.mod_lt _ (by decide)
      exact (hj (j + (u + 1 - x)) (by omega)).cg p4 p5 (fun m i h1 h2 _ => st _ (past_in l6) (by omega) m i h1 h2) (fun y hy => xo j y (by omega) (by omega)) (fun _ _ => rfl)
  · intro i hi hn
    rw [k.2 18 (by decide)] at hn
    rw [f10, k.2 16 (by decide)]
    exact (v i hi hn).cg p4 p5 (fun m j h1 h2 _ => st _ (slot_in hi) (by omega) m j h1 h2) (fun _ _ => rfl) (fun _ _ => rfl)
/-- a number of the state is set in both: a-th row of the class, from off on in the reference -/
def rowat (a off b : Nat) : Prop := a = 1 ∧ off = 1 ∧ b = 12 ∨ a = 2 ∧ off = 13 ∧ b = 12 ∨ a = 3 ∧ off = 25 ∧ b = 6 ∨ a = 4 ∧ off = 31 ∧ b = 6 ∨ a = 5 ∧ off = 37 ∧ b = 6 ∨ a = 6 ∧ off = 43 ∧ b = 6 ∨ a = 7 ∧ off = 49 ∧ b = 6
theorem st_set {P A : Nat → Int32} {a off b k : Nat} {x : Int32} (hr : rowat a off b) (hk : k < b) (p4 : (P 4).toInt ≤ 12) (p5 : (P 5).toInt ≤ 6) (h : STa T 242 P A 0) : STa (uI T (242 + a) k x) 242 P (upd A (off + k) x) 0 := by
  unfold rowat at hr
  obtain ⟨a0, a1, a2, am, ak⟩ := h
  have key : ∀ r o j : Nat, (242 + r = 242 + a ∧ j = k ↔ 0 + o + j = off + k) → T.2.2.1 (242 + r) j = A (0 + o + j) → (uI T (242 + a) k x).2.2.1 (242 + r) j = upd A (off + k) x (0 + o + j) := fun r o j hq e => by
    rw [ui_get]
    show _ = if 0 + o + j = off + k then x else A (0 + o + j)
    by_cases q : 242 + r = 242 + a ∧ j = k
    · rw [if_pos q, if_pos (hq.mp q)]
    · rw [if_neg q, if_neg (fun z => q (hq.mpr z))]; exact e
  refine ⟨?_, ?_, ?_, fun m hm => ?_, fun m hm => ?_⟩
  · rw [ui_ne (.inl (by omega))]; exact a0
  · rw [ui_ne (.inl (by omega))]; exact a1
  · rw [ui_ne (.inl (by omega))]
    show _ = if 0 = off + k then x else A 0
    rw [if_neg (by omega)]; exact a2
  · obtain ⟨b1, b2⟩ := am m hm
    exact ⟨key 1 1 m (by omega) b1, key 2 13 m (by omega) b2⟩
  · obtain ⟨b1, b2, b3, b4, b5⟩ := ak m hm
    exact ⟨key 3 25 m (by omega) b1, key 4 31 m (by omega) b2, key 5 37 m (by omega) b3, key 6 43 m (by omega) b4, key 7 49 m (by omega) b5⟩
theorem r2_set {a off b k : Nat} {x : Int32} (hP : PL (S.2.1 10)) (hV : IV aR0 1586 aK1 aK2 T) (hr : rowat a off b) (hk : k < b) (h : R2 T S) : R2 (uI T (242 + a) k x) (mf S 12 (upd (S.2.1 12) (off + k) x)) := by
  obtain ⟨h1, h16, h18, hs⟩ := h
  obtain ⟨p4, p5⟩ := r2_pl hP
  have ha : 1 ≤ a ∧ a ≤ 7 := by unfold rowat at hr; omega
  obtain ⟨r0, r1, r2, r3, r4, r5, r6, r7, -⟩ := sd_ro (show 242 ∈ sds from by decide)
  have fw : ∃ W, FW aR0 W T (uI T (242 + a) k x) ∧ okW W = true := by
    rcases (show a = 1 ∨ a = 2 ∨ a = 3 ∨ a = 4 ∨ a = 5 ∨ a = 6 ∨ a = 7 by omega) with q | q | q | q | q | q | q <;> subst q
    · exact ⟨[1984], fw_uA rfl r1 rfl rfl (by decide), by decide +kernel⟩
    · exact ⟨[2016], fw_uA rfl r2 rfl rfl (by decide), by decide +kernel⟩
    · exact ⟨[2048], fw_uA rfl r3 rfl rfl (by decide), by decide +kernel⟩
    · exact ⟨[2080], fw_uA rfl r4 rfl rfl (by decide), by decide +kernel⟩
    · exact ⟨[2080], fw_uA rfl r5 rfl rfl (by decide), by decide +kernel⟩
    · exact ⟨[2112], fw_uA rfl r6 rfl rfl (by decide), by decide +kernel⟩
    · exact ⟨[2112], fw_uA rfl r7 rfl rfl (by decide), by decide +kernel⟩
  obtain ⟨W, hw, ow⟩ := fw
  refine ⟨r1_keep h1 hV hw ow (gr_sp ⟨rfl, rfl, rfl⟩) ⟨rfl, rfl, rfl, rfl, mf_ne (by decide), mf_ne (by decide)⟩, ?_, ⟨fun j hj => ?_, fun z => ?_⟩, fun h20 => ?_⟩
  · rw [ui_ne (.inl (by omega))]; exact h16
  · rw [ui_ne (.inl (by omega)), mf_ne (by decide)]; exact h18.1 j hj
  · rw [mf_ne (by decide)]; exact h18.2 z
  · obtain ⟨c, d, ⟨u, w, hu, hw, eu, ew, hj⟩, v⟩ := hs h20
    refine ⟨?_, ?_, ⟨u, w, hu, hw, eu, ?_, fun j q => ?_⟩, fun j q n => ?_⟩
    · rw [mf_at, mf_ne (by decide)]
      exact st_set hr hk p4 p5 c
    · intro s e c' m hc hm
      have si := r1_s h1 e
      have pc := (pl_cell hP).2.2.1
      rw [mf_ne (by decide)] at hc hm
      rw [ui_ne (.inl (by omega)), mf_ne (by decide)]
      exact d s e c' m hc hm
    · rw [ui_ne (.inl (by omega))]; exact ew
    · rw [mf_ne (by decide), mf_ne (by decide)]
      exact (hj j q).cg p4 p5 (fun m i h1 h2 _ => ui_ne (.inl (by omega))) (fun _ _ => rfl) (fun _ _ => rfl)
    · rw [mf_ne (by decide)] at n
      rw [mf_ne (by decide), mf_ne (by decide)]
      exact (v j q n).cg p4 p5 (fun m i h1 h2 _ => ui_ne (.inl (by omega))) (fun _ _ => rfl) (fun _ _ => rfl)
/-- only how often the state has been cleaned is another: the rest of now as it was -/
theorem r2_now (hP : PL (S.2.1 10)) (h : R2 T S) (h1 : R1 T1 S1) (hT : ∀ d, d ∈ sds → d ≠ 336 → ∀ m k, d ≤ m → m < d + 8 → (m ≠ d ∨ k < 2) → T1.2.2.1 m k = T.2.2.1 m k) (hp : ∀ d, d ∈ sds → d ≠ 336 → d ≠ 242 → T1.2.2.1 d 2 = T.2.2.1 d 2) (hc : T1.2.2.1 0 16 = T.2.2.1 0 16 ∧ T1.2.2.1 0 17 = T.2.2.1 0 17 ∧ (∀ k, T1.2.2.1 432 k = T.2.2.1 432 k) ∧ (∀ s c k, (s = 478 ∨ s = 656) → c < 144 → T1.2.2.1 (s + 16 + c) k = T.2.2.1 (s + 16 + c) k) ∧ T1.2.2.2.2 0 14 = T.2.2.2.2 0 14) (hS : S1.1 19 = S.1 19 ∧ S1.1 20 = S.1 20 ∧ S1.2.1 10 = S.2.1 10 ∧ S1.2.1 15 = S.2.1 15 ∧ S1.2.1 16 = S.2.1 16 ∧ S1.2.1 17 = S.2.1 17 ∧ S1.2.1 18 = S.2.1 18) (hl : ∀ x, 1 ≤ x → x < 55 → S1.2.1 12 x = S.2.1 12 x) (h2 : S.1 20 = 1 → T1.2.2.1 242 2 = S1.2.1 12 0) : R2 T1 S1 := by
  obtain ⟨hr, h16, h18, hs⟩ := h
  obtain ⟨f19, f20, f10, f15, f16, f17, f18⟩ := hS
  obtain ⟨c16, c17, c432, cdl, c14⟩ := hc
  obtain ⟨p4, p5⟩ := r2_pl hP
  have st : ∀ d, d ∈ sds → d ≠ 336 → d ≠ 242 → ∀ m k, d ≤ m → m < d + 8 → (m ≠ d ∨ k < 3) → T1.2.2.1 m k = T.2.2.1 m k := fun d hd n1 n2 m k h1 h2 h3 => by
    by_cases q : m = d ∧ k = 2
    · rw [q.1, q.2]; exact hp d hd n1 n2
    · exact hT d hd n1 m k h1 h2 (by omega)
  refine ⟨h1, c16.trans (h16.trans f19.symm), ⟨fun k hk => by rw [c432 k, f18]; exact h18.1 k hk, fun z => by
    rw [f20] at z
    rw [f19, f18]
    exact h18.2 z⟩, fun c => ?_⟩
  rw [f20] at c
  obtain ⟨⟨a0, a1, a2, am, ak⟩, b, ⟨u, w, hu, hw, eu, ew, hj⟩, v⟩ := hs c
  have hT := hT 242 (by decide) (by decide)
  refine ⟨⟨?_, ?_, h2 c, fun m hm => ?_, fun k hk => ?_⟩, ?_, ⟨u, w, hu, hw, f19.trans eu, c17.trans ew, fun j hjq => ?_⟩, fun k hk hn => ?_⟩
  · rw [hT 242 0 (by decide) (by decide) (.inr (by decide)), f10]; exact a0
  · rw [hT 242 1 (by decide) (by decide) (.inr (by decide)), f10]; exact a1
  · rw [f10] at hm
    obtain ⟨b1, b2⟩ := am m hm
    rw [hT _ m (by omega) (by omega) (.inl (by omega)), hT _ m (by omega) (by omega) (.inl (by omega)), hl _ (by omega) (by omega), hl _ (by omega) (by omega)]
    exact ⟨b1, b2⟩
  · rw [f10] at hk
    obtain ⟨b1, b2, b3, b4, b5⟩ := ak k hk
    rw [hT _ k (by omega) (by omega) (.inl (by omega)), hT _ k (by omega) (by omega) (.inl (by omega)), hT _ k (by omega) (by omega) (.inl (by omega)), hT _ k (by omega) (by omega) (.inl (by omega)), hT _ k (by omega) (by omega) (.inl (by omega)), hl _ (by omega) (by omega), hl _ (by omega) (by omega), hl _ (by omega) (by omega), hl _ (by omega) (by omega), hl _ (by omega) (by omega)]
    exact ⟨b1, b2, b3, b4, b5⟩
  · intro s e c' m hc hm
    rw [c14] at e
    rw [f10] at hc hm
    have pc := (pl_cell hP).2.2.1
    rw [cdl s c' m (r1_s hr e) (by omega), f17]
    exact b s e c' m hc hm
  · rw [f10, f15]
    exact (hj j hjq).cg p4 p5 (st _ (past_in (Nat.mod_lt _ (by decide))) pas_ne (by omega)) (fun _ _ => rfl) (fun _ _ => rfl)
  · rw [f18] at hn
    rw [f10, f16]
    exact (v k hk hn).cg p4 p5 (st _ (slot_in hk) slo_ne (by omega)) (fun _ _ => rfl) (fun _ _ => rfl)
/-- both record anew -/
theorem r2_rec (hP : PL (S.2.1 10)) (hV : IV aR0 1586 aK1 aK2 T) (h : R2 T S) (h14 : T.2.2.2.2 0 14 = some s) (g : g_X5_record T 7 s 242 = some T1) (f : fr_records_12 S = some S1) : R2 T1 S1 ∧ IV aR0 1586 aK1 aK2 T1 := by
  have hs := r1_s h.1 h14
  obtain ⟨o, hV1, fw⟩ := rec_out h.1.1 hV hs (.inl rfl) g
  obtain ⟨l0, l1⟩ := l_records hP f
  have k := w_fr_records_12 f
  have gr := sr_X5_record g
  have r0 := rrole.2.2.2
  refine ⟨r2_now hP h (r1_keep h.1 hV fw (by decide +kernel) gr ⟨k.1 2 (by decide), k.1 5 (by decide), k.1 6 (by decide), k.1 20 (by decide), k.2 1 (by decide), k.2 10 (by decide)⟩) (fun d hd hne m i h1 h2 h3 => ?_) (fun d hd n1 n2 => ?_) ⟨fw 0 16 (by rw [r0]; rfl), fw 0 17 (by rw [r0]; rfl), fun i => fw 432 i (by rw [r432]; rfl), fun s c i hs hc => fw _ i (by rw [dl_ro hs hc]; rfl), e14_gr hV gr⟩ ⟨k.1 19 (by decide), k.1 20 (by decide), k.2 10 (by decide), k.2 15 (by decide), k.2 16 (by decide), k.2 17 (by decide), k.2 18 (by decide)⟩ l1 (fun _ => ?_), hV1⟩
  · obtain ⟨r0, r1, r2, r3, r4, r5, r6, r7, -⟩ := sd_ro hd
    refine fw m i ?_
    rcases (show m = d ∨ m = d + 1 ∨ m = d + 2 ∨ m = d + 3 ∨ m = d + 4 ∨ m = d + 5 ∨ m = d + 6 ∨ m = d + 7 by omega) with q | q | q | q | q | q | q | q <;> subst q
    · rw [r0]
      rcases (show i = 0 ∨ i = 1 by omega) with q | q <;> subst q <;> rfl
    · rw [r1]; rfl
    · rw [r2]; rfl
    · rw [r3]; rfl
    · rw [r4]; rfl
    · rw [r5]; rfl
    · rw [r6]; rfl
    · rw [r7]; rfl
  · have gap := sd_gap hd (show 242 ∈ sds from by decide) n2
    have si := sd_in hd
    exact o d 2 (by omega) (by omega) (by omega)
  · rw [c_rec0 g, l0]
end
end
section
/-! 23h.moving.lean.txt -/
/-! the delays of a point lie in a row of their own: the scene's delays stay -/
section
variable {T T1 : AT} {s : Nat}
def FD (T T1 : AT) : Prop := ∀ m k, aR0 m = 50 → m ≠ 433 → T1.2.2.1 m k = T.2.2.1 m k
theorem FD.rf : FD T T := fun _ _ _ _ => rfl
theorem FD.tr {T2 : AT} (h : FD T T1) (k : FD T1 T2) : FD T T2 := fun m j a b => (k m j a b).trans (h m j a b)
theorem fd_fw {W : List Nat} (h : FW aR0 W T T1) (c : W.contains 1600 = false) : FD T T1 := fun m k a _ => h m k (by rw [a]; exact c)
theorem fd_i (h : T1.2.2.1 = T.2.2.1) : FD T T1 := fun m k _ _ => by rw [h]
theorem q_df {x y : Int32} {n o : Nat} (h : g_X6_delaysFrom T o x y n = some T1) : ∀ m k, m ≠ n → T1.2.2.1 m k = T.2.2.1 m k := by
  have b3 : ∀ (f : Nat) (T : AT) (l4 : Int32), g_X6_delaysFrom_b3 f T o x y n l4 = some T1 → ∀ m k, m ≠ n → T1.2.2.1 m k = T.2.2.1 m k := by
    intro f
    induction f with
    | zero => intro T l4 h; cases h
    | succ f ih =>
      intro T l4 h m k hm
      unfold g_X6_delaysFrom_b3 at h
      obtain ⟨-, h⟩ := oif_some h
      obtain ⟨v3, -, h⟩ := elet_some h
      rcases oif_or h with ⟨-, h⟩ | ⟨-, h⟩
      · rw [← osome1 h]
      · obtain ⟨-, h⟩ := oif_some h
        obtain ⟨n6, -, h⟩ := obind_some h
        obtain ⟨-, h⟩ := oif_some h
        obtain ⟨-, h⟩ := oif_some h
        obtain ⟨n9, -, h⟩ := obind_some h
        obtain ⟨-, h⟩ := oif_some h
        obtain ⟨r13, T11, g11, h⟩ := obind2_some h
        obtain ⟨-, h⟩ := oif_some h
        obtain ⟨-, h⟩ := oif_some h
        obtain ⟨T17, e17, h⟩ := elet_some h
        obtain ⟨v18, -, h⟩ := elet_some h
        have e11 : T11 = T := by
          unfold g_X6_delayFrom at g11
          obtain ⟨-, g11⟩ := oif_some g11
          obtain ⟨w, -, g11⟩ := elet_some g11
          obtain ⟨w, -, g11⟩ := elet_some g11
          obtain ⟨-, g11⟩ := oif_some g11
          obtain ⟨w, -, g11⟩ := elet_some g11
          obtain ⟨w, -, g11⟩ := elet_some g11
          obtain ⟨w, -, g11⟩ := elet_some g11
          obtain ⟨w, -, g11⟩ := elet_some g11
          obtain ⟨w, -, g11⟩ := elet_some g11
          obtain ⟨-, g11⟩ := oif_some g11
          obtain ⟨w, -, g11⟩ := elet_some g11
          obtain ⟨-, g11⟩ := oif_some g11
          obtain ⟨w, -, g11⟩ := elet_some g11
          obtain ⟨w, -, g11⟩ := elet_some g11
          obtain ⟨w, -, g11⟩ := elet_some g11
          obtain ⟨w, -, g11⟩ := obind_some g11
          obtain ⟨w, -, g11⟩ := elet_some g11
          obtain ⟨-, g11⟩ := oif_some g11
          obtain ⟨w, -, g11⟩ := elet_some g11
          obtain ⟨w, -, g11⟩ := elet_some g11
          obtain ⟨w, -, g11⟩ := obind_some g11
          obtain ⟨-, g11⟩ := oif_some g11
          obtain ⟨w, -, g11⟩ := elet_some g11
          obtain ⟨w, -, g11⟩ := elet_some g11
          obtain ⟨-, g11⟩ := oif_some g11
          obtain ⟨w, -, g11⟩ := elet_some g11
          obtain ⟨w, -, g11⟩ := elet_some g11
          obtain ⟨w, -, g11⟩ := obind_some g11
          obtain ⟨w, -, g11⟩ := elet_some g11
          obtain ⟨w, -, g11⟩ := elet_some g11
          exact (osome2 g11).2.symm
        rw [ih _ _ h m k hm, e17, ui_ne (.inl hm), e11]
  exact b3 _ _ _ h
set_option maxRecDepth 100000 in
theorem pt11_dec : (arf 0).getD 11 none = some 433 ∧ (arf 0).getD 12 none = some 434 ∧ (arf 0).getD 5 none = some 154 ∧ aR0 433 = 50 ∧ aR0 434 = 102 ∧ aR0 154 = 4 := by decide +kernel
theorem c_fld2 (hc : CRF T) : T.2.2.2.2 0 11 = some 433 ∧ T.2.2.2.2 0 12 = some 434 ∧ T.2.2.2.2 0 5 = some 154 ∧ T.2.2.2.2 0 2 = some 7 := by
  obtain ⟨a, b, c, -⟩ := pt11_dec
  exact ⟨(hc.2.1 11 (by decide) (by decide)).trans a, (hc.2.1 12 (by decide) (by decide)).trans b, (hc.2.1 5 (by decide) (by decide)).trans c, (hc.2.1 2 (by decide) (by decide)).trans pt_dec.2.2⟩
theorem crf_14 (hc : CRF T) : ∃ s, (s = 478 ∨ s = 656) ∧ T.2.2.2.2 0 14 = some s := by
  rcases hc.2.2 with ⟨a, -⟩ | ⟨a, -⟩
  · exact ⟨478, .inl rfl, a⟩
  · exact ⟨656, .inr rfl, a⟩
theorem q_pm38 {l2 l3 l4 l5 l6 : Int32} (h2 : -999 ≤ l2.toInt ∧ l2.toInt ≤ 999) (h3 : -999 ≤ l3.toInt ∧ l3.toInt ≤ 999) (h4 : 0 ≤ l4.toInt ∧ l4.toInt ≤ 1) (h5 : -2000 ≤ l5.toInt ∧ l5.toInt ≤ 15156) (h6 : -2000 ≤ l6.toInt ∧ l6.toInt ≤ 15156) : ∀ (f : Nat) {T : AT} {l7 : Int32}, CRF T → IV aR0 1586 aK1 aK2 T → 0 ≤ l7.toInt → g_X11_powerOnTheMove_b38 f T 0 l2 l3 l4 l5 l6 l7 = some T1 → FD T T1 := by
  have z1 : (1 : Int32).toInt = 1 := by decide
  have z0 : (0 : Int32).toInt = 0 := by decide
  have c102 : (cnt 102 : Int) = 12 := by decide
  have c101 : (cnt 101 : Int) = 1 := by decide
  obtain ⟨-, -, -, r433, r434, -⟩ := pt11_dec
  obtain ⟨rd, -, -, -, -, -, -, -, -, rb⟩ := sd_ro (show 242 ∈ sds from by decide)
  intro f
  induction f with
  | zero => intro T l7 hc hV h7 h; cases h
  | succ f ih =>
    intro T l7 hc hV h7 h
    obtain ⟨s, hs, h14⟩ := crf_14 hc
    obtain ⟨f11, f12, -, -⟩ := c_fld2 hc
    obtain ⟨-, f6, -⟩ := c_fld hc
    unfold g_X11_powerOnTheMove_b38 at h
    obtain ⟨-, h⟩ := oif_some h
    obtain ⟨n3, en, h⟩ := obind_some h
    rw [h14] at en
    cases en
    obtain ⟨-, h⟩ := oif_some h
    obtain ⟨v5, e5, h⟩ := elet_some h
    have m5 := iv_int hV (rsrole hs) (by decide) (by decide) e5 (rfl : iR 6 2 = (0, 200))
    rcases oif_or h with ⟨-, h⟩ | ⟨c, h⟩
    · obtain ⟨-, h⟩ := oif_some h
      obtain ⟨n8, en, h⟩ := obind_some h
      rw [f12] at en
      cases en
      obtain ⟨-, h⟩ := oif_some h
      obtain ⟨n10, en, h⟩ := obind_some h
      obtain ⟨-, h⟩ := oif_some h
      obtain ⟨v12, -, h⟩ := elet_some h
      obtain ⟨-, h⟩ := oif_some h
      obtain ⟨T14, g14, h⟩ := obind_some h
      have q := tgo (c_divide r434 (by decide) hV (by omega)) g14
      rw [← osome1 (show some T14 = some T1 from h)]
      exact fd_fw (fw_wx q.2 r434 (by decide) (W := [3202]) (by decide)) (by decide)
    · have c := i_nle c
      obtain ⟨-, h⟩ := oif_some h
      obtain ⟨n17, en, h⟩ := obind_some h
      rw [h14] at en
      cases en
      obtain ⟨r18, g18, h⟩ := obind_some h
      obtain ⟨r20, g20, h⟩ := obind_some h
      have q18 := tgo (cs_X11_moved l5 l2 l7 h5 h2 (by omega)) g18
      have q20 := tgo (cs_X11_moved l6 l3 l7 h6 h3 (by omega)) g20
      obtain ⟨-, h⟩ := oif_some h
      obtain ⟨n23, en, h⟩ := obind_some h
      rw [f11] at en
      cases en
      obtain ⟨-, h⟩ := oif_some h
      obtain ⟨T25, g25, h⟩ := obind_some h
      have d25 := q_df g25
      have c25 := tgo (cs_X6_delaysFrom T s r18 r20 433 hV (rsrole hs) r433 (by omega) (by omega)) g25
      have hc25 := crf_eq hc (s_X6_delaysFrom g25).2.2
      obtain ⟨-, h⟩ := oif_some h
      obtain ⟨n28, en, h⟩ := obind_some h
      rw [(c_fld hc25).2.1] at en
      cases en
      obtain ⟨-, h⟩ := oif_some h
      obtain ⟨n30, en, h⟩ := obind_some h
      rw [(c_fld2 hc25).1] at en
      cases en
      obtain ⟨-, h⟩ := oif_some h
      obtain ⟨T32, g32, h⟩ := obind_some h
      have c32 := tgo (cs_X8_focus T25 242 433 l7 c25.1 rd r433) g32
      have hc32 := crf_gr hc25 c25.1 (sr_X8_focus g32)
      unfold g_X11_powerOnTheMove_b90 at h
      obtain ⟨-, h⟩ := oif_some h
      obtain ⟨n3', en, h⟩ := obind_some h
      rw [(c_fld2 hc32).2.1] at en
      cases en
      obtain ⟨-, h⟩ := oif_some h
      obtain ⟨n5', en, h⟩ := obind_some h
      rw [(c_fld hc32).2.1] at en
      cases en
      obtain ⟨-, h⟩ := oif_some h
      obtain ⟨n7, en, h⟩ := obind_some h
      rw [(sd_rf hc32 (show 242 ∈ sds from by decide)).2.2.2.2.2.2.2.2] at en
      cases en
      obtain ⟨-, h⟩ := oif_some h
      obtain ⟨n9, en, h⟩ := obind_some h
      rw [(c_fld hc32).2.1] at en
      cases en
      obtain ⟨-, h⟩ := oif_some h
      obtain ⟨n11, en, h⟩ := obind_some h
      rw [(sd_rf hc32 (show 242 ∈ sds from by decide)).2.2.2.2.2.2.2.2] at en
      cases en
      obtain ⟨-, h⟩ := oif_some h
      obtain ⟨T13, g13, h⟩ := obind_some h
      have c13 := tgo (c_addProduct r434 (by decide) rb (by decide) rb (by decide) c32.1 (by omega) (by omega) (by omega)) g13
      have hc13 := crf_gr hc32 c32.1 (sr_X10_addProduct g13)
      unfold g_X11_powerOnTheMove_b115 at h
      obtain ⟨v2, e2, h⟩ := elet_some h
      have q2 := i_add (y := 1) e2 (by omega) (by omega)
      have fin := ih hc13 c13.1 (by omega) h
      refine FD.tr (T1 := T25) (fun m k _ hm => d25 m k hm) (FD.tr (T1 := T32) (fd_fw c32.2 (by decide)) (FD.tr (T1 := T13) ?_ fin))
      exact fd_fw (fw_wx c13.2 r434 (by decide) (W := [3202]) (by decide)) (by decide)
theorem q_pm {a0 a1 a2 a3 : Int32} (hc : CRF T) (hV : IV aR0 1586 aK1 aK2 T) (h0 : 0 ≤ a0.toInt ∧ a0.toInt ≤ 143) (h1 : -999 ≤ a1.toInt ∧ a1.toInt ≤ 999) (h2 : -999 ≤ a2.toInt ∧ a2.toInt ≤ 999) (h3 : 0 ≤ a3.toInt ∧ a3.toInt ≤ 1) (h : g_X11_powerOnTheMove T 0 a0 a1 a2 a3 = some T1) : FD T T1 := by
  have c102 : (cnt 102 : Int) = 12 := by decide
  obtain ⟨-, -, -, r433, r434, -⟩ := pt11_dec
  obtain ⟨s, hs, h14⟩ := crf_14 hc
  obtain ⟨f11, f12, -, -⟩ := c_fld2 hc
  have hF := hc.srf hs
  have r2 := (sro hs).2.1
  unfold g_X11_powerOnTheMove at h
  obtain ⟨-, h⟩ := oif_some h
  obtain ⟨n3, en, h⟩ := obind_some h
  rw [h14] at en
  cases en
  obtain ⟨-, h⟩ := oif_some h
  obtain ⟨n5, en, h⟩ := obind_some h
  rw [hF.2.1] at en
  cases en
  obtain ⟨-, h⟩ := oif_some h
  obtain ⟨r9, T7, g7, h⟩ := obind2_some h
  obtain ⟨e7, m7⟩ := tgo (cs_X1_centreX T (s + 2) a0 hV r2 h0) g7
  have e7 : T7 = T := e7
  have m7 : -999 ≤ r9.toInt ∧ r9.toInt ≤ 2088 := m7
  rw [e7] at h
  obtain ⟨-, h⟩ := oif_some h
  obtain ⟨n12, en, h⟩ := obind_some h
  rw [h14] at en
  cases en
  obtain ⟨-, h⟩ := oif_some h
  obtain ⟨n14, en, h⟩ := obind_some h
  rw [hF.2.1] at en
  cases en
  obtain ⟨-, h⟩ := oif_some h
  obtain ⟨r18, T16, g16, h⟩ := obind2_some h
  obtain ⟨e16, m16⟩ := tgo (cs_X1_centreY T (s + 2) a0 hV r2 h0) g16
  have e16 : T16 = T := e16
  have m16 : -999 ≤ r18.toInt ∧ r18.toInt ≤ 15156 := m16
  rw [e16] at h
  obtain ⟨-, h⟩ := oif_some h
  obtain ⟨n21, en, h⟩ := obind_some h
  rw [f12] at en
  cases en
  obtain ⟨-, h⟩ := oif_some h
  obtain ⟨T23, g23, h⟩ := obind_some h
  have c23 := tgo (c_clear hV r434 (by decide) (by omega)) g23
  exact (fd_i c23.2).tr (q_pm38 h1 h2 h3 ⟨by omega, by omega⟩ ⟨by omega, by omega⟩ 16384 (crf_gr hc hV (gr_sp (s_X10_clear g23))) c23.1 (by decide) h)
theorem iv_pm {a0 a1 a2 a3 : Int32} (hc : CRF T) (hV : IV aR0 1586 aK1 aK2 T) (h0 : 0 ≤ a0.toInt ∧ a0.toInt ≤ 143) (h1 : -999 ≤ a1.toInt ∧ a1.toInt ≤ 999) (h2 : -999 ≤ a2.toInt ∧ a2.toInt ≤ 999) (h3 : 0 ≤ a3.toInt ∧ a3.toInt ≤ 1) (h : g_X11_powerOnTheMove T 0 a0 a1 a2 a3 = some T1) : CRF T1 ∧ IV aR0 1586 aK1 aK2 T1 := ⟨crf_gr hc hV (sr_X11_powerOnTheMove h), (tgo (cs_X11_powerOnTheMove T 0 a0 a1 a2 a3 hV rrole.2.2.2 h0 h1 h2 h3) h).1⟩
theorem q_movingPower {a0 a1 a2 : Int32} {k : Nat} {r : Int64} (hc : CRF T) (hV : IV aR0 1586 aK1 aK2 T) (h : g_X11_movingPower T 0 a0 a1 a2 = some (k, r, T1)) : FD T T1 := by
  have r0 := rrole.2.2.2
  have c102 : (cnt 102 : Int) = 12 := by decide
  have z0 : (0 : Int32).toInt = 0 := by decide
  obtain ⟨-, -, -, r433, r434, -⟩ := pt11_dec
  unfold g_X11_movingPower at h
  obtain ⟨-, h⟩ := oif_some h
  rcases othr_k h with ⟨r9, g9, -⟩ | ⟨r9, T3, g9, h⟩
  · exact fd_i (by rw [need_same.1 g9])
  · rw [need_same.1 g9] at h
    obtain ⟨-, h⟩ := oif_some h
    rcases othr_k h with ⟨r9, g9, -⟩ | ⟨r9, T8, g9, h⟩
    · exact fd_i (by rw [need_same.2.1 g9])
    · rw [need_same.2.1 g9] at h
      have m8 := (tgo (cs_X11_needCell T 0 a0 hV r0) g9).2 rfl
      rcases othr_k h with ⟨r9, g9, -⟩ | ⟨r9, T12, g9, h⟩
      · exact fd_i (by rw [need_same.2.2 g9])
      · obtain ⟨e12, ⟨-, m12⟩ | ⟨q, -⟩⟩ := c_rng g9
        case inr => exact absurd q (by decide)
        rw [e12] at h
        rcases othr_k h with ⟨r9, g9, -⟩ | ⟨r9, T16, g9, h⟩
        · exact fd_i (by rw [need_same.2.2 g9])
        · obtain ⟨e16, ⟨-, m16⟩ | ⟨q, -⟩⟩ := c_rng g9
          case inr => exact absurd q (by decide)
          rw [e16] at h
          obtain ⟨-, h⟩ := oif_some h
          obtain ⟨T21, g21, h⟩ := obind_some h
          have q21 := q_pm hc hV m8 m12 m16 (by decide) g21
          obtain ⟨hc21, hV21⟩ := iv_pm hc hV m8 m12 m16 (by decide) g21
          unfold g_X11_movingPower_b37 at h
          obtain ⟨-, h⟩ := oif_some h
          obtain ⟨n3, en, h⟩ := obind_some h
          rw [(c_fld2 hc21).2.1] at en
          cases en
          obtain ⟨-, h⟩ := oif_some h
          obtain ⟨r7, T5, g5, h⟩ := obind2_some h
          have e5 : T5 = T21 := (tgo (c_value r434 (by decide) hV21 (by omega)) g5).1
          rw [← (osome3 h).2.2, e5]
          exact q21
theorem q_bv39 {a0 l2 l3 : Int32} {k : Nat} {r : Int32} {k29 : AT → Nat → Int32 → Int32 → Int32 → Int32 → Int32 → Option (Nat × Int32 × AT)} {l5 : Int32} (h0 : 0 ≤ a0.toInt ∧ a0.toInt ≤ 143) (h2 : 1 ≤ l2.toInt ∧ l2.toInt ≤ 99) (h3 : 0 ≤ l3.toInt ∧ l3.toInt ≤ 4) (h5 : -4 ≤ l5.toInt ∧ l5.toInt ≤ 4) (hk : ∀ {T : AT} {l4 l : Int32}, CRF T → IV aR0 1586 aK1 aK2 T → l.toInt = l5.toInt + 1 → k29 T 0 a0 l2 l3 l4 l = some (k, r, T1) → FD T T1) : ∀ (f : Nat) {T : AT} {l4 l6 : Int32}, CRF T → IV aR0 1586 aK1 aK2 T → -4 ≤ l6.toInt → g_X11_bestVelocity_b39 k29 f T 0 a0 l2 l3 l4 l5 l6 = some (k, r, T1) → FD T T1 := by
  have z1 : (1 : Int32).toInt = 1 := by decide
  have z0 : (0 : Int32).toInt = 0 := by decide
  have c102 : (cnt 102 : Int) = 12 := by decide
  obtain ⟨-, -, -, r433, r434, -⟩ := pt11_dec
  intro f
  induction f with
  | zero => intro T l4 l6 hc hV h6 h; cases h
  | succ f ih =>
    have b104 : ∀ {T : AT} {l4 l6 : Int32}, CRF T → IV aR0 1586 aK1 aK2 T → -4 ≤ l6.toInt → l6.toInt ≤ 4 → g_X11_bestVelocity_b104 k29 (g_X11_bestVelocity_b39 k29 f) T 0 a0 l2 l3 l4 l5 l6 = some (k, r, T1) → FD T T1 := by
      intro T l4 l6 hc hV h6 h7 h
      unfold g_X11_bestVelocity_b104 at h
      obtain ⟨v2, e2, h⟩ := elet_some h
      have q2 := i_add (y := 1) e2 (by omega) (by omega)
      exact ih hc hV (by omega) h
    have b77 : ∀ {T : AT} {l6 : Int32}, CRF T → IV aR0 1586 aK1 aK2 T → -4 ≤ l6.toInt → l6.toInt ≤ 4 → g_X11_bestVelocity_b77 k29 (g_X11_bestVelocity_b39 k29 f) T 0 a0 l2 l3 l5 l6 = some (k, r, T1) → FD T T1 := by
      intro T l6 hc hV h6 h7 h
      unfold g_X11_bestVelocity_b77 at h
      obtain ⟨-, h⟩ := oif_some h
      obtain ⟨n3, en, h⟩ := obind_some h
      rw [(c_fld2 hc).2.1] at en
      cases en
      obtain ⟨-, h⟩ := oif_some h
      obtain ⟨n5, en, h⟩ := obind_some h
      rw [(c_fld2 hc).2.1] at en
      cases en
      obtain ⟨-, h⟩ := oif_some h
      obtain ⟨T7, g7, h⟩ := obind_some h
      have q := tgo (c_set r434 (by decide) r434 (by decide) hV (by omega) (by omega)) g7
      unfold g_X11_bestVelocity_b90 at h
      obtain ⟨v2, -, h⟩ := elet_some h
      obtain ⟨v3, -, h⟩ := elet_some h
      obtain ⟨v4, -, h⟩ := elet_some h
      obtain ⟨v5, -, h⟩ := elet_some h
      exact FD.tr (fd_fw (fw_wx q.2 r434 (by decide) (W := [3202]) (by decide)) (by decide)) (b104 (crf_gr hc hV (sr_X10_set g7)) q.1 h6 h7 h)
    intro T l4 l6 hc hV h6 h
    unfold g_X11_bestVelocity_b39 at h
    rcases oif_or h with ⟨-, h⟩ | ⟨c, h⟩
    · obtain ⟨v3, e3, h⟩ := elet_some h
      exact hk hc hV (i_add (y := 1) e3 (by omega) (by omega)) h
    · have c := i_nlt c
      obtain ⟨v4, e4, h⟩ := elet_some h
      obtain ⟨v5, e5, h⟩ := elet_some h
      obtain ⟨-, h⟩ := oif_some h
      obtain ⟨T7, g7, h⟩ := obind_some h
      have q4 := i_muls (b := 99) (d := 4) e4 (by omega) (by omega) (by omega) (by omega) (by decide)
      have q5 := i_muls (b := 99) (d := 4) e5 (by omega) (by omega) (by omega) (by omega) (by decide)
      have q7 := q_pm hc hV h0 (by omega) (by omega) (by decide) g7
      obtain ⟨hc7, hV7⟩ := iv_pm hc hV h0 (by omega) (by omega) (by decide) g7
      refine q7.tr ?_
      unfold g_X11_bestVelocity_b59 at h
      rcases oif_or h with ⟨-, h⟩ | ⟨-, h⟩
      · exact b77 hc7 hV7 h6 (by omega) h
      · obtain ⟨-, h⟩ := oif_some h
        obtain ⟨n4, en, h⟩ := obind_some h
        rw [(c_fld2 hc7).2.1] at en
        cases en
        obtain ⟨-, h⟩ := oif_some h
        obtain ⟨r8, T6, g6, h⟩ := obind2_some h
        have e6 : T6 = T7 := (tgo (c_compare r434 (by decide) hV7 (by omega) (by omega)) g6).1
        rw [e6] at h
        rcases oif_or h with ⟨-, h⟩ | ⟨-, h⟩
        · exact b104 hc7 hV7 h6 (by omega) h
        · exact b77 hc7 hV7 h6 (by omega) h
theorem q_bestVelocity {a0 a1 a2 : Int32} {k : Nat} {r : Int32} (hc : CRF T) (hV : IV aR0 1586 aK1 aK2 T) (h : g_X11_bestVelocity T 0 a0 a1 a2 = some (k, r, T1)) : FD T T1 := by
  have r0 := rrole.2.2.2
  have z0 : (0 : Int32).toInt = 0 := by decide
  have z1 : (1 : Int32).toInt = 1 := by decide
  have z4 : (4 : Int32).toInt = 4 := by decide
  have z99 : (99 : Int32).toInt = 99 := by decide
  unfold g_X11_bestVelocity at h
  obtain ⟨-, h⟩ := oif_some h
  rcases othr_k h with ⟨r9, g9, -⟩ | ⟨r9, T3, g9, h⟩
  · exact fd_i (by rw [need_same.1 g9])
  · rw [need_same.1 g9] at h
    obtain ⟨-, h⟩ := oif_some h
    rcases othr_k h with ⟨r9, g9, -⟩ | ⟨r9, T8, g9, h⟩
    · exact fd_i (by rw [need_same.2.1 g9])
    · rw [need_same.2.1 g9] at h
      have m8 := (tgo (cs_X11_needCell T 0 a0 hV r0) g9).2 rfl
      rcases othr_k h with ⟨r9, g9, -⟩ | ⟨r9, T12, g9, h⟩
      · exact fd_i (by rw [need_same.2.2 g9])
      · obtain ⟨e12, ⟨-, m12⟩ | ⟨q, -⟩⟩ := c_rng g9
        case inr => exact absurd q (by decide)
        rw [e12] at h
        rcases othr_k h with ⟨r9, g9, -⟩ | ⟨r9, T16, g9, h⟩
        · exact fd_i (by rw [need_same.2.2 g9])
        · obtain ⟨e16, ⟨-, m16⟩ | ⟨q, -⟩⟩ := c_rng g9
          case inr => exact absurd q (by decide)
          rw [e16] at h
          obtain ⟨v20, e20, h⟩ := elet_some h
          have q20 := i_neg e20 (by omega)
          have b29 : ∀ (f : Nat) {T : AT} {l4 l5 : Int32}, CRF T → IV aR0 1586 aK1 aK2 T → -4 ≤ l5.toInt → g_X11_bestVelocity_b29 f T 0 a0 a1 a2 l4 l5 = some (k, r, T1) → FD T T1 := by
            intro f
            induction f with
            | zero => intro T l4 l5 hc hV h5 h; cases h
            | succ f ih =>
              intro T l4 l5 hc hV h5 h
              unfold g_X11_bestVelocity_b29 at h
              rcases oif_or h with ⟨-, h⟩ | ⟨c, h⟩
              · exact fd_i (by rw [(osome3 h).2.2])
              · have c := i_nlt c
                obtain ⟨v3, e3, h⟩ := elet_some h
                have q3 := i_neg e3 (by omega)
                exact q_bv39 m8 (by omega) (by omega) ⟨h5, by omega⟩ (fun {T l4 l} a b d q => ih a b (by omega) q) 16384 hc hV (by omega) h
          exact b29 16384 hc hV (by omega) h
theorem q_powerAt {a0 a1 : Int32} {k : Nat} {r : Int64} (hc : CRF T) (hV : IV aR0 1586 aK1 aK2 T) (h : g_X11_powerAt T 0 a0 a1 = some (k, r, T1)) : FD T T1 := by
  have z0 : (0 : Int32).toInt = 0 := by decide
  have c102 : (cnt 102 : Int) = 12 := by decide
  have zm : ((-9999) : Int32).toInt = -9999 := by decide
  have zp : (9999 : Int32).toInt = 9999 := by decide
  obtain ⟨-, -, -, r433, r434, -⟩ := pt11_dec
  obtain ⟨rd, -⟩ := sd_ro (show 242 ∈ sds from by decide)
  obtain ⟨s, hs, h14⟩ := crf_14 hc
  unfold g_X11_powerAt at h
  obtain ⟨-, h⟩ := oif_some h
  rcases othr_k h with ⟨r9, g9, -⟩ | ⟨r9, T3, g9, h⟩
  · exact fd_i (by rw [need_same.1 g9])
  · rw [need_same.1 g9] at h
    rcases othr_k h with ⟨r9, g9, -⟩ | ⟨r9, T7, g9, h⟩
    · exact fd_i (by rw [need_same.2.2 g9])
    · obtain ⟨e7, ⟨-, m7⟩ | ⟨q, -⟩⟩ := c_rng g9
      case inr => exact absurd q (by decide)
      rw [e7] at h
      rcases othr_k h with ⟨r9, g9, -⟩ | ⟨r9, T11, g9, h⟩
      · exact fd_i (by rw [need_same.2.2 g9])
      · obtain ⟨e11, ⟨-, m11⟩ | ⟨q, -⟩⟩ := c_rng g9
        case inr => exact absurd q (by decide)
        rw [e11] at h
        obtain ⟨-, h⟩ := oif_some h
        obtain ⟨n16, en, h⟩ := obind_some h
        rw [h14] at en
        cases en
        obtain ⟨-, h⟩ := oif_some h
        obtain ⟨n18, en, h⟩ := obind_some h
        rw [(c_fld2 hc).1] at en
        cases en
        obtain ⟨-, h⟩ := oif_some h
        obtain ⟨T20, g20, h⟩ := obind_some h
        have d20 := q_df g20
        have c20 := tgo (cs_X6_delaysFrom T s a0 a1 433 hV (rsrole hs) r433 (by omega) (by omega)) g20
        have hc20 := crf_eq hc (s_X6_delaysFrom g20).2.2
        obtain ⟨-, h⟩ := oif_some h
        obtain ⟨n23, en, h⟩ := obind_some h
        rw [(c_fld hc20).2.1] at en
        cases en
        obtain ⟨-, h⟩ := oif_some h
        obtain ⟨n25, en, h⟩ := obind_some h
        rw [(c_fld2 hc20).1] at en
        cases en
        obtain ⟨-, h⟩ := oif_some h
        obtain ⟨n27, en, h⟩ := obind_some h
        rw [(c_fld2 hc20).2.1] at en
        cases en
        obtain ⟨-, h⟩ := oif_some h
        obtain ⟨T29, g29, h⟩ := obind_some h
        have c29 := tgo (cs_X8_powerOf T20 242 433 434 0 c20.1 rd r433 r434 (by decide) (by decide) (by omega)) g29
        have hc29 := crf_gr hc20 c20.1 (sr_X8_powerOf g29)
        unfold g_X11_powerAt_b53 at h
        obtain ⟨-, h⟩ := oif_some h
        obtain ⟨n3, en, h⟩ := obind_some h
        rw [(c_fld2 hc29).2.1] at en
        cases en
        obtain ⟨-, h⟩ := oif_some h
        obtain ⟨r7, T5, g5, h⟩ := obind2_some h
        have e5 : T5 = T29 := (tgo (c_value r434 (by decide) c29.1 (by omega)) g5).1
        rw [← (osome3 h).2.2, e5]
        exact FD.tr (T1 := T20) (fun m k _ hm => d20 m k hm) (fd_fw c29.2 (by decide))
end
end
section
/-! 23i.trial.lean.txt -/
/-! questions that work on the state of trials: what R2 speaks of stays -/
section
variable {T T1 : AT} {s : Nat}
theorem d336 : (336 : Nat) ∈ sds := by decide
theorem d242 : (242 : Nat) ∈ sds := by decide
/-- class: what R2 speaks of is as it was, and the cells are still in order -/
def CKo (T T1 : AT) : Prop := CKr T T1 ∧ CRF T1 ∧ IV aR0 1586 aK1 aK2 T1
theorem CKo.tr {T2 : AT} (h : CKo T T1) (k : CKo T1 T2) : CKo T T2 := ⟨h.1.tr k.1, k.2⟩
theorem ck_copyt (hc : CRF T) (hV : IV aR0 1586 aK1 aK2 T) (h : g_X8_copyFrom T 336 242 = some T1) : CKo T T1 :=
  ⟨ck_trial hV (c_stcopy hc hV d336 d242 (by decide) h) (sr_X8_copyFrom h), crf_gr hc hV (sr_X8_copyFrom h), (tgo (cs_X8_copyFrom T 336 242 hV (sd_ro d336).1 (sd_ro d242).1) h).1⟩
theorem ck_tbest {r : Int32} (hc : CRF T) (hV : IV aR0 1586 aK1 aK2 T) (h : g_X11_trialBest T 0 = some (r, T1)) : CKo T T1 := by
  have c := tgo (cs_X11_trialBest T 0 hV rrole.2.2.2) h
  exact ⟨ck_fw hV c.1.2 (by decide +kernel) (sr_X11_trialBest h), crf_gr hc hV (sr_X11_trialBest h), c.1.1⟩
theorem ck_rp {a b : Int32} (hc : CRF T) (hV : IV aR0 1586 aK1 aK2 T) (ha : 0 ≤ a.toInt ∧ a.toInt ≤ 143) (hb : 2 ≤ b.toInt ∧ b.toInt ≤ 99) (h : g_X11_recordPoint T 0 a b = some T1) : CKo T T1 := by
  obtain ⟨f4, f6, f7, f8, f9, f10, -⟩ := c_fld hc
  unfold g_X11_recordPoint at h
  obtain ⟨-, h⟩ := oif_some h
  obtain ⟨n3, en, h⟩ := obind_some h
  rw [f7] at en
  cases en
  obtain ⟨-, h⟩ := oif_some h
  obtain ⟨n5, en, h⟩ := obind_some h
  rw [f6] at en
  cases en
  obtain ⟨-, h⟩ := oif_some h
  obtain ⟨T7, g7, h⟩ := obind_some h
  have c7 := ck_copyt hc hV g7
  obtain ⟨-, -, f7', -⟩ := c_fld c7.2.1
  obtain ⟨-, -, -, f2⟩ := c_fld2 c7.2.1
  obtain ⟨s, hs, h14⟩ := crf_14 c7.2.1
  unfold g_X11_recordPoint_b11 at h
  obtain ⟨-, h⟩ := oif_some h
  obtain ⟨m3, en, h⟩ := obind_some h
  rw [f2] at en
  cases en
  obtain ⟨-, h⟩ := oif_some h
  obtain ⟨m5, en, h⟩ := obind_some h
  rw [h14] at en
  cases en
  obtain ⟨-, h⟩ := oif_some h
  obtain ⟨m7, en, h⟩ := obind_some h
  rw [f7'] at en
  cases en
  obtain ⟨-, h⟩ := oif_some h
  obtain ⟨T9, g9, h⟩ := obind_some h
  obtain ⟨o, hV9, fw⟩ := rp_out c7.2.1 c7.2.2 hs ha hb g9
  rw [← osome1 (show some T9 = some T1 from h)]
  exact c7.tr ⟨ck_out c7.2.2 hs o fw (by decide) (sr_X5_recordPoint g9), crf_gr c7.2.1 c7.2.2 (sr_X5_recordPoint g9), hV9⟩
theorem ck_pointBest {a0 a1 r : Int32} {k : Nat} (hc : CRF T) (hV : IV aR0 1586 aK1 aK2 T) (h : g_X11_pointBest T 0 a0 a1 = some (k, r, T1)) : CKr T T1 := by
  unfold g_X11_pointBest at h
  obtain ⟨-, h⟩ := oif_some h
  rcases othr_k h with ⟨r9, g9, -⟩ | ⟨r9, T3, g9, h⟩
  · exact ck_eq (need_same.1 g9)
  · rw [need_same.1 g9] at h
    obtain ⟨-, h⟩ := oif_some h
    rcases othr_k h with ⟨r9, g9, -⟩ | ⟨r9, T8, g9, h⟩
    · exact ck_eq (need_same.2.1 g9)
    · rw [need_same.2.1 g9] at h
      have m8 := (tgo (cs_X11_needCell T 0 a0 hV rrole.2.2.2) g9).2 rfl
      rcases othr_k h with ⟨r9, g9, -⟩ | ⟨r9, T12, g9, h⟩
      · exact ck_eq (need_same.2.2 g9)
      · obtain ⟨e12, ⟨-, m12⟩ | ⟨q, -⟩⟩ := c_rng g9
        case inr => exact absurd q (by decide)
        rw [e12] at h
        obtain ⟨-, h⟩ := oif_some h
        obtain ⟨T17, g17, h⟩ := obind_some h
        have c17 := ck_rp hc hV m8 m12 g17
        unfold g_X11_pointBest_b22 at h
        obtain ⟨-, h⟩ := oif_some h
        obtain ⟨r4, T3', g3, h⟩ := obind2_some h
        have c3 := ck_tbest c17.2.1 c17.2.2 g3
        unfold g_X11_pointBest_b26 at h
        rw [← (osome3 h).2.2]
        exact c17.1.tr c3.1
theorem ck_pointPower {a0 a1 a2 : Int32} {r : Int64} {k : Nat} (hc : CRF T) (hV : IV aR0 1586 aK1 aK2 T) (h : g_X11_pointPower T 0 a0 a1 a2 = some (k, r, T1)) : CKr T T1 := by
  have c102 : (cnt 102 : Int) = 12 := by decide
  have z0 : (0 : Int32).toInt = 0 := by decide
  obtain ⟨-, -, -, -, r434, -⟩ := pt11_dec
  unfold g_X11_pointPower at h
  obtain ⟨-, h⟩ := oif_some h
  rcases othr_k h with ⟨r9, g9, -⟩ | ⟨r9, T3, g9, h⟩
  · exact ck_eq (need_same.1 g9)
  · rw [need_same.1 g9] at h
    obtain ⟨-, h⟩ := oif_some h
    rcases othr_k h with ⟨r9, g9, -⟩ | ⟨r9, T8, g9, h⟩
    · exact ck_eq (need_same.2.1 g9)
    · rw [need_same.2.1 g9] at h
      have m8 := (tgo (cs_X11_needCell T 0 a0 hV rrole.2.2.2) g9).2 rfl
      obtain ⟨-, h⟩ := oif_some h
      rcases othr_k h with ⟨r9, g9, -⟩ | ⟨r9, T13, g9, h⟩
      · exact ck_eq (need_same.2.1 g9)
      · rw [need_same.2.1 g9] at h
        have m13 := (tgo (cs_X11_needCell T 0 a1 hV rrole.2.2.2) g9).2 rfl
        rcases othr_k h with ⟨r9, g9, -⟩ | ⟨r9, T17, g9, h⟩
        · exact ck_eq (need_same.2.2 g9)
        · obtain ⟨e17, ⟨-, m17⟩ | ⟨q, -⟩⟩ := c_rng g9
          case inr => exact absurd q (by decide)
          rw [e17] at h
          obtain ⟨-, h⟩ := oif_some h
          obtain ⟨T22, g22, h⟩ := obind_some h
          have c22 := ck_rp hc hV m8 m17 g22
          obtain ⟨s, hs, h14⟩ := crf_14 c22.2.1
          have hF := c22.2.1.srf hs
          unfold g_X11_pointPower_b27 at h
          obtain ⟨-, h⟩ := oif_some h
          obtain ⟨n3, en, h⟩ := obind_some h
          rw [(c_fld c22.2.1).2.2.1] at en
          cases en
          obtain ⟨-, h⟩ := oif_some h
          obtain ⟨n5, en, h⟩ := obind_some h
          rw [h14] at en
          cases en
          obtain ⟨-, h⟩ := oif_some h
          obtain ⟨n7, en, h⟩ := obind_some h
          have e7 : T22.2.2.2.2 s 17 = some (s + 15) := by unfold SRF at hF; exact hF.2.2.2.2.2.2.2.1
          rw [e7] at en
          cases en
          obtain ⟨-, h⟩ := oif_some h
          obtain ⟨-, h⟩ := oif_some h
          obtain ⟨n10, en, h⟩ := obind_some h
          have ka := i_cl m13.1
          have e10 : T22.2.2.2.2 (s + 15) a1.toNatClampNeg = some (s + 16 + a1.toNatClampNeg) := by unfold SRF at hF; exact hF.2.2.2.2.2.2.2.2.2.2.2.2.2.2 _ (by omega)
          rw [e10] at en
          cases en
          obtain ⟨-, h⟩ := oif_some h
          obtain ⟨n12, en, h⟩ := obind_some h
          rw [(c_fld2 c22.2.1).2.1] at en
          cases en
          obtain ⟨-, h⟩ := oif_some h
          obtain ⟨T14, g14, h⟩ := obind_some h
          have c14 := tgo (cs_X8_powerOf T22 336 (s + 16 + a1.toNatClampNeg) 434 0 c22.2.2 (sd_ro d336).1 (dl_ro hs (by omega)) r434 (by decide) (by decide) (by omega)) g14
          have hc14 := crf_gr c22.2.1 c22.2.2 (sr_X8_powerOf g14)
          unfold g_X11_pointPower_b48 at h
          obtain ⟨-, h⟩ := oif_some h
          obtain ⟨n3, en, h⟩ := obind_some h
          rw [(c_fld2 hc14).2.1] at en
          cases en
          obtain ⟨-, h⟩ := oif_some h
          obtain ⟨r7, T5, g5, h⟩ := obind2_some h
          have e5 : T5 = T14 := (tgo (c_value r434 (by decide) c14.1 (by omega)) g5).1
          rw [← (osome3 h).2.2, e5]
          exact c22.1.tr (ck_fw c22.2.2 c14.2 (by decide +kernel) (sr_X8_powerOf g14))
theorem iv_mut {k : Nat} (hV : IV aR0 1586 aK1 aK2 T) : IV aR0 1586 aK1 aK2 (uI T 337 k 1) ∧ IV aR0 1586 aK1 aK2 (uI T 339 k 0) :=
  ⟨iv_uI hV (show aR0 337 = 62 from (sd_ro d336).2.1) (by decide) (by decide) (rfl : iR 62 k = (0, 1)) (by decide) (.inl rfl), iv_uI hV (show aR0 339 = 64 from (sd_ro d336).2.2.2.1) (by decide) (by decide) (rfl : iR 64 k = (0, 1)) (by decide) (.inl rfl)⟩
theorem ck_bestWithout {a0 r : Int32} {k : Nat} (hc : CRF T) (hV : IV aR0 1586 aK1 aK2 T) (h : g_X11_bestWithout T 0 a0 = some (k, r, T1)) : CKr T T1 := by
  obtain ⟨s, hs, h14⟩ := crf_14 hc
  unfold g_X11_bestWithout at h
  obtain ⟨-, h⟩ := oif_some h
  rcases othr_k h with ⟨r9, g9, -⟩ | ⟨r9, T3, g9, h⟩
  · exact ck_eq (need_same.1 g9)
  · rw [need_same.1 g9] at h
    obtain ⟨-, h⟩ := oif_some h
    rcases othr_k h with ⟨r9, g9, -⟩ | ⟨r9, T8, g9, h⟩
    · exact ck_eq (c_mic h14 g9).1
    · rw [(c_mic h14 g9).1] at h
      obtain ⟨f4, f6, f7, -⟩ := c_fld hc
      obtain ⟨-, h⟩ := oif_some h
      obtain ⟨n13, en, h⟩ := obind_some h
      rw [f7] at en
      cases en
      obtain ⟨-, h⟩ := oif_some h
      obtain ⟨n15, en, h⟩ := obind_some h
      rw [f6] at en
      cases en
      obtain ⟨-, h⟩ := oif_some h
      obtain ⟨T17, g17, h⟩ := obind_some h
      have c17 := ck_copyt hc hV g17
      unfold g_X11_bestWithout_b20 at h
      obtain ⟨-, h⟩ := oif_some h
      obtain ⟨n3, en, h⟩ := obind_some h
      rw [(c_fld c17.2.1).2.2.1] at en
      cases en
      obtain ⟨-, h⟩ := oif_some h
      obtain ⟨n5, en, h⟩ := obind_some h
      rw [(sd_rf c17.2.1 d336).1] at en
      cases en
      obtain ⟨-, h⟩ := oif_some h
      obtain ⟨-, h⟩ := oif_some h
      obtain ⟨T8', e8, h⟩ := elet_some h
      obtain ⟨-, h⟩ := oif_some h
      obtain ⟨r11, T10, g10, h⟩ := obind2_some h
      have o8 : CKo T17 T8' := by
        rw [e8]
        exact ⟨ck_uI (by decide), crf_eq c17.2.1 rfl, (iv_mut c17.2.2).1⟩
      have c10 := ck_tbest o8.2.1 o8.2.2 g10
      unfold g_X11_bestWithout_b34 at h
      rw [← (osome3 h).2.2]
      exact (c17.tr o8).1.tr c10.1
theorem ck_bestIfOff {a0 r : Int32} {k : Nat} (hc : CRF T) (hV : IV aR0 1586 aK1 aK2 T) (h : g_X11_bestIfOff T 0 a0 = some (k, r, T1)) : CKr T T1 := by
  obtain ⟨s, hs, h14⟩ := crf_14 hc
  unfold g_X11_bestIfOff at h
  obtain ⟨-, h⟩ := oif_some h
  rcases othr_k h with ⟨r9, g9, -⟩ | ⟨r9, T3, g9, h⟩
  · exact ck_eq (need_same.1 g9)
  · rw [need_same.1 g9] at h
    obtain ⟨-, h⟩ := oif_some h
    rcases othr_k h with ⟨r9, g9, -⟩ | ⟨r9, T8, g9, h⟩
    · exact ck_eq (c_src h14 g9).1
    · rw [(c_src h14 g9).1] at h
      obtain ⟨f4, f6, f7, -⟩ := c_fld hc
      obtain ⟨-, h⟩ := oif_some h
      obtain ⟨n13, en, h⟩ := obind_some h
      rw [f7] at en
      cases en
      obtain ⟨-, h⟩ := oif_some h
      obtain ⟨n15, en, h⟩ := obind_some h
      rw [f6] at en
      cases en
      obtain ⟨-, h⟩ := oif_some h
      obtain ⟨T17, g17, h⟩ := obind_some h
      have c17 := ck_copyt hc hV g17
      unfold g_X11_bestIfOff_b20 at h
      obtain ⟨-, h⟩ := oif_some h
      obtain ⟨n3, en, h⟩ := obind_some h
      rw [(c_fld c17.2.1).2.2.1] at en
      cases en
      obtain ⟨-, h⟩ := oif_some h
      obtain ⟨n5, en, h⟩ := obind_some h
      rw [(sd_rf c17.2.1 d336).2.2.1] at en
      cases en
      obtain ⟨-, h⟩ := oif_some h
      obtain ⟨-, h⟩ := oif_some h
      obtain ⟨T8', e8, h⟩ := elet_some h
      have o8 : CKo T17 T8' := by
        rw [e8]
        exact ⟨ck_uI (by decide), crf_eq c17.2.1 rfl, (iv_mut c17.2.2).2⟩
      obtain ⟨s', hs', h14'⟩ := crf_14 o8.2.1
      obtain ⟨-, h⟩ := oif_some h
      obtain ⟨n10, en, h⟩ := obind_some h
      rw [(c_fld2 o8.2.1).2.2.2] at en
      cases en
      obtain ⟨-, h⟩ := oif_some h
      obtain ⟨n12, en, h⟩ := obind_some h
      rw [h14'] at en
      cases en
      obtain ⟨-, h⟩ := oif_some h
      obtain ⟨n14, en, h⟩ := obind_some h
      rw [(c_fld o8.2.1).2.2.1] at en
      cases en
      obtain ⟨-, h⟩ := oif_some h
      obtain ⟨T16, g16, h⟩ := obind_some h
      obtain ⟨o, hV16, fw⟩ := rec_out o8.2.1 o8.2.2 hs' (.inr rfl) g16
      have c16 : CKo T8' T16 := ⟨ck_out o8.2.2 hs' o fw (by decide) (sr_X5_record g16), crf_gr o8.2.1 o8.2.2 (sr_X5_record g16), hV16⟩
      unfold g_X11_bestIfOff_b45 at h
      obtain ⟨-, h⟩ := oif_some h
      obtain ⟨r4, T3', g3, h⟩ := obind2_some h
      have c3 := ck_tbest c16.2.1 c16.2.2 g3
      unfold g_X11_bestIfOff_b49 at h
      rw [← (osome3 h).2.2]
      exact ((c17.tr o8).tr c16).1.tr c3.1
/-- questions that lay the delays of a point into their own row -/
theorem ck_fd {W : List Nat} (hV : IV aR0 1586 aK1 aK2 T) (hw : FW aR0 W T T1) (c : [256, 257, 258, 1984, 2016, 2048, 2080, 2112, 368, 369, 1568].all (fun x => !(W.contains x)) = true) (hd : FD T T1) (hg : GR T T1) : CKr T T1 := by
  have r0 := rrole.2.2.2
  have f := fun (x : Nat) (hx : x ∈ [256, 257, 258, 1984, 2016, 2048, 2080, 2112, 368, 369, 1568]) => con_f (W := W) (List.all_eq_true.mp c x hx)
  refine ⟨hw 0 16 ?_, hw 0 17 ?_, fun k => hw 432 k ?_, fun d hd _ => ck_st hw (fun x hx => f x ?_) hd, fun s c' k hs hc => hd _ k (dl_ro hs hc) (by omega), e14_gr hV hg⟩
  · rw [r0]; exact f 368 (by decide)
  · rw [r0]; exact f 369 (by decide)
  · rw [r432]; exact f 1568 (by decide)
  · rw [show [256, 257, 258, 1984, 2016, 2048, 2080, 2112, 368, 369, 1568] = [256, 257, 258, 1984, 2016, 2048, 2080, 2112] ++ [368, 369, 1568] from rfl]
    exact List.mem_append_left _ hx
end
end
section
/-! 24a.ans.lean.txt -/
/-! answers that follow from R2: states, delays -/
section
variable {T T1 : AT} {S S1 : MS} {k1 : Nat} {r1 r2 : Int32}
theorem p_cam {k : Nat} {r : Int32} (h : R1 T S) (g : g_X11_needCamera T 0 = some (k, r, T1)) : T1 = T ∧ (k = 0 ∧ S.1 20 = 1 ∨ k = 1 ∧ S.1 20 = 0) := by
  obtain ⟨s, hs, h14, hr⟩ := h.2.2.2.2
  obtain ⟨e, q⟩ := c_cam h14 g
  refine ⟨e, ?_⟩
  rcases hr with ⟨a, b, b4, b8⟩ | ⟨a, -, z, -⟩
  · obtain ⟨c, -, x, y, -⟩ := b.2.1
    rcases q with ⟨q, -⟩ | ⟨-, q5⟩
    · exact .inl ⟨q, a⟩
    · exact absurd (y.trans (x.symm.trans q5)) b4
  · rcases q with ⟨-, q5⟩ | ⟨q, -⟩
    · exact absurd z q5
    · exact .inr ⟨q, a⟩
theorem r1_sce (h : R1 T S) (h20 : S.1 20 = 1) : ∃ s, (s = 478 ∨ s = 656) ∧ T.2.2.2.2 0 14 = some s ∧ SRF s T ∧ SCE s T (S.2.1 10) ∧ S.2.1 10 8 ≠ 0 := by
  obtain ⟨s, hs, h14, hr⟩ := h.2.2.2.2
  rcases hr with ⟨a, b, b4, b8⟩ | ⟨a, -⟩
  · exact ⟨s, hs, h14, h.1.srf hs, b, b8⟩
  · rw [h20] at a; exact absurd a (by decide)
theorem p_mic {k : Nat} {a r : Int32} (h : R1 T S) (h20 : S.1 20 = 1) (g : g_X11_needMic T 0 a = some (k, r, T1)) : T1 = T ∧ (k = 0 ∧ 0 ≤ a.toInt ∧ a.toInt < (S.2.1 10 4).toInt ∨ k = 2 ∧ ¬ (0 ≤ a.toInt ∧ a.toInt < (S.2.1 10 4).toInt)) := by
  obtain ⟨s, hs, h14, hF, b, -⟩ := r1_sce h h20
  have q := c_mic h14 g
  obtain ⟨c, -, x, y, -⟩ := b.2.1
  rw [x, ← y] at q
  exact q
theorem p_src {k : Nat} {a r : Int32} (h : R1 T S) (h20 : S.1 20 = 1) (g : g_X11_needSource T 0 a = some (k, r, T1)) : T1 = T ∧ (k = 0 ∧ 0 ≤ a.toInt ∧ a.toInt < (S.2.1 10 5).toInt ∨ k = 2 ∧ ¬ (0 ≤ a.toInt ∧ a.toInt < (S.2.1 10 5).toInt)) := by
  obtain ⟨s, hs, h14, hF, b, -⟩ := r1_sce h h20
  have q := c_src h14 g
  obtain ⟨c, -, x, y, -⟩ := b.2.2.2.1
  rw [x, ← y] at q
  exact q
theorem p_cell {k : Nat} {a r : Int32} (h : R1 T S) (h20 : S.1 20 = 1) (g : g_X11_needCell T 0 a = some (k, r, T1)) : T1 = T ∧ (k = 0 ∧ 0 ≤ a.toInt ∧ a.toInt < (S.2.1 10 9 * S.2.1 10 10).toInt ∨ k = 2 ∧ ¬ (0 ≤ a.toInt ∧ a.toInt < (S.2.1 10 9 * S.2.1 10 10).toInt)) := by
  obtain ⟨s, hs, h14, hF, b, -⟩ := r1_sce h h20
  have q := c_cell hF h14 g
  obtain ⟨y3, y4, -⟩ := b.2.2.1
  rw [y3, y4] at q
  exact q
theorem ix_or {a n n1 : Int32} (e : n1.toInt = n.toInt - 1) : (if 0 ≤ a ∧ a ≤ n1 then (1 : Int32) else 0) = 1 ∧ 0 ≤ a.toInt ∧ a.toInt < n.toInt ∨ (if 0 ≤ a ∧ a ≤ n1 then (1 : Int32) else 0) = 0 ∧ ¬ (0 ≤ a.toInt ∧ a.toInt < n.toInt) := by
  have z0 : (0 : Int32).toInt = 0 := by decide
  by_cases c : 0 ≤ a ∧ a ≤ n1
  · rw [if_pos c]
    have c0 := i_le c.1
    have c1 := i_le c.2
    exact .inl ⟨rfl, by omega, by omega⟩
  · rw [if_neg c]
    refine .inr ⟨rfl, fun q => c ⟨Int32.le_iff_toInt_le.mpr (by omega), Int32.le_iff_toInt_le.mpr (by omega)⟩⟩
theorem q_mic {a r : Int32} (hP : PL (S.2.1 10)) (hf : fr_isMic S a = some (r, S1)) : S1 = S ∧ (r = 1 ∧ 0 ≤ a.toInt ∧ a.toInt < (S.2.1 10 4).toInt ∨ r = 0 ∧ ¬ (0 ≤ a.toInt ∧ a.toInt < (S.2.1 10 4).toInt)) := by
  obtain ⟨e, q⟩ := r_mic hf
  have p := pl_4 hP
  have z1 : (1 : Int32).toInt = 1 := by decide
  refine ⟨e, ?_⟩
  rw [q]
  exact ix_or (i_sub rfl (by omega) (by omega))
theorem q_src {a r : Int32} (hP : PL (S.2.1 10)) (hf : fr_isSource S a = some (r, S1)) : S1 = S ∧ (r = 1 ∧ 0 ≤ a.toInt ∧ a.toInt < (S.2.1 10 5).toInt ∨ r = 0 ∧ ¬ (0 ≤ a.toInt ∧ a.toInt < (S.2.1 10 5).toInt)) := by
  have p := pl_5 hP
  have z1 : (1 : Int32).toInt = 1 := by decide
  unfold fr_isSource at hf
  obtain ⟨v2, d2, hf⟩ := elet_some hf
  obtain ⟨v3, d3, hf⟩ := elet_some hf
  obtain ⟨r4, f4, hf⟩ := obind_some hf
  obtain ⟨-, hf⟩ := oif_some hf
  have f := osome2 hf
  rw [← f.1, ← f.2, r_in f4, d3, d2]
  exact ⟨rfl, ix_or (i_sub rfl (by omega) (by omega))⟩
theorem q_cell {a r : Int32} (hP : PL (S.2.1 10)) (hf : fr_isCell S a = some (r, S1)) : S1 = S ∧ (r = 1 ∧ 0 ≤ a.toInt ∧ a.toInt < (S.2.1 10 9 * S.2.1 10 10).toInt ∨ r = 0 ∧ ¬ (0 ≤ a.toInt ∧ a.toInt < (S.2.1 10 9 * S.2.1 10 10).toInt)) := by
  obtain ⟨e, q⟩ := r_cell hf
  refine ⟨e, ?_⟩
  rw [q]
  exact ix_or (pl_cell hP).2.2.2
theorem q_in {v a b r : Int32} (hf : fr_in v a b = some r) : r = 1 ∧ a.toInt ≤ v.toInt ∧ v.toInt ≤ b.toInt ∨ r = 0 ∧ ¬ (a.toInt ≤ v.toInt ∧ v.toInt ≤ b.toInt) := by
  rcases tin2 hf with ⟨e, x, y⟩ | ⟨e, n⟩
  · exact .inl ⟨e, i_le x, i_le y⟩
  · exact .inr ⟨e, fun q => n ⟨Int32.le_iff_toInt_le.mpr q.1, Int32.le_iff_toInt_le.mpr q.2⟩⟩
/-- the reference's answer where no camera is loaded, or no such part is there, or neither -/
theorem ask_0 {a r : Int32} (h20 : S.1 20 = 0) (hf : fr_mayAsk S a = some (r, S1)) : S1 = mi S 0 1 ∧ r = 0 := by
  obtain ⟨e, q⟩ := r_ask hf
  have w : wAsk S a = 1 := by unfold wAsk; rw [if_pos h20]
  rw [w] at e q
  exact ⟨e, q⟩
theorem ask_2 {r : Int32} (h20 : S.1 20 = 1) (hf : fr_mayAsk S 0 = some (r, S1)) : S1 = mi S 0 2 ∧ r = 0 := by
  obtain ⟨e, q⟩ := r_ask hf
  have w : wAsk S 0 = 2 := by unfold wAsk; rw [if_neg (by rw [h20]; decide), if_pos rfl]
  rw [w] at e q
  exact ⟨e, q⟩
theorem ask_1 {r : Int32} (h20 : S.1 20 = 1) (hf : fr_mayAsk S 1 = some (r, S1)) : S1 = mi S 0 0 ∧ r = 1 := by
  obtain ⟨e, q⟩ := r_ask hf
  have w : wAsk S 1 = 0 := by unfold wAsk; rw [if_neg (by rw [h20]; decide), if_neg (by decide)]
  rw [w] at e q
  exact ⟨e, q⟩
theorem r2_mi0 {w : Int32} (h : R2 T S) : R2 T (mi S 0 w) := h
theorem r_hears {a r : Int32} (h0 : 0 ≤ a.toInt) (h1 : a.toInt < 12) (hf : fr_hears_12 S a = some (r, S1)) : S1 = S ∧ r = if S.2.1 12 (1 + a.toNatClampNeg) = 0 then 1 else 0 := by
  have z1 : (1 : Int32).toInt = 1 := by decide
  unfold fr_hears_12 at hf
  obtain ⟨v2, d2, hf⟩ := elet_some hf
  obtain ⟨-, hf⟩ := oif_some hf
  obtain ⟨v4, d4, hf⟩ := elet_some hf
  have k2 : v2.toNatClampNeg = 1 + a.toNatClampNeg := by
    have q := i_add d2 (by omega) (by omega)
    have q2 := i_cl (i := v2) (by omega)
    have q3 := i_cl h0
    omega
  rw [k2] at d4
  rw [← d4]
  rcases oif_or hf with ⟨c, hf⟩ | ⟨c, hf⟩
  · unfold fr_hears_12_b13 at hf
    have f := osome2 (oif_some hf).2
    rw [if_pos c]
    exact ⟨f.2.symm, f.1.symm⟩
  · unfold fr_hears_12_b13 at hf
    have f := osome2 (oif_some hf).2
    rw [if_neg c]
    exact ⟨f.2.symm, f.1.symm⟩
theorem cl_ad {a v : Int32} {n : Nat} (hn : n ≤ 2000) (h0 : 0 ≤ a.toInt) (h1 : a.toInt < 2000) (e : v = nI n + a) : v.toNatClampNeg = n + a.toNatClampNeg := by
  have z : (nI n).toInt = (n : Int) := nI_toInt (by omega)
  have q := i_add e (by omega) (by omega)
  have q2 := i_cl (i := v) (by omega)
  have q3 := i_cl h0
  omega
theorem b01 {x : Int32} (h : 0 ≤ x.toInt ∧ x.toInt ≤ 1) : x = 0 ∨ x = 1 := i_b01 (by omega)
end
end
section
/-! 24c.spread.lean.txt -/
/-! spread, window, alias: sums over the microphones that are heard -/
section
variable {T T1 : AT} {S S1 : MS} {k1 : Nat} {r1 r2 : Int32}
/-- the row dl of the class holds the delays D, and both know alike who is muted -/
def HR (T : AT) (S : MS) (dl : Nat) (D : Nat → Int32) : Prop := T.2.2.1 242 0 = S.2.1 10 4 ∧ (S.2.1 10 4).toInt ≤ 12 ∧ (∀ m : Nat, (m : Int) < (S.2.1 10 4).toInt → T.2.2.1 243 m = S.2.1 12 (1 + m) ∧ T.2.2.1 dl m = D m) ∧ T.2.2.2.2 242 3 = some 243
def act (S : MS) (m : Nat) : Prop := S.2.1 12 (1 + m) = 0
def SPg (S : MS) (D : Nat → Int32) (a r : Int32) (j : Nat) : Prop := a.toInt ≤ r.toInt ∧ (∀ m : Nat, j ≤ m → (m : Int) < (S.2.1 10 4).toInt → act S m → (D m).toInt ≤ r.toInt) ∧ (r = a ∨ ∃ m : Nat, j ≤ m ∧ (m : Int) < (S.2.1 10 4).toInt ∧ act S m ∧ r = D m)
def SPs (S : MS) (D : Nat → Int32) (a r : Int32) (j : Nat) : Prop := r.toInt ≤ a.toInt ∧ (∀ m : Nat, j ≤ m → (m : Int) < (S.2.1 10 4).toInt → act S m → r.toInt ≤ (D m).toInt) ∧ (r = a ∨ ∃ m : Nat, j ≤ m ∧ (m : Int) < (S.2.1 10 4).toInt ∧ act S m ∧ r = D m)
theorem SPg.skip {D : Nat → Int32} {a r : Int32} {j : Nat} (h : SPg S D a r (j + 1)) (n : ¬ act S j) : SPg S D a r j := by
  refine ⟨h.1, fun m h1 h2 h3 => h.2.1 m ?_ h2 h3, h.2.2.imp id (fun ⟨m, h1, h2⟩ => ⟨m, by omega, h2⟩)⟩
  by_cases q : m = j
  · rw [q] at h3; exact absurd h3 n
  · omega
theorem SPg.take {D : Nat → Int32} {a b r : Int32} {j : Nat} (h : SPg S D b r (j + 1)) (hj : (j : Int) < (S.2.1 10 4).toInt) (n : act S j) (e : b = if a < D j then D j else a) : SPg S D a r j := by
  have q := i_ilt e
  refine ⟨by have := h.1; omega, fun m h1 h2 h3 => ?_, ?_⟩
  · by_cases q2 : m = j
    · rw [q2]; have := h.1; omega
    · exact h.2.1 m (by omega) h2 h3
  · rcases h.2.2 with z | ⟨m, h1, h2⟩
    · rw [z, e]
      by_cases c : a < D j
      · rw [if_pos c]; exact .inr ⟨j, Nat.le_refl j, hj, n, rfl⟩
      · rw [if_neg c]; exact .inl rfl
    · exact .inr ⟨m, by omega, h2⟩
theorem SPs.skip {D : Nat → Int32} {a r : Int32} {j : Nat} (h : SPs S D a r (j + 1)) (n : ¬ act S j) : SPs S D a r j := by
  refine ⟨h.1, fun m h1 h2 h3 => h.2.1 m ?_ h2 h3, h.2.2.imp id (fun ⟨m, h1, h2⟩ => ⟨m, by omega, h2⟩)⟩
  by_cases q : m = j
  · rw [q] at h3; exact absurd h3 n
  · omega
theorem SPs.take {D : Nat → Int32} {a b r : Int32} {j : Nat} (h : SPs S D b r (j + 1)) (hj : (j : Int) < (S.2.1 10 4).toInt) (n : act S j) (e : b = if D j < a then D j else a) : SPs S D a r j := by
  have q := i_ilt e
  refine ⟨by have := h.1; omega, fun m h1 h2 h3 => ?_, ?_⟩
  · by_cases q2 : m = j
    · rw [q2]; have := h.1; omega
    · exact h.2.1 m (by omega) h2 h3
  · rcases h.2.2 with z | ⟨m, h1, h2⟩
    · rw [z, e]
      by_cases c : D j < a
      · rw [if_pos c]; exact .inr ⟨j, Nat.le_refl j, hj, n, rfl⟩
      · rw [if_neg c]; exact .inl rfl
    · exact .inr ⟨m, by omega, h2⟩
theorem SPg.end {D : Nat → Int32} {a : Int32} {j : Nat} (h : (S.2.1 10 4).toInt ≤ j) : SPg S D a a j := ⟨Int.le_refl _, fun m h1 h2 _ => by omega, .inl rfl⟩
theorem SPs.end {D : Nat → Int32} {a : Int32} {j : Nat} (h : (S.2.1 10 4).toInt ≤ j) : SPs S D a a j := ⟨Int.le_refl _, fun m h1 h2 _ => by omega, .inl rfl⟩
theorem SPg.uniq {D : Nat → Int32} {a r1 r2 : Int32} {j : Nat} (h : SPg S D a r1 j) (k : SPg S D a r2 j) : r1 = r2 := by
  have h1 := h.1
  have k1 := k.1
  rcases h.2.2 with z | ⟨m, q1, q2, q3, q4⟩
  · rcases k.2.2 with y | ⟨n, p1, p2, p3, p4⟩
    · rw [z, y]
    · have w := h.2.1 n p1 p2 p3
      have z := i_eq z
      have p4 := i_eq p4
      exact Int32.toInt_inj.mp (by omega)
  · have q4 := i_eq q4
    have w := k.2.1 m q1 q2 q3
    rcases k.2.2 with y | ⟨n, p1, p2, p3, p4⟩
    · have y := i_eq y
      exact Int32.toInt_inj.mp (by omega)
    · have p4 := i_eq p4
      have a1 := h.2.1 n p1 p2 p3
      exact Int32.toInt_inj.mp (by omega)
/-- two folds from above with a heard microphone agree, where both starts are not below -/
theorem SPs.uniq {D : Nat → Int32} {a b r1 r2 : Int32} {j m0 : Nat} (h : SPs S D a r1 j) (k : SPs S D b r2 j) (h0 : j ≤ m0 ∧ (m0 : Int) < (S.2.1 10 4).toInt ∧ act S m0) (ha : ∀ m : Nat, j ≤ m → (m : Int) < (S.2.1 10 4).toInt → act S m → (D m).toInt ≤ a.toInt) (hb : ∀ m : Nat, j ≤ m → (m : Int) < (S.2.1 10 4).toInt → act S m → (D m).toInt ≤ b.toInt) : r1 = r2 := by
  have att : ∀ {a r : Int32}, SPs S D a r j → (∀ m : Nat, j ≤ m → (m : Int) < (S.2.1 10 4).toInt → act S m → (D m).toInt ≤ a.toInt) → ∃ m : Nat, j ≤ m ∧ (m : Int) < (S.2.1 10 4).toInt ∧ act S m ∧ r = D m := by
    intro a r h ha
    rcases h.2.2 with z | z
    · have z := i_eq z
      have w1 := h.2.1 m0 h0.1 h0.2.1 h0.2.2
      have w2 := ha m0 h0.1 h0.2.1 h0.2.2
      exact ⟨m0, h0.1, h0.2.1, h0.2.2, Int32.toInt_inj.mp (by omega)⟩
    · exact z
  obtain ⟨m, q1, q2, q3, q4⟩ := att h ha
  obtain ⟨n, p1, p2, p3, p4⟩ := att k hb
  have a1 := h.2.1 n p1 p2 p3
  have a2 := k.2.1 m q1 q2 q3
  have q4 := i_eq q4
  have p4 := i_eq p4
  exact Int32.toInt_inj.mp (by omega)
theorem c_great {dl : Nat} {D : Nat → Int32} (hR : HR T S dl D) : ∀ (f j : Nat) {a r : Int32}, j ≤ 12 → g_X8_greatestDelay_b4 f T 242 dl a (nI j) = some (r, T1) → T1 = T ∧ SPg S D a r j := by
  obtain ⟨e0, p4, hm, r3⟩ := hR
  intro f
  induction f with
  | zero => intro j a r hj h; cases h
  | succ f ih =>
    intro j a r hj h
    have jI : (nI j).toInt = (j : Int) := nI_toInt (by omega)
    have kj : (nI j).toNatClampNeg = j := nI_clamp (by omega)
    unfold g_X8_greatestDelay_b4 at h
    obtain ⟨-, h⟩ := oif_some h
    obtain ⟨v3, e3, h⟩ := elet_some h
    rw [e0] at e3
    rcases oif_or h with ⟨c, h⟩ | ⟨c, h⟩
    · have c := i_le c
      have f := osome2 h
      rw [← f.1, ← f.2]
      exact ⟨rfl, SPg.end (by rw [← e3]; omega)⟩
    · have c := i_nle c
      rw [e3] at c
      obtain ⟨hm1, hm2⟩ := hm j (by omega)
      obtain ⟨-, h⟩ := oif_some h
      obtain ⟨n6, en, h⟩ := obind_some h
      rw [r3] at en
      cases en
      obtain ⟨-, h⟩ := oif_some h
      obtain ⟨-, h⟩ := oif_some h
      obtain ⟨v9, e9, h⟩ := elet_some h
      rw [kj, hm1] at e9
      rcases oif_or h with ⟨c9, h⟩ | ⟨c9, h⟩
      · obtain ⟨-, h⟩ := oif_some h
        obtain ⟨-, h⟩ := oif_some h
        obtain ⟨v13, e13, h⟩ := elet_some h
        obtain ⟨v14, e14, h⟩ := elet_some h
        rw [kj, hm2] at e13
        unfold g_X8_greatestDelay_b29 at h
        obtain ⟨v2, e2, h⟩ := elet_some h
        rw [show v2 = nI (j + 1) from e2.trans (nI_p1 j)] at h
        obtain ⟨a1, a2⟩ := ih (j + 1) (by omega) h
        exact ⟨a1, a2.take (by omega) (e9.symm.trans c9) (by rw [e14, e13])⟩
      · unfold g_X8_greatestDelay_b29 at h
        obtain ⟨v2, e2, h⟩ := elet_some h
        rw [show v2 = nI (j + 1) from e2.trans (nI_p1 j)] at h
        obtain ⟨a1, a2⟩ := ih (j + 1) (by omega) h
        exact ⟨a1, a2.skip (fun q => c9 (e9.trans q))⟩
/-- is one heard, in the reference -/
theorem h_act {j : Nat} {r : Int32} (hj : j < 12) (hf : fr_hears_12 S (nI j) = some (r, S1)) : S1 = S ∧ (r = 1 ∧ act S j ∨ r = 0 ∧ ¬ act S j) := by
  have jI : (nI j).toInt = (j : Int) := nI_toInt (by omega)
  have kj : (nI j).toNatClampNeg = j := nI_clamp (by omega)
  obtain ⟨e, q⟩ := r_hears (by omega) (by omega) hf
  rw [kj] at q
  refine ⟨e, ?_⟩
  by_cases c : S.2.1 12 (1 + j) = 0
  · rw [if_pos c] at q; exact .inl ⟨q, c⟩
  · rw [if_neg c] at q; exact .inr ⟨q, c⟩
/-- row and state of a cell, for the sums -/
theorem hr_of {c : Nat} (hP : PL (S.2.1 10)) (q20 : S.1 20 = 1) (h : R2 T S) {s : Nat} (h14 : T.2.2.2.2 0 14 = some s) (hc : (c : Int) < (S.2.1 10 9 * S.2.1 10 10).toInt) : HR T S (s + 16 + c) (fun m => S.2.1 17 (12 * c + m)) := by
  obtain ⟨a, b, -, -⟩ := h.2.2.2 q20
  refine ⟨a.1, (pl_4 hP).2, fun m hm => ⟨?_, b s h14 c m hc hm⟩, (sd_rf h.1.1 d242).1⟩
  have q := (a.2.2.2.1 m hm).1
  rw [Nat.zero_add] at q
  exact q
end
end
section
/-! 24d.window.lean.txt -/
/-! window, alias -/
section
variable {T T1 : AT} {S S1 : MS} {k1 : Nat} {r1 r2 : Int32}
theorem x_lays {c : Nat} (hc : c < 144) {S0 : MS} (p4 : (S0.2.1 10 4).toInt ≤ 12) : ∀ (f j : Nat) {S : MS}, j ≤ 12 → S.2.1 10 = S0.2.1 10 → S.2.1 17 = S0.2.1 17 → (∀ m, m < j → S.2.1 24 m = S0.2.1 17 (12 * c + m)) → fr_laysCell_b2 f S (nI c) (nI j) = some S1 → ∀ m : Nat, (m : Int) < (S0.2.1 10 4).toInt → S1.2.1 24 m = S0.2.1 17 (12 * c + m) := by
  intro f
  induction f with
  | zero => intro j S hj e10 e17 hm h; cases h
  | succ f ih =>
    intro j S hj e10 e17 hm h
    have jI : (nI j).toInt = (j : Int) := nI_toInt (by omega)
    unfold fr_laysCell_b2 at h
    obtain ⟨v2, e2, h⟩ := elet_some h
    rw [e10] at e2
    rcases oif_or h with ⟨cc, h⟩ | ⟨cc, h⟩
    · have cc := i_le cc
      rw [e2] at cc
      rw [← osome1 h]
      exact fun m h => hm m (by omega)
    · have cc := i_nle cc
      rw [e2] at cc
      obtain ⟨v4, e4, h⟩ := elet_some h
      obtain ⟨v5, e5, h⟩ := elet_some h
      obtain ⟨-, h⟩ := oif_some h
      obtain ⟨v7, e7, h⟩ := elet_some h
      obtain ⟨-, h⟩ := oif_some h
      obtain ⟨S9, e9, h⟩ := elet_some h
      obtain ⟨v10, e10', h⟩ := elet_some h
      rw [show v10 = nI (j + 1) from e10'.trans (nI_p1 j)] at h
      have k5 : v5 = nI (12 * c + j) := by rw [e5, e4, ← nI_add, ← nI_mulk]; rfl
      rw [k5, nI_clamp (by omega), e17] at e7
      rw [nI_clamp (by omega)] at e9
      refine ih (j + 1) (by omega) (by rw [e9, mf_ne (by decide)]; exact e10) (by rw [e9, mf_ne (by decide)]; exact e17) (fun m hm2 => ?_) h
      rw [e9, mf_at]
      show (if m = j then v7 else S.2.1 24 m) = _
      by_cases q : m = j
      · rw [if_pos q, e7, q]
      · rw [if_neg q]; exact hm m (by omega)
theorem r_win {D : Nat → Int32} (p4 : (S.2.1 10 4).toInt ≤ 12) (hD : ∀ m : Nat, (m : Int) < (S.2.1 10 4).toInt → S.2.1 24 m = D m) : ∀ (f j : Nat) {a r : Int32}, j ≤ 12 → fr_windowOf_12_b4 f S a (nI j) = some (r, S1) → S1 = S ∧ ∃ y, r = (if 0 < S.2.1 10 2 - y then S.2.1 10 2 - y else 0) ∧ SPg S D a y j := by
  intro f
  induction f with
  | zero => intro j a r hj h; cases h
  | succ f ih =>
    intro j a r hj h
    have jI : (nI j).toInt = (j : Int) := nI_toInt (by omega)
    unfold fr_windowOf_12_b4 at h
    obtain ⟨v2, e2, h⟩ := elet_some h
    rcases oif_or h with ⟨cc, h⟩ | ⟨cc, h⟩
    · have cc := i_le cc
      rw [e2] at cc
      obtain ⟨v4, e4, h⟩ := elet_some h
      obtain ⟨v5, e5, h⟩ := elet_some h
      obtain ⟨v6, e6, h⟩ := elet_some h
      have f := osome2 h
      rw [← f.1, ← f.2]
      exact ⟨rfl, a, by rw [e6, e5, e4], SPg.end (by omega)⟩
    · have cc := i_nle cc
      rw [e2] at cc
      obtain ⟨r10, S7, f7, h⟩ := obind2_some h
      obtain ⟨e7, q7⟩ := h_act (by omega) f7
      rw [e7] at h
      rcases oif_or h with ⟨z, h⟩ | ⟨z, h⟩
      · unfold fr_windowOf_12_b37 at h
        obtain ⟨w2, d2, h⟩ := elet_some h
        rw [show w2 = nI (j + 1) from d2.trans (nI_p1 j)] at h
        obtain ⟨a1, y, a2, a3⟩ := ih (j + 1) (by omega) h
        have na : ¬ act S j := by
          rcases q7 with ⟨q, -⟩ | ⟨-, q⟩
          · rw [q] at z; exact absurd z (by decide)
          · exact q
        exact ⟨a1, y, a2, a3.skip na⟩
      · obtain ⟨-, h⟩ := oif_some h
        obtain ⟨v13, e13, h⟩ := elet_some h
        obtain ⟨v14, e14, h⟩ := elet_some h
        unfold fr_windowOf_12_b37 at h
        obtain ⟨w2, d2, h⟩ := elet_some h
        rw [show w2 = nI (j + 1) from d2.trans (nI_p1 j)] at h
        obtain ⟨a1, y, a2, a3⟩ := ih (j + 1) (by omega) h
        have na : act S j := by
          rcases q7 with ⟨-, q⟩ | ⟨q, -⟩
          · exact q
          · exact absurd q z
        rw [nI_clamp (by omega), hD j (by omega)] at e13
        exact ⟨a1, y, a2, a3.take (by omega) na (by rw [e14, e13])⟩
theorem max_same (x : Int32) : (if x < 0 then 0 else x) = if 0 < x then x else 0 := by
  by_cases c : x < 0
  · rw [if_pos c, if_neg (fun q => by have := i_lt c; have := i_lt q; omega)]
  · rw [if_neg c]
    by_cases d : 0 < x
    · rw [if_pos d]
    · rw [if_neg d]
      have c := i_nlt c
      have d := i_nlt d
      exact Int32.toInt_inj.mp (by omega)
theorem r2h_window {a0 : Int32} (hV : IV aR0 1586 aK1 aK2 T) (hJ : JJ S) (h : R2 T S) (hg : g_X11_window T 0 a0 = some (k1, r1, T1)) (hf : fr_window S a0 = some (r2, S1)) : S1.1 0 = vck 1 2 0 k1 ∧ (vck 1 2 0 k1 = 0 → k1 = 0 ∧ r1 = r2) := by
  have z0 : (0 : Int32).toInt = 0 := by decide
  unfold fr_window at hf
  obtain ⟨r5, S2, f5, hf⟩ := obind2_some hf
  obtain ⟨r9, S6, f9, hf⟩ := obind2_some hf
  have eS := (r_cell f5).1
  rw [eS] at f9
  unfold g_X11_window at hg
  obtain ⟨-, hg⟩ := oif_some hg
  rcases othr_k hg with ⟨rc, gc, hc⟩ | ⟨rc, Tc, gc, hg⟩
  · obtain ⟨-, ⟨q, -⟩ | ⟨q, q20⟩⟩ := p_cam h.1 gc
    · exact absurd q hc
    · obtain ⟨e, er⟩ := ask_0 q20 f9
      rw [if_pos er] at hf
      rw [q, ← (osome2 hf).2, e, mi_at]
      exact ⟨rfl, fun q => absurd q (by decide)⟩
  · obtain ⟨eT, ⟨-, q20⟩ | ⟨q, -⟩⟩ := p_cam h.1 gc
    case inr => exact absurd q (by decide)
    rw [eT] at hg
    have hP := r_pl hJ q20
    have p4 := pl_4 hP
    obtain ⟨p1, p2, p3, -⟩ := pl_cell hP
    obtain ⟨-, hg⟩ := oif_some hg
    rcases othr_k hg with ⟨rc2, gc2, hc⟩ | ⟨rc2, Tc2, gc2, hg⟩
    · obtain ⟨-, ⟨q, -⟩ | ⟨q, qc⟩⟩ := p_cell h.1 q20 gc2
      · exact absurd q hc
      · rcases (q_cell hP f5).2 with ⟨-, z⟩ | ⟨z, -⟩
        · exact absurd z qc
        · rw [z] at f9
          obtain ⟨e, er⟩ := ask_2 q20 f9
          rw [if_pos er] at hf
          rw [q, ← (osome2 hf).2, e, mi_at]
          exact ⟨rfl, fun q => absurd q (by decide)⟩
    · obtain ⟨eT2, ⟨-, qc⟩ | ⟨q, -⟩⟩ := p_cell h.1 q20 gc2
      case inr => exact absurd q (by decide)
      rw [eT2] at hg
      rcases (q_cell hP f5).2 with ⟨z, -⟩ | ⟨-, z⟩
      case inr => exact absurd qc z
      rw [z] at f9
      obtain ⟨e, er⟩ := ask_1 q20 f9
      rw [if_neg (by rw [er]; decide)] at hf
      obtain ⟨s, hs, h14, hF, b, -⟩ := r1_sce h.1 q20
      obtain ⟨c, hc144, ec⟩ := nI_of01 (x := a0) (a := 144) (by omega) (by omega) (by omega)
      have kc : a0.toNatClampNeg = c := by rw [ec]; exact nI_clamp (by omega)
      have cI : a0.toInt = (c : Int) := by rw [ec]; exact nI_toInt (by omega)
      have hR := hr_of hP q20 h h14 (c := c) (by omega)
      obtain ⟨S11, f11, hf⟩ := obind_some hf
      obtain ⟨r17, S14, f14, hf⟩ := obind2_some hf
      have k11 := w_fr_laysCell f11
      have f := osome2 hf
      rw [ec] at f11
      have xl := x_lays (S0 := S6) hc144 (by rw [e]; exact p4.2) 16384 0 (by decide) rfl rfl (fun m hm => absurd hm (Nat.not_lt_zero m)) f11
      have e10 : S11.2.1 10 = S.2.1 10 := by rw [k11.2 10 (by decide), e]; rfl
      have e12 : S11.2.1 12 = S.2.1 12 := by rw [k11.2 12 (by decide), e]; rfl
      obtain ⟨e14, y, ey, sy⟩ := r_win (S := S11) (D := fun m => S.2.1 17 (12 * c + m)) (by rw [e10]; exact p4.2) (fun m hm => by
        rw [xl m (by rw [e10] at hm; rw [e]; exact hm), e]
        rfl) 16384 0 (by decide) f14
      have hR11 : HR T S11 (s + 16 + c) (fun m => S.2.1 17 (12 * c + m)) := by
        unfold HR at hR ⊢
        rw [e10, e12]
        exact hR
      obtain ⟨-, hg⟩ := oif_some hg
      obtain ⟨n13, en, hg⟩ := obind_some hg
      rw [(c_fld h.1.1).2.1] at en
      cases en
      obtain ⟨-, hg⟩ := oif_some hg
      obtain ⟨n15, en, hg⟩ := obind_some hg
      rw [h14] at en
      cases en
      obtain ⟨-, hg⟩ := oif_some hg
      obtain ⟨n17, en, hg⟩ := obind_some hg
      have e7' : T.2.2.2.2 s 17 = some (s + 15) := by unfold SRF at hF; exact hF.2.2.2.2.2.2.2.1
      rw [e7'] at en
      cases en
      obtain ⟨-, hg⟩ := oif_some hg
      obtain ⟨-, hg⟩ := oif_some hg
      obtain ⟨n20, en, hg⟩ := obind_some hg
      have e10' : T.2.2.2.2 (s + 15) c = some (s + 16 + c) := by unfold SRF at hF; exact hF.2.2.2.2.2.2.2.2.2.2.2.2.2.2 _ hc144
      rw [kc, e10'] at en
      cases en
      obtain ⟨-, hg⟩ := oif_some hg
      obtain ⟨r24, T22, g22, hg⟩ := obind2_some hg
      have g := osome3 hg
      unfold g_X8_windowOf at g22
      obtain ⟨-, g22⟩ := oif_some g22
      obtain ⟨w3, d3, g22⟩ := elet_some g22
      obtain ⟨-, g22⟩ := oif_some g22
      obtain ⟨r7, T5, g5, g22⟩ := obind2_some g22
      unfold g_X8_greatestDelay at g5
      obtain ⟨-, sg⟩ := c_great hR11 16384 0 (by decide) g5
      obtain ⟨w9, d9, g22⟩ := elet_some g22
      obtain ⟨w10, d10, g22⟩ := elet_some g22
      have gg := osome2 g22
      rw [← g.1, ← g.2.1, ← gg.1, ← f.1, ← f.2, e14, k11.1 0 (by decide), e, mi_at]
      refine ⟨rfl, fun _ => ⟨rfl, ?_⟩⟩
      have d3 : w3 = S.2.1 10 2 := by rw [d3]; exact ((h.2.2.2 q20).1).2.1
      rw [d10, d9, d3, ey, e10, sy.uniq sg]
      exact max_same _
end
end
section
/-! 25a.change.lean.txt -/
/-! changes: R2 is kept, the answers are alike -/
section
variable {T T1 : AT} {S S1 : MS} {k1 : Nat} {r1 r2 : Int32}
theorem x_sets {a v r : Int32} (h : fr_sets S a v = some (r, S1)) : ∃ S2, fr_remember S = some S2 ∧ r = S2.2.1 12 a.toNatClampNeg ∧ S1 = mf S2 12 (upd (S2.2.1 12) a.toNatClampNeg v) := by
  unfold fr_sets at h
  obtain ⟨S2, f2, h⟩ := obind_some h
  obtain ⟨-, h⟩ := oif_some h
  obtain ⟨v6, e6, h⟩ := elet_some h
  obtain ⟨-, h⟩ := oif_some h
  obtain ⟨S8, e8, h⟩ := elet_some h
  have q := osome2 h
  exact ⟨S2, f2, by rw [← q.1, e6], by rw [← q.2, e8]⟩
theorem iv_now {a off b k : Nat} {x : Int32} (hV : IV aR0 1586 aK1 aK2 T) (hr : rowat a off b) (hx : a = 1 ∧ 0 ≤ x.toInt ∧ x.toInt ≤ 1 ∨ a = 2 ∧ 0 ≤ x.toInt ∧ x.toInt ≤ 9 ∨ a = 3 ∧ 0 ≤ x.toInt ∧ x.toInt ≤ 1 ∨ (a = 4 ∨ a = 5) ∧ -2000 ≤ x.toInt ∧ x.toInt ≤ 2000 ∨ (a = 6 ∨ a = 7) ∧ -999 ≤ x.toInt ∧ x.toInt ≤ 999) : IV aR0 1586 aK1 aK2 (uI T (242 + a) k x) := by
  obtain ⟨r0, r1, r2, r3, r4, r5, r6, r7, -⟩ := sd_ro d242
  rcases hx with ⟨e, q⟩ | ⟨e, q⟩ | ⟨e, q⟩ | ⟨e | e, q⟩ | ⟨e | e, q⟩ <;> subst e
  · exact iv_uI hV r1 (by decide) (by decide) (rfl : iR 62 k = (0, 1)) q (.inl rfl)
  · exact iv_uI hV r2 (by decide) (by decide) (rfl : iR 63 k = (0, 9)) q (.inl rfl)
  · exact iv_uI hV r3 (by decide) (by decide) (rfl : iR 64 k = (0, 1)) q (.inl rfl)
  · exact iv_uI hV r4 (by decide) (by decide) (rfl : iR 65 k = (-2000, 2000)) q (.inl rfl)
  · exact iv_uI hV r5 (by decide) (by decide) (rfl : iR 65 k = (-2000, 2000)) q (.inl rfl)
  · exact iv_uI hV r6 (by decide) (by decide) (rfl : iR 66 k = (-999, 999)) q (.inl rfl)
  · exact iv_uI hV r7 (by decide) (by decide) (rfl : iR 66 k = (-999, 999)) q (.inl rfl)
/-- powers asked for in the class, cells laid in the reference: R2 stays -/
theorem r2_pb {n : Nat} (hL : S.1 20 = 1 → PL (S.2.1 10)) (hV : IV aR0 1586 aK1 aK2 T) (h : R2 T S) (g : g_X11_powersNow T 0 = some (n, T1)) (k : FK [] [24] S S1) : R2 T1 S1 ∧ IV aR0 1586 aK1 aK2 T1 := by
  have c := tgo (cs_X11_powersNow T 0 hV rrole.2.2.2) g
  have gr := sr_X11_powersNow g
  exact ⟨r2_keepG hL h (r1_keep h.1 hV c.1.2 (by decide +kernel) gr ⟨k.1 2 (by decide), k.1 5 (by decide), k.1 6 (by decide), k.1 20 (by decide), k.2 1 (by decide), k.2 10 (by decide)⟩) (ck_fw hV c.1.2 (by decide +kernel) gr) ⟨k.1 19 (by decide), k.1 20 (by decide), k.2 10 (by decide), k.2 12 (by decide), k.2 15 (by decide), k.2 16 (by decide), k.2 17 (by decide), k.2 18 (by decide)⟩, c.1.1⟩
theorem src_same {a r : Int32} {U : MS} (h : fr_isSource S a = some (r, U)) : U = S := by
  unfold fr_isSource at h
  obtain ⟨v2, d2, h⟩ := elet_some h
  obtain ⟨v3, d3, h⟩ := elet_some h
  obtain ⟨r4, f4, h⟩ := obind_some h
  exact (osome2 (oif_some h).2).2.symm
theorem r2x_mute {a0 a1 : Int32} (hV : IV aR0 1586 aK1 aK2 T) (hJ : JJ S) (hb : 0 ≤ a1.toInt ∧ a1.toInt ≤ 1) (h : R2 T S) (hg : g_X11_mute T 0 a0 a1 = some (k1, r1, T1)) (hf : fr_mute S a0 a1 = some (r2, S1)) : R2 T1 S1 ∧ S1.1 0 = vck 1 2 0 k1 ∧ (vck 1 2 0 k1 = 0 → k1 = 0 ∧ r1 = r2) := by
  unfold fr_mute at hf
  obtain ⟨r5, S2, f5, hf⟩ := obind2_some hf
  obtain ⟨r9, S6, f9, hf⟩ := obind2_some hf
  have eS := (r_mic f5).1
  rw [eS] at f9
  unfold g_X11_mute at hg
  obtain ⟨-, hg⟩ := oif_some hg
  have no : ∀ {w : Int32}, S6 = mi S 0 w → fr_mute_b36 S6 = some (r2, S1) → S1 = mi S 0 w := by
    intro w e hf
    unfold fr_mute_b36 fr_mute_b37 at hf
    rw [← (osome2 (oif_some hf).2).2, e]
  rcases othr_k hg with ⟨rc, gc, hc⟩ | ⟨rc, Tc, gc, hg⟩
  · obtain ⟨eT, ⟨q, -⟩ | ⟨q, q20⟩⟩ := p_cam h.1 gc
    · exact absurd q hc
    · obtain ⟨e, er⟩ := ask_0 q20 f9
      rw [if_pos er] at hf
      have e1 := no e hf
      rw [q, eT, e1, mi_at]
      exact ⟨r2_mi0 h, rfl, fun q => absurd q (by decide)⟩
  · obtain ⟨eT, ⟨-, q20⟩ | ⟨q, -⟩⟩ := p_cam h.1 gc
    case inr => exact absurd q (by decide)
    rw [eT] at hg
    have hP := r_pl hJ q20
    have p4 := pl_4 hP
    obtain ⟨-, hg⟩ := oif_some hg
    rcases othr_k hg with ⟨rc2, gc2, hc⟩ | ⟨rc2, Tc2, gc2, hg⟩
    · obtain ⟨eT2, ⟨q, -⟩ | ⟨q, qc⟩⟩ := p_mic h.1 q20 gc2
      · exact absurd q hc
      · rcases (q_mic hP f5).2 with ⟨-, z⟩ | ⟨z, -⟩
        · exact absurd z qc
        · rw [z] at f9
          obtain ⟨e, er⟩ := ask_2 q20 f9
          rw [if_pos er] at hf
          have e1 := no e hf
          rw [q, eT2, e1, mi_at]
          exact ⟨r2_mi0 h, rfl, fun q => absurd q (by decide)⟩
    · obtain ⟨eT2, ⟨-, qc⟩ | ⟨q, -⟩⟩ := p_mic h.1 q20 gc2
      case inr => exact absurd q (by decide)
      rw [eT2] at hg
      rcases (q_mic hP f5).2 with ⟨z, -⟩ | ⟨-, z⟩
      case inr => exact absurd qc z
      rw [z] at f9
      obtain ⟨e, er⟩ := ask_1 q20 f9
      rw [if_neg (by rw [er]; decide)] at hf
      obtain ⟨v11, d11, hf⟩ := elet_some hf
      have k11 := cl_ad (n := 1) (by decide) qc.1 (by omega) d11
      have ka := i_cl qc.1
      obtain ⟨-, hg⟩ := oif_some hg
      obtain ⟨n13, en, hg⟩ := obind_some hg
      rw [(c_fld h.1.1).2.1] at en
      cases en
      obtain ⟨-, hg⟩ := oif_some hg
      obtain ⟨n15, en, hg⟩ := obind_some hg
      rw [(sd_rf h.1.1 d242).1] at en
      cases en
      obtain ⟨-, hg⟩ := oif_some hg
      obtain ⟨-, hg⟩ := oif_some hg
      obtain ⟨v18, e18, hg⟩ := elet_some hg
      obtain ⟨-, hg⟩ := oif_some hg
      obtain ⟨T20, g20, hg⟩ := obind_some hg
      have b25 : ∃ s0, s0 = a1 ∧ fr_mute_b25 S6 s0 v11 = some (r2, S1) := by
        rcases b01 hb with z | z
        · rw [if_pos z] at hf
          exact ⟨0, z.symm, hf⟩
        · rw [if_neg (by rw [z]; decide)] at hf
          exact ⟨1, z.symm, hf⟩
      obtain ⟨s0, es0, hf⟩ := b25
      rw [es0] at hf
      unfold fr_mute_b25 at hf
      obtain ⟨r5', S2', f5', hf⟩ := obind2_some hf
      obtain ⟨U, fU, er5, eU⟩ := x_sets f5'
      rw [k11] at er5 eU
      obtain ⟨K1, K2, K3, K4, K5, K6, -⟩ := r2_keepu (S := S6) (by rw [e]; exact hP) (by rw [e]; exact q20) hV (by rw [e]; exact r2_mi0 h) g20 fU
      unfold g_X11_mute_b23 at hg
      obtain ⟨-, hg⟩ := oif_some hg
      obtain ⟨n3, en, hg⟩ := obind_some hg
      rw [(c_fld K1.1.1).2.1] at en
      cases en
      obtain ⟨-, hg⟩ := oif_some hg
      obtain ⟨n5, en, hg⟩ := obind_some hg
      rw [(sd_rf K1.1.1 d242).1] at en
      cases en
      obtain ⟨-, hg⟩ := oif_some hg
      obtain ⟨-, hg⟩ := oif_some hg
      obtain ⟨-, hg⟩ := oif_some hg
      obtain ⟨T8, e8, hg⟩ := elet_some hg
      obtain ⟨b18, hg⟩ := oif_some hg
      have g := osome3 hg
      have R := r2_set (a := 1) (off := 1) (b := 12) (k := a0.toNatClampNeg) (x := a1) (by rw [K4, e]; exact hP) K2 (.inl ⟨rfl, rfl, rfl⟩) (by omega) K1
      have e18 : v18 = r5' := by
        rw [e18, er5, K5, e]
        have q := (((h.2.2.2 q20).1).2.2.2.1 a0.toNatClampNeg (by omega)).1
        rw [Nat.zero_add] at q
        exact q
      have fin : r2 = v18 ∧ S1 = S2' := by
        rw [← e18] at hf
        rcases b18 with z | z
        · rw [if_neg (by rw [z]; decide)] at hf
          unfold fr_mute_b36 fr_mute_b37 at hf
          have f := osome2 (oif_some hf).2
          exact ⟨by rw [← f.1, z], f.2.symm⟩
        · rw [if_pos z] at hf
          unfold fr_mute_b37 at hf
          have f := osome2 (oif_some hf).2
          exact ⟨by rw [← f.1, z], f.2.symm⟩
      rw [← g.1, ← g.2.1, ← g.2.2, fin.1, fin.2, e8, eU]
      refine ⟨R, ?_, fun _ => ⟨rfl, rfl⟩⟩
      show U.1 0 = 0
      rw [K6, e, mi_at]
theorem r2x_setWeight {a0 a1 : Int32} (hV : IV aR0 1586 aK1 aK2 T) (hJ : JJ S) (h : R2 T S) (hg : g_X11_setWeight T 0 a0 a1 = some (k1, r1, T1)) (hf : fr_setWeight S a0 a1 = some (r2, S1)) : R2 T1 S1 ∧ S1.1 0 = vck 1 2 3 k1 ∧ (vck 1 2 3 k1 = 0 → k1 = 0 ∧ r1 = r2) := by
  have z0 : (0 : Int32).toInt = 0 := by decide
  have z9 : (9 : Int32).toInt = 9 := by decide
  unfold fr_setWeight at hf
  obtain ⟨r5, S2, f5, hf⟩ := obind2_some hf
  obtain ⟨r9, S6, f9, hf⟩ := obind2_some hf
  have eS := (r_mic f5).1
  rw [eS] at f9
  unfold g_X11_setWeight at hg
  obtain ⟨-, hg⟩ := oif_some hg
  rcases othr_k hg with ⟨rc, gc, hc⟩ | ⟨rc, Tc, gc, hg⟩
  · obtain ⟨eT, ⟨q, -⟩ | ⟨q, q20⟩⟩ := p_cam h.1 gc
    · exact absurd q hc
    · obtain ⟨e, er⟩ := ask_0 q20 f9
      rw [if_pos er] at hf
      rw [q, eT, ← (osome2 hf).2, e, mi_at]
      exact ⟨r2_mi0 h, rfl, fun q => absurd q (by decide)⟩
  · obtain ⟨eT, ⟨-, q20⟩ | ⟨q, -⟩⟩ := p_cam h.1 gc
    case inr => exact absurd q (by decide)
    rw [eT] at hg
    have hP := r_pl hJ q20
    have p4 := pl_4 hP
    obtain ⟨-, hg⟩ := oif_some hg
    rcases othr_k hg with ⟨rc2, gc2, hc⟩ | ⟨rc2, Tc2, gc2, hg⟩
    · obtain ⟨eT2, ⟨q, -⟩ | ⟨q, qc⟩⟩ := p_mic h.1 q20 gc2
      · exact absurd q hc
      · rcases (q_mic hP f5).2 with ⟨-, z⟩ | ⟨z, -⟩
        · exact absurd z qc
        · rw [z] at f9
          obtain ⟨e, er⟩ := ask_2 q20 f9
          rw [if_pos er] at hf
          rw [q, eT2, ← (osome2 hf).2, e, mi_at]
          exact ⟨r2_mi0 h, rfl, fun q => absurd q (by decide)⟩
    · obtain ⟨eT2, ⟨-, qc⟩ | ⟨q, -⟩⟩ := p_mic h.1 q20 gc2
      case inr => exact absurd q (by decide)
      rw [eT2] at hg
      rcases (q_mic hP f5).2 with ⟨z, -⟩ | ⟨-, z⟩
      case inr => exact absurd qc z
      rw [z] at f9
      obtain ⟨e, er⟩ := ask_1 q20 f9
      rw [if_neg (by rw [er]; decide)] at hf
      obtain ⟨r11, f11, hf⟩ := obind_some hf
      have q11 := q_in f11
      rcases othr_k hg with ⟨rc3, gc3, hc⟩ | ⟨rc3, Tc3, gc3, hg⟩
      · obtain ⟨eT3, ⟨q, -⟩ | ⟨q, qd⟩⟩ := c_rng gc3
        · exact absurd q hc
        · rcases q11 with ⟨-, z⟩ | ⟨z, -⟩
          · exact absurd z qd
          · rw [if_pos z] at hf
            obtain ⟨r17, S14, f14, hf⟩ := obind2_some hf
            unfold fr_setWeight_b41 at hf
            rw [q, eT3, ← (osome2 hf).2, r_thr f14, mi_at, e]
            exact ⟨r2_mi0 (r2_mi0 h), rfl, fun q => absurd q (by decide)⟩
      · obtain ⟨eT3, ⟨-, qd⟩ | ⟨q, -⟩⟩ := c_rng gc3
        case inr => exact absurd q (by decide)
        rw [eT3] at hg
        rcases q11 with ⟨z, -⟩ | ⟨-, z⟩
        case inr => exact absurd qd z
        rw [if_neg (by rw [z]; decide)] at hf
        obtain ⟨v18, d18, hf⟩ := elet_some hf
        have k18 := cl_ad (n := 13) (by decide) qc.1 (by omega) d18
        have ka := i_cl qc.1
        obtain ⟨r22, S19, f19, hf⟩ := obind2_some hf
        unfold fr_setWeight_b41 at hf
        have f := osome2 hf
        obtain ⟨U, fU, er5, eU⟩ := x_sets f19
        rw [k18] at er5 eU
        obtain ⟨-, hg⟩ := oif_some hg
        obtain ⟨n13, en, hg⟩ := obind_some hg
        rw [(c_fld h.1.1).2.1] at en
        cases en
        obtain ⟨-, hg⟩ := oif_some hg
        obtain ⟨n15, en, hg⟩ := obind_some hg
        rw [(sd_rf h.1.1 d242).2.1] at en
        cases en
        obtain ⟨-, hg⟩ := oif_some hg
        obtain ⟨-, hg⟩ := oif_some hg
        obtain ⟨v22, e22, hg⟩ := elet_some hg
        obtain ⟨-, hg⟩ := oif_some hg
        obtain ⟨T24, g24, hg⟩ := obind_some hg
        obtain ⟨K1, K2, K3, K4, K5, K6, -⟩ := r2_keepu (S := S6) (by rw [e]; exact hP) (by rw [e]; exact q20) hV (by rw [e]; exact r2_mi0 h) g24 fU
        unfold g_X11_setWeight_b30 at hg
        obtain ⟨-, hg⟩ := oif_some hg
        obtain ⟨n3, en, hg⟩ := obind_some hg
        rw [(c_fld K1.1.1).2.1] at en
        cases en
        obtain ⟨-, hg⟩ := oif_some hg
        obtain ⟨n5, en, hg⟩ := obind_some hg
        rw [(sd_rf K1.1.1 d242).2.1] at en
        cases en
        obtain ⟨-, hg⟩ := oif_some hg
        obtain ⟨-, hg⟩ := oif_some hg
        obtain ⟨T8, e8, hg⟩ := elet_some hg
        have g := osome3 hg
        have R := r2_set (a := 2) (off := 13) (b := 12) (k := a0.toNatClampNeg) (x := a1) (by rw [K4, e]; exact hP) K2 (.inr (.inl ⟨rfl, rfl, rfl⟩)) (by omega) K1
        have e22 : v22 = r22 := by
          rw [e22, er5, K5, e]
          have q := (((h.2.2.2 q20).1).2.2.2.1 a0.toNatClampNeg (by omega)).2
          rw [Nat.zero_add] at q
          exact q
        rw [← g.1, ← g.2.1, ← g.2.2, ← f.1, ← f.2, e8, eU, e22]
        refine ⟨R, ?_, fun _ => ⟨rfl, rfl⟩⟩
        show U.1 0 = 0
        rw [K6, e, mi_at]
theorem r2x_setOn {a0 a1 : Int32} (hV : IV aR0 1586 aK1 aK2 T) (hJ : JJ S) (hb : 0 ≤ a1.toInt ∧ a1.toInt ≤ 1) (h : R2 T S) (hg : g_X11_setOn T 0 a0 a1 = some (k1, r1, T1)) (hf : fr_setOn S a0 a1 = some (r2, S1)) : R2 T1 S1 ∧ S1.1 0 = vck 1 2 0 k1 ∧ (vck 1 2 0 k1 = 0 → k1 = 0 ∧ r1 = r2) := by
  unfold fr_setOn at hf
  obtain ⟨r5, S2, f5, hf⟩ := obind2_some hf
  obtain ⟨r9, S6, f9, hf⟩ := obind2_some hf
  have eS := src_same f5
  rw [eS] at f9
  unfold g_X11_setOn at hg
  obtain ⟨-, hg⟩ := oif_some hg
  rcases othr_k hg with ⟨rc, gc, hc⟩ | ⟨rc, Tc, gc, hg⟩
  · obtain ⟨eT, ⟨q, -⟩ | ⟨q, q20⟩⟩ := p_cam h.1 gc
    · exact absurd q hc
    · obtain ⟨e, er⟩ := ask_0 q20 f9
      rw [if_pos er] at hf
      rw [q, eT, ← (osome2 hf).2, e, mi_at]
      exact ⟨r2_mi0 h, rfl, fun q => absurd q (by decide)⟩
  · obtain ⟨eT, ⟨-, q20⟩ | ⟨q, -⟩⟩ := p_cam h.1 gc
    case inr => exact absurd q (by decide)
    rw [eT] at hg
    have hP := r_pl hJ q20
    have p5 := pl_5 hP
    obtain ⟨-, hg⟩ := oif_some hg
    rcases othr_k hg with ⟨rc2, gc2, hc⟩ | ⟨rc2, Tc2, gc2, hg⟩
    · obtain ⟨eT2, ⟨q, -⟩ | ⟨q, qc⟩⟩ := p_src h.1 q20 gc2
      · exact absurd q hc
      · rcases (q_src hP f5).2 with ⟨-, z⟩ | ⟨z, -⟩
        · exact absurd z qc
        · rw [z] at f9
          obtain ⟨e, er⟩ := ask_2 q20 f9
          rw [if_pos er] at hf
          rw [q, eT2, ← (osome2 hf).2, e, mi_at]
          exact ⟨r2_mi0 h, rfl, fun q => absurd q (by decide)⟩
    · obtain ⟨eT2, ⟨-, qc⟩ | ⟨q, -⟩⟩ := p_src h.1 q20 gc2
      case inr => exact absurd q (by decide)
      rw [eT2] at hg
      rcases (q_src hP f5).2 with ⟨z, -⟩ | ⟨-, z⟩
      case inr => exact absurd qc z
      rw [z] at f9
      obtain ⟨e, er⟩ := ask_1 q20 f9
      rw [if_neg (by rw [er]; decide)] at hf
      obtain ⟨v11, d11, hf⟩ := elet_some hf
      have k11 := cl_ad (n := 25) (by decide) qc.1 (by omega) d11
      have ka := i_cl qc.1
      obtain ⟨-, hg⟩ := oif_some hg
      obtain ⟨n13, en, hg⟩ := obind_some hg
      rw [(c_fld h.1.1).2.1] at en
      cases en
      obtain ⟨-, hg⟩ := oif_some hg
      obtain ⟨n15, en, hg⟩ := obind_some hg
      rw [(sd_rf h.1.1 d242).2.2.1] at en
      cases en
      obtain ⟨-, hg⟩ := oif_some hg
      obtain ⟨-, hg⟩ := oif_some hg
      obtain ⟨v18, e18, hg⟩ := elet_some hg
      obtain ⟨-, hg⟩ := oif_some hg
      obtain ⟨T20, g20, hg⟩ := obind_some hg
      have b28 : ∃ s0, s0 = a1 ∧ fr_setOn_b28 S6 s0 v11 = some (r2, S1) := by
        rcases b01 hb with z | z
        · rw [if_pos z] at hf
          exact ⟨0, z.symm, hf⟩
        · rw [if_neg (by rw [z]; decide)] at hf
          exact ⟨1, z.symm, hf⟩
      obtain ⟨s0, es0, hf⟩ := b28
      rw [es0] at hf
      unfold fr_setOn_b28 at hf
      obtain ⟨r5', S2', f5', hf⟩ := obind2_some hf
      obtain ⟨S6', f6', hf⟩ := obind_some hf
      obtain ⟨U, fU, er5, eU⟩ := x_sets f5'
      rw [k11] at er5 eU
      obtain ⟨K1, K2, K3, K4, K5, K6, -⟩ := r2_keepu (S := S6) (by rw [e]; exact hP) (by rw [e]; exact q20) hV (by rw [e]; exact r2_mi0 h) g20 fU
      unfold g_X11_setOn_b23 at hg
      obtain ⟨-, hg⟩ := oif_some hg
      obtain ⟨n3, en, hg⟩ := obind_some hg
      rw [(c_fld K1.1.1).2.1] at en
      cases en
      obtain ⟨-, hg⟩ := oif_some hg
      obtain ⟨n5, en, hg⟩ := obind_some hg
      rw [(sd_rf K1.1.1 d242).2.2.1] at en
      cases en
      obtain ⟨-, hg⟩ := oif_some hg
      obtain ⟨-, hg⟩ := oif_some hg
      obtain ⟨-, hg⟩ := oif_some hg
      obtain ⟨T8, e8, hg⟩ := elet_some hg
      have hPU : PL (U.2.1 10) := by rw [K4, e]; exact hP
      have ra : rowat 3 25 6 := .inr (.inr (.inl ⟨rfl, rfl, rfl⟩))
      have R := r2_set (k := a0.toNatClampNeg) (x := a1) hPU K2 ra (by omega) K1
      have V := iv_now (k := a0.toNatClampNeg) (x := a1) K2 ra (.inr (.inr (.inl ⟨rfl, hb⟩)))
      rw [show uI T20 (242 + 3) a0.toNatClampNeg a1 = T8 from e8.symm] at R V
      rw [← eU] at R
      obtain ⟨s, hs, h14⟩ := crf_14 R.1.1
      obtain ⟨-, hg⟩ := oif_some hg
      obtain ⟨n10, en, hg⟩ := obind_some hg
      rw [(c_fld2 R.1.1).2.2.2] at en
      cases en
      obtain ⟨-, hg⟩ := oif_some hg
      obtain ⟨n12, en, hg⟩ := obind_some hg
      rw [h14] at en
      cases en
      obtain ⟨-, hg⟩ := oif_some hg
      obtain ⟨n14, en, hg⟩ := obind_some hg
      rw [(c_fld R.1.1).2.1] at en
      cases en
      obtain ⟨-, hg⟩ := oif_some hg
      obtain ⟨T16, g16, hg⟩ := obind_some hg
      have W := (r2_rec (by rw [eU, mf_ne (by decide)]; exact hPU) V R h14 g16 f6').1
      have k6 := w_fr_records_12 f6'
      unfold g_X11_setOn_b48 at hg
      obtain ⟨b18, hg⟩ := oif_some hg
      have g := osome3 hg
      have e18 : v18 = r5' := by
        rw [e18, er5, K5, e]
        have q := (((h.2.2.2 q20).1).2.2.2.2 a0.toNatClampNeg (by omega)).1
        rw [Nat.zero_add] at q
        exact q
      have fin : r2 = v18 ∧ S1 = S6' := by
        rw [← e18] at hf
        rcases b18 with z | z
        · rw [if_neg (by rw [z]; decide)] at hf
          unfold fr_setOn_b50 at hf
          have f := osome2 (oif_some hf).2
          exact ⟨by rw [← f.1, z], f.2.symm⟩
        · rw [if_pos z] at hf
          unfold fr_setOn_b50 at hf
          have f := osome2 (oif_some hf).2
          exact ⟨by rw [← f.1, z], f.2.symm⟩
      rw [← g.1, ← g.2.1, ← g.2.2, fin.1, fin.2]
      refine ⟨W, ?_, fun _ => ⟨rfl, rfl⟩⟩
      rw [k6.1 0 (by decide), eU]
      show U.1 0 = 0
      rw [K6, e, mi_at]
end
end
section
/-! 25b.move.lean.txt -/
/-! moveSource, setVelocity: R2 is kept -/
section
variable {T T1 : AT} {S S1 : MS} {k1 : Nat} {r1 r2 : Int32}
theorem q_vel {a b r : Int32} (hf : fr_isVelocity a b = some r) : r = 1 ∧ ((-999 ≤ a.toInt ∧ a.toInt ≤ 999) ∧ -999 ≤ b.toInt ∧ b.toInt ≤ 999) ∨ r = 0 ∧ ¬ ((-999 ≤ a.toInt ∧ a.toInt ≤ 999) ∧ -999 ≤ b.toInt ∧ b.toInt ≤ 999) := by
  have zm : ((-999) : Int32).toInt = -999 := by decide
  have zp : (999 : Int32).toInt = 999 := by decide
  unfold fr_isVelocity at hf
  obtain ⟨w, g, hf⟩ := obind_some hf
  have q := q_in g
  rcases q with ⟨e, q⟩ | ⟨e, q⟩
  · rw [if_neg (by rw [e]; decide)] at hf
    obtain ⟨w2, g2, hf⟩ := obind_some hf
    have q2 := q_in g2
    rcases q2 with ⟨e2, q2⟩ | ⟨e2, q2⟩
    · rw [if_neg (by rw [e2]; decide)] at hf
      unfold fr_isVelocity_b31 at hf
      exact .inl ⟨(osome1 (oif_some hf).2).symm, ⟨by omega, by omega⟩, by omega, by omega⟩
    · rw [if_pos e2] at hf
      unfold fr_isVelocity_b30 fr_isVelocity_b31 at hf
      exact .inr ⟨(osome1 (oif_some hf).2).symm, fun u => q2 ⟨by omega, by omega⟩⟩
  · rw [if_pos e] at hf
    unfold fr_isVelocity_b30 fr_isVelocity_b31 at hf
    exact .inr ⟨(osome1 (oif_some hf).2).symm, fun u => q ⟨by omega, by omega⟩⟩
theorem r2_moveSource {a0 a1 a2 : Int32} (hV : IV aR0 1586 aK1 aK2 T) (hJ : JJ S) (h : R2 T S) (hg : g_X11_moveSource T 0 a0 a1 a2 = some (k1, r1, T1)) (hf : fr_moveSource S a0 a1 a2 = some (r2, S1)) : R2 T1 S1 := by
  have zm : ((-2000) : Int32).toInt = -2000 := by decide
  have zp : (2000 : Int32).toInt = 2000 := by decide
  unfold fr_moveSource at hf
  obtain ⟨r5, S2, f5, hf⟩ := obind2_some hf
  obtain ⟨r9, S6, f9, hf⟩ := obind2_some hf
  have eS := src_same f5
  rw [eS] at f9
  unfold g_X11_moveSource at hg
  obtain ⟨-, hg⟩ := oif_some hg
  rcases othr_k hg with ⟨rc, gc, hc⟩ | ⟨rc, Tc, gc, hg⟩
  · obtain ⟨eT, ⟨q, -⟩ | ⟨q, q20⟩⟩ := p_cam h.1 gc
    · exact absurd q hc
    · obtain ⟨e, er⟩ := ask_0 q20 f9
      rw [if_pos er] at hf
      rw [eT, ← (osome2 hf).2, e]
      exact r2_mi0 h
  · obtain ⟨eT, ⟨-, q20⟩ | ⟨q, -⟩⟩ := p_cam h.1 gc
    case inr => exact absurd q (by decide)
    rw [eT] at hg
    have hP := r_pl hJ q20
    have p5 := pl_5 hP
    obtain ⟨-, hg⟩ := oif_some hg
    rcases othr_k hg with ⟨rc2, gc2, hc⟩ | ⟨rc2, Tc2, gc2, hg⟩
    · obtain ⟨eT2, ⟨q, -⟩ | ⟨q, qc⟩⟩ := p_src h.1 q20 gc2
      · exact absurd q hc
      · rcases (q_src hP f5).2 with ⟨-, z⟩ | ⟨z, -⟩
        · exact absurd z qc
        · rw [z] at f9
          obtain ⟨e, er⟩ := ask_2 q20 f9
          rw [if_pos er] at hf
          rw [eT2, ← (osome2 hf).2, e]
          exact r2_mi0 h
    · obtain ⟨eT2, ⟨-, qc⟩ | ⟨q, -⟩⟩ := p_src h.1 q20 gc2
      case inr => exact absurd q (by decide)
      rw [eT2] at hg
      rcases (q_src hP f5).2 with ⟨z, -⟩ | ⟨-, z⟩
      case inr => exact absurd qc z
      rw [z] at f9
      obtain ⟨e, er⟩ := ask_1 q20 f9
      rw [if_neg (by rw [er]; decide)] at hf
      have no : ∀ {U : MS}, fr_moveSource_b53 U = some (r2, S1) → S1 = mi U 0 3 := by
        intro U hf
        unfold fr_moveSource_b53 at hf
        obtain ⟨r5, V, f5, hf⟩ := obind2_some hf
        unfold fr_moveSource_b58 at hf
        rw [← (osome2 hf).2, r_thr f5]
      obtain ⟨r11, f11, hf⟩ := obind_some hf
      have q11 := q_in f11
      rcases othr_k hg with ⟨rc3, gc3, hc⟩ | ⟨rc3, Tc3, gc3, hg⟩
      · obtain ⟨eT3, ⟨q, -⟩ | ⟨q, qd⟩⟩ := c_rng gc3
        · exact absurd q hc
        · rcases q11 with ⟨-, z⟩ | ⟨z, -⟩
          · exact absurd z qd
          · rw [if_pos z] at hf
            rw [eT3, no hf, e]
            exact r2_mi0 (r2_mi0 h)
      obtain ⟨eT3, ⟨-, qd⟩ | ⟨q, -⟩⟩ := c_rng gc3
      case inr => exact absurd q (by decide)
      rw [eT3] at hg
      rcases q11 with ⟨z, -⟩ | ⟨-, z⟩
      case inr => exact absurd qd z
      rw [if_neg (by rw [z]; decide)] at hf
      obtain ⟨r14, f14, hf⟩ := obind_some hf
      have q14 := q_in f14
      rcases othr_k hg with ⟨rc4, gc4, hc⟩ | ⟨rc4, Tc4, gc4, hg⟩
      · obtain ⟨eT4, ⟨q, -⟩ | ⟨q, qe⟩⟩ := c_rng gc4
        · exact absurd q hc
        · rcases q14 with ⟨-, z⟩ | ⟨z, -⟩
          · exact absurd z qe
          · rw [if_pos z] at hf
            rw [eT4, no hf, e]
            exact r2_mi0 (r2_mi0 h)
      obtain ⟨eT4, ⟨-, qe⟩ | ⟨q, -⟩⟩ := c_rng gc4
      case inr => exact absurd q (by decide)
      rw [eT4] at hg
      rcases q14 with ⟨z, -⟩ | ⟨-, z⟩
      case inr => exact absurd qe z
      rw [if_neg (by rw [z]; decide)] at hf
      obtain ⟨v17, d17, hf⟩ := elet_some hf
      obtain ⟨r21, S18, f18, hf⟩ := obind2_some hf
      unfold fr_moveSource_b58 at hf
      have ef := osome2 hf
      have k17 := cl_ad (n := 31) (by decide) qc.1 (by omega) d17
      have ka := i_cl qc.1
      obtain ⟨-, hg⟩ := oif_some hg
      obtain ⟨T21, g21, hg⟩ := obind_some hg
      unfold fr_setsTwo at f18
      obtain ⟨r5', S2', f5', f18⟩ := obind2_some f18
      obtain ⟨v6, d6, f18⟩ := elet_some f18
      obtain ⟨-, f18⟩ := oif_some f18
      obtain ⟨S8, e8', f18⟩ := elet_some f18
      obtain ⟨S9, f9', f18⟩ := obind_some f18
      obtain ⟨r15, S12, f12, f18⟩ := obind2_some f18
      obtain ⟨U, fU, -, eU⟩ := x_sets f5'
      rw [k17] at eU
      have i17 : v17.toInt = 31 + a0.toInt := by
        have z : (31 : Int32).toInt = 31 := by decide
        have := i_add d17 (by omega) (by omega)
        omega
      have k6 : v6.toNatClampNeg = 37 + a0.toNatClampNeg := by
        have z : (6 : Int32).toInt = 6 := by decide
        have q := i_add d6 (by omega) (by omega)
        have q2 := i_cl (i := v6) (by omega)
        omega
      rw [k6] at e8'
      obtain ⟨K1, K2, K3, K4, K5, K6, -⟩ := r2_keepu (S := S6) (by rw [e]; exact hP) (by rw [e]; exact q20) hV (by rw [e]; exact r2_mi0 h) g21 fU
      unfold g_X11_moveSource_b33 at hg
      obtain ⟨-, hg⟩ := oif_some hg
      obtain ⟨n3, en, hg⟩ := obind_some hg
      rw [(c_fld K1.1.1).2.1] at en
      cases en
      obtain ⟨-, hg⟩ := oif_some hg
      obtain ⟨n5, en, hg⟩ := obind_some hg
      rw [(sd_rf K1.1.1 d242).2.2.2.1] at en
      cases en
      obtain ⟨-, hg⟩ := oif_some hg
      obtain ⟨-, hg⟩ := oif_some hg
      obtain ⟨T8, e8, hg⟩ := elet_some hg
      have hPU : PL (U.2.1 10) := by rw [K4, e]; exact hP
      have ra : rowat 4 31 6 := .inr (.inr (.inr (.inl ⟨rfl, rfl, rfl⟩)))
      have R := r2_set (k := a0.toNatClampNeg) (x := a1) hPU K2 ra (by omega) K1
      have V := iv_now (k := a0.toNatClampNeg) (x := a1) K2 ra (.inr (.inr (.inr (.inl ⟨.inl rfl, by omega⟩))))
      rw [show uI T21 (242 + 4) a0.toNatClampNeg a1 = T8 from e8.symm] at R V
      rw [← eU] at R
      obtain ⟨-, hg⟩ := oif_some hg
      obtain ⟨n10, en, hg⟩ := obind_some hg
      rw [(c_fld R.1.1).2.1] at en
      cases en
      obtain ⟨-, hg⟩ := oif_some hg
      obtain ⟨n12, en, hg⟩ := obind_some hg
      rw [(sd_rf R.1.1 d242).2.2.2.2.1] at en
      cases en
      obtain ⟨-, hg⟩ := oif_some hg
      obtain ⟨-, hg⟩ := oif_some hg
      obtain ⟨T15, e15, hg⟩ := elet_some hg
      have hP2 : PL (S2'.2.1 10) := by rw [eU, mf_ne (by decide)]; exact hPU
      have rb : rowat 5 37 6 := .inr (.inr (.inr (.inr (.inl ⟨rfl, rfl, rfl⟩))))
      have R2' := r2_set (k := a0.toNatClampNeg) (x := a2) hP2 V rb (by omega) R
      have V2 := iv_now (k := a0.toNatClampNeg) (x := a2) V rb (.inr (.inr (.inr (.inl ⟨.inr rfl, by omega⟩))))
      rw [show uI T8 (242 + 5) a0.toNatClampNeg a2 = T15 from e15.symm] at R2' V2
      rw [← e8'] at R2'
      obtain ⟨s, hs, h14⟩ := crf_14 R2'.1.1
      obtain ⟨-, hg⟩ := oif_some hg
      obtain ⟨n17, en, hg⟩ := obind_some hg
      rw [(c_fld2 R2'.1.1).2.2.2] at en
      cases en
      obtain ⟨-, hg⟩ := oif_some hg
      obtain ⟨n19, en, hg⟩ := obind_some hg
      rw [h14] at en
      cases en
      obtain ⟨-, hg⟩ := oif_some hg
      obtain ⟨n21, en, hg⟩ := obind_some hg
      rw [(c_fld R2'.1.1).2.1] at en
      cases en
      obtain ⟨-, hg⟩ := oif_some hg
      obtain ⟨T23, g23, hg⟩ := obind_some hg
      have hP8 : PL (S8.2.1 10) := by rw [e8', mf_ne (by decide)]; exact hP2
      have W := r2_rec hP8 V2 R2' h14 g23 f9'
      have k9 := w_fr_records_12 f9'
      unfold g_X11_moveSource_b68 at hg
      obtain ⟨-, hg⟩ := oif_some hg
      obtain ⟨r4, T3, g3, hg⟩ := obind2_some hg
      obtain ⟨-, hg⟩ := oif_some hg
      unfold g_X11_moveSource_b72 at hg
      obtain ⟨-, hg⟩ := oif_some hg
      obtain ⟨v3, -, hg⟩ := elet_some hg
      have Q := (r2_pb (fun _ => by rw [k9.2 10 (by decide)]; exact hP8) W.2 W.1 g3 (w_fr_bestIn_12 f12)).1
      rw [← (osome3 hg).2.2, ← ef.2, ← (osome2 f18).2]
      exact Q
theorem r2_setVelocity {a0 a1 a2 : Int32} (hV : IV aR0 1586 aK1 aK2 T) (hJ : JJ S) (h : R2 T S) (hg : g_X11_setVelocity T 0 a0 a1 a2 = some (k1, r1, T1)) (hf : fr_setVelocity S a0 a1 a2 = some (r2, S1)) : R2 T1 S1 := by
  have zm : ((-999) : Int32).toInt = -999 := by decide
  have zp : (999 : Int32).toInt = 999 := by decide
  unfold fr_setVelocity at hf
  obtain ⟨r5, S2, f5, hf⟩ := obind2_some hf
  obtain ⟨r9, S6, f9, hf⟩ := obind2_some hf
  have eS := src_same f5
  rw [eS] at f9
  unfold g_X11_setVelocity at hg
  obtain ⟨-, hg⟩ := oif_some hg
  rcases othr_k hg with ⟨rc, gc, hc⟩ | ⟨rc, Tc, gc, hg⟩
  · obtain ⟨eT, ⟨q, -⟩ | ⟨q, q20⟩⟩ := p_cam h.1 gc
    · exact absurd q hc
    · obtain ⟨e, er⟩ := ask_0 q20 f9
      rw [if_pos er] at hf
      rw [eT, ← (osome2 hf).2, e]
      exact r2_mi0 h
  · obtain ⟨eT, ⟨-, q20⟩ | ⟨q, -⟩⟩ := p_cam h.1 gc
    case inr => exact absurd q (by decide)
    rw [eT] at hg
    have hP := r_pl hJ q20
    have p5 := pl_5 hP
    obtain ⟨-, hg⟩ := oif_some hg
    rcases othr_k hg with ⟨rc2, gc2, hc⟩ | ⟨rc2, Tc2, gc2, hg⟩
    · obtain ⟨eT2, ⟨q, -⟩ | ⟨q, qc⟩⟩ := p_src h.1 q20 gc2
      · exact absurd q hc
      · rcases (q_src hP f5).2 with ⟨-, z⟩ | ⟨z, -⟩
        · exact absurd z qc
        · rw [z] at f9
          obtain ⟨e, er⟩ := ask_2 q20 f9
          rw [if_pos er] at hf
          rw [eT2, ← (osome2 hf).2, e]
          exact r2_mi0 h
    · obtain ⟨eT2, ⟨-, qc⟩ | ⟨q, -⟩⟩ := p_src h.1 q20 gc2
      case inr => exact absurd q (by decide)
      rw [eT2] at hg
      rcases (q_src hP f5).2 with ⟨z, -⟩ | ⟨-, z⟩
      case inr => exact absurd qc z
      rw [z] at f9
      obtain ⟨e, er⟩ := ask_1 q20 f9
      rw [if_neg (by rw [er]; decide)] at hf
      obtain ⟨r11, f11, hf⟩ := obind_some hf
      have q11 := q_vel f11
      have out : ∀ {U : AT}, ¬ ((-999 ≤ a1.toInt ∧ a1.toInt ≤ 999) ∧ -999 ≤ a2.toInt ∧ a2.toInt ≤ 999) → U = T → R2 U S1 := by
        intro U n eU
        rcases q11 with ⟨-, z⟩ | ⟨z, -⟩
        · exact absurd z n
        · rw [if_pos z] at hf
          obtain ⟨r17, S14, f14, hf⟩ := obind2_some hf
          unfold fr_setVelocity_b40 at hf
          rw [eU, ← (osome2 hf).2, r_thr f14, e]
          exact r2_mi0 (r2_mi0 h)
      rcases othr_k hg with ⟨rc3, gc3, hc⟩ | ⟨rc3, Tc3, gc3, hg⟩
      · obtain ⟨eT3, ⟨q, -⟩ | ⟨q, qd⟩⟩ := c_rng gc3
        · exact absurd q hc
        · exact out (fun u => qd (by omega)) eT3
      obtain ⟨eT3, ⟨-, qd⟩ | ⟨q, -⟩⟩ := c_rng gc3
      case inr => exact absurd q (by decide)
      rw [eT3] at hg
      rcases othr_k hg with ⟨rc4, gc4, hc⟩ | ⟨rc4, Tc4, gc4, hg⟩
      · obtain ⟨eT4, ⟨q, -⟩ | ⟨q, qe⟩⟩ := c_rng gc4
        · exact absurd q hc
        · exact out (fun u => qe (by omega)) eT4
      obtain ⟨eT4, ⟨-, qe⟩ | ⟨q, -⟩⟩ := c_rng gc4
      case inr => exact absurd q (by decide)
      rw [eT4] at hg
      rcases q11 with ⟨z, -⟩ | ⟨-, z⟩
      case inr => exact absurd ⟨by omega, by omega⟩ z
      rw [if_neg (by rw [z]; decide)] at hf
      obtain ⟨v17, d17, hf⟩ := elet_some hf
      obtain ⟨r21, S18, f18, hf⟩ := obind2_some hf
      unfold fr_setVelocity_b40 at hf
      have ef := osome2 hf
      have k17 := cl_ad (n := 43) (by decide) qc.1 (by omega) d17
      have ka := i_cl qc.1
      obtain ⟨-, hg⟩ := oif_some hg
      obtain ⟨T21, g21, hg⟩ := obind_some hg
      unfold fr_setsTwo at f18
      obtain ⟨r5', S2', f5', f18⟩ := obind2_some f18
      obtain ⟨v6, d6, f18⟩ := elet_some f18
      obtain ⟨-, f18⟩ := oif_some f18
      obtain ⟨S8, e8', f18⟩ := elet_some f18
      obtain ⟨S9, f9', f18⟩ := obind_some f18
      obtain ⟨r15, S12, f12, f18⟩ := obind2_some f18
      obtain ⟨U, fU, -, eU⟩ := x_sets f5'
      rw [k17] at eU
      have i17 : v17.toInt = 43 + a0.toInt := by
        have z : (43 : Int32).toInt = 43 := by decide
        have := i_add d17 (by omega) (by omega)
        omega
      have k6 : v6.toNatClampNeg = 49 + a0.toNatClampNeg := by
        have z : (6 : Int32).toInt = 6 := by decide
        have q := i_add d6 (by omega) (by omega)
        have q2 := i_cl (i := v6) (by omega)
        omega
      rw [k6] at e8'
      obtain ⟨K1, K2, K3, K4, K5, K6, -⟩ := r2_keepu (S := S6) (by rw [e]; exact hP) (by rw [e]; exact q20) hV (by rw [e]; exact r2_mi0 h) g21 fU
      unfold g_X11_setVelocity_b33 at hg
      obtain ⟨-, hg⟩ := oif_some hg
      obtain ⟨n3, en, hg⟩ := obind_some hg
      rw [(c_fld K1.1.1).2.1] at en
      cases en
      obtain ⟨-, hg⟩ := oif_some hg
      obtain ⟨n5, en, hg⟩ := obind_some hg
      rw [(sd_rf K1.1.1 d242).2.2.2.2.2.1] at en
      cases en
      obtain ⟨-, hg⟩ := oif_some hg
      obtain ⟨-, hg⟩ := oif_some hg
      obtain ⟨T8, e8, hg⟩ := elet_some hg
      have hPU : PL (U.2.1 10) := by rw [K4, e]; exact hP
      have ra : rowat 6 43 6 := .inr (.inr (.inr (.inr (.inr (.inl ⟨rfl, rfl, rfl⟩)))))
      have R := r2_set (k := a0.toNatClampNeg) (x := a1) hPU K2 ra (by omega) K1
      have V := iv_now (k := a0.toNatClampNeg) (x := a1) K2 ra (.inr (.inr (.inr (.inr ⟨.inl rfl, by omega⟩))))
      rw [show uI T21 (242 + 6) a0.toNatClampNeg a1 = T8 from e8.symm] at R V
      rw [← eU] at R
      obtain ⟨-, hg⟩ := oif_some hg
      obtain ⟨n10, en, hg⟩ := obind_some hg
      rw [(c_fld R.1.1).2.1] at en
      cases en
      obtain ⟨-, hg⟩ := oif_some hg
      obtain ⟨n12, en, hg⟩ := obind_some hg
      rw [(sd_rf R.1.1 d242).2.2.2.2.2.2.1] at en
      cases en
      obtain ⟨-, hg⟩ := oif_some hg
      obtain ⟨-, hg⟩ := oif_some hg
      obtain ⟨T15, e15, hg⟩ := elet_some hg
      have hP2 : PL (S2'.2.1 10) := by rw [eU, mf_ne (by decide)]; exact hPU
      have rb : rowat 7 49 6 := .inr (.inr (.inr (.inr (.inr (.inr (⟨rfl, rfl, rfl⟩))))))
      have R2' := r2_set (k := a0.toNatClampNeg) (x := a2) hP2 V rb (by omega) R
      have V2 := iv_now (k := a0.toNatClampNeg) (x := a2) V rb (.inr (.inr (.inr (.inr ⟨.inr rfl, by omega⟩))))
      rw [show uI T8 (242 + 7) a0.toNatClampNeg a2 = T15 from e15.symm] at R2' V2
      rw [← e8'] at R2'
      obtain ⟨s, hs, h14⟩ := crf_14 R2'.1.1
      obtain ⟨-, hg⟩ := oif_some hg
      obtain ⟨n17, en, hg⟩ := obind_some hg
      rw [(c_fld2 R2'.1.1).2.2.2] at en
      cases en
      obtain ⟨-, hg⟩ := oif_some hg
      obtain ⟨n19, en, hg⟩ := obind_some hg
      rw [h14] at en
      cases en
      obtain ⟨-, hg⟩ := oif_some hg
      obtain ⟨n21, en, hg⟩ := obind_some hg
      rw [(c_fld R2'.1.1).2.1] at en
      cases en
      obtain ⟨-, hg⟩ := oif_some hg
      obtain ⟨T23, g23, hg⟩ := obind_some hg
      have hP8 : PL (S8.2.1 10) := by rw [e8', mf_ne (by decide)]; exact hP2
      have W := r2_rec hP8 V2 R2' h14 g23 f9'
      have k9 := w_fr_records_12 f9'
      unfold g_X11_setVelocity_b68 at hg
      obtain ⟨-, hg⟩ := oif_some hg
      obtain ⟨r4, T3, g3, hg⟩ := obind2_some hg
      obtain ⟨-, hg⟩ := oif_some hg
      unfold g_X11_setVelocity_b72 at hg
      obtain ⟨-, hg⟩ := oif_some hg
      obtain ⟨v3, -, hg⟩ := elet_some hg
      have Q := (r2_pb (fun _ => by rw [k9.2 10 (by decide)]; exact hP8) W.2 W.1 g3 (w_fr_bestIn_12 f12)).1
      rw [← (osome3 hg).2.2, ← ef.2, ← (osome2 f18).2]
      exact Q
end
end
section
/-! 25c.clean.lean.txt -/
/-! clean: R2 is kept -/
section
variable {T T1 : AT} {S S1 : MS} {k1 : Nat} {r1 r2 : Int32}
theorem k_weight {U : AT} (e0 : T.2.2.1 242 0 = S.2.1 10 4) (p4 : (S.2.1 10 4).toInt ≤ 12) (hm : ∀ m : Nat, (m : Int) < (S.2.1 10 4).toInt → T.2.2.1 243 m = S.2.1 12 (1 + m) ∧ T.2.2.1 244 m = S.2.1 12 (13 + m)) (r3 : T.2.2.2.2 242 3 = some 243) (r4 : T.2.2.2.2 242 4 = some 244) : ∀ (f g j : Nat) {a : Int32}, j ≤ 12 → g_X8_activeWeight_b4 f T 242 a (nI j) = some (r1, U) → fr_weightOf_b4 g S a (nI j) = some (r2, S1) → r1 = r2 ∧ U = T ∧ S1 = S := by
  intro f
  induction f with
  | zero => intro g j a _ hg _; cases hg
  | succ f ih =>
    intro g j a hj hg hf
    cases g with
    | zero => cases hf
    | succ g =>
      have jI : (nI j).toInt = (j : Int) := nI_toInt (by omega)
      have kj : (nI j).toNatClampNeg = j := nI_clamp (by omega)
      unfold g_X8_activeWeight_b4 at hg
      unfold fr_weightOf_b4 at hf
      obtain ⟨-, hg⟩ := oif_some hg
      obtain ⟨v3, e3, hg⟩ := elet_some hg
      rw [e0] at e3
      obtain ⟨v2, e2, hf⟩ := elet_some hf
      have ev : v2 = v3 := e2.trans e3.symm
      rw [ev] at hf
      rcases oif_or hg with ⟨c, hg⟩ | ⟨c, hg⟩
      · rw [if_pos c] at hf
        rw [← (osome2 hg).1, ← (osome2 hg).2, ← (osome2 hf).1, ← (osome2 hf).2]
        exact ⟨rfl, rfl, rfl⟩
      · rw [if_neg c] at hf
        have c := i_nle c
        rw [e3] at c
        obtain ⟨m1, m2⟩ := hm j (by omega)
        obtain ⟨-, hg⟩ := oif_some hg
        obtain ⟨n6, en, hg⟩ := obind_some hg
        rw [r3] at en
        cases en
        obtain ⟨-, hg⟩ := oif_some hg
        obtain ⟨-, hg⟩ := oif_some hg
        obtain ⟨v9, e9, hg⟩ := elet_some hg
        rw [kj, m1] at e9
        obtain ⟨r7, S4, f4, hf⟩ := obind2_some hf
        obtain ⟨e4, q4⟩ := h_act (by omega) f4
        rw [e4] at hf
        have gb : ∀ {x : Int32}, g_X8_activeWeight_b32 (g_X8_activeWeight_b4 f) T x a 242 (nI j) = some (r1, U) → g_X8_activeWeight_b4 f T 242 (a + x) (nI (j + 1)) = some (r1, U) := by
          intro x h
          unfold g_X8_activeWeight_b32 at h
          obtain ⟨w2, d2, h⟩ := elet_some h
          obtain ⟨w3, d3, h⟩ := elet_some h
          rw [show w3 = nI (j + 1) from d3.trans (nI_p1 j), d2] at h
          exact h
        have fb : ∀ {x : Int32}, fr_weightOf_b40 (fr_weightOf_b4 g) S x a (nI j) = some (r2, S1) → fr_weightOf_b4 g S (a + x) (nI (j + 1)) = some (r2, S1) := by
          intro x h
          unfold fr_weightOf_b40 at h
          obtain ⟨w2, d2, h⟩ := elet_some h
          obtain ⟨w3, d3, h⟩ := elet_some h
          rw [show w3 = nI (j + 1) from d3.trans (nI_p1 j), d2] at h
          exact h
        rcases q4 with ⟨q, ac⟩ | ⟨q, ac⟩
        · rw [if_pos (e9.trans ac)] at hg
          rw [if_neg (by rw [q]; decide)] at hf
          obtain ⟨-, hg⟩ := oif_some hg
          obtain ⟨n12, en, hg⟩ := obind_some hg
          rw [r4] at en
          cases en
          obtain ⟨-, hg⟩ := oif_some hg
          obtain ⟨-, hg⟩ := oif_some hg
          obtain ⟨v15, e15, hg⟩ := elet_some hg
          rw [kj, m2] at e15
          obtain ⟨w9, d9, hf⟩ := elet_some hf
          obtain ⟨-, hf⟩ := oif_some hf
          obtain ⟨w11, d11, hf⟩ := elet_some hf
          have k9 : w9 = nI (13 + j) := by rw [d9, ← nI_add]; rfl
          rw [k9, nI_clamp (by omega)] at d11
          rw [e15] at hg
          rw [d11] at hf
          exact ih g (j + 1) (by omega) (gb hg) (fb hf)
        · rw [if_neg (fun u => ac (e9.symm.trans u))] at hg
          rw [if_pos q] at hf
          exact ih g (j + 1) (by omega) (gb hg) (fb hf)
theorem sub_out {a : Nat} {s : Nat} {p : Int32} (hc : CRF T) (hV : IV aR0 1586 aK1 aK2 T) (hs : s = 478 ∨ s = 656) (ha : s + 16 ≤ a ∧ a < s + 160) (hp : 1 ≤ p.toInt ∧ p.toInt ≤ 100) (h : g_X8_subtractBeam T 242 a p = some T1) : (∀ m k, ¬ (7 ≤ m ∧ m < 22) → ¬ (s ≤ m ∧ m < s + 178) → ¬ (242 ≤ m ∧ m < 336) → T1.2.2.1 m k = T.2.2.1 m k) ∧ IV aR0 1586 aK1 aK2 T1 ∧ FW aR0 [258, 3202] T T1 := by
  obtain ⟨-, -, rd⟩ := zRec_ro hs (.inl rfl : 242 = 242 ∨ 242 = 336)
  have r50 : aR0 a = 50 := by
    have q := dl_ro hs (c := a - (s + 16)) (by omega)
    rw [show s + 16 + (a - (s + 16)) = a from by omega] at q
    exact q
  have ra : pZ (zRec s 242) a = 50 := by
    refine (pZ_t ?_).trans r50
    unfold zRec
    rw [zbt_t.mpr (show s ≤ a ∧ a < s + 178 by omega), Bool.or_true]
    rfl
  have c := tgo (cs_X8_subtractBeam (R := pZ (zRec s 242)) T 242 a p (iv_rec hc hV hs (.inl rfl)) rd ra hp) h
  have c0 := tgo (cs_X8_subtractBeam T 242 a p hV (sd_ro d242).1 r50 hp) h
  exact ⟨fun m k a b e => c.2 m k (by rw [zRec_out a b e]; rfl), c0.1, c0.2⟩
theorem r2_clean {a0 : Int32} (hV : IV aR0 1586 aK1 aK2 T) (hJ : JJ S) (h : R2 T S) (hg : g_X11_clean T 0 a0 = some (k1, r1, T1)) (hf : fr_clean S a0 = some (r2, S1)) : R2 T1 S1 := by
  have z1 : (1 : Int32).toInt = 1 := by decide
  have z100 : (100 : Int32).toInt = 100 := by decide
  have no : ∀ {U : MS} {w : Int32}, ¬ w ≤ 0 → fr_clean_b34 U w a0 = some (r2, S1) → S1 = mi U 0 w := by
    intro U w hw hf
    unfold fr_clean_b34 at hf
    obtain ⟨V, eV, hf⟩ := elet_some hf
    obtain ⟨v3, e3, hf⟩ := elet_some hf
    rw [if_neg (by rw [e3, eV, mi_at]; exact hw)] at hf
    rw [← (osome2 hf).2, eV]
  unfold fr_clean at hf
  obtain ⟨v2, e2, hf⟩ := elet_some hf
  unfold g_X11_clean at hg
  obtain ⟨-, hg⟩ := oif_some hg
  rcases othr_k hg with ⟨rc, gc, hc⟩ | ⟨rc, Tc, gc, hg⟩
  · obtain ⟨eT, ⟨q, -⟩ | ⟨q, q20⟩⟩ := p_cam h.1 gc
    · exact absurd q hc
    · rw [if_pos (e2.trans q20)] at hf
      unfold fr_clean_b15 at hf
      rw [eT, no (by decide) hf]
      exact r2_mi0 h
  · obtain ⟨eT, ⟨-, q20⟩ | ⟨q, -⟩⟩ := p_cam h.1 gc
    case inr => exact absurd q (by decide)
    rw [eT] at hg
    rw [if_neg (by rw [e2, q20]; decide)] at hf
    have hP := r_pl hJ q20
    have p4 := pl_4 hP
    obtain ⟨p1, p2, p3, -⟩ := pl_cell hP
    obtain ⟨A, -, -, -⟩ := h.2.2.2 q20
    have hm : ∀ m : Nat, (m : Int) < (S.2.1 10 4).toInt → T.2.2.1 243 m = S.2.1 12 (1 + m) ∧ T.2.2.1 244 m = S.2.1 12 (13 + m) := fun m hm => by
      have q := A.2.2.2.1 m hm
      rw [Nat.zero_add, Nat.zero_add] at q
      exact q
    obtain ⟨r7, S4, f4, hf⟩ := obind2_some hf
    obtain ⟨-, hg⟩ := oif_some hg
    obtain ⟨n8, en, hg⟩ := obind_some hg
    rw [(c_fld h.1.1).2.1] at en
    cases en
    obtain ⟨-, hg⟩ := oif_some hg
    obtain ⟨r12, T10, g10, hg⟩ := obind2_some hg
    obtain ⟨ew, eT10, eS4⟩ := k_weight A.1 p4.2 hm (sd_rf h.1.1 d242).1 (sd_rf h.1.1 d242).2.1 16384 16384 0 (by decide) g10 f4
    rw [eT10] at hg
    rw [eS4, ← ew] at hf
    by_cases cw : r12 = 0
    · rw [if_pos cw] at hg hf
      unfold fr_clean_b15 at hf
      rw [← (osome3 hg).2.2, no (by decide) hf]
      exact r2_mi0 h
    · rw [if_neg cw] at hg hf
      obtain ⟨r9, f9, hf⟩ := obind_some hf
      have q9 := q_in f9
      rcases othr_k hg with ⟨rc3, gc3, hc⟩ | ⟨rc3, Tc3, gc3, hg⟩
      · obtain ⟨eT3, ⟨q, -⟩ | ⟨q, qd⟩⟩ := c_rng gc3
        · exact absurd q hc
        · rcases q9 with ⟨-, z⟩ | ⟨z, -⟩
          · exact absurd z qd
          · rw [if_pos z] at hf
            rw [eT3, no (by decide) hf]
            exact r2_mi0 h
      obtain ⟨eT3, ⟨-, qd⟩ | ⟨q, -⟩⟩ := c_rng gc3
      case inr => exact absurd q (by decide)
      rw [eT3] at hg
      rcases q9 with ⟨z, -⟩ | ⟨-, z⟩
      case inr => exact absurd qd z
      rw [if_neg (by rw [z]; decide)] at hf
      unfold fr_clean_b34 at hf
      obtain ⟨V, eV, hf⟩ := elet_some hf
      obtain ⟨v3, e3, hf⟩ := elet_some hf
      rw [if_pos (by rw [e3, eV, mi_at]; decide)] at hf
      obtain ⟨S5, f5, hf⟩ := obind_some hf
      obtain ⟨r11, S8, f8, hf⟩ := obind2_some hf
      obtain ⟨S12, f12, hf⟩ := obind_some hf
      obtain ⟨r18, S15, f15, hf⟩ := obind2_some hf
      have hPV : PL (V.2.1 10) := by rw [eV]; exact hP
      obtain ⟨-, hg⟩ := oif_some hg
      obtain ⟨r21, T20, g20, hg⟩ := obind2_some hg
      obtain ⟨-, hg⟩ := oif_some hg
      have P := r2_pb (S := V) (fun _ => hPV) hV (by rw [eV]; exact r2_mi0 h) g20 (FK.rf : FK [] [24] V V)
      have pr := (tgo (cs_X11_powersNow T 0 hV rrole.2.2.2) g20).2
      unfold g_X11_clean_b33 at hg
      obtain ⟨-, hg⟩ := oif_some hg
      obtain ⟨b3, d3, hg⟩ := elet_some hg
      have m3 := iv_int P.2 pr (by decide) (by decide) d3 (rfl : iR 4 2 = (0, 143))
      obtain ⟨-, hg⟩ := oif_some hg
      obtain ⟨T5, g5, hg⟩ := obind_some hg
      obtain ⟨K1, K2, K3, K4, K5, K6, -⟩ := r2_keepu hPV (by rw [eV]; exact q20) P.2 P.1 g5 f5
      have hP5 : PL (S5.2.1 10) := by rw [K4]; exact hPV
      have kb := w_fr_bestIn_12 f8
      have kl := w_fr_laysCell f12
      have kw := w_fr_windowOf_12 f15
      have kk : FK [] [24] S5 S15 := (kb.tr kl).tr (kw.w (by decide))
      have Q : R2 T5 S15 := r2_keepG (fun _ => hP5) K1 (r1_keep (W := []) K1.1 K2 FW.rf (by decide +kernel) (GR.rf T5) ⟨kk.1 2 (by decide), kk.1 5 (by decide), kk.1 6 (by decide), kk.1 20 (by decide), kk.2 1 (by decide), kk.2 10 (by decide)⟩) CKr.rf ⟨kk.1 19 (by decide), kk.1 20 (by decide), kk.2 10 (by decide), kk.2 12 (by decide), kk.2 15 (by decide), kk.2 16 (by decide), kk.2 17 (by decide), kk.2 18 (by decide)⟩
      obtain ⟨s, hs, h14⟩ := crf_14 Q.1.1
      have hF := Q.1.1.srf hs
      have e7' : T5.2.2.2.2 s 17 = some (s + 15) := by unfold SRF at hF; exact hF.2.2.2.2.2.2.2.1
      have e10 : ∀ c, c < 144 → T5.2.2.2.2 (s + 15) c = some (s + 16 + c) := by unfold SRF at hF; exact hF.2.2.2.2.2.2.2.2.2.2.2.2.2.2
      have kb3 := i_cl m3.1
      unfold g_X11_clean_b41 at hg
      obtain ⟨-, hg⟩ := oif_some hg
      obtain ⟨n3, en, hg⟩ := obind_some hg
      rw [(c_fld Q.1.1).2.1] at en
      cases en
      obtain ⟨-, hg⟩ := oif_some hg
      obtain ⟨n5, en, hg⟩ := obind_some hg
      rw [h14] at en
      cases en
      obtain ⟨-, hg⟩ := oif_some hg
      obtain ⟨n7, en, hg⟩ := obind_some hg
      rw [e7'] at en
      cases en
      obtain ⟨-, hg⟩ := oif_some hg
      obtain ⟨-, hg⟩ := oif_some hg
      obtain ⟨n10, en, hg⟩ := obind_some hg
      rw [e10 _ (by omega)] at en
      cases en
      obtain ⟨-, hg⟩ := oif_some hg
      obtain ⟨T12, g12, hg⟩ := obind_some hg
      unfold g_X11_clean_b58 at hg
      rw [← (osome3 hg).2.2]
      have hd := dl_ro hs (c := b3.toNatClampNeg) (by omega)
      obtain ⟨o, hV12, fw⟩ := sub_out Q.1.1 K2 hs (by omega) (by omega) g12
      have ct := c_subtract Q.1.1 K2 d242 hd g12
      have gr := sr_X8_subtractBeam g12
      have r0 := rrole.2.2.2
      have J15 : ∀ k, 0 ≤ (S15.2.1 24 k).toInt ∧ (S15.2.1 24 k).toInt ≤ 65535 := by
        have hC : IC (S.2.1 10) S := ⟨rfl, jj_ib hJ⟩
        have c5 := (tgo (sf_remember hP V (by rw [eV]; exact ic_mi0 hC 0)) f5).1
        have c8 := tgo (sf_bestIn_12 hP S5 c5) f8
        have c12 := (tgo (sf_laysCell hP S8 r11 c8.1 c8.2) f12).1
        intro k
        rw [kw.2 24 (by decide)]
        exact c12.2.2.2.2.2.2.2.2.2 k
      have l18 : r18.toInt ≤ 200 := by
        have hC : IC (S.2.1 10) S := ⟨rfl, jj_ib hJ⟩
        have c5 := (tgo (sf_remember hP V (by rw [eV]; exact ic_mi0 hC 0)) f5).1
        have c8 := tgo (sf_bestIn_12 hP S5 c5) f8
        have c12 := (tgo (sf_laysCell hP S8 r11 c8.1 c8.2) f12).1
        exact (tgo (sf_windowOf_12 hP S12 c12) f15).2.2
      have e15 : S15.2.1 10 = S.2.1 10 := by rw [kk.2 10 (by decide), K4, eV]; rfl
      obtain ⟨l1, l0, lk, la⟩ := l_cl76 hP l18 16384 e15 J15 hf
      have hP15 : PL (S15.2.1 10) := by rw [e15]; exact hP
      refine r2_now hP15 Q (r1_keep Q.1 K2 fw (by decide +kernel) gr ⟨lk 2, lk 5, lk 6, lk 20, la 1 (by decide) (by decide), la 10 (by decide) (by decide)⟩) (fun d hd hne m i h1 h2 h3 => ?_) (fun d hd n1 n2 => ?_) ⟨fw 0 16 (by rw [r0]; rfl), fw 0 17 (by rw [r0]; rfl), fun i => fw 432 i (by rw [r432]; rfl), fun s c i hs hc => fw _ i (by rw [dl_ro hs hc]; rfl), e14_gr K2 gr⟩ ⟨lk 19, lk 20, la 10 (by decide) (by decide), la 15 (by decide) (by decide), la 16 (by decide) (by decide), la 17 (by decide) (by decide), la 18 (by decide) (by decide)⟩ l1 (fun q => ?_)
      · obtain ⟨r0, r1, r2, r3, r4, r5, r6, r7, -⟩ := sd_ro hd
        refine fw m i ?_
        rcases (show m = d ∨ m = d + 1 ∨ m = d + 2 ∨ m = d + 3 ∨ m = d + 4 ∨ m = d + 5 ∨ m = d + 6 ∨ m = d + 7 by omega) with q | q | q | q | q | q | q | q <;> subst q
        · rw [r0]
          rcases (show i = 0 ∨ i = 1 by omega) with q | q <;> subst q <;> rfl
        · rw [r1]; rfl
        · rw [r2]; rfl
        · rw [r3]; rfl
        · rw [r4]; rfl
        · rw [r5]; rfl
        · rw [r6]; rfl
        · rw [r7]; rfl
      · have gap := sd_gap hd d242 n2
        have si := sd_in hd
        exact o d 2 (by omega) (by omega) (by omega)
      · rw [ct, l0, ((Q.2.2.2 q).1).2.2.1]
end
end
section
/-! 25d.undo.lean.txt -/
/-! undo, save, restore: R2 is kept -/
section
variable {T T1 : AT} {S S1 : MS} {k1 : Nat} {r1 r2 : Int32}
/-- what the class changes at an undo -/
theorem c_undo {u w : Nat} (hc : CRF T) (hV : IV aR0 1586 aK1 aK2 T) (hu : 1 ≤ u ∧ u ≤ 6) (hw : w ≤ 5) (e16 : T.2.2.1 0 16 = nI u) (e17 : T.2.2.1 0 17 = nI w) (h : g_X11_undo T 0 = some (k1, r1, T1)) : k1 = 0 ∧ r1 = nI (u - 1) ∧ ∃ U, CPd 242 (834 + 94 * w) T U ∧ T1.2.2.1 0 16 = nI (u - 1) ∧ T1.2.2.1 0 17 = nI ((w + 5) % 6) ∧ ∀ m k, m ≠ 0 → m ≠ 66 → T1.2.2.1 m k = U.2.2.1 m k := by
  obtain ⟨c4, c6, -, c8, -, -, cp, -⟩ := c_fld hc
  have r0 := rrole.2.2.2
  unfold g_X11_undo at h
  obtain ⟨-, h⟩ := oif_some h
  obtain ⟨v3, d3, h⟩ := elet_some h
  rw [if_neg (fun q => by
    have z := (nI_eq (a := u) (b := 0) (by omega) (by decide)).mp (e16.symm.trans (d3.symm.trans q))
    omega)] at h
  obtain ⟨-, h⟩ := oif_some h
  obtain ⟨n6, en, h⟩ := obind_some h
  rw [c6] at en
  cases en
  obtain ⟨-, h⟩ := oif_some h
  obtain ⟨n8, en, h⟩ := obind_some h
  rw [c8] at en
  cases en
  obtain ⟨-, h⟩ := oif_some h
  obtain ⟨v10, d10, h⟩ := elet_some h
  obtain ⟨-, h⟩ := oif_some h
  obtain ⟨-, h⟩ := oif_some h
  obtain ⟨n13, en, h⟩ := obind_some h
  rw [d10, e17, nI_clamp (by omega), cp w (by omega)] at en
  cases en
  obtain ⟨-, h⟩ := oif_some h
  obtain ⟨T15, g15, h⟩ := obind_some h
  have c15 := c_stcopy hc hV d242 (past_in (by omega)) (by omega) g15
  have hc15 : CRF T15 := crf_gr hc hV (sr_X8_copyFrom g15)
  have o0 : ∀ k, T15.2.2.1 0 k = T.2.2.1 0 k := fun k => c15.2.2.2 0 k (.inl (by decide)) (by rw [r0]; rfl)
  unfold g_X11_undo_b31 at h
  obtain ⟨-, h⟩ := oif_some h
  obtain ⟨w3, f3, h⟩ := elet_some h
  obtain ⟨w4, f4, h⟩ := elet_some h
  obtain ⟨w5, f5, h⟩ := elet_some h
  obtain ⟨w6, f6, h⟩ := elet_some h
  obtain ⟨-, h⟩ := oif_some h
  obtain ⟨T8, f8, h⟩ := elet_some h
  obtain ⟨-, h⟩ := oif_some h
  obtain ⟨w10, f10, h⟩ := elet_some h
  obtain ⟨w11, f11, h⟩ := elet_some h
  obtain ⟨-, h⟩ := oif_some h
  obtain ⟨T13, f13, h⟩ := elet_some h
  obtain ⟨-, h⟩ := oif_some h
  obtain ⟨n15, en, h⟩ := obind_some h
  rw [show T13.2.2.2.2 = T15.2.2.2.2 from by rw [f13, f8]; rfl, (c_fld hc15).1] at en
  cases en
  obtain ⟨-, h⟩ := oif_some h
  obtain ⟨T17, f17, h⟩ := elet_some h
  obtain ⟨-, h⟩ := oif_some h
  obtain ⟨w19, f19, h⟩ := elet_some h
  have g := osome3 h
  have k6 : w6 = nI ((w + 5) % 6) := by
    rw [f6, f5, f4, f3, o0, e17]
    exact of_decide_eq_true (a_fin (p := fun w => decide (nI w + 6 - 1 - (nI w + 6 - 1) / 6 * 6 = nI ((w + 5) % 6))) r_nw5 (by omega))
  have k11 : w11 = nI (u - 1) := by
    have q : w10 = nI u := by rw [f10, f8, ui_ne (.inr (by decide)), o0]; exact e16
    rw [f11, q]
    have z : nI u = nI (u - 1) + 1 := by rw [nI_p1, show u - 1 + 1 = u from by omega]
    rw [z, Int32.add_sub_cancel]
  have e16' : T17.2.2.1 0 16 = nI (u - 1) := by rw [f17, ui_ne (.inl (by decide)), f13, ui_at, k11]
  refine ⟨g.1.symm, by rw [← g.2.1, f19, e16'], T15, c15, by rw [← g.2.2]; exact e16', ?_, fun m k h0 h66 => ?_⟩
  · rw [← g.2.2, f17, ui_ne (.inl (by decide)), f13, ui_ne (.inr (by decide)), f8, ui_at, k6]
  · rw [← g.2.2, f17, ui_ne (.inl h66), f13, ui_ne (.inl h0), f8, ui_ne (.inl h0)]
theorem r2_camu (hJ : JJ S) (h : R2 T S) (n : ¬ S.1 19 = 0) : S.1 20 = 1 := by
  obtain ⟨s, hs, h14, hr⟩ := h.1.2.2.2.2
  rcases hr with ⟨a, -⟩ | ⟨a, -⟩
  · exact a
  · exact absurd (h.2.2.1.2 a).1 n
theorem r2x_undo (hV : IV aR0 1586 aK1 aK2 T) (hJ : JJ S) (h : R2 T S) (hg : g_X11_undo T 0 = some (k1, r1, T1)) (hf : fr_undo S = some (r2, S1)) : R2 T1 S1 ∧ S1.1 0 = vck 1 0 0 k1 ∧ (vck 1 0 0 k1 = 0 → k1 = 0 ∧ r1 = r2) := by
  have HR1 := r1_undo hV hJ h.1 hg hf
  have hg0 := hg
  unfold fr_undo at hf
  obtain ⟨v2, e2, hf⟩ := elet_some hf
  by_cases c : S.1 19 = 0
  · rw [if_pos (e2.trans c)] at hf
    unfold fr_undo_b13 at hf
    obtain ⟨V, eV, hf⟩ := elet_some hf
    obtain ⟨v3, e3, hf⟩ := elet_some hf
    rw [if_neg (by rw [e3, eV, mi_at]; decide)] at hf
    unfold g_X11_undo at hg
    obtain ⟨-, hg⟩ := oif_some hg
    obtain ⟨w3, d3, hg⟩ := elet_some hg
    rw [if_pos (d3.trans (h.2.1.trans c))] at hg
    have g := osome3 hg
    rw [← g.1, ← g.2.2, ← (osome2 hf).2, eV, mi_at]
    exact ⟨r2_mi0 h, rfl, fun q => absurd q (by decide)⟩
  · rw [if_neg (fun q => c (e2.symm.trans q))] at hf
    unfold fr_undo_b13 at hf
    obtain ⟨V, eV, hf⟩ := elet_some hf
    obtain ⟨v3, e3, hf⟩ := elet_some hf
    rw [if_pos (by rw [e3, eV, mi_at]; decide)] at hf
    obtain ⟨v5, e5, hf⟩ := elet_some hf
    obtain ⟨v6, e6, hf⟩ := elet_some hf
    obtain ⟨S7, e7, hf⟩ := elet_some hf
    obtain ⟨v8, e8, hf⟩ := elet_some hf
    obtain ⟨v9, e9, hf⟩ := elet_some hf
    obtain ⟨S10, f10, hf⟩ := obind_some hf
    obtain ⟨v13, e13, hf⟩ := elet_some hf
    have f := osome2 hf
    have q20 := r2_camu hJ h c
    have hP := r_pl hJ q20
    obtain ⟨p4, p5⟩ := r2_pl hP
    obtain ⟨a, b, ⟨u, w, hu, hw, eu, ew, hj⟩, v⟩ := h.2.2.2 q20
    have hu1 : 1 ≤ u := Nat.pos_of_ne_zero (fun z => c (by rw [eu, z]; rfl))
    obtain ⟨ek, er, U, cp, k16, k17, ko⟩ := c_undo h.1.1 hV ⟨hu1, hu⟩ hw (h.2.1.trans eu) ew hg0
    have k6 : v6 = nI (u - 1) := by
      rw [e6, e5, eV, show (mi S 0 0).1 19 = S.1 19 from rfl, eu]
      have z : nI u = nI (u - 1) + 1 := by rw [nI_p1, show u - 1 + 1 = u from by omega]
      rw [z, Int32.add_sub_cancel]
    have k8 : v8 = nI (u - 1) := by rw [e8, e7, mi_at, k6]
    have k9 : v9 = nI (2455 * (u - 1)) := by rw [e9, k8]; exact nI_mulk 2455 (u - 1)
    rw [k9] at f10
    have x10 := x_copy_15_12 (o1 := 2455 * (u - 1)) (o3 := 0) (by omega) (by decide) f10
    have fk := w_fr_copy_15_12 f10
    have S7a : S7.2 = S.2 := by rw [e7, eV]; rfl
    have q19 : S10.1 19 = nI (u - 1) := by rw [fk.1 19 rfl, e7, mi_at, k6]
    have s20 : S10.1 20 = S.1 20 := by rw [fk.1 20 rfl, e7, eV]; rfl
    have s0 : S10.1 0 = 0 := by rw [fk.1 0 rfl, e7, eV]; rfl
    have arr : ∀ a, a ≠ 12 → S10.2.1 a = S.2.1 a := fun a n => by
      rw [fk.2 a (by
        cases e : [12].contains a with
        | false => rfl
        | true =>
          have := List.contains_iff_mem.mp e
          exact absurd (List.mem_singleton.mp this) n), S7a]
    have st : ∀ d, d ∈ sds → d ≠ 242 → ∀ m k, d ≤ m → m < d + 8 → T1.2.2.1 m k = T.2.2.1 m k := fun d hd hne m k h1 h2 => by
      have gap := sd_gap hd d242 hne
      have si := sd_in hd
      rw [ko m k (by omega) (by omega), cp.2.2.2 m k (by omega) (sd_nw hd h1 h2)]
    rw [← f.1, ← f.2, ek, er, e13, q19, s0]
    rw [← f.2] at HR1
    refine ⟨⟨HR1, k16.trans q19.symm, ⟨fun j hj => ?_, fun z => absurd (s20.symm.trans z) (by rw [q20]; decide)⟩, fun _ => ⟨?_, ?_, ?_, ?_⟩⟩, rfl, fun _ => ⟨rfl, rfl⟩⟩
    · rw [ko 432 j (by decide) (by decide), cp.2.2.2 432 j (.inr (by decide)) (by rw [r432]; rfl), arr 18 (by decide)]
      exact h.2.2.1.1 j hj
    · have q := hj (u - 1) (by omega)
      rw [show (w + 7 + (u - 1) - u) % 6 = w from by omega] at q
      rw [arr 10 (by decide)]
      refine q.mv p4 p5 (fun i hi => ?_) (fun i hi => ?_) (fun i hi => ?_) (fun y hy => ?_) (fun _ _ => rfl)
      · rw [ko _ i (by omega) (by omega)]; exact cp.1 i hi
      · rw [ko _ i (by omega) (by omega), ko _ i (by omega) (by omega)]; exact cp.2.1 i hi
      · rw [ko _ i (by omega) (by omega), ko _ i (by omega) (by omega), ko _ i (by omega) (by omega), ko _ i (by omega) (by omega), ko _ i (by omega) (by omega)]; exact cp.2.2.1 i hi
      · rw [x10 (0 + y), if_pos (by omega), S7a, show 2455 * (u - 1) + (0 + y - 0) = 2455 * (u - 1) + y from by omega]
    · intro s e c' m hc hm
      have gr := sr_X11_undo hg0
      rw [e14_gr hV gr] at e
      rw [arr 10 (by decide)] at hc hm
      have si := r1_s h.1 e
      have pc := (pl_cell hP).2.2.1
      rw [ko _ m (by omega) (by omega), cp.2.2.2 _ m (by omega) (by rw [dl_ro si (by omega)]; rfl), arr 17 (by decide)]
      exact b s e c' m hc hm
    · refine ⟨u - 1, (w + 5) % 6, by omega, by omega, q19, k17, fun j hjx => ?_⟩
      rw [arr 10 (by decide), arr 15 (by decide), show ((w + 5) % 6 + 7 + j - (u - 1)) % 6 = (w + 7 + j - u) % 6 from by omega]
      have l6 : (w + 7 + j - u) % 6 < 6 := Nat.mod_lt _ (by decide)
      exact (hj j (by omega)).cg p4 p5 (fun m i h1 h2 _ => st _ (past_in l6) (by omega) m i h1 h2) (fun _ _ => rfl) (fun _ _ => rfl)
    · intro i hi hn
      rw [arr 18 (by decide)] at hn
      rw [arr 10 (by decide), arr 16 (by decide)]
      exact (v i hi hn).cg p4 p5 (fun m j h1 h2 _ => st _ (slot_in hi) (by omega) m j h1 h2) (fun _ _ => rfl) (fun _ _ => rfl)
end
end
section
/-! 25e.save.lean.txt -/
/-! save, restore: R2 is kept -/
section
variable {T T1 : AT} {S S1 : MS} {k1 : Nat} {r1 r2 : Int32}
theorem con_ne {a b : Nat} (n : a ≠ b) : [b].contains a = false := by
  cases e : [b].contains a with
  | false => rfl
  | true => exact absurd (List.mem_singleton.mp (List.contains_iff_mem.mp e)) n
theorem r2_save {a0 : Int32} (hV : IV aR0 1586 aK1 aK2 T) (hJ : JJ S) (h : R2 T S) (hg : g_X11_save T 0 a0 = some (k1, r1, T1)) (hf : fr_save S a0 = some (r2, S1)) : R2 T1 S1 := by
  have z0 : (0 : Int32).toInt = 0 := by decide
  have z1 : (1 : Int32).toInt = 1 := by decide
  have z2 : (2 : Int32).toInt = 2 := by decide
  unfold fr_save at hf
  obtain ⟨x2, f2, hf⟩ := obind_some hf
  obtain ⟨r7, S4, f4, hf⟩ := obind2_some hf
  have q2 := q_in f2
  unfold g_X11_save at hg
  obtain ⟨-, hg⟩ := oif_some hg
  rcases othr_k hg with ⟨rc, gc, hc⟩ | ⟨rc, Tc, gc, hg⟩
  · obtain ⟨eT, ⟨q, -⟩ | ⟨q, q20⟩⟩ := p_cam h.1 gc
    · exact absurd q hc
    · obtain ⟨e, er⟩ := ask_0 q20 f4
      rw [if_pos er] at hf
      rw [eT, ← (osome2 hf).2, e]
      exact r2_mi0 h
  · obtain ⟨eT, ⟨-, q20⟩ | ⟨q, -⟩⟩ := p_cam h.1 gc
    case inr => exact absurd q (by decide)
    rw [eT] at hg
    have hP := r_pl hJ q20
    obtain ⟨p4, p5⟩ := r2_pl hP
    rcases othr_k hg with ⟨rc2, gc2, hc⟩ | ⟨rc2, Tc2, gc2, hg⟩
    · obtain ⟨eT2, ⟨q, -⟩ | ⟨q, qc⟩⟩ := c_idx gc2
      · exact absurd q hc
      · rcases q2 with ⟨-, z⟩ | ⟨z, -⟩
        · exact absurd ⟨by omega, by omega⟩ qc
        · rw [z] at f4
          obtain ⟨e, er⟩ := ask_2 q20 f4
          rw [if_pos er] at hf
          rw [eT2, ← (osome2 hf).2, e]
          exact r2_mi0 h
    · obtain ⟨eT2, ⟨-, qc⟩ | ⟨q, -⟩⟩ := c_idx gc2
      case inr => exact absurd q (by decide)
      rw [eT2] at hg
      rcases q2 with ⟨z, -⟩ | ⟨-, z⟩
      case inr => exact absurd ⟨by omega, by omega⟩ z
      rw [z] at f4
      obtain ⟨e, er⟩ := ask_1 q20 f4
      rw [if_neg (by rw [er]; decide)] at hf
      obtain ⟨k, hk2, ek⟩ := nI_of01 (x := a0) (a := 2) (by omega) (by omega) (by omega)
      have kk : a0.toNatClampNeg = k := by rw [ek]; exact nI_clamp (by omega)
      obtain ⟨v9, d9, hf⟩ := elet_some hf
      obtain ⟨S10, f10, hf⟩ := obind_some hf
      obtain ⟨-, hf⟩ := oif_some hf
      obtain ⟨S14, e14, hf⟩ := elet_some hf
      obtain ⟨r18, S15, f15, hf⟩ := obind2_some hf
      have k9 : v9 = nI (2455 * k) := by rw [d9, ek]; exact nI_mulk 2455 k
      rw [k9] at f10
      have x10 := x_copy_12_16 (o1 := 0) (o3 := 2455 * k) (by decide) (by omega) f10
      have fk := w_fr_copy_12_16 f10
      obtain ⟨-, hg⟩ := oif_some hg
      obtain ⟨n12, en, hg⟩ := obind_some hg
      rw [(c_fld h.1.1).2.2.2.2.1] at en
      cases en
      obtain ⟨-, hg⟩ := oif_some hg
      obtain ⟨-, hg⟩ := oif_some hg
      obtain ⟨n15, en, hg⟩ := obind_some hg
      rw [kk, (c_fld h.1.1).2.2.2.2.2.2.2 k hk2] at en
      cases en
      obtain ⟨-, hg⟩ := oif_some hg
      obtain ⟨n17, en, hg⟩ := obind_some hg
      rw [(c_fld h.1.1).2.1] at en
      cases en
      obtain ⟨-, hg⟩ := oif_some hg
      obtain ⟨T19, g19, hg⟩ := obind_some hg
      have cp := c_stcopy h.1.1 hV (slot_in hk2) d242 (by omega) g19
      have cc := tgo (cs_X8_copyFrom T (1398 + 94 * k) 242 hV (sd_ro (slot_in hk2)).1 (sd_ro d242).1) g19
      have gr := sr_X8_copyFrom g19
      have hc19 : CRF T19 := crf_gr h.1.1 hV gr
      unfold g_X11_save_b22 at hg
      obtain ⟨-, hg⟩ := oif_some hg
      obtain ⟨n3, en, hg⟩ := obind_some hg
      rw [(c_fld hc19).2.2.2.2.2.1] at en
      cases en
      obtain ⟨-, hg⟩ := oif_some hg
      obtain ⟨-, hg⟩ := oif_some hg
      obtain ⟨T6, e6, hg⟩ := elet_some hg
      rw [kk] at e6
      obtain ⟨-, hg⟩ := oif_some hg
      obtain ⟨r9, T8, g8, hg⟩ := obind2_some hg
      obtain ⟨-, hg⟩ := oif_some hg
      unfold g_X11_save_b33 at hg
      obtain ⟨-, hg⟩ := oif_some hg
      obtain ⟨v3, -, hg⟩ := elet_some hg
      have hV6 : IV aR0 1586 aK1 aK2 T6 := by
        rw [e6]
        exact iv_uI cc.1 r432 (by decide) (by decide) (rfl : iR 49 k = (0, 1)) (by decide) (.inl rfl)
      have sc : ∀ j, S14.1 j = (mi S 0 0).1 j := fun j => by
        rw [e14, show (mf S10 18 (upd (S10.2.1 18) a0.toNatClampNeg 1)).1 j = S10.1 j from rfl, fk.1 j rfl, e]
      have arr : ∀ a, a ≠ 16 → a ≠ 18 → S14.2.1 a = S.2.1 a := fun a n1 n2 => by
        rw [e14, mf_ne n2, fk.2 a (con_ne n1), e]
        rfl
      have a16 : ∀ x, S14.2.1 16 x = if 2455 * k ≤ x ∧ x < 2455 * k + 2455 then S.2.1 12 (x - 2455 * k) else S.2.1 16 x := fun x => by
        rw [e14, mf_ne (by decide), x10 x, e, Nat.zero_add]
        rfl
      have a18 : ∀ x, S14.2.1 18 x = if x = k then 1 else S.2.1 18 x := fun x => by
        rw [e14, mf_at, kk]
        show (if x = k then (1 : Int32) else S10.2.1 18 x) = _
        rw [fk.2 18 rfl, e]
        rfl
      have st : ∀ d, d ∈ sds → d ≠ 1398 + 94 * k → ∀ m i, d ≤ m → m < d + 8 → T6.2.2.1 m i = T.2.2.1 m i := fun d hd hne m i h1 h2 => by
        have gap := sd_gap hd (slot_in hk2) hne
        have si := sd_in hd
        rw [e6, ui_ne (.inl (by omega)), cp.2.2.2 m i (by omega) (sd_nw hd h1 h2)]
      have o0 : ∀ j, T6.2.2.1 0 j = T.2.2.1 0 j := fun j => by
        rw [e6, ui_ne (.inl (by decide)), cp.2.2.2 0 j (.inl (by omega)) (by rw [rrole.2.2.2]; rfl)]
      have R19 : R1 T19 S := r1_keep h.1 hV cc.2 (by decide +kernel) gr fk_rf
      have R6 : R1 T6 S14 := r1_keep R19 cc.1 (W := [1568]) (fw_uA e6 r432 rfl rfl (by decide)) (by decide +kernel) (gr_sp (by rw [e6]; exact ⟨rfl, rfl, rfl⟩)) ⟨sc 2, sc 5, sc 6, sc 20, arr 1 (by decide) (by decide), arr 10 (by decide) (by decide)⟩
      obtain ⟨A, B, ⟨u, w, hu, hw, eu, ew, hj⟩, v⟩ := h.2.2.2 q20
      have e14' : T6.2.2.2.2 0 14 = T.2.2.2.2 0 14 := by
        rw [show T6.2.2.2.2 = T19.2.2.2.2 from by rw [e6]; rfl]
        exact e14_gr hV gr
      have Q : R2 T6 S14 := by
        refine ⟨R6, ?_, ⟨fun j hj => ?_, fun z => absurd ((sc 20).symm.trans z) (by show ¬ S.1 20 = 0; rw [q20]; decide)⟩, fun _ => ⟨?_, ?_, ?_, ?_⟩⟩
        · rw [o0, sc 19]; exact h.2.1
        · rw [a18, e6, ui_get, cp.2.2.2 432 j (.inl (by omega)) (by rw [r432]; rfl)]
          by_cases q : j = k
          · rw [if_pos ⟨rfl, q⟩, if_pos q]
          · rw [if_neg (fun z => q z.2), if_neg q]; exact h.2.2.1.1 j hj
        · rw [arr 10 (by decide) (by decide), arr 12 (by decide) (by decide)]
          exact A.cg p4 p5 (fun m i h1 h2 _ => st 242 d242 (by omega) m i h1 h2) (fun _ _ => rfl) (fun _ _ => rfl)
        · intro s e' c' m hc hm
          rw [e14'] at e'
          rw [arr 10 (by decide) (by decide)] at hc hm
          have si := r1_s h.1 e'
          have pc := (pl_cell hP).2.2.1
          rw [e6, ui_ne (.inl (by omega)), cp.2.2.2 _ m (by omega) (by rw [dl_ro si (by omega)]; rfl), arr 17 (by decide) (by decide)]
          exact B s e' c' m hc hm
        · refine ⟨u, w, hu, hw, (sc 19).trans eu, (o0 17).trans ew, fun j hjx => ?_⟩
          rw [arr 10 (by decide) (by decide), arr 15 (by decide) (by decide)]
          have l6 : (w + 7 + j - u) % 6 < 6 := Nat.mod_lt _ (by decide)
          exact (hj j hjx).cg p4 p5 (fun m i h1 h2 _ => st _ (past_in l6) (by omega) m i h1 h2) (fun _ _ => rfl) (fun _ _ => rfl)
        · intro i hi hn
          rw [arr 10 (by decide) (by decide)]
          by_cases q : i = k
          · subst q
            refine A.mv p4 p5 (fun j hj => ?_) (fun j hj => ?_) (fun j hj => ?_) (fun y hy => ?_) (fun _ _ => rfl)
            · rw [e6, ui_ne (.inl (by omega))]; exact cp.1 j hj
            · rw [e6, ui_ne (.inl (by omega)), ui_ne (.inl (by omega))]; exact cp.2.1 j hj
            · rw [e6, ui_ne (.inl (by omega)), ui_ne (.inl (by omega)), ui_ne (.inl (by omega)), ui_ne (.inl (by omega)), ui_ne (.inl (by omega))]; exact cp.2.2.1 j hj
            · rw [a16, if_pos (by omega), show 2455 * i + y - 2455 * i = 0 + y from by omega]
          · rw [a18, if_neg q] at hn
            exact (v i hi hn).cg p4 p5 (fun m j h1 h2 _ => st _ (slot_in hi) (by omega) m j h1 h2) (fun y hy => by rw [a16, if_neg (by omega)]) (fun _ _ => rfl)
      have hP14 : PL (S14.2.1 10) := by rw [arr 10 (by decide) (by decide)]; exact hP
      rw [← (osome3 hg).2.2, ← (osome2 hf).2]
      exact (r2_pb (fun _ => hP14) hV6 Q g8 (w_fr_bestIn_12 f15)).1
theorem r2_restore {a0 : Int32} (hV : IV aR0 1586 aK1 aK2 T) (hJ : JJ S) (h : R2 T S) (hg : g_X11_restore T 0 a0 = some (k1, r1, T1)) (hf : fr_restore S a0 = some (r2, S1)) : R2 T1 S1 := by
  have z0 : (0 : Int32).toInt = 0 := by decide
  have z1 : (1 : Int32).toInt = 1 := by decide
  have z2 : (2 : Int32).toInt = 2 := by decide
  have no : ∀ {w : Int32}, ¬ w ≤ 0 → fr_restore_b28 S w a0 = some (r2, S1) → S1 = mi S 0 w := by
    intro w hw hf
    unfold fr_restore_b28 at hf
    obtain ⟨V, eV, hf⟩ := elet_some hf
    obtain ⟨v3, e3, hf⟩ := elet_some hf
    rw [if_neg (by rw [e3, eV, mi_at]; exact hw)] at hf
    rw [← (osome2 hf).2, eV]
  unfold fr_restore at hf
  obtain ⟨x2, f2, hf⟩ := obind_some hf
  have q2 := q_in f2
  unfold g_X11_restore at hg
  rcases othr_k hg with ⟨rc2, gc2, hc⟩ | ⟨rc2, Tc2, gc2, hg⟩
  · obtain ⟨eT2, ⟨q, -⟩ | ⟨q, qc⟩⟩ := c_idx gc2
    · exact absurd q hc
    · rcases q2 with ⟨-, z⟩ | ⟨z, -⟩
      · exact absurd ⟨by omega, by omega⟩ qc
      · rw [if_pos z] at hf
        rw [eT2, no (by decide) hf]
        exact r2_mi0 h
  · obtain ⟨eT2, ⟨-, qc⟩ | ⟨q, -⟩⟩ := c_idx gc2
    case inr => exact absurd q (by decide)
    rw [eT2] at hg
    rcases q2 with ⟨z, -⟩ | ⟨-, z⟩
    case inr => exact absurd ⟨by omega, by omega⟩ z
    rw [if_neg (by rw [z]; decide)] at hf
    obtain ⟨k, hk2, ek⟩ := nI_of01 (x := a0) (a := 2) (by omega) (by omega) (by omega)
    have kk : a0.toNatClampNeg = k := by rw [ek]; exact nI_clamp (by omega)
    obtain ⟨-, hf⟩ := oif_some hf
    obtain ⟨v6, e6, hf⟩ := elet_some hf
    rw [kk] at e6
    obtain ⟨-, hg⟩ := oif_some hg
    obtain ⟨n7, en, hg⟩ := obind_some hg
    rw [(c_fld h.1.1).2.2.2.2.2.1] at en
    cases en
    obtain ⟨-, hg⟩ := oif_some hg
    obtain ⟨-, hg⟩ := oif_some hg
    obtain ⟨v10, e10, hg⟩ := elet_some hg
    rw [kk, h.2.2.1.1 k hk2, ← e6] at e10
    rw [e10] at hg
    by_cases c : v6 = 0
    · rw [if_pos c] at hg hf
      rw [← (osome3 hg).2.2, no (by decide) hf]
      exact r2_mi0 h
    · rw [if_neg c] at hg hf
      have q20 : S.1 20 = 1 := by
        obtain ⟨s, hs, h14, hr⟩ := h.1.2.2.2.2
        rcases hr with ⟨a, -⟩ | ⟨a, -⟩
        · exact a
        · exact absurd (e6.trans ((h.2.2.1.2 a).2 k hk2)) c
      have hP := r_pl hJ q20
      obtain ⟨p4, p5⟩ := r2_pl hP
      unfold fr_restore_b28 at hf
      obtain ⟨V, eV, hf⟩ := elet_some hf
      obtain ⟨v3, e3, hf⟩ := elet_some hf
      rw [if_pos (by rw [e3, eV, mi_at]; decide)] at hf
      obtain ⟨v5, d5, hf⟩ := elet_some hf
      obtain ⟨S6, f6, hf⟩ := obind_some hf
      obtain ⟨S9, e9, hf⟩ := elet_some hf
      obtain ⟨r13, S10, f10, hf⟩ := obind2_some hf
      have k5 : v5 = nI (2455 * k) := by rw [d5, ek]; exact nI_mulk 2455 k
      rw [k5] at f6
      have x6 := x_copy_16_12 (o1 := 2455 * k) (o3 := 0) (by omega) (by decide) f6
      have fk := w_fr_copy_16_12 f6
      obtain ⟨-, hg⟩ := oif_some hg
      obtain ⟨n13, en, hg⟩ := obind_some hg
      rw [(c_fld h.1.1).2.1] at en
      cases en
      obtain ⟨-, hg⟩ := oif_some hg
      obtain ⟨n15, en, hg⟩ := obind_some hg
      rw [(c_fld h.1.1).2.2.2.2.1] at en
      cases en
      obtain ⟨-, hg⟩ := oif_some hg
      obtain ⟨-, hg⟩ := oif_some hg
      obtain ⟨n18, en, hg⟩ := obind_some hg
      rw [kk, (c_fld h.1.1).2.2.2.2.2.2.2 k hk2] at en
      cases en
      obtain ⟨-, hg⟩ := oif_some hg
      obtain ⟨T20, g20, hg⟩ := obind_some hg
      have cp := c_stcopy h.1.1 hV d242 (slot_in hk2) (by omega) g20
      have cc := tgo (cs_X8_copyFrom T 242 (1398 + 94 * k) hV (sd_ro d242).1 (sd_ro (slot_in hk2)).1) g20
      have gr := sr_X8_copyFrom g20
      have hc20 : CRF T20 := crf_gr h.1.1 hV gr
      obtain ⟨-, -, -, -, -, -, r66, -⟩ := cam_dec
      unfold g_X11_restore_b35 at hg
      obtain ⟨-, hg⟩ := oif_some hg
      obtain ⟨T3, t3, hg⟩ := elet_some hg
      obtain ⟨-, hg⟩ := oif_some hg
      obtain ⟨n5, en, hg⟩ := obind_some hg
      rw [show T3.2.2.2.2 = T20.2.2.2.2 from by rw [t3]; rfl, (c_fld hc20).1] at en
      cases en
      obtain ⟨-, hg⟩ := oif_some hg
      obtain ⟨T7, t7, hg⟩ := elet_some hg
      obtain ⟨-, hg⟩ := oif_some hg
      obtain ⟨r10, T9, g9, hg⟩ := obind2_some hg
      obtain ⟨-, hg⟩ := oif_some hg
      unfold g_X11_restore_b52 at hg
      obtain ⟨-, hg⟩ := oif_some hg
      obtain ⟨w3, -, hg⟩ := elet_some hg
      have hV3 : IV aR0 1586 aK1 aK2 T3 := by
        rw [t3]
        exact iv_uI cc.1 rrole.2.2.2 (by decide) (by decide) (rfl : iR 11 16 = (0, 6)) (by decide) (.inl rfl)
      have hV7 : IV aR0 1586 aK1 aK2 T7 := by
        rw [t7]
        exact iv_uI hV3 r66 (by decide) (by decide) (rfl : iR 4 0 = (0, 1)) (by decide) (.inl rfl)
      have sc : ∀ j, j ≠ 19 → S9.1 j = (mi S 0 0).1 j := fun j n => by
        rw [e9, mi_ne n, fk.1 j rfl, eV]
      have s19 : S9.1 19 = 0 := by rw [e9, mi_at]
      have arr : ∀ a, a ≠ 12 → S9.2.1 a = S.2.1 a := fun a n1 => by
        rw [e9, show (mi S6 19 0).2.1 a = S6.2.1 a from rfl, fk.2 a (con_ne n1), eV]
        rfl
      have a12 : ∀ x, x < 55 → S9.2.1 12 (0 + x) = S.2.1 16 (2455 * k + x) := fun x hx => by
        rw [e9, show (mi S6 19 0).2.1 12 (0 + x) = S6.2.1 12 (0 + x) from rfl, x6, if_pos (by omega), eV, show 2455 * k + (0 + x - 0) = 2455 * k + x from by omega]
        rfl
      have ot : ∀ m i, m ≠ 66 → (m ≠ 0 ∨ i ≠ 16) → T7.2.2.1 m i = T20.2.2.1 m i := fun m i n1 n2 => by
        rw [t7, ui_ne (.inl n1), t3, ui_ne n2]
      have st : ∀ d, d ∈ sds → d ≠ 242 → ∀ m i, d ≤ m → m < d + 8 → T7.2.2.1 m i = T.2.2.1 m i := fun d hd hne m i h1 h2 => by
        have gap := sd_gap hd d242 hne
        have si := sd_in hd
        rw [ot m i (by omega) (by omega), cp.2.2.2 m i (by omega) (sd_nw hd h1 h2)]
      have R20 : R1 T20 S := r1_keep h.1 hV cc.2 (by decide +kernel) gr fk_rf
      have R3 : R1 T3 S := r1_keep R20 cc.1 (W := [368]) (fw_uI t3 rrole.2.2.2 (by decide)) (by decide +kernel) (gr_sp (by rw [t3]; exact ⟨rfl, rfl, rfl⟩)) fk_rf
      have R7 : R1 T7 S9 := r1_keep R3 hV3 (W := [128]) (fw_uI t7 r66 (by decide)) (by decide +kernel) (gr_sp (by rw [t7]; exact ⟨rfl, rfl, rfl⟩)) ⟨sc 2 (by decide), sc 5 (by decide), sc 6 (by decide), sc 20 (by decide), arr 1 (by decide), arr 10 (by decide)⟩
      obtain ⟨A, B, ⟨u, w, hu, hw, eu, ew, hj⟩, v⟩ := h.2.2.2 q20
      have e14' : T7.2.2.2.2 0 14 = T.2.2.2.2 0 14 := by
        rw [show T7.2.2.2.2 = T20.2.2.2.2 from by rw [t7, t3]; rfl]
        exact e14_gr hV gr
      have Q : R2 T7 S9 := by
        refine ⟨R7, ?_, ⟨fun j hj => ?_, fun z => absurd ((sc 20 (by decide)).symm.trans z) (by show ¬ S.1 20 = 0; rw [q20]; decide)⟩, fun _ => ⟨?_, ?_, ?_, ?_⟩⟩
        · rw [t7, ui_ne (.inl (by decide)), t3, ui_at, s19]
        · rw [ot 432 j (by decide) (.inl (by decide)), cp.2.2.2 432 j (.inr (by decide)) (by rw [r432]; rfl), arr 18 (by decide)]
          exact h.2.2.1.1 j hj
        · rw [arr 10 (by decide)]
          refine (v k hk2 (by rw [← e6]; exact c)).mv p4 p5 (fun j hj => ?_) (fun j hj => ?_) (fun j hj => ?_) a12 (fun _ _ => rfl)
          · rw [ot _ j (by decide) (.inl (by decide))]; exact cp.1 j hj
          · rw [ot _ j (by decide) (.inl (by decide)), ot _ j (by decide) (.inl (by decide))]; exact cp.2.1 j hj
          · rw [ot _ j (by decide) (.inl (by decide)), ot _ j (by decide) (.inl (by decide)), ot _ j (by decide) (.inl (by decide)), ot _ j (by decide) (.inl (by decide)), ot _ j (by decide) (.inl (by decide))]; exact cp.2.2.1 j hj
        · intro s e' c' m hc hm
          rw [e14'] at e'
          rw [arr 10 (by decide)] at hc hm
          have si := r1_s h.1 e'
          have pc := (pl_cell hP).2.2.1
          rw [ot _ m (by omega) (.inl (by omega)), cp.2.2.2 _ m (by omega) (by rw [dl_ro si (by omega)]; rfl), arr 17 (by decide)]
          exact B s e' c' m hc hm
        · refine ⟨0, w, by decide, hw, s19, ?_, fun j hjx => absurd hjx (Nat.not_lt_zero j)⟩
          rw [ot 0 17 (by decide) (.inr (by decide)), cp.2.2.2 0 17 (.inl (by decide)) (by rw [rrole.2.2.2]; rfl)]
          exact ew
        · intro i hi hn
          rw [arr 18 (by decide)] at hn
          rw [arr 10 (by decide), arr 16 (by decide)]
          exact (v i hi hn).cg p4 p5 (fun m j h1 h2 _ => st _ (slot_in hi) (by omega) m j h1 h2) (fun _ _ => rfl) (fun _ _ => rfl)
      have hP9 : PL (S9.2.1 10) := by rw [arr 10 (by decide)]; exact hP
      rw [← (osome3 hg).2.2, ← (osome2 hf).2]
      exact (r2_pb (fun _ => hP9) hV7 Q g9 (w_fr_bestIn_12 f10)).1
end
end
section
/-! 25f.table.lean.txt -/
/-! load: the delays that both lay, by one formula -/
section
variable {T T1 : AT} {S S1 : MS} {s : Nat} {P : Nat → Int32}
def RV (P : Nat → Int32) (m : Nat) (x y v : Int32) : Prop := ∃ w, fr_root ((x - P (11 + m)) * (x - P (11 + m)) + (y - P (23 + m)) * (y - P (23 + m)) + P 0 * P 0) = some w ∧ v = w / P 1 - P 0 / P 1
def CX (P : Nat → Int32) (c : Nat) : Int32 := P 6 + P 8 * (nI c - nI c / P 9 * P 9)
def CY (P : Nat → Int32) (c : Nat) : Int32 := P 7 + P 8 * (nI c / P 9)
theorem RV.fn {m : Nat} {x y v w : Int32} (h : RV P m x y v) (k : RV P m x y w) : v = w := by
  obtain ⟨a, a1, a2⟩ := h
  obtain ⟨b, b1, b2⟩ := k
  rw [a1] at b1
  rw [a2, b2, Option.some.inj b1]
theorem r_rv {m : Nat} {x y v : Int32} (hm : m < 12) (hf : fr_delayFrom S (nI m) x y = some (v, S1)) : S1 = S ∧ RV (S.2.1 10) m x y v := by
  have mI : (nI m).toInt = (m : Int) := nI_toInt (by omega)
  have km : (nI m).toNatClampNeg = m := nI_clamp (by omega)
  unfold fr_delayFrom at hf
  obtain ⟨v2, d2, hf⟩ := elet_some hf
  obtain ⟨-, hf⟩ := oif_some hf
  obtain ⟨v4, d4, hf⟩ := elet_some hf
  rw [d2, cl_off (n := 11) (by decide) (by decide) (by omega) (by omega), km] at d4
  obtain ⟨v5, d5, hf⟩ := elet_some hf
  obtain ⟨v6, d6, hf⟩ := elet_some hf
  obtain ⟨-, hf⟩ := oif_some hf
  obtain ⟨v8, d8, hf⟩ := elet_some hf
  rw [d6, cl_off (n := 23) (by decide) (by decide) (by omega) (by omega), km] at d8
  obtain ⟨v9, d9, hf⟩ := elet_some hf
  obtain ⟨v10, d10, hf⟩ := elet_some hf
  obtain ⟨v11, d11, hf⟩ := elet_some hf
  obtain ⟨v12, d12, hf⟩ := elet_some hf
  obtain ⟨v13, d13, hf⟩ := elet_some hf
  obtain ⟨v14, d14, hf⟩ := elet_some hf
  obtain ⟨v15, d15, hf⟩ := elet_some hf
  obtain ⟨r16, f16, hf⟩ := obind_some hf
  obtain ⟨v18, d18, hf⟩ := elet_some hf
  obtain ⟨n18, hf⟩ := oif_some hf
  obtain ⟨v20, d20, hf⟩ := elet_some hf
  obtain ⟨v21, d21, hf⟩ := elet_some hf
  obtain ⟨n21, hf⟩ := oif_some hf
  obtain ⟨v23, d23, hf⟩ := elet_some hf
  obtain ⟨v24, d24, hf⟩ := elet_some hf
  have f := osome2 hf
  refine ⟨f.2.symm, r16, ?_, ?_⟩
  · rw [← f16, d15, d14, d13, d12, d11, d10, d9, d8, d5, d4]
  · rw [← f.1, d24, d23, d20, d21, d18, d10]
theorem r_cx {c : Nat} {x : Int32} (hf : fr_centre S (nI c) 0 = some (x, S1)) : S1 = S ∧ x = CX (S.2.1 10) c := by
  unfold fr_centre at hf
  rw [if_pos rfl] at hf
  obtain ⟨v3, d3, hf⟩ := elet_some hf
  obtain ⟨v4, d4, hf⟩ := elet_some hf
  obtain ⟨v5, d5, hf⟩ := elet_some hf
  obtain ⟨-, hf⟩ := oif_some hf
  obtain ⟨v7, d7, hf⟩ := elet_some hf
  obtain ⟨v8, d8, hf⟩ := elet_some hf
  obtain ⟨v9, d9, hf⟩ := elet_some hf
  unfold fr_centre_b57 at hf
  have f := osome2 hf
  refine ⟨f.2.symm, ?_⟩
  rw [← f.1, d9, d8, d7, d5, d4, d3]
  rfl
theorem r_cy {c : Nat} {x : Int32} (hf : fr_centre S (nI c) 1 = some (x, S1)) : S1 = S ∧ x = CY (S.2.1 10) c := by
  unfold fr_centre at hf
  rw [if_neg (by decide)] at hf
  obtain ⟨v3, d3, hf⟩ := elet_some hf
  obtain ⟨v4, d4, hf⟩ := elet_some hf
  obtain ⟨v5, d5, hf⟩ := elet_some hf
  obtain ⟨-, hf⟩ := oif_some hf
  obtain ⟨v7, d7, hf⟩ := elet_some hf
  obtain ⟨v8, d8, hf⟩ := elet_some hf
  obtain ⟨v9, d9, hf⟩ := elet_some hf
  unfold fr_centre_b57 at hf
  have f := osome2 hf
  refine ⟨f.2.symm, ?_⟩
  rw [← f.1, d9, d8, d7, d5, d4, d3]
  rfl
theorem c_cx {c : Nat} {x : Int32} (h9 : ¬ P 9 = 0) (e3 : T.2.2.1 (s + 2) 3 = P 9) (e0 : T.2.2.1 (s + 2) 0 = P 6) (e2 : T.2.2.1 (s + 2) 2 = P 8) (hg : g_X1_centreX T (s + 2) (nI c) = some (x, T1)) : T1 = T ∧ x = CX P c := by
  unfold g_X1_centreX at hg
  obtain ⟨-, hg⟩ := oif_some hg
  obtain ⟨v3, d3, hg⟩ := elet_some hg
  obtain ⟨-, hg⟩ := oif_some hg
  obtain ⟨v5, d5, hg⟩ := elet_some hg
  obtain ⟨-, hg⟩ := oif_some hg
  obtain ⟨r9, T7, g7, hg⟩ := obind2_some hg
  obtain ⟨eT, er⟩ := a_col h9 e3 g7
  obtain ⟨v11, d11, hg⟩ := elet_some hg
  obtain ⟨v12, d12, hg⟩ := elet_some hg
  have g := osome2 hg
  refine ⟨g.2.symm.trans eT, ?_⟩
  rw [← g.1, d12, d11, er, d5, d3, e0, e2]
  rfl
theorem c_cy {c : Nat} {x : Int32} (hc : c < 144) (h9 : 1 ≤ (P 9).toInt) (e3 : T.2.2.1 (s + 2) 3 = P 9) (e1 : T.2.2.1 (s + 2) 1 = P 7) (e2 : T.2.2.1 (s + 2) 2 = P 8) (hg : g_X1_centreY T (s + 2) (nI c) = some (x, T1)) : T1 = T ∧ x = CY P c := by
  have cI : (nI c).toInt = (c : Int) := nI_toInt (by omega)
  unfold g_X1_centreY at hg
  obtain ⟨-, hg⟩ := oif_some hg
  obtain ⟨v3, d3, hg⟩ := elet_some hg
  obtain ⟨-, hg⟩ := oif_some hg
  obtain ⟨v5, d5, hg⟩ := elet_some hg
  obtain ⟨-, hg⟩ := oif_some hg
  obtain ⟨r9, T7, g7, hg⟩ := obind2_some hg
  obtain ⟨eT, er⟩ := a_row (by omega) h9 e3 g7
  obtain ⟨v11, d11, hg⟩ := elet_some hg
  obtain ⟨v12, d12, hg⟩ := elet_some hg
  have g := osome2 hg
  refine ⟨g.2.symm.trans eT, ?_⟩
  rw [← g.1, d12, d11, er, d5, d3, e1, e2]
  rfl
theorem c_rv {m n : Nat} {x y r : Int32} (hP : PL P) (hm : m < 12) (hx : -999 ≤ x.toInt ∧ x.toInt ≤ 15156) (hy : -999 ≤ y.toInt ∧ y.toInt ≤ 15156) (E0 : T.2.2.1 s 0 = P 0) (E1 : T.2.2.1 s 1 = P 1) (M0 : T.2.2.1 n 0 = P (11 + m)) (M1 : T.2.2.1 n 1 = P (23 + m)) (hg : g_X6_delayFrom T s n x y = some (r, T1)) : T1 = T ∧ RV P m x y r := by
  have p1 := pl_1 hP
  have n1 : ¬ P 1 = 0 := fun q => by rw [q] at p1; exact absurd p1.1 (by decide)
  have b4 := hP.2.2.2.2.1 (11 + m) (by omega) (by omega)
  have b8 := hP.2.2.2.2.1 (23 + m) (by omega) (by omega)
  have b10 := hP.1.1
  unfold g_X6_delayFrom at hg
  obtain ⟨-, hg⟩ := oif_some hg
  obtain ⟨x3, t3, hg⟩ := elet_some hg
  obtain ⟨x4, t4, hg⟩ := elet_some hg
  obtain ⟨-, hg⟩ := oif_some hg
  obtain ⟨x6, t6, hg⟩ := elet_some hg
  obtain ⟨x7, t7, hg⟩ := elet_some hg
  obtain ⟨x8, t8, hg⟩ := elet_some hg
  obtain ⟨x9, t9, hg⟩ := elet_some hg
  obtain ⟨x10, t10, hg⟩ := elet_some hg
  obtain ⟨-, hg⟩ := oif_some hg
  obtain ⟨x12, t12, hg⟩ := elet_some hg
  obtain ⟨-, hg⟩ := oif_some hg
  obtain ⟨x14, t14, hg⟩ := elet_some hg
  obtain ⟨x15, t15, hg⟩ := elet_some hg
  obtain ⟨x16, t16, hg⟩ := elet_some hg
  obtain ⟨r17, g17, hg⟩ := obind_some hg
  obtain ⟨x19, t19, hg⟩ := elet_some hg
  obtain ⟨-, hg⟩ := oif_some hg
  obtain ⟨x21, t21, hg⟩ := elet_some hg
  obtain ⟨x22, t22, hg⟩ := elet_some hg
  obtain ⟨r23, g23, hg⟩ := obind_some hg
  obtain ⟨-, hg⟩ := oif_some hg
  obtain ⟨x26, t26, hg⟩ := elet_some hg
  obtain ⟨x27, t27, hg⟩ := elet_some hg
  obtain ⟨-, hg⟩ := oif_some hg
  obtain ⟨x29, t29, hg⟩ := elet_some hg
  obtain ⟨x30, t30, hg⟩ := elet_some hg
  obtain ⟨r31, g31, hg⟩ := obind_some hg
  obtain ⟨x33, t33, hg⟩ := elet_some hg
  obtain ⟨x34, t34, hg⟩ := elet_some hg
  rw [M0] at t3
  rw [M1] at t6
  rw [E0] at t12 t14 t26
  rw [E1] at t21 t29
  rw [← t3] at b4
  rw [← t6] at b8
  rw [← t12] at b10
  have q4 := i_sub t4 (by omega) (by omega)
  have q7 := i_sub t7 (by omega) (by omega)
  have q8 := i_sq (b := 15656) t8 (by omega) (by omega) (by decide)
  have q9 := i_sq (b := 15656) t9 (by omega) (by omega) (by decide)
  rw [t14, ← t12] at t15
  have q15 := i_sq (b := 5000) t15 (by omega) (by omega) (by decide)
  have q10 := i_add t10 (by omega) (by omega)
  have q16 := i_add t16 (by omega) (by omega)
  rw [← root_eq (by omega)] at g17
  rw [t19, t22, t21] at g23
  rw [t27, t26, t30, t29] at g31
  have u := a_quo n1 g23
  have w := a_quo n1 g31
  have g := osome2 hg
  refine ⟨g.2.symm, r17, ?_, ?_⟩
  · rw [← g17, t16, t15, t10, t9, t8, t7, t6, t4, t3, t12]
  · rw [← g.1, t34, t33, Int64.toInt32_sub, u, w]
theorem sce_row {n k : Nat} {v : Int32} (h : SCE s T P) (hn : s + 16 ≤ n ∧ n < s + 160) : SCE s (uI T n k v) P :=
  sce_eq h ⟨fun j _ => ui_ne (.inl (by omega)), fun j _ => ui_ne (.inl (by omega)), fun j => ui_ne (.inl (by omega)), fun m j a b => ui_ne (.inl (by omega)), fun m j a b => ui_ne (.inl (by omega)), fun m j a b _ => ui_ne (.inl (by omega)), fun m j a b _ => ui_ne (.inl (by omega))⟩ (fun _ _ => rfl)
theorem c_df {n : Nat} {x y : Int32} (hP : PL P) (hx : -999 ≤ x.toInt ∧ x.toInt ≤ 15156) (hy : -999 ≤ y.toInt ∧ y.toInt ≤ 15156) (hn : s + 16 ≤ n ∧ n < s + 160) : ∀ (f j : Nat) {T : AT}, j ≤ 12 → SRF s T → SCE s T P → (∀ m, m < j → RV P m x y (T.2.2.1 n m)) → g_X6_delaysFrom_b3 f T s x y n (nI j) = some T1 → (∀ m : Nat, (m : Int) < (P 4).toInt → RV P m x y (T1.2.2.1 n m)) ∧ T1.2.2.2.2 = T.2.2.2.2 ∧ SCE s T1 P ∧ ∀ m k, m ≠ n → T1.2.2.1 m k = T.2.2.1 m k := by
  have p4 := pl_4 hP
  intro f
  induction f with
  | zero => intro j T hj hF hC hm h; cases h
  | succ f ih =>
    intro j T hj hF hC hm h
    have jI : (nI j).toInt = (j : Int) := nI_toInt (by omega)
    have kj : (nI j).toNatClampNeg = j := nI_clamp (by omega)
    obtain ⟨mc, mc12, x5, y4, mm, -⟩ := hC.2.1
    unfold g_X6_delaysFrom_b3 at h
    obtain ⟨-, h⟩ := oif_some h
    obtain ⟨v3, e3, h⟩ := elet_some h
    rw [x5, ← y4] at e3
    rcases oif_or h with ⟨c, h⟩ | ⟨c, h⟩
    · have c := i_le c
      rw [e3] at c
      rw [← osome1 h]
      exact ⟨fun m h => hm m (by omega), rfl, hC, fun _ _ _ => rfl⟩
    · have c := i_nle c
      rw [e3] at c
      obtain ⟨-, h⟩ := oif_some h
      obtain ⟨n6, en, h⟩ := obind_some h
      rw [hF.1] at en
      cases en
      obtain ⟨-, h⟩ := oif_some h
      obtain ⟨-, h⟩ := oif_some h
      obtain ⟨n9, en, h⟩ := obind_some h
      have eM : T.2.2.2.2 (s + 1) j = some (s + 160 + j) := by unfold SRF at hF; exact hF.2.2.2.2.2.2.2.2.1 _ (by omega)
      rw [kj, eM] at en
      cases en
      obtain ⟨-, h⟩ := oif_some h
      obtain ⟨r13, T11, g11, h⟩ := obind2_some h
      have mcI : (nI mc).toInt = (mc : Int) := nI_toInt (by omega)
      rw [y4] at c
      have mj := mm j (by omega)
      obtain ⟨e11, rv⟩ := c_rv hP (by omega) hx hy hC.1.1 hC.1.2.1 mj.1 mj.2.1 g11
      rw [e11] at h
      obtain ⟨-, h⟩ := oif_some h
      obtain ⟨-, h⟩ := oif_some h
      obtain ⟨T17, e17, h⟩ := elet_some h
      obtain ⟨v18, e18, h⟩ := elet_some h
      rw [show v18 = nI (j + 1) from e18.trans (nI_p1 j)] at h
      rw [kj] at e17
      obtain ⟨a1, a2, a3, a4⟩ := ih (j + 1) (T := T17) (by omega) (hF.sub (by rw [e17]; rfl)) (by rw [e17]; exact sce_row hC hn) (fun m hm2 => by
        rw [e17, ui_get]
        by_cases q : m = j
        · rw [if_pos ⟨rfl, q⟩, q]; exact rv
        · rw [if_neg (fun z => q z.2)]; exact hm m (by omega)) h
      exact ⟨a1, a2.trans (by rw [e17]; rfl), a3, fun m k hm => by rw [a4 m k hm, e17, ui_ne (.inl hm)]⟩
theorem cxy_rg {c : Nat} (hV : IV aR0 1586 aK1 aK2 T) (hs : s = 478 ∨ s = 656) (hc : c < 144) : (∃ x, g_X1_centreX T (s + 2) (nI c) = some (x, T) ∧ -999 ≤ x.toInt ∧ x.toInt ≤ 15156) ∧ ∃ y, g_X1_centreY T (s + 2) (nI c) = some (y, T) ∧ -999 ≤ y.toInt ∧ y.toInt ≤ 15156 := by
  have cI : (nI c).toInt = (c : Int) := nI_toInt (by omega)
  have r2 := (sro hs).2.1
  obtain ⟨⟨x, U⟩, e, e1, m⟩ := cs_X1_centreX T (s + 2) (nI c) hV r2 (by omega)
  obtain ⟨⟨y, V⟩, f, f1, m2⟩ := cs_X1_centreY T (s + 2) (nI c) hV r2 (by omega)
  have e1 : U = T := e1
  have f1 : V = T := f1
  have m : -999 ≤ x.toInt ∧ x.toInt ≤ 2088 := m
  subst e1
  subst f1
  exact ⟨⟨x, e, m.1, by have := m.2; omega⟩, y, f, m2.1, m2.2⟩
/-- the class's table of delays -/
theorem c_md (hP : PL P) (hs : s = 478 ∨ s = 656) (p8 : P 8 ≠ 0) : ∀ (f c : Nat) {T : AT}, c ≤ 144 → (c : Int) ≤ (P 9 * P 10).toInt → IV aR0 1586 aK1 aK2 T → SRF s T → SCE s T P → (∀ d m : Nat, d < c → (m : Int) < (P 4).toInt → RV P m (CX P d) (CY P d) (T.2.2.1 (s + 16 + d) m)) → g_X6_measureDelays_b2 f T s (nI c) = some T1 → (∀ d m : Nat, (d : Int) < (P 9 * P 10).toInt → (m : Int) < (P 4).toInt → RV P m (CX P d) (CY P d) (T1.2.2.1 (s + 16 + d) m)) ∧ SCE s T1 P := by
  have p9 := pl_9 hP
  have z0 : (0 : Int32).toInt = 0 := by decide
  have n9 : ¬ P 9 = 0 := fun q => by rw [q] at p9; omega
  obtain ⟨pm, pc1, pc2, -⟩ := pl_cell (S := (fun _ => 0, fun _ => P, fun _ _ => 0)) hP
  have pc2 : (P 9 * P 10).toInt ≤ 144 := pc2
  intro f
  induction f with
  | zero => intro c T _ _ _ _ _ _ h; cases h
  | succ f ih =>
    intro c T hc hcl hV hF hC hm h
    have cI : (nI c).toInt = (c : Int) := nI_toInt (by omega)
    obtain ⟨y3, y4, y⟩ := hC.2.2.1
    have y : T.2.2.1 (s + 2) 0 = P 6 ∧ T.2.2.1 (s + 2) 1 = P 7 ∧ T.2.2.1 (s + 2) 2 = P 8 := by
      rcases y with ⟨y, -⟩ | ⟨-, -, u, v, w, -⟩
      · exact absurd y p8
      · exact ⟨u, v, w⟩
    unfold g_X6_measureDelays_b2 at h
    obtain ⟨-, h⟩ := oif_some h
    obtain ⟨n3, en, h⟩ := obind_some h
    rw [hF.2.1] at en
    cases en
    obtain ⟨-, h⟩ := oif_some h
    obtain ⟨r7, T5, g5, h⟩ := obind2_some h
    unfold g_X1_cells at g5
    obtain ⟨-, g5⟩ := oif_some g5
    obtain ⟨x3, t3, g5⟩ := elet_some g5
    obtain ⟨-, g5⟩ := oif_some g5
    obtain ⟨x5, t5, g5⟩ := elet_some g5
    obtain ⟨x6, t6, g5⟩ := elet_some g5
    have g := osome2 g5
    rw [← g.2, ← g.1, t6, t3, t5, y3, y4] at h
    rcases oif_or h with ⟨cc, h⟩ | ⟨cc, h⟩
    · have cc := i_le cc
      rw [← osome1 h]
      exact ⟨fun d m hd hm2 => hm d m (by omega) hm2, hC⟩
    · have cc := i_nle cc
      obtain ⟨⟨x, ex, mx1, mx2⟩, yy, ey, my1, my2⟩ := cxy_rg hV hs (c := c) (by omega)
      obtain ⟨-, h⟩ := oif_some h
      obtain ⟨n11, en, h⟩ := obind_some h
      rw [hF.2.1] at en
      cases en
      obtain ⟨-, h⟩ := oif_some h
      obtain ⟨r15, T13, g13, h⟩ := obind2_some h
      rw [ex] at g13
      have g13 := osome2 g13
      rw [← g13.1, ← g13.2] at h
      have qx := (c_cx n9 y3 y.1 y.2.2 ex).2
      obtain ⟨-, h⟩ := oif_some h
      obtain ⟨n18, en, h⟩ := obind_some h
      rw [hF.2.1] at en
      cases en
      obtain ⟨-, h⟩ := oif_some h
      obtain ⟨r22, T20, g20, h⟩ := obind2_some h
      rw [ey] at g20
      have g20 := osome2 g20
      rw [← g20.1, ← g20.2] at h
      have qy := (c_cy (by omega) p9.1 y3 y.2.1 y.2.2 ey).2
      obtain ⟨-, h⟩ := oif_some h
      obtain ⟨n25, en, h⟩ := obind_some h
      have e7' : T.2.2.2.2 s 17 = some (s + 15) := by unfold SRF at hF; exact hF.2.2.2.2.2.2.2.1
      rw [e7'] at en
      cases en
      obtain ⟨-, h⟩ := oif_some h
      obtain ⟨-, h⟩ := oif_some h
      obtain ⟨n28, en, h⟩ := obind_some h
      have e10 : T.2.2.2.2 (s + 15) c = some (s + 16 + c) := by unfold SRF at hF; exact hF.2.2.2.2.2.2.2.2.2.2.2.2.2.2 _ (by omega)
      rw [nI_clamp (by omega), e10] at en
      cases en
      obtain ⟨-, h⟩ := oif_some h
      obtain ⟨T30, g30, h⟩ := obind_some h
      obtain ⟨v32, e32, h⟩ := elet_some h
      rw [show v32 = nI (c + 1) from e32.trans (nI_p1 c)] at h
      have iv30 := tgo (cs_X6_delaysFrom T s x yy (s + 16 + c) hV (rsrole hs) (dl_ro hs (by omega)) (by omega) (by omega)) g30
      unfold g_X6_delaysFrom at g30
      obtain ⟨a1, a2, a3, a4⟩ := c_df hP ⟨mx1, mx2⟩ ⟨my1, my2⟩ (n := s + 16 + c) (by omega) 16384 0 (by decide) hF hC (fun m hm => absurd hm (Nat.not_lt_zero m)) g30
      refine ih (c + 1) (by omega) (by omega) iv30.1 (hF.sub a2) a3 (fun d m hd hm2 => ?_) h
      by_cases q : d = c
      · rw [q, ← qx, ← qy]; exact a1 m hm2
      · rw [a4 _ m (by omega)]; exact hm d m (by omega) hm2
end
end
section
/-! 25g.rload.lean.txt -/
/-! load: the reference's loops behind its parser -/
section
variable {S S1 : MS} {P : Nat → Int32}
/-- the reference's last steps of a load, from a state with the table laid -/
def TLq (W S1 : MS) : Prop := ∃ S7, fr_records_12 W = some S7 ∧ S1.2.1 12 = S7.2.1 12 ∧ S1.2.1 17 = W.2.1 17 ∧ S1.1 19 = 0 ∧ S1.1 20 = 1 ∧ S1.2.1 18 0 = 0 ∧ S1.2.1 18 1 = 0
def TBq (P : Nat → Int32) (W : MS) : Prop := ∀ d m : Nat, (d : Int) < (P 9 * P 10).toInt → (m : Int) < (P 4).toInt → RV P m (CX P d) (CY P d) (W.2.1 17 (12 * d + m))
theorem x_168 {c : Nat} {r : Int32} {k : MS → Int32 → Option (Int32 × MS)} {G : MS → Prop} (hP : PL P) (hc : c < 144) (hk : ∀ {S : MS}, S.2.1 10 = P → (∀ d m : Nat, d < c + 1 → (m : Int) < (P 4).toInt → RV P m (CX P d) (CY P d) (S.2.1 17 (12 * d + m))) → ∀ A, S.2.1 12 = A → k S (nI (c + 1)) = some (r, S1) → ∃ W, W.2.1 10 = P ∧ W.2.1 12 = A ∧ TBq P W ∧ TLq W S1) : ∀ (f j : Nat) {S : MS}, j ≤ 12 → S.2.1 10 = P → (∀ d m : Nat, d < c → (m : Int) < (P 4).toInt → RV P m (CX P d) (CY P d) (S.2.1 17 (12 * d + m))) → (∀ m : Nat, m < j → RV P m (CX P c) (CY P c) (S.2.1 17 (12 * c + m))) → ∀ A, S.2.1 12 = A → fr_load_b168 k f S (nI c) (nI j) = some (r, S1) → ∃ W, W.2.1 10 = P ∧ W.2.1 12 = A ∧ TBq P W ∧ TLq W S1 := by
  have p4 := pl_4 hP
  intro f
  induction f with
  | zero => intro j S hj e10 hd hm A eA h; cases h
  | succ f ih =>
    intro j S hj e10 hd hm A eA h
    have jI : (nI j).toInt = (j : Int) := nI_toInt (by omega)
    unfold fr_load_b168 at h
    obtain ⟨v2, e2, h⟩ := elet_some h
    rw [e10] at e2
    rcases oif_or h with ⟨cc, h⟩ | ⟨cc, h⟩
    · have cc := i_le cc
      rw [e2] at cc
      obtain ⟨v4, e4, h⟩ := elet_some h
      rw [show v4 = nI (c + 1) from e4.trans (nI_p1 c)] at h
      refine hk e10 (fun d m h1 h2 => ?_) A eA h
      by_cases q : d = c
      · rw [q]; exact hm m (by omega)
      · exact hd d m (by omega) h2
    · have cc := i_nle cc
      rw [e2] at cc
      obtain ⟨v5, e5, h⟩ := elet_some h
      obtain ⟨v6, e6, h⟩ := elet_some h
      obtain ⟨r10, S7, f7, h⟩ := obind2_some h
      obtain ⟨a7, q7⟩ := r_cx f7
      rw [a7] at h
      obtain ⟨r14, S11, f11, h⟩ := obind2_some h
      obtain ⟨a11, q11⟩ := r_cy f11
      rw [a11] at h
      obtain ⟨r18, S15, f15, h⟩ := obind2_some h
      obtain ⟨a15, q15⟩ := r_rv (by omega) f15
      rw [a15] at h
      obtain ⟨-, h⟩ := oif_some h
      obtain ⟨S20, e20, h⟩ := elet_some h
      obtain ⟨v21, e21, h⟩ := elet_some h
      rw [show v21 = nI (j + 1) from e21.trans (nI_p1 j)] at h
      rw [e10] at q7 q11 q15
      rw [q7, q11] at q15
      have k6 : v6 = nI (12 * c + j) := by rw [e6, e5, ← nI_add, ← nI_mulk]; rfl
      rw [k6, nI_clamp (by omega)] at e20
      have g17 : ∀ x, S20.2.1 17 x = if x = 12 * c + j then r18 else S.2.1 17 x := fun x => by rw [e20, mf_at]; rfl
      refine ih (j + 1) (by omega) (by rw [e20, mf_ne (by decide)]; exact e10) (fun d m h1 h2 => ?_) (fun m h1 => ?_) A (by rw [e20, mf_ne (by decide)]; exact eA) h
      · rw [g17, if_neg (by omega)]; exact hd d m h1 h2
      · rw [g17]
        by_cases q : m = j
        · rw [q, if_pos rfl]; exact q15
        · rw [if_neg (by omega)]; exact hm m (by omega)
theorem x_158 {r : Int32} (hP : PL P) : ∀ (f c : Nat) {S : MS}, (c : Int) ≤ (P 9 * P 10).toInt → S.2.1 10 = P → (∀ d m : Nat, d < c → (m : Int) < (P 4).toInt → RV P m (CX P d) (CY P d) (S.2.1 17 (12 * d + m))) → ∀ A, S.2.1 12 = A → fr_load_b158 f S (nI c) = some (r, S1) → ∃ W, W.2.1 10 = P ∧ W.2.1 12 = A ∧ TBq P W ∧ TLq W S1 := by
  obtain ⟨-, -, pc2, -⟩ := pl_cell (S := (fun _ => 0, fun _ => P, fun _ _ => 0)) hP
  have pc2 : (P 9 * P 10).toInt ≤ 144 := pc2
  intro f
  induction f with
  | zero => intro c S _ _ _ _ _ h; cases h
  | succ f ih =>
    intro c S hc e10 hd A eA h
    have cI : (nI c).toInt = (c : Int) := nI_toInt (by omega)
    unfold fr_load_b158 at h
    obtain ⟨r5, S2, f5, h⟩ := obind2_some h
    unfold fr_cellCount at f5
    obtain ⟨v2, d2, f5⟩ := elet_some f5
    obtain ⟨v3, d3, f5⟩ := elet_some f5
    obtain ⟨v4, d4, f5⟩ := elet_some f5
    have g := osome2 f5
    rw [← g.1, ← g.2, d4, d2, d3, e10] at h
    rcases oif_or h with ⟨cc, h⟩ | ⟨cc, h⟩
    · have cc := i_le cc
      obtain ⟨S7, f7, h⟩ := obind_some h
      obtain ⟨S10, e10', h⟩ := elet_some h
      obtain ⟨S11, e11, h⟩ := elet_some h
      obtain ⟨S12, e12, h⟩ := elet_some h
      obtain ⟨S13, e13, h⟩ := elet_some h
      obtain ⟨r17, S14, f14, h⟩ := obind2_some h
      unfold fr_cellCount at f14
      obtain ⟨w2, t2, f14⟩ := elet_some f14
      obtain ⟨w3, t3, f14⟩ := elet_some f14
      obtain ⟨w4, t4, f14⟩ := elet_some f14
      have k7 := w_fr_records_12 f7
      have eS : S1 = S13 := by rw [← (osome2 h).2, ← (osome2 f14).2]
      refine ⟨S, e10, eA, fun d m h1 h2 => hd d m (by omega) h2, S7, f7, ?_, ?_, ?_, ?_, ?_, ?_⟩
      · rw [eS, e13, e12, e11, e10']
        rfl
      · rw [eS, e13, e12, e11, e10']
        exact k7.2 17 (by decide)
      · rw [eS, e13, mi_at]
      · rw [eS, e13, e12, e11, e10']
        rfl
      · rw [eS, e13, e12, e11]
        rfl
      · rw [eS, e13, e12]
        rfl
    · have cc := i_nle cc
      exact x_168 (G := fun _ => True) hP (by omega) (fun {S} a b A eA q => ih (c + 1) (by omega) a b A eA q) 16384 0 (by decide) e10 hd (fun m hm => absurd hm (Nat.not_lt_zero m)) A eA h
/-- the weights, then the table -/
theorem x_107 {r : Int32} (hP : PL P) {V : MS} : ∀ (f j : Nat) {S : MS}, (j : Int) ≤ (P 4).toInt → S.2.1 10 = P → (∀ x : Nat, x < 55 → S.2.1 12 x = if 13 ≤ x ∧ x < 13 + j then (if (x : Int) < 13 + (P 118).toInt then P (119 + (x - 13)) else 1) else V.2.1 12 x) → fr_load_b107 f S (nI j) = some (r, S1) → ∃ W, W.2.1 10 = P ∧ (∀ x : Nat, x < 55 → W.2.1 12 x = if 13 ≤ x ∧ (x : Int) < 13 + (P 4).toInt then (if (x : Int) < 13 + (P 118).toInt then P (119 + (x - 13)) else 1) else V.2.1 12 x) ∧ TBq P W ∧ TLq W S1 := by
  have p4 := pl_4 hP
  have p118 := pl_118 hP
  intro f
  induction f with
  | zero => intro j S _ _ _ h; cases h
  | succ f ih =>
    intro j S hj e10 hw h
    have jI : (nI j).toInt = (j : Int) := nI_toInt (by omega)
    unfold fr_load_b107 at h
    obtain ⟨v2, e2, h⟩ := elet_some h
    rw [e10] at e2
    rcases oif_or h with ⟨cc, h⟩ | ⟨cc, h⟩
    · have cc := i_le cc
      rw [e2] at cc
      obtain ⟨-, pc1, -, -⟩ := pl_cell (S := (fun _ => 0, fun _ => P, fun _ _ => 0)) hP
      have pc1 : 1 ≤ (P 9 * P 10).toInt := pc1
      obtain ⟨W, w1, w2, w3, w4⟩ := x_158 hP 16384 0 (by omega) e10 (fun d m hd => absurd hd (Nat.not_lt_zero d)) _ rfl h
      refine ⟨W, w1, fun x hx => ?_, w3, w4⟩
      rw [w2, hw x hx]
      by_cases p : 13 ≤ x ∧ x < 13 + j
      · rw [if_pos p, if_pos (show 13 ≤ x ∧ (x : Int) < 13 + (P 4).toInt by omega)]
      · rw [if_neg p, if_neg (show ¬ (13 ≤ x ∧ (x : Int) < 13 + (P 4).toInt) by omega)]
    · have cc := i_nle cc
      rw [e2] at cc
      have step : ∀ {s0 : Int32} {v4 : Int32}, v4 = 13 + nI j → s0 = (if (j : Int) < (P 118).toInt then P (119 + j) else 1) → fr_load_b149 (fr_load_b107 f) S s0 v4 (nI j) = some (r, S1) → ∃ W, W.2.1 10 = P ∧ (∀ x : Nat, x < 55 → W.2.1 12 x = if 13 ≤ x ∧ (x : Int) < 13 + (P 4).toInt then (if (x : Int) < 13 + (P 118).toInt then P (119 + (x - 13)) else 1) else V.2.1 12 x) ∧ TBq P W ∧ TLq W S1 := by
        intro s0 v4 e4 es h
        unfold fr_load_b149 at h
        obtain ⟨-, h⟩ := oif_some h
        obtain ⟨S3, e3, h⟩ := elet_some h
        obtain ⟨v5, e5, h⟩ := elet_some h
        rw [show v5 = nI (j + 1) from e5.trans (nI_p1 j)] at h
        have k4 : v4 = nI (13 + j) := by rw [e4, ← nI_add]; rfl
        rw [k4, nI_clamp (by omega)] at e3
        refine ih (j + 1) (by omega) (by rw [e3, mf_ne (by decide)]; exact e10) (fun x hx => ?_) h
        rw [e3, mf_at]
        show (if x = 13 + j then s0 else S.2.1 12 x) = _
        by_cases q : x = 13 + j
        · rw [if_pos q, if_pos (show 13 ≤ x ∧ x < 13 + (j + 1) by omega), es, q, show 13 + j - 13 = j from by omega]
          by_cases p : (j : Int) < (P 118).toInt
          · rw [if_pos p, if_pos (by omega)]
          · rw [if_neg p, if_neg (by omega)]
        · rw [if_neg q, hw x hx]
          by_cases p : 13 ≤ x ∧ x < 13 + j
          · rw [if_pos p, if_pos (show 13 ≤ x ∧ x < 13 + (j + 1) by omega)]
          · rw [if_neg p, if_neg (show ¬ (13 ≤ x ∧ x < 13 + (j + 1)) by omega)]
      obtain ⟨v4, e4, h⟩ := elet_some h
      obtain ⟨v5, e5, h⟩ := elet_some h
      rw [e10] at e5
      rcases oif_or h with ⟨c5, h⟩ | ⟨c5, h⟩
      · have c5 := i_le c5
        rw [e5] at c5
        exact step e4 (by rw [if_neg (by omega)]) h
      · have c5 := i_nle c5
        rw [e5] at c5
        obtain ⟨v7, e7, h⟩ := elet_some h
        obtain ⟨-, h⟩ := oif_some h
        obtain ⟨v9, e9, h⟩ := elet_some h
        have k7 : v7 = nI (119 + j) := by rw [e7, ← nI_add]; rfl
        rw [k7, nI_clamp (by omega), e10] at e9
        exact step e4 (by rw [if_pos (by omega), e9]) h
end
end
section
/-! 25i.begin.lean.txt -/
/-! load: how the class begins a state -/
section
variable {T T1 : AT} {s : Nat}
def BG1 (s : Nat) (T0 T : AT) (l : Nat) : Prop := T.2.2.2.2 = T0.2.2.2.2 ∧ (T.2.2.1 242 0 = T0.2.2.1 s 5 ∧ T.2.2.1 242 1 = T0.2.2.1 s 2) ∧ (∀ m, m < l → T.2.2.1 243 m = 0 ∧ T.2.2.1 244 m = if (m : Int) < (T0.2.2.1 s 16).toInt then T0.2.2.1 (s + 14) m else 1) ∧ ∀ m k, (m < 242 ∨ 250 ≤ m) → T.2.2.1 m k = T0.2.2.1 m k
def BG2 (s : Nat) (T0 T : AT) (l : Nat) : Prop := BG1 s T0 T 12 ∧ ∀ k, k < l → T.2.2.1 245 k = (if T0.2.2.1 (s + 172 + k) 9 = 0 then 1 else 0) ∧ T.2.2.1 246 k = T0.2.2.1 (s + 172 + k) 1 ∧ T.2.2.1 247 k = T0.2.2.1 (s + 172 + k) 2 ∧ T.2.2.1 248 k = T0.2.2.1 (s + 172 + k) 3 ∧ T.2.2.1 249 k = T0.2.2.1 (s + 172 + k) 4
theorem c_bg63 {T0 : AT} (hs : s = 478 ∨ s = 656) (hF : SRF s T0) (hc : CRF T0) : ∀ (f l : Nat) {T : AT}, l ≤ 6 → BG2 s T0 T l → g_X8_begin_b63 f T 242 s (nI l) = some T1 → BG2 s T0 T1 6 := by
  obtain ⟨-, -, d5, d6, d7, d8, d9, -⟩ := sd_rf hc d242
  intro f
  induction f with
  | zero => intro l T hl hB h; cases h
  | succ f ih =>
    intro l T hl hB h
    unfold g_X8_begin_b63 at h
    by_cases c : l = 6
    · subst c
      rw [if_pos (show (6 : Int32) ≤ nI 6 from by decide)] at h
      rw [← osome1 h]
      exact hB
    · rw [if_neg (fun q => c (by have := (nI_leI (a := 6) (by decide) (by omega)).mp q; omega))] at h
      have kl : (nI l).toNatClampNeg = l := nI_clamp (by omega)
      have hR := hB.1.1
      have out := hB.1.2.2.2
      obtain ⟨-, h⟩ := oif_some h
      obtain ⟨n4, en, h⟩ := obind_some h
      rw [hR, hF.2.2.1] at en
      cases en
      obtain ⟨-, h⟩ := oif_some h
      obtain ⟨-, h⟩ := oif_some h
      obtain ⟨n7, en, h⟩ := obind_some h
      have eS : T0.2.2.2.2 (s + 10) l = some (s + 172 + l) := by unfold SRF at hF; exact hF.2.2.2.2.2.2.2.2.2.1 _ (by omega)
      rw [hR, kl, eS] at en
      cases en
      obtain ⟨-, h⟩ := oif_some h
      obtain ⟨n9, en, h⟩ := obind_some h
      rw [hR, d5] at en
      cases en
      obtain ⟨-, h⟩ := oif_some h
      obtain ⟨v11, e11, h⟩ := elet_some h
      rw [out _ _ (by omega)] at e11
      have step : ∀ {s0 : Int32}, s0 = (if v11 = 0 then 1 else 0) → g_X8_begin_b93 (g_X8_begin_b63 f) T s0 (nI l) 245 242 s (nI l) (s + 172 + l) = some T1 → BG2 s T0 T1 6 := by
        intro s0 es h
        unfold g_X8_begin_b93 at h
        obtain ⟨-, h⟩ := oif_some h
        obtain ⟨-, h⟩ := oif_some h
        obtain ⟨-, h⟩ := oif_some h
        obtain ⟨T4, e4, h⟩ := elet_some h
        rw [kl] at e4
        have R4 : T4.2.2.2.2 = T0.2.2.2.2 := by rw [e4]; exact hR
        obtain ⟨-, h⟩ := oif_some h
        obtain ⟨n6, en, h⟩ := obind_some h
        rw [R4, d6] at en
        cases en
        obtain ⟨-, h⟩ := oif_some h
        obtain ⟨v8, e8, h⟩ := elet_some h
        obtain ⟨-, h⟩ := oif_some h
        obtain ⟨-, h⟩ := oif_some h
        obtain ⟨T11, e11', h⟩ := elet_some h
        rw [kl] at e11'
        have R11 : T11.2.2.2.2 = T0.2.2.2.2 := by rw [e11']; exact R4
        obtain ⟨-, h⟩ := oif_some h
        obtain ⟨n13, en, h⟩ := obind_some h
        rw [R11, d7] at en
        cases en
        obtain ⟨-, h⟩ := oif_some h
        obtain ⟨v15, e15, h⟩ := elet_some h
        obtain ⟨-, h⟩ := oif_some h
        obtain ⟨-, h⟩ := oif_some h
        obtain ⟨T18, e18, h⟩ := elet_some h
        rw [kl] at e18
        have R18 : T18.2.2.2.2 = T0.2.2.2.2 := by rw [e18]; exact R11
        obtain ⟨-, h⟩ := oif_some h
        obtain ⟨n20, en, h⟩ := obind_some h
        rw [R18, d8] at en
        cases en
        obtain ⟨-, h⟩ := oif_some h
        obtain ⟨v22, e22, h⟩ := elet_some h
        obtain ⟨-, h⟩ := oif_some h
        obtain ⟨-, h⟩ := oif_some h
        obtain ⟨T25, e25, h⟩ := elet_some h
        rw [kl] at e25
        have R25 : T25.2.2.2.2 = T0.2.2.2.2 := by rw [e25]; exact R18
        obtain ⟨-, h⟩ := oif_some h
        obtain ⟨n27, en, h⟩ := obind_some h
        rw [R25, d9] at en
        cases en
        obtain ⟨-, h⟩ := oif_some h
        obtain ⟨v29, e29, h⟩ := elet_some h
        obtain ⟨-, h⟩ := oif_some h
        obtain ⟨-, h⟩ := oif_some h
        obtain ⟨T32, e32, h⟩ := elet_some h
        rw [kl] at e32
        obtain ⟨v33, e33, h⟩ := elet_some h
        rw [show v33 = nI (l + 1) from e33.trans (nI_p1 l)] at h
        have x8 : v8 = T0.2.2.1 (s + 172 + l) 1 := by rw [e8, e4, ui_ne (.inl (by omega)), out _ _ (by omega)]
        have x15 : v15 = T0.2.2.1 (s + 172 + l) 2 := by rw [e15, e11', ui_ne (.inl (by omega)), e4, ui_ne (.inl (by omega)), out _ _ (by omega)]
        have x22 : v22 = T0.2.2.1 (s + 172 + l) 3 := by rw [e22, e18, ui_ne (.inl (by omega)), e11', ui_ne (.inl (by omega)), e4, ui_ne (.inl (by omega)), out _ _ (by omega)]
        have x29 : v29 = T0.2.2.1 (s + 172 + l) 4 := by rw [e29, e25, ui_ne (.inl (by omega)), e18, ui_ne (.inl (by omega)), e11', ui_ne (.inl (by omega)), e4, ui_ne (.inl (by omega)), out _ _ (by omega)]
        have o32 : ∀ m k, m < 245 ∨ 250 ≤ m ∨ k ≠ l → T32.2.2.1 m k = T.2.2.1 m k := fun m k hm => by
          rw [e32, ui_ne (by omega), e25, ui_ne (by omega), e18, ui_ne (by omega), e11', ui_ne (by omega), e4, ui_ne (by omega)]
        refine ih (l + 1) (T := T32) (by omega) ⟨⟨by rw [e32]; exact R25, ⟨?_, ?_⟩, fun m hm => ?_, fun m k hm => ?_⟩, fun k hk => ?_⟩ h
        · rw [o32 _ _ (by omega)]; exact hB.1.2.1.1
        · rw [o32 _ _ (by omega)]; exact hB.1.2.1.2
        · rw [o32 _ _ (by omega), o32 _ _ (by omega)]; exact hB.1.2.2.1 m hm
        · rw [o32 _ _ (by omega)]; exact out m k hm
        · by_cases q : k = l
          · rw [q]
            refine ⟨?_, ?_, ?_, ?_, ?_⟩
            · rw [e32, ui_ne (.inl (by decide)), e25, ui_ne (.inl (by decide)), e18, ui_ne (.inl (by decide)), e11', ui_ne (.inl (by decide)), e4, ui_at, es, e11]
            · rw [e32, ui_ne (.inl (by decide)), e25, ui_ne (.inl (by decide)), e18, ui_ne (.inl (by decide)), e11', ui_at, x8]
            · rw [e32, ui_ne (.inl (by decide)), e25, ui_ne (.inl (by decide)), e18, ui_at, x15]
            · rw [e32, ui_ne (.inl (by decide)), e25, ui_at, x22]
            · rw [e32, ui_at, x29]
          · rw [o32 _ _ (by omega), o32 _ _ (by omega), o32 _ _ (by omega), o32 _ _ (by omega), o32 _ _ (by omega)]
            exact hB.2 k (by omega)
      rcases oif_or h with ⟨z, h⟩ | ⟨z, h⟩
      · exact step (by rw [if_pos z]) h
      · exact step (by rw [if_neg z]) h
theorem c_bg18 {T0 : AT} (hs : s = 478 ∨ s = 656) (hF : SRF s T0) (hc : CRF T0) : ∀ (f l : Nat) {T : AT}, l ≤ 12 → BG1 s T0 T l → g_X8_begin_b18 f T 242 s (nI l) = some T1 → BG2 s T0 T1 6 := by
  obtain ⟨d3, d4, -⟩ := sd_rf hc d242
  intro f
  induction f with
  | zero => intro l T hl hB h; cases h
  | succ f ih =>
    intro l T hl hB h
    unfold g_X8_begin_b18 at h
    by_cases c : l = 12
    · subst c
      rw [if_pos (show (12 : Int32) ≤ nI 12 from by decide)] at h
      exact c_bg63 hs hF hc 16384 0 (by decide) ⟨hB, fun k hk => absurd hk (Nat.not_lt_zero k)⟩ h
    · rw [if_neg (fun q => c (by have := (nI_leI (a := 12) (by decide) (by omega)).mp q; omega))] at h
      have kl : (nI l).toNatClampNeg = l := nI_clamp (by omega)
      have lI : (nI l).toInt = (l : Int) := nI_toInt (by omega)
      have hR := hB.1
      have out := hB.2.2.2
      obtain ⟨-, h⟩ := oif_some h
      obtain ⟨n4, en, h⟩ := obind_some h
      rw [hR, d3] at en
      cases en
      obtain ⟨-, h⟩ := oif_some h
      obtain ⟨-, h⟩ := oif_some h
      obtain ⟨T7, e7, h⟩ := elet_some h
      rw [kl] at e7
      have R7 : T7.2.2.2.2 = T0.2.2.2.2 := by rw [e7]; exact hR
      obtain ⟨-, h⟩ := oif_some h
      obtain ⟨n9, en, h⟩ := obind_some h
      rw [R7, d4] at en
      cases en
      obtain ⟨-, h⟩ := oif_some h
      obtain ⟨v11, e11, h⟩ := elet_some h
      rw [e7, ui_ne (.inl (by omega)), out _ _ (by omega)] at e11
      have step : ∀ {s0 : Int32}, s0 = (if (l : Int) < (T0.2.2.1 s 16).toInt then T0.2.2.1 (s + 14) l else 1) → g_X8_begin_b54 (g_X8_begin_b18 f) T7 s0 (nI l) 244 242 s (nI l) = some T1 → BG2 s T0 T1 6 := by
        intro s0 es h
        unfold g_X8_begin_b54 at h
        obtain ⟨-, h⟩ := oif_some h
        obtain ⟨-, h⟩ := oif_some h
        obtain ⟨T4, e4, h⟩ := elet_some h
        rw [kl] at e4
        obtain ⟨v5, e5, h⟩ := elet_some h
        rw [show v5 = nI (l + 1) from e5.trans (nI_p1 l)] at h
        have o4 : ∀ m k, m < 243 ∨ 245 ≤ m ∨ k ≠ l → T4.2.2.1 m k = T.2.2.1 m k := fun m k hm => by
          rw [e4, ui_ne (by omega), e7, ui_ne (by omega)]
        refine ih (l + 1) (T := T4) (by omega) ⟨by rw [e4]; exact R7, ⟨?_, ?_⟩, fun m hm => ?_, fun m k hm => ?_⟩ h
        · rw [o4 _ _ (by omega)]; exact hB.2.1.1
        · rw [o4 _ _ (by omega)]; exact hB.2.1.2
        · by_cases q : m = l
          · rw [q]
            refine ⟨?_, ?_⟩
            · rw [e4, ui_ne (.inl (by decide)), e7, ui_at]
            · rw [e4, ui_at]; exact es
          · rw [o4 _ _ (by omega), o4 _ _ (by omega)]; exact hB.2.2.1 m (by omega)
        · rw [o4 _ _ (by omega)]; exact out m k hm
      rcases oif_or h with ⟨z, h⟩ | ⟨z, h⟩
      · have z := i_le z
        rw [e11] at z
        exact step (by rw [if_neg (by omega)]) h
      · have z := i_nle z
        rw [e11] at z
        obtain ⟨-, h⟩ := oif_some h
        obtain ⟨n14, en, h⟩ := obind_some h
        have e15 : T0.2.2.2.2 s 15 = some (s + 14) := by unfold SRF at hF; exact hF.2.2.2.2.2.2.1
        rw [R7, e15] at en
        cases en
        obtain ⟨-, h⟩ := oif_some h
        obtain ⟨-, h⟩ := oif_some h
        obtain ⟨v17, e17, h⟩ := elet_some h
        rw [kl, e7, ui_ne (.inl (by omega)), out _ _ (by omega)] at e17
        exact step (by rw [if_pos (by omega), e17]) h
theorem c_begin (hs : s = 478 ∨ s = 656) (hF : SRF s T) (hc : CRF T) (h : g_X8_begin T 242 s = some T1) : BG2 s T T1 6 := by
  unfold g_X8_begin at h
  obtain ⟨-, h⟩ := oif_some h
  obtain ⟨v3, e3, h⟩ := elet_some h
  obtain ⟨-, h⟩ := oif_some h
  obtain ⟨T5, e5, h⟩ := elet_some h
  obtain ⟨-, h⟩ := oif_some h
  obtain ⟨v7, e7, h⟩ := elet_some h
  obtain ⟨-, h⟩ := oif_some h
  obtain ⟨T9, e9, h⟩ := elet_some h
  rw [e5, ui_ne (.inl (by omega))] at e7
  refine c_bg18 hs hF hc 16384 0 (by decide) ⟨by rw [e9, e5]; rfl, ⟨?_, ?_⟩, fun m hm => absurd hm (Nat.not_lt_zero m), fun m k hm => ?_⟩ h
  · rw [e9, ui_ne (.inr (by decide)), e5, ui_at, e3]
  · rw [e9, ui_at, e7]
  · rw [e9, ui_ne (.inl (by omega)), e5, ui_ne (.inl (by omega))]
end
end
section
/-! 25j.load2.lean.txt -/
/-! load: R2 behind it -/
section
variable {T T1 : AT} {S S1 : MS} {s : Nat}
theorem c_b48 {T0 : AT} (f10 : T0.2.2.2.2 0 10 = some 432) : ∀ (f l : Nat) {T : AT}, l ≤ 2 → T.2.2.2.2 = T0.2.2.2.2 → (∀ j, j < l → T.2.2.1 432 j = 0) → (∀ m k, m ≠ 432 → T.2.2.1 m k = T0.2.2.1 m k) → g_X11_begin_b48 f T 0 (nI l) = some T1 → (∀ j, j < 2 → T1.2.2.1 432 j = 0) ∧ (∀ m k, m ≠ 432 → T1.2.2.1 m k = T0.2.2.1 m k) ∧ T1.2.2.2.2 = T0.2.2.2.2 := by
  intro f
  induction f with
  | zero => intro l T _ _ _ _ h; cases h
  | succ f ih =>
    intro l T hl hR hj ho h
    unfold g_X11_begin_b48 at h
    by_cases c : l = 2
    · rw [c] at h hj
      rw [if_pos (show (2 : Int32) ≤ nI 2 from by decide)] at h
      rw [← osome1 h]
      exact ⟨hj, ho, hR⟩
    · rw [if_neg (fun q => c (by have := (nI_leI (a := 2) (by decide) (by omega)).mp q; omega))] at h
      obtain ⟨-, h⟩ := oif_some h
      obtain ⟨n4, en, h⟩ := obind_some h
      rw [hR, f10] at en
      cases en
      obtain ⟨-, h⟩ := oif_some h
      obtain ⟨-, h⟩ := oif_some h
      obtain ⟨T7, e7, h⟩ := elet_some h
      rw [nI_clamp (by omega)] at e7
      obtain ⟨v8, e8, h⟩ := elet_some h
      rw [show v8 = nI (l + 1) from e8.trans (nI_p1 l)] at h
      refine ih (l + 1) (T := T7) (by omega) (by rw [e7]; exact hR) (fun j h1 => ?_) (fun m k hm => ?_) h
      · rw [e7, ui_get]
        by_cases q : j = l
        · rw [if_pos ⟨rfl, q⟩]
        · rw [if_neg (fun z => q z.2)]; exact hj j (by omega)
      · rw [e7, ui_ne (.inl hm)]; exact ho m k hm
/-- what the class lays at the begin of a loaded scene -/
theorem c_beg {P D : Nat → Int32} {w : Nat} (hP : PL P) (hc : CRF T) (hV : IV aR0 1586 aK1 aK2 T) (hs : s = 478 ∨ s = 656) (h14 : T.2.2.2.2 0 14 = some s) (hC : SCE s T P) (hS : SRCg s T P D) (p8 : P 8 ≠ 0) (hw : T.2.2.1 0 17 = nI w) (h : g_X11_begin T 0 = some T1) : T1.2.2.2.2 0 14 = some s ∧ T1.2.2.1 0 16 = 0 ∧ T1.2.2.1 0 17 = nI w ∧ (∀ k, k < 2 → T1.2.2.1 432 k = 0) ∧ (∀ d m : Nat, (d : Int) < (P 9 * P 10).toInt → (m : Int) < (P 4).toInt → RV P m (CX P d) (CY P d) (T1.2.2.1 (s + 16 + d) m)) ∧ T1.2.2.1 242 0 = P 4 ∧ T1.2.2.1 242 1 = P 2 ∧ T1.2.2.1 242 2 = 0 ∧ (∀ m : Nat, (m : Int) < (P 4).toInt → T1.2.2.1 243 m = 0 ∧ T1.2.2.1 244 m = if (m : Int) < (P 118).toInt then P (119 + m) else 1) ∧ ∀ k : Nat, (k : Int) < (P 5).toInt → T1.2.2.1 245 k = D (25 + k) ∧ T1.2.2.1 246 k = D (31 + k) ∧ T1.2.2.1 247 k = D (37 + k) ∧ T1.2.2.1 248 k = D (43 + k) ∧ T1.2.2.1 249 k = D (49 + k) := by
  have r0 := rrole.2.2.2
  obtain ⟨pm, pc1, pc2, -⟩ := pl_cell (S := (fun _ => 0, fun _ => P, fun _ _ => 0)) hP
  have pc1 : 1 ≤ (P 9 * P 10).toInt := pc1
  have pc2 : (P 9 * P 10).toInt ≤ 144 := pc2
  have p4 := pl_4 hP
  have p5 := pl_5 hP
  obtain ⟨f4, f6, -⟩ := c_fld hc
  unfold g_X11_begin at h
  obtain ⟨-, h⟩ := oif_some h
  obtain ⟨n3, en, h⟩ := obind_some h
  rw [h14] at en
  cases en
  obtain ⟨-, h⟩ := oif_some h
  obtain ⟨T5, g5, h⟩ := obind_some h
  have iv5 := tgo (cs_X6_measureDelays T s hV (rsrole hs)) g5
  have R5 : T5.2.2.2.2 = T.2.2.2.2 := (s_X6_measureDelays g5).2.2
  have hc5 := crf_eq hc R5
  unfold g_X6_measureDelays at g5
  obtain ⟨rows, hC5⟩ := c_md hP hs p8 16384 0 (by decide) (by omega) hV (hc.srf hs) hC (fun d m hd => absurd hd (Nat.not_lt_zero d)) g5
  obtain ⟨-, h⟩ := oif_some h
  obtain ⟨n8, en, h⟩ := obind_some h
  rw [R5, f6] at en
  cases en
  obtain ⟨-, h⟩ := oif_some h
  obtain ⟨n10, en, h⟩ := obind_some h
  rw [R5, h14] at en
  cases en
  obtain ⟨-, h⟩ := oif_some h
  obtain ⟨T12, g12, h⟩ := obind_some h
  have B := c_begin hs (hc5.srf hs) hc5 g12
  have iv12 := tgo (cs_X8_begin T5 242 s iv5.1 (sd_ro d242).1 (rsrole hs)) g12
  have hc12 := crf_eq hc5 B.1.1
  obtain ⟨-, h⟩ := oif_some h
  obtain ⟨n15, en, h⟩ := obind_some h
  rw [(c_fld2 hc12).2.2.2] at en
  cases en
  obtain ⟨-, h⟩ := oif_some h
  obtain ⟨n17, en, h⟩ := obind_some h
  rw [B.1.1, R5, h14] at en
  cases en
  obtain ⟨-, h⟩ := oif_some h
  obtain ⟨n19, en, h⟩ := obind_some h
  rw [(c_fld hc12).2.1] at en
  cases en
  obtain ⟨-, h⟩ := oif_some h
  obtain ⟨T21, g21, h⟩ := obind_some h
  obtain ⟨ro, hV21, fw⟩ := rec_out hc12 iv12.1 hs (.inl rfl) g21
  have z21 := c_rec0 g21
  have hc21 := crf_gr hc12 iv12.1 (sr_X5_record g21)
  have e14 : T21.2.2.2.2 0 14 = some s := (e14_gr iv12.1 (sr_X5_record g21)).trans (by rw [B.1.1, R5]; exact h14)
  unfold g_X11_begin_b33 at h
  obtain ⟨-, h⟩ := oif_some h
  obtain ⟨T3, e3, h⟩ := elet_some h
  obtain ⟨-, h⟩ := oif_some h
  obtain ⟨n5, en, h⟩ := obind_some h
  have R3 : T3.2.2.2.2 = T21.2.2.2.2 := by rw [e3]; rfl
  rw [R3, (c_fld hc21).1] at en
  cases en
  obtain ⟨-, h⟩ := oif_some h
  obtain ⟨T7, e7, h⟩ := elet_some h
  have R7 : T7.2.2.2.2 = T21.2.2.2.2 := by rw [e7]; exact R3
  obtain ⟨b1, b2, b3⟩ := c_b48 (T0 := T7) (by rw [R7]; exact (c_fld hc21).2.2.2.2.2.1) 16384 0 (by decide) rfl (fun j hj => absurd hj (Nat.not_lt_zero j)) (fun _ _ _ => rfl) h
  have o1 : ∀ m k, m ≠ 432 → m ≠ 66 → (m ≠ 0 ∨ k ≠ 16) → T1.2.2.1 m k = T21.2.2.1 m k := fun m k n1 n2 n3 => by
    rw [b2 m k n1, e7, ui_ne (.inl n2), e3, ui_ne n3]
  obtain ⟨q0, q1, q2, q3, q4, q5, q6, q7, -⟩ := sd_ro d242
  have c242 : ∀ m k, 243 ≤ m → m < 250 → T1.2.2.1 m k = T12.2.2.1 m k := fun m k h1 h2 => by
    rw [o1 m k (by omega) (by omega) (.inl (by omega))]
    refine fw m k ?_
    rcases (show m = 243 ∨ m = 244 ∨ m = 245 ∨ m = 246 ∨ m = 247 ∨ m = 248 ∨ m = 249 by omega) with q | q | q | q | q | q | q <;> rw [q]
    · rw [show aR0 243 = 62 from q1]; rfl
    · rw [show aR0 244 = 63 from q2]; rfl
    · rw [show aR0 245 = 64 from q3]; rfl
    · rw [show aR0 246 = 65 from q4]; rfl
    · rw [show aR0 247 = 65 from q5]; rfl
    · rw [show aR0 248 = 66 from q6]; rfl
    · rw [show aR0 249 = 66 from q7]; rfl
  refine ⟨by rw [b3, R7]; exact e14, ?_, ?_, b1, fun d m hd hm => ?_, ?_, ?_, ?_, fun m hm => ?_, fun k hk => ?_⟩
  · rw [b2 0 16 (by decide), e7, ui_ne (.inl (by decide)), e3, ui_at]
  · rw [o1 0 17 (by decide) (by decide) (.inr (by decide)), fw 0 17 (by rw [r0]; rfl), B.1.2.2.2 0 17 (.inl (by decide)), iv5.2 0 17 (by rw [r0]; rfl)]
    exact hw
  · have q := rows d m hd hm
    rw [o1 _ m (by omega) (by omega) (.inl (by omega)), fw _ m (by rw [dl_ro hs (by omega)]; rfl), B.1.2.2.2 _ m (.inr (by omega))]
    exact q
  · rw [o1 242 0 (by decide) (by decide) (.inl (by decide)), fw 242 0 (by rw [q0]; rfl), B.1.2.1.1]
    obtain ⟨mc, -, x5, y4, -⟩ := hC5.2.1
    exact x5.trans y4.symm
  · rw [o1 242 1 (by decide) (by decide) (.inl (by decide)), fw 242 1 (by rw [q0]; rfl), B.1.2.1.2]
    exact hC5.1.2.2.1
  · rw [o1 242 2 (by decide) (by decide) (.inl (by decide)), z21]
  · obtain ⟨x1, x2⟩ := B.1.2.2.1 m (by omega)
    rw [c242 243 m (by decide) (by decide), c242 244 m (by decide) (by decide), x1, x2]
    obtain ⟨-, -, -, -, -, -, -, -, sc, sc12, y16, y118, ysh⟩ := hC5
    refine ⟨rfl, ?_⟩
    have sI : (nI sc).toInt = (sc : Int) := nI_toInt (by omega)
    rw [y16, y118, sI]
    by_cases p : (m : Int) < (sc : Int)
    · rw [if_pos p, if_pos p]; exact ysh m (by omega)
    · rw [if_neg p, if_neg p]
  · obtain ⟨x1, x2, x3, x4, x5⟩ := B.2 k (by omega)
    rw [c242 245 k (by decide) (by decide), c242 246 k (by decide) (by decide), c242 247 k (by decide) (by decide), c242 248 k (by decide) (by decide), c242 249 k (by decide) (by decide), x1, x2, x3, x4, x5]
    obtain ⟨sc, sc6, y8, y5, ysr⟩ := hS
    rw [y5, nI_toInt (by omega)] at hk
    obtain ⟨-, -, -, -, -, on, z1, z2, z3, z4⟩ := ysr k (by omega)
    have r7 := (sro hs).2.2.2.2.2.2.2.2.2 k (by omega)
    have eq : ∀ j, j < 10 → T5.2.2.1 (s + 172 + k) j = T.2.2.1 (s + 172 + k) j := fun j hj => iv5.2 _ j (by
      rw [r7]
      rcases (show j = 0 ∨ j = 1 ∨ j = 2 ∨ j = 3 ∨ j = 4 ∨ j = 5 ∨ j = 6 ∨ j = 7 ∨ j = 8 ∨ j = 9 by omega) with q | q | q | q | q | q | q | q | q | q <;> rw [q] <;> rfl)
    rw [eq 9 (by decide), eq 1 (by decide), eq 2 (by decide), eq 3 (by decide), eq 4 (by decide)]
    refine ⟨?_, z1, z2, z3, z4⟩
    rcases on with ⟨a, b⟩ | ⟨a, b⟩
    · rw [a, if_pos rfl, b]
    · rw [a, if_neg (by decide), b]
end
end
section
/-! 25k.rload2.lean.txt -/
/-! load: R2 is kept -/
section
variable {T T1 : AT} {S S1 : MS} {s : Nat}
set_option maxHeartbeats 400000 in
theorem r2_load {a0 r1 r2 : Int32} {k1 : Nat} (hV : IV aR0 1586 aK1 aK2 T) (hJ : JJ S) (h : R2 T S) (hg : g_X11_load T 0 a0 = some (k1, r1, T1)) (hf : fr_load S a0 = some (r2, S1)) : R2 T1 S1 := by
  have HR := (r1_load hV hJ h.1 hg hf).1
  have HJ0 := tgo (sj_load S a0 hJ) hf
  have HJ : JJ S1 := HJ0
  have z0 : (0 : Int32).toInt = 0 := by decide
  have hh := h
  obtain ⟨hc, hB, h5, h6, w0, hw0, h14, hr⟩ := h.1
  obtain ⟨d1, d2, d6, d0⟩ := rrole
  obtain ⟨-, -, -, -, -, -, -, t8, t9, -⟩ := txr_dec
  have c00 : T.2.2.2.2 0 0 = some 1 := (hc.2.1 0 (by decide) (by decide)).trans t8
  have c01 : T.2.2.2.2 0 1 = some 6 := (hc.2.1 1 (by decide) (by decide)).trans t9
  have h1000 : (S.1 2).toInt ≤ 1000 := (jj_ib hJ).1.1.2
  unfold fr_load at hf
  obtain ⟨S2, e2, hf⟩ := elet_some hf
  obtain ⟨v3, e3, hf⟩ := elet_some hf
  have e3 : v3 = S.1 2 := by rw [e3, e2]; rfl
  obtain ⟨r4, f4, hf⟩ := obind_some hf
  have out : g_X11_load_b15 T = some (k1, r1, T1) → (∃ r10 S7, fr_throwsAt S2 1 = some (r10, S7) ∧ S1 = S7) → R2 T1 S1 := by
    intro hg q
    obtain ⟨r10, S7, f7, e7⟩ := q
    unfold g_X11_load_b15 at hg
    have g := osome3 hg
    rw [← g.2.2, e7, r_thr f7, e2]
    exact r2_mi0 (r2_mi0 hh)
  rcases tin2 f4 with ⟨c4, c0, c1⟩ | ⟨c4, cn⟩
  rotate_left
  · rw [if_pos c4] at hf
    obtain ⟨r10, S7, f7, hf⟩ := obind2_some hf
    refine out ?_ ⟨r10, S7, f7, (osome2 hf).2.symm⟩
    unfold g_X11_load at hg
    by_cases b0 : a0 < 0
    · rw [if_pos b0] at hg; exact hg
    · rw [if_neg b0] at hg
      obtain ⟨-, hg⟩ := oif_some hg
      obtain ⟨n4, e4, hg⟩ := obind_some hg
      rw [c00] at e4
      cases e4
      obtain ⟨-, hg⟩ := oif_some hg
      obtain ⟨v6, e6, hg⟩ := elet_some hg
      rw [if_neg (fun q => cn ⟨Int32.not_lt.mp b0, by rw [e3, ← hB.1, ← e6]; exact q⟩)] at hg
      exact hg
  rw [if_neg (by rw [c4]; decide)] at hf
  rw [e3] at c1
  have q0 := i_le c0
  have q1 := i_le c1
  obtain ⟨n, hn, en⟩ := nI_of01 (x := a0) (a := 1001) (by omega) (by omega) (by omega)
  obtain ⟨S11, e11, hf⟩ := elet_some hf
  obtain ⟨S12, e12, hf⟩ := elet_some hf
  obtain ⟨S13, e13, hf⟩ := elet_some hf
  obtain ⟨S14, e14, hf⟩ := elet_some hf
  obtain ⟨S15, e15, hf⟩ := elet_some hf
  obtain ⟨S16, f16, hf⟩ := obind_some hf
  obtain ⟨v19, e19, hf⟩ := elet_some hf
  have s15 : S15 = mi (mi (mi (mi (mi (mi S 0 0) 3 a0) 2 0) 4 0) 5 0) 6 (-1) := by rw [e15, e14, e13, e12, e11, e2]
  have k16 := w_fr_readText f16
  have j16 : ∀ k, k = 0 ∨ k = 2 ∨ k = 20 → S16.1 k = S15.1 k := fun k hk => by rcases hk with e | e | e <;> rw [e] <;> exact k16.1 _ (by decide)
  unfold g_X11_load at hg
  rw [if_neg (Int32.not_lt.mpr c0)] at hg
  obtain ⟨-, hg⟩ := oif_some hg
  obtain ⟨n4, en4, hg⟩ := obind_some hg
  rw [c00] at en4
  cases en4
  obtain ⟨-, hg⟩ := oif_some hg
  obtain ⟨v6, e6, hg⟩ := elet_some hg
  rw [if_pos (by rw [e6, hB.1]; exact c1)] at hg
  obtain ⟨-, hg⟩ := oif_some hg
  obtain ⟨n9, en9, hg⟩ := obind_some hg
  rw [c00] at en9
  cases en9
  obtain ⟨-, hg⟩ := oif_some hg
  obtain ⟨T11, e11', hg⟩ := elet_some hg
  have R11 : T11.2.2.2.2 = T.2.2.2.2 := by rw [e11']; rfl
  have hc11 := crf_eq hc R11
  have hV11 : IV aR0 1586 aK1 aK2 T11 := by
    rw [e11']
    exact iv_uI hV d1 (by decide) (by decide) (rfl : iR 9 1 = (0, 1000)) (by decide) (.inl rfl)
  obtain ⟨u, w, hu, hw, huw, e15u, e14w⟩ : ∃ u w, (u = 478 ∨ u = 656) ∧ (w = 478 ∨ w = 656) ∧ u ≠ w ∧ T.2.2.2.2 0 15 = some u ∧ T.2.2.2.2 0 14 = some w := by
    rcases hc.2.2 with ⟨a, b⟩ | ⟨a, b⟩
    · exact ⟨656, 478, .inr rfl, .inl rfl, by decide, b, a⟩
    · exact ⟨478, 656, .inl rfl, .inr rfl, by decide, b, a⟩
  have ew : w0 = w := by
    rw [h14] at e14w
    exact Option.some.inj e14w
  subst ew
  obtain ⟨-, hg⟩ := oif_some hg
  obtain ⟨n13, en13, hg⟩ := obind_some hg
  rw [R11, c01] at en13
  cases en13
  obtain ⟨-, hg⟩ := oif_some hg
  obtain ⟨n15, en15, hg⟩ := obind_some hg
  rw [R11, e15u] at en15
  cases en15
  obtain ⟨-, hg⟩ := oif_some hg
  have lp : ∀ {k : Nat} {r : Int32} {U : AT}, g_X3_parse T11 6 a0 u = some (k, r, U) → TXq u T11 U S16 k := fun {k r U} g => by
    rw [en] at g
    exact l_parse (b := S.2.1 1) hu (hc11.txr hV11) (hc11.srf hu) (fun j hj => by rw [e11', ui_ne (.inl (by decide))]; exact hB.2 j hj) (by omega) (by rw [s15]; rfl) (by rw [s15]; exact en) (by rw [s15]; rfl) (by rw [s15]; rfl) (by rw [s15]; rfl) g f16
  have po := fun {k : Nat} {r : Int32} {U : AT} (g : g_X3_parse T11 6 a0 u = some (k, r, U)) => parse_out hc11 hV11 hu (by omega) (by omega) g
  have seqw : ∀ {k : Nat} {r : Int32} {U : AT}, g_X3_parse T11 6 a0 u = some (k, r, U) → SEQ w0 T U := fun {k r U} g => seq_of (fun m j a b => by
    rw [(po g).1 m j (by omega) (by omega), e11', ui_ne (.inl (by omega))])
  have l11 : T11.2.2.1 1 1 = 0 := by rw [e11', ui_at]
  have b11 : ∀ j, T11.2.2.1 2 j = T.2.2.1 2 j := fun j => by rw [e11', ui_ne (.inl (by decide))]
  have s2 : S15.1 2 = 0 := by rw [s15]; rfl
  have s00 : S15.1 0 = 0 := by rw [s15]; rfl
  have s20 : S15.1 20 = S.1 20 := by rw [s15]; rfl
  have sA : S15.2 = S.2 := by rw [s15]; rfl
  rcases othr_k hg with ⟨r9, g9, z9⟩ | ⟨r19, T17, g9, hg⟩
  · rcases lp g9 with ⟨z, -⟩ | ⟨z1, z2⟩
    · exact absurd z z9
    rw [if_neg (st_le z2.1 e19)] at hf
    obtain ⟨r24, S21, f21, hf⟩ := obind2_some hf
    have ff := (osome2 hf).2
    have eS : S1 = mi S16 0 2 := by rw [← ff, r_thr f21]
    have cp := tgo (cs_X3_parse T11 6 a0 u hV11 d6 (rsrole hu) (by omega)) g9
    have k11 : CKr T T11 := by
      rw [e11']
      exact ⟨ui_ne (.inl (by decide)), ui_ne (.inl (by decide)), fun k => ui_ne (.inl (by decide)), fun d hd _ m k h1 h2 _ => ui_ne (.inl (by have := sd_in hd; omega)), fun s c k hs hc => ui_ne (.inl (by omega)), rfl⟩
    have kp : CKr T11 T1 := ck_fw hV11 cp.1.2 (by decide +kernel) (gr_sp (s_X3_parse g9))
    have sc : ∀ k, k = 19 ∨ k = 20 → S1.1 k = S.1 k := fun k hk => by
      rw [eS, mi_ne (by omega), k16.1 k (by rcases hk with e | e <;> rw [e] <;> decide), s15]
      rcases hk with e | e <;> rw [e] <;> rfl
    have ar : ∀ a, [11, 13].contains a = false → S1.2.1 a = S.2.1 a := fun a ha => by
      rw [eS, show (mi S16 0 2).2.1 a = S16.2.1 a from rfl, k16.2 a ha, sA]
    exact r2_keepG (r_pl hJ) hh HR (k11.tr kp) ⟨sc 19 (.inl rfl), sc 20 (.inr rfl), ar 10 rfl, ar 12 rfl, ar 15 rfl, ar 16 rfl, ar 17 rfl, ar 18 rfl⟩
  · rcases lp g9 with ⟨-, C17, R17, p2, p3, u5, u6, u4, u8⟩ | ⟨z, -⟩
    rotate_left
    · exact absurd z (by decide)
    have p := po g9
    have R17 := R17.trans R11
    rw [if_pos (by rw [e19, u5]; decide)] at hf
    obtain ⟨U, V, a1, a2, a3, fV, hf⟩ := r_cp 16384 (l := 0) (by omega) (fun x hx => absurd hx (Nat.not_lt_zero x)) hf
    have kV := w_fr_copy_13_12 fV
    have k1' := w3_fr_load_b107 _ _ _ hf
    have zq := z_107 _ hf
    have sp : ∀ x, x < 131 → S1.2.1 10 x = S16.2.1 11 x := fun x hx => by
      rw [k1'.2 10 (by decide), kV.2 10 (by decide)]
      exact a3 x hx
    have eP : V.2.1 10 = S1.2.1 10 := (k1'.2 10 (by decide)).symm
    have hP : PL (S1.2.1 10) := r_pl HJ zq.2
    have p4 := pl_4 hP
    have p5 := pl_5 hP
    have xc := x_copy_13_12 (o1 := 0) (o3 := 0) (by decide) (by decide) fV
    have v12 : ∀ x, x < 55 → V.2.1 12 x = S16.2.1 13 x := fun x hx => by
      rw [xc x, if_pos (by omega), a2 13 (by decide), show 0 + (x - 0) = x from by omega]
    obtain ⟨W, w1, w2, w3, S7, w4, w5, w6, w7, w8, w9, w10⟩ := x_107 (V := V) hP 16384 0 (by omega) eP (fun x hx => by rw [if_neg (by omega)]) hf
    obtain ⟨l0, l1⟩ := l_records (by rw [w1]; exact hP) w4
    have low : ∀ x, 1 ≤ x → x < 55 → S1.2.1 12 x = W.2.1 12 x := fun x h1 h2 => by rw [w5]; exact l1 x h1 h2
    obtain ⟨-, hg⟩ := oif_some hg
    obtain ⟨n22, en22, hg⟩ := obind_some hg
    rw [R17, h14] at en22
    cases en22
    obtain ⟨-, hg⟩ := oif_some hg
    obtain ⟨n24, en24, hg⟩ := obind_some hg
    rw [R17, e15u] at en24
    cases en24
    obtain ⟨-, hg⟩ := oif_some hg
    obtain ⟨-, hg⟩ := oif_some hg
    obtain ⟨T27, e27, hg⟩ := elet_some hg
    obtain ⟨-, hg⟩ := oif_some hg
    obtain ⟨-, hg⟩ := oif_some hg
    obtain ⟨T30, e30, hg⟩ := elet_some hg
    obtain ⟨-, hg⟩ := oif_some hg
    obtain ⟨T32, g32, hg⟩ := obind_some hg
    have hV27 : IV aR0 1586 aK1 aK2 T27 := by
      rw [e27]
      exact iv_uR p.2.2.2 d0 (by decide) (by decide) rfl rfl (rsrole hu) ⟨by decide, by decide⟩
    have hV30 : IV aR0 1586 aK1 aK2 T30 := by
      rw [e30]
      exact iv_uR hV27 d0 (by decide) (by decide) rfl rfl (rsrole hw0) ⟨by decide, by decide⟩
    have i30 : T30.2.2.1 = T17.2.2.1 := by rw [e30, e27]; rfl
    have r30 : ∀ n k, n ≠ 0 → T30.2.2.2.2 n k = T.2.2.2.2 n k := fun n k hn => by
      rw [e30]
      show va_up T27.2.2.2.2 0 _ n k = _
      rw [va_up_ne _ _ hn, e27]
      show va_up T17.2.2.2.2 0 _ n k = _
      rw [va_up_ne _ _ hn, R17]
    have r30' : ∀ k, T30.2.2.2.2 0 k = if k = 15 then some w0 else if k = 14 then some u else T.2.2.2.2 0 k := fun k => by
      rw [e30]
      show va_up T27.2.2.2.2 0 (va_up (T27.2.2.2.2 0) 15 (some w0)) 0 k = _
      rw [va_up_self, e27]
      show (if k = 15 then some w0 else va_up T17.2.2.2.2 0 (va_up (T17.2.2.2.2 0) 14 (some u)) 0 k) = _
      rw [va_up_self, R17]
      rfl
    have hc30 : CRF T30 := by
      refine ⟨fun n hn hs hr k => (r30 n k hn).trans (hc.1 n hn hs hr k), fun k b14 b15 => by rw [r30', if_neg b15, if_neg b14]; exact hc.2.1 k b14 b15, ?_⟩
      rw [r30', r30', if_neg (by decide), if_pos rfl, if_pos rfl]
      rcases hu with e | e <;> rcases hw0 with e' | e' <;> subst e <;> subst e'
      · exact absurd rfl huw
      · exact .inl ⟨rfl, rfl⟩
      · exact .inr ⟨rfl, rfl⟩
      · exact absurd rfl huw
    have f14 : T30.2.2.2.2 0 14 = some u := by rw [r30', if_neg (by decide), if_pos rfl]
    have C30 : SCE u T30 (S1.2.1 10) := by
      refine sce_eq (sce_of C17) ?_ sp
      unfold SEQ
      rw [i30]
      exact ⟨fun _ _ => rfl, fun _ _ => rfl, fun _ => rfl, fun _ _ _ _ => rfl, fun _ _ _ _ => rfl, fun _ _ _ _ _ => rfl, fun _ _ _ _ _ => rfl⟩
    obtain ⟨-, -, -, gS, -, -, -, -, -, gD⟩ := C17
    have S30 : SRCg u T30 (S1.2.1 10) (S16.2.1 13) := by
      obtain ⟨c, c6, y8, y5, ys⟩ := gS
      unfold SRCg
      rw [i30]
      refine ⟨c, c6, y8, (sp 5 (by decide)).trans y5, fun k hk => ?_⟩
      obtain ⟨q1, q2, q3, q4, q5, q6⟩ := ys k hk
      rw [sp _ (by omega), sp _ (by omega), sp _ (by omega), sp _ (by omega), sp _ (by omega)]
      exact ⟨q1, q2, q3, q4, q5, q6⟩
    have m17 := iv_int hV30 d0 (by decide) (by decide) (rfl : T30.2.2.1 0 17 = T30.2.2.1 0 17) (rfl : iR 11 17 = (0, 5))
    obtain ⟨w, hw6, ew⟩ := nI_of01 (x := T30.2.2.1 0 17) (a := 6) (by omega) (by omega) (by omega)
    obtain ⟨b14, b16, b17, b432, brow, b0, b1, b2, bm, bk⟩ := c_beg hP hc30 hV30 hu f14 C30 S30 (by rw [sp 8 (by decide)]; exact u8) ew g32
    have eT : T1 = T32 := by
      unfold g_X11_load_b65 at hg
      obtain ⟨-, hg⟩ := oif_some hg
      obtain ⟨n3, en3, hg⟩ := obind_some hg
      obtain ⟨-, hg⟩ := oif_some hg
      obtain ⟨n5, en5, hg⟩ := obind_some hg
      obtain ⟨-, hg⟩ := oif_some hg
      obtain ⟨r9', T7, g7, hg⟩ := obind2_some hg
      unfold g_X1_cells at g7
      obtain ⟨-, g7⟩ := oif_some g7
      obtain ⟨x3, y3, g7⟩ := elet_some g7
      obtain ⟨-, g7⟩ := oif_some g7
      obtain ⟨x5, y5, g7⟩ := elet_some g7
      obtain ⟨x6, y6, g7⟩ := elet_some g7
      rw [← (osome3 hg).2.2, ← (osome2 g7).2]
    rw [eT] at HR ⊢
    refine ⟨HR, by rw [b16, w7], ⟨fun k hk => ?_, fun z => absurd (w8.symm.trans z) (by decide)⟩, fun _ => ⟨⟨b0, b1, ?_, fun m hm => ?_, fun k hk => ?_⟩, ?_, ?_, ?_⟩⟩
    · rw [b432 k hk]
      rcases (show k = 0 ∨ k = 1 by omega) with q | q <;> rw [q]
      · exact w9.symm
      · exact w10.symm
    · rw [b2, w5, l0]
    · obtain ⟨x1, x2⟩ := bm m hm
      rw [x1, x2, Nat.zero_add, Nat.zero_add, low _ (by omega) (by omega), low _ (by omega) (by omega), w2 (1 + m) (by omega), w2 (13 + m) (by omega), if_neg (show ¬ (13 ≤ 1 + m ∧ ((1 + m : Nat) : Int) < 13 + (S1.2.1 10 4).toInt) by omega), if_pos (show 13 ≤ 13 + m ∧ ((13 + m : Nat) : Int) < 13 + (S1.2.1 10 4).toInt by omega), v12 _ (by omega), gD _ (by omega)]
      refine ⟨rfl, ?_⟩
      rw [show 13 + m - 13 = m from by omega]
      by_cases q : (m : Int) < (S1.2.1 10 118).toInt
      · rw [if_pos q, if_pos (show ((13 + m : Nat) : Int) < 13 + (S1.2.1 10 118).toInt by omega)]
      · rw [if_neg q, if_neg (show ¬ ((13 + m : Nat) : Int) < 13 + (S1.2.1 10 118).toInt by omega)]
    · obtain ⟨x1, x2, x3, x4, x5⟩ := bk k hk
      have lo : ∀ o, 25 ≤ o → o < 50 → S1.2.1 12 (0 + o + k) = S16.2.1 13 (o + k) := fun o h1 h2 => by
        rw [Nat.zero_add, low _ (by omega) (by omega), w2 _ (by omega), if_neg (by omega), v12 _ (by omega)]
      rw [x1, x2, x3, x4, x5, lo 25 (by decide) (by decide), lo 31 (by decide) (by decide), lo 37 (by decide) (by decide), lo 43 (by decide) (by decide), lo 49 (by decide) (by decide)]
      exact ⟨rfl, rfl, rfl, rfl, rfl⟩
    · intro s e c m hc hm
      rw [b14] at e
      cases e
      rw [w6]
      exact (brow c m hc hm).fn (w3 c m hc hm)
    · exact ⟨0, w, by decide, by omega, w7, b17, fun j hj => absurd hj (Nat.not_lt_zero j)⟩
    · intro k hk hn
      rcases (show k = 0 ∨ k = 1 by omega) with q | q <;> rw [q] at hn
      · exact absurd w9 hn
      · exact absurd w10 hn
end
end
section
/-! 26a.keep2.lean.txt -/
set_option maxRecDepth 100000 in
theorem r2_0 : R2 aT0 mS0 := by
  refine ⟨r1_0, by decide +kernel, ⟨fun k hk => ?_, fun _ => ⟨rfl, fun _ _ => rfl⟩⟩, fun q => absurd q (by decide)⟩
  show fviR (aR0 432) k = _
  rw [r432]
  rfl
theorem r2_append {T : AT} {S : MS} {a0 a1 a2 a3 a4 : Int32} {r1 : Int32} {r2 : Int32} {T1 : AT} {S1 : MS} (hV : IV aR0 1586 aK1 aK2 T) (hJ : JJ S) (h : R2 T S) (hg : g_X11_append T 0 a0 a1 a2 a3 a4 = some (r1, T1)) (hf : fr_append S a0 a1 a2 a3 a4 = some (r2, S1)) : R2 T1 S1 := by
  have c := tgo (cs_X11_append T 0 a0 a1 a2 a3 a4 hV rrole.2.2.2) hg
  have f := w_fr_append hf
  exact r2_keepG (r_pl hJ) h (r1_append hV hJ h.1 hg hf) (ck_fw hV c.1.2 (by decide +kernel) (gr_sp (s_X11_append hg))) ⟨f.1 19 (by decide), f.1 20 (by decide), f.2 10 (by decide), f.2 12 (by decide), f.2 15 (by decide), f.2 16 (by decide), f.2 17 (by decide), f.2 18 (by decide)⟩
theorem r2_parseError {T : AT} {S : MS} {r1 : Int32} {r2 : Int32} {T1 : AT} {S1 : MS} (hV : IV aR0 1586 aK1 aK2 T) (hJ : JJ S) (h : R2 T S) (hg : g_X11_parseError T 0 = some (r1, T1)) (hf : fr_parseError S = some (r2, S1)) : R2 T1 S1 := by
  have c := tgo (cs_X11_parseError T 0  hV rrole.2.2.2) hg
  have f := w_fr_parseError hf
  exact r2_keepG (r_pl hJ) h (r1_parseError hV hJ h.1 hg hf) (ck_eq c.1) ⟨f.1 19 (by decide), f.1 20 (by decide), f.2 10 (by decide), f.2 12 (by decide), f.2 15 (by decide), f.2 16 (by decide), f.2 17 (by decide), f.2 18 (by decide)⟩
theorem r2_errorPosition {T : AT} {S : MS} {r1 : Int32} {r2 : Int32} {T1 : AT} {S1 : MS} (hV : IV aR0 1586 aK1 aK2 T) (hJ : JJ S) (h : R2 T S) (hg : g_X11_errorPosition T 0 = some (r1, T1)) (hf : fr_errorPosition S = some (r2, S1)) : R2 T1 S1 := by
  have c := tgo (cs_X11_errorPosition T 0  hV rrole.2.2.2) hg
  have f := w_fr_errorPosition hf
  exact r2_keepG (r_pl hJ) h (r1_errorPosition hV hJ h.1 hg hf) (ck_eq c.1) ⟨f.1 19 (by decide), f.1 20 (by decide), f.2 10 (by decide), f.2 12 (by decide), f.2 15 (by decide), f.2 16 (by decide), f.2 17 (by decide), f.2 18 (by decide)⟩
theorem r2_buffered {T : AT} {S : MS} {r1 : Int32} {r2 : Int32} {T1 : AT} {S1 : MS} (hV : IV aR0 1586 aK1 aK2 T) (hJ : JJ S) (h : R2 T S) (hg : g_X11_buffered T 0 = some (r1, T1)) (hf : fr_buffered S = some (r2, S1)) : R2 T1 S1 := by
  have c := tgo (cs_X11_buffered T 0  hV rrole.2.2.2) hg
  have f := w_fr_buffered hf
  exact r2_keepG (r_pl hJ) h (r1_buffered hV hJ h.1 hg hf) (ck_eq c.1) ⟨f.1 19 (by decide), f.1 20 (by decide), f.2 10 (by decide), f.2 12 (by decide), f.2 15 (by decide), f.2 16 (by decide), f.2 17 (by decide), f.2 18 (by decide)⟩
theorem r2_mics {T : AT} {S : MS} {r1 : Int32} {r2 : Int32} {T1 : AT} {S1 : MS} (hV : IV aR0 1586 aK1 aK2 T) (hJ : JJ S) (h : R2 T S) (hg : g_X11_mics T 0 = some (r1, T1)) (hf : fr_mics S = some (r2, S1)) : R2 T1 S1 := by
  have c := tgo (cs_X11_mics T 0  hV rrole.2.2.2) hg
  have f := w_fr_mics hf
  exact r2_keepG (r_pl hJ) h (r1_mics hV hJ h.1 hg hf) (ck_eq c.1) ⟨f.1 19 (by decide), f.1 20 (by decide), f.2 10 (by decide), f.2 12 (by decide), f.2 15 (by decide), f.2 16 (by decide), f.2 17 (by decide), f.2 18 (by decide)⟩
theorem r2_micAt {T : AT} {S : MS} {a0 a1 : Int32} {r1 : Int32} {r2 : Int32} {k1 : Nat} {T1 : AT} {S1 : MS} (hV : IV aR0 1586 aK1 aK2 T) (hJ : JJ S) (h : R2 T S) (hg : g_X11_micAt T 0 a0 a1 = some (k1, r1, T1)) (hf : fr_micAt S a0 a1 = some (r2, S1)) : R2 T1 S1 := by
  have c := tgo (cs_X11_micAt T 0 a0 a1 hV rrole.2.2.2) hg
  have f := w_fr_micAt hf
  exact r2_keepG (r_pl hJ) h (r1_micAt hV hJ h.1 hg hf) (ck_eq c.1) ⟨f.1 19 (by decide), f.1 20 (by decide), f.2 10 (by decide), f.2 12 (by decide), f.2 15 (by decide), f.2 16 (by decide), f.2 17 (by decide), f.2 18 (by decide)⟩
theorem r2_isMuted {T : AT} {S : MS} {a0 : Int32} {r1 : Int32} {r2 : Int32} {k1 : Nat} {T1 : AT} {S1 : MS} (hV : IV aR0 1586 aK1 aK2 T) (hJ : JJ S) (h : R2 T S) (hg : g_X11_isMuted T 0 a0 = some (k1, r1, T1)) (hf : fr_isMuted S a0 = some (r2, S1)) : R2 T1 S1 := by
  have c := tgo (cs_X11_isMuted T 0 a0 hV rrole.2.2.2) hg
  have f := w_fr_isMuted hf
  exact r2_keepG (r_pl hJ) h (r1_isMuted hV hJ h.1 hg hf) (ck_eq c.1) ⟨f.1 19 (by decide), f.1 20 (by decide), f.2 10 (by decide), f.2 12 (by decide), f.2 15 (by decide), f.2 16 (by decide), f.2 17 (by decide), f.2 18 (by decide)⟩
theorem r2_columns {T : AT} {S : MS} {r1 : Int32} {r2 : Int32} {T1 : AT} {S1 : MS} (hV : IV aR0 1586 aK1 aK2 T) (hJ : JJ S) (h : R2 T S) (hg : g_X11_columns T 0 = some (r1, T1)) (hf : fr_columns S = some (r2, S1)) : R2 T1 S1 := by
  have c := tgo (cs_X11_columns T 0  hV rrole.2.2.2) hg
  have f := w_fr_columns hf
  exact r2_keepG (r_pl hJ) h (r1_columns hV hJ h.1 hg hf) (ck_eq c.1) ⟨f.1 19 (by decide), f.1 20 (by decide), f.2 10 (by decide), f.2 12 (by decide), f.2 15 (by decide), f.2 16 (by decide), f.2 17 (by decide), f.2 18 (by decide)⟩
theorem r2_rows {T : AT} {S : MS} {r1 : Int32} {r2 : Int32} {T1 : AT} {S1 : MS} (hV : IV aR0 1586 aK1 aK2 T) (hJ : JJ S) (h : R2 T S) (hg : g_X11_rows T 0 = some (r1, T1)) (hf : fr_rows S = some (r2, S1)) : R2 T1 S1 := by
  have c := tgo (cs_X11_rows T 0  hV rrole.2.2.2) hg
  have f := w_fr_rows hf
  exact r2_keepG (r_pl hJ) h (r1_rows hV hJ h.1 hg hf) (ck_eq c.1) ⟨f.1 19 (by decide), f.1 20 (by decide), f.2 10 (by decide), f.2 12 (by decide), f.2 15 (by decide), f.2 16 (by decide), f.2 17 (by decide), f.2 18 (by decide)⟩
theorem r2_cellAt {T : AT} {S : MS} {a0 a1 : Int32} {r1 : Int32} {r2 : Int32} {k1 : Nat} {T1 : AT} {S1 : MS} (hV : IV aR0 1586 aK1 aK2 T) (hJ : JJ S) (h : R2 T S) (hg : g_X11_cellAt T 0 a0 a1 = some (k1, r1, T1)) (hf : fr_cellAt S a0 a1 = some (r2, S1)) : R2 T1 S1 := by
  have c := tgo (cs_X11_cellAt T 0 a0 a1 hV rrole.2.2.2) hg
  have f := w_fr_cellAt hf
  exact r2_keepG (r_pl hJ) h (r1_cellAt hV hJ h.1 hg hf) (ck_eq c.1) ⟨f.1 19 (by decide), f.1 20 (by decide), f.2 10 (by decide), f.2 12 (by decide), f.2 15 (by decide), f.2 16 (by decide), f.2 17 (by decide), f.2 18 (by decide)⟩
theorem r2_sources {T : AT} {S : MS} {r1 : Int32} {r2 : Int32} {T1 : AT} {S1 : MS} (hV : IV aR0 1586 aK1 aK2 T) (hJ : JJ S) (h : R2 T S) (hg : g_X11_sources T 0 = some (r1, T1)) (hf : fr_sources S = some (r2, S1)) : R2 T1 S1 := by
  have c := tgo (cs_X11_sources T 0  hV rrole.2.2.2) hg
  have f := w_fr_sources hf
  exact r2_keepG (r_pl hJ) h (r1_sources hV hJ h.1 hg hf) (ck_eq c.1) ⟨f.1 19 (by decide), f.1 20 (by decide), f.2 10 (by decide), f.2 12 (by decide), f.2 15 (by decide), f.2 16 (by decide), f.2 17 (by decide), f.2 18 (by decide)⟩
theorem r2_sourceAt {T : AT} {S : MS} {a0 a1 a2 : Int32} {r1 : Int32} {r2 : Int32} {k1 : Nat} {T1 : AT} {S1 : MS} (hV : IV aR0 1586 aK1 aK2 T) (hJ : JJ S) (h : R2 T S) (hg : g_X11_sourceAt T 0 a0 a1 a2 = some (k1, r1, T1)) (hf : fr_sourceAt S a0 a1 a2 = some (r2, S1)) : R2 T1 S1 := by
  have c := tgo (cs_X11_sourceAt T 0 a0 a1 a2 hV rrole.2.2.2) hg
  have f := w_fr_sourceAt hf
  exact r2_keepG (r_pl hJ) h (r1_sourceAt hV hJ h.1 hg hf) (ck_eq c.1) ⟨f.1 19 (by decide), f.1 20 (by decide), f.2 10 (by decide), f.2 12 (by decide), f.2 15 (by decide), f.2 16 (by decide), f.2 17 (by decide), f.2 18 (by decide)⟩
theorem r2_isOn {T : AT} {S : MS} {a0 : Int32} {r1 : Int32} {r2 : Int32} {k1 : Nat} {T1 : AT} {S1 : MS} (hV : IV aR0 1586 aK1 aK2 T) (hJ : JJ S) (h : R2 T S) (hg : g_X11_isOn T 0 a0 = some (k1, r1, T1)) (hf : fr_isOn S a0 = some (r2, S1)) : R2 T1 S1 := by
  have c := tgo (cs_X11_isOn T 0 a0 hV rrole.2.2.2) hg
  have f := w_fr_isOn hf
  exact r2_keepG (r_pl hJ) h (r1_isOn hV hJ h.1 hg hf) (ck_eq c.1) ⟨f.1 19 (by decide), f.1 20 (by decide), f.2 10 (by decide), f.2 12 (by decide), f.2 15 (by decide), f.2 16 (by decide), f.2 17 (by decide), f.2 18 (by decide)⟩
theorem r2_waveAt {T : AT} {S : MS} {a0 a1 : Int32} {r1 : Int32} {r2 : Int32} {k1 : Nat} {T1 : AT} {S1 : MS} (hV : IV aR0 1586 aK1 aK2 T) (hJ : JJ S) (h : R2 T S) (hg : g_X11_waveAt T 0 a0 a1 = some (k1, r1, T1)) (hf : fr_waveAt S a0 a1 = some (r2, S1)) : R2 T1 S1 := by
  have c := tgo (cs_X11_waveAt T 0 a0 a1 hV rrole.2.2.2) hg
  have f := w_fr_waveAt hf
  exact r2_keepG (r_pl hJ) h (r1_waveAt hV hJ h.1 hg hf) (ck_eq c.1) ⟨f.1 19 (by decide), f.1 20 (by decide), f.2 10 (by decide), f.2 12 (by decide), f.2 15 (by decide), f.2 16 (by decide), f.2 17 (by decide), f.2 18 (by decide)⟩
theorem r2_samples {T : AT} {S : MS} {r1 : Int32} {r2 : Int32} {T1 : AT} {S1 : MS} (hV : IV aR0 1586 aK1 aK2 T) (hJ : JJ S) (h : R2 T S) (hg : g_X11_samples T 0 = some (r1, T1)) (hf : fr_samples S = some (r2, S1)) : R2 T1 S1 := by
  have c := tgo (cs_X11_samples T 0  hV rrole.2.2.2) hg
  have f := w_fr_samples hf
  exact r2_keepG (r_pl hJ) h (r1_samples hV hJ h.1 hg hf) (ck_eq c.1) ⟨f.1 19 (by decide), f.1 20 (by decide), f.2 10 (by decide), f.2 12 (by decide), f.2 15 (by decide), f.2 16 (by decide), f.2 17 (by decide), f.2 18 (by decide)⟩
theorem r2_delay {T : AT} {S : MS} {a0 a1 : Int32} {r1 : Int32} {r2 : Int32} {k1 : Nat} {T1 : AT} {S1 : MS} (hV : IV aR0 1586 aK1 aK2 T) (hJ : JJ S) (h : R2 T S) (hg : g_X11_delay T 0 a0 a1 = some (k1, r1, T1)) (hf : fr_delay S a0 a1 = some (r2, S1)) : R2 T1 S1 := by
  have c := tgo (cs_X11_delay T 0 a0 a1 hV rrole.2.2.2) hg
  have f := w_fr_delay hf
  exact r2_keepG (r_pl hJ) h (r1_delay hV hJ h.1 hg hf) (ck_eq c.1) ⟨f.1 19 (by decide), f.1 20 (by decide), f.2 10 (by decide), f.2 12 (by decide), f.2 15 (by decide), f.2 16 (by decide), f.2 17 (by decide), f.2 18 (by decide)⟩
theorem r2_delayTo {T : AT} {S : MS} {a0 a1 a2 : Int32} {r1 : Int32} {r2 : Int32} {k1 : Nat} {T1 : AT} {S1 : MS} (hV : IV aR0 1586 aK1 aK2 T) (hJ : JJ S) (h : R2 T S) (hg : g_X11_delayTo T 0 a0 a1 a2 = some (k1, r1, T1)) (hf : fr_delayTo S a0 a1 a2 = some (r2, S1)) : R2 T1 S1 := by
  have c := tgo (cs_X11_delayTo T 0 a0 a1 a2 hV rrole.2.2.2) hg
  have f := w_fr_delayTo hf
  exact r2_keepG (r_pl hJ) h (r1_delayTo hV hJ h.1 hg hf) (ck_eq c.1) ⟨f.1 19 (by decide), f.1 20 (by decide), f.2 10 (by decide), f.2 12 (by decide), f.2 15 (by decide), f.2 16 (by decide), f.2 17 (by decide), f.2 18 (by decide)⟩
theorem r2_spread {T : AT} {S : MS} {a0 : Int32} {r1 : Int32} {r2 : Int32} {k1 : Nat} {T1 : AT} {S1 : MS} (hV : IV aR0 1586 aK1 aK2 T) (hJ : JJ S) (h : R2 T S) (hg : g_X11_spread T 0 a0 = some (k1, r1, T1)) (hf : fr_spread S a0 = some (r2, S1)) : R2 T1 S1 := by
  have c := tgo (cs_X11_spread T 0 a0 hV rrole.2.2.2) hg
  have f := w_fr_spread hf
  exact r2_keepG (r_pl hJ) h (r1_spread hV hJ h.1 hg hf) (ck_eq c.1) ⟨f.1 19 (by decide), f.1 20 (by decide), f.2 10 (by decide), f.2 12 (by decide), f.2 15 (by decide), f.2 16 (by decide), f.2 17 (by decide), f.2 18 (by decide)⟩
theorem r2_window {T : AT} {S : MS} {a0 : Int32} {r1 : Int32} {r2 : Int32} {k1 : Nat} {T1 : AT} {S1 : MS} (hV : IV aR0 1586 aK1 aK2 T) (hJ : JJ S) (h : R2 T S) (hg : g_X11_window T 0 a0 = some (k1, r1, T1)) (hf : fr_window S a0 = some (r2, S1)) : R2 T1 S1 := by
  have c := tgo (cs_X11_window T 0 a0 hV rrole.2.2.2) hg
  have f := w_fr_window hf
  exact r2_keepG (r_pl hJ) h (r1_window hV hJ h.1 hg hf) (ck_eq c.1) ⟨f.1 19 (by decide), f.1 20 (by decide), f.2 10 (by decide), f.2 12 (by decide), f.2 15 (by decide), f.2 16 (by decide), f.2 17 (by decide), f.2 18 (by decide)⟩
theorem r2_sample {T : AT} {S : MS} {a0 a1 : Int32} {r1 : Int32} {r2 : Int32} {k1 : Nat} {T1 : AT} {S1 : MS} (hV : IV aR0 1586 aK1 aK2 T) (hJ : JJ S) (h : R2 T S) (hg : g_X11_sample T 0 a0 a1 = some (k1, r1, T1)) (hf : fr_sample S a0 a1 = some (r2, S1)) : R2 T1 S1 := by
  have c := tgo (cs_X11_sample T 0 a0 a1 hV rrole.2.2.2) hg
  have f := w_fr_sample hf
  exact r2_keepG (r_pl hJ) h (r1_sample hV hJ h.1 hg hf) (ck_eq c.1) ⟨f.1 19 (by decide), f.1 20 (by decide), f.2 10 (by decide), f.2 12 (by decide), f.2 15 (by decide), f.2 16 (by decide), f.2 17 (by decide), f.2 18 (by decide)⟩
theorem r2_beam {T : AT} {S : MS} {a0 a1 : Int32} {r1 : Int32} {r2 : Int32} {k1 : Nat} {T1 : AT} {S1 : MS} (hV : IV aR0 1586 aK1 aK2 T) (hJ : JJ S) (h : R2 T S) (hg : g_X11_beam T 0 a0 a1 = some (k1, r1, T1)) (hf : fr_beam S a0 a1 = some (r2, S1)) : R2 T1 S1 := by
  have c := tgo (cs_X11_beam T 0 a0 a1 hV rrole.2.2.2) hg
  have f := w_fr_beam hf
  exact r2_keepG (r_pl hJ) h (r1_beam hV hJ h.1 hg hf) (ck_fw hV c.1.2 (by decide +kernel) (sr_X11_beam hg)) ⟨f.1 19 (by decide), f.1 20 (by decide), f.2 10 (by decide), f.2 12 (by decide), f.2 15 (by decide), f.2 16 (by decide), f.2 17 (by decide), f.2 18 (by decide)⟩
theorem r2_power {T : AT} {S : MS} {a0 : Int32} {r1 : Int64} {r2 : Int64} {k1 : Nat} {T1 : AT} {S1 : MS} (hV : IV aR0 1586 aK1 aK2 T) (hJ : JJ S) (h : R2 T S) (hg : g_X11_power T 0 a0 = some (k1, r1, T1)) (hf : fr_power S a0 = some (r2, S1)) : R2 T1 S1 := by
  have c := tgo (cs_X11_power T 0 a0 hV rrole.2.2.2) hg
  have f := w_fr_power hf
  exact r2_keepG (r_pl hJ) h (r1_power hV hJ h.1 hg hf) (ck_fw hV c.1.2 (by decide +kernel) (sr_X11_power hg)) ⟨f.1 19 (by decide), f.1 20 (by decide), f.2 10 (by decide), f.2 12 (by decide), f.2 15 (by decide), f.2 16 (by decide), f.2 17 (by decide), f.2 18 (by decide)⟩
theorem r2_powerAt {T : AT} {S : MS} {a0 a1 : Int32} {r1 : Int64} {r2 : Int64} {k1 : Nat} {T1 : AT} {S1 : MS} (hV : IV aR0 1586 aK1 aK2 T) (hJ : JJ S) (h : R2 T S) (hg : g_X11_powerAt T 0 a0 a1 = some (k1, r1, T1)) (hf : fr_powerAt S a0 a1 = some (r2, S1)) : R2 T1 S1 := by
  have c := tgo (cs_X11_powerAt T 0 a0 a1 hV rrole.2.2.2) hg
  have f := w_fr_powerAt hf
  exact r2_keepG (r_pl hJ) h (r1_powerAt hV hJ h.1 hg hf) (ck_fd hV c.1.2 (by decide +kernel) (q_powerAt h.1.1 hV hg) (sr_X11_powerAt hg)) ⟨f.1 19 (by decide), f.1 20 (by decide), f.2 10 (by decide), f.2 12 (by decide), f.2 15 (by decide), f.2 16 (by decide), f.2 17 (by decide), f.2 18 (by decide)⟩
theorem r2_best {T : AT} {S : MS} {r1 : Int32} {r2 : Int32} {k1 : Nat} {T1 : AT} {S1 : MS} (hV : IV aR0 1586 aK1 aK2 T) (hJ : JJ S) (h : R2 T S) (hg : g_X11_best T 0 = some (k1, r1, T1)) (hf : fr_best S = some (r2, S1)) : R2 T1 S1 := by
  have c := tgo (cs_X11_best T 0  hV rrole.2.2.2) hg
  have f := w_fr_best hf
  exact r2_keepG (r_pl hJ) h (r1_best hV hJ h.1 hg hf) (ck_fw hV c.1.2 (by decide +kernel) (sr_X11_best hg)) ⟨f.1 19 (by decide), f.1 20 (by decide), f.2 10 (by decide), f.2 12 (by decide), f.2 15 (by decide), f.2 16 (by decide), f.2 17 (by decide), f.2 18 (by decide)⟩
theorem r2_bestPower {T : AT} {S : MS} {r1 : Int64} {r2 : Int64} {k1 : Nat} {T1 : AT} {S1 : MS} (hV : IV aR0 1586 aK1 aK2 T) (hJ : JJ S) (h : R2 T S) (hg : g_X11_bestPower T 0 = some (k1, r1, T1)) (hf : fr_bestPower S = some (r2, S1)) : R2 T1 S1 := by
  have c := tgo (cs_X11_bestPower T 0  hV rrole.2.2.2) hg
  have f := w_fr_bestPower hf
  exact r2_keepG (r_pl hJ) h (r1_bestPower hV hJ h.1 hg hf) (ck_fw hV c.1.2 (by decide +kernel) (sr_X11_bestPower hg)) ⟨f.1 19 (by decide), f.1 20 (by decide), f.2 10 (by decide), f.2 12 (by decide), f.2 15 (by decide), f.2 16 (by decide), f.2 17 (by decide), f.2 18 (by decide)⟩
theorem r2_meanPower {T : AT} {S : MS} {r1 : Int64} {r2 : Int64} {k1 : Nat} {T1 : AT} {S1 : MS} (hV : IV aR0 1586 aK1 aK2 T) (hJ : JJ S) (h : R2 T S) (hg : g_X11_meanPower T 0 = some (k1, r1, T1)) (hf : fr_meanPower S = some (r2, S1)) : R2 T1 S1 := by
  have c := tgo (cs_X11_meanPower T 0  hV rrole.2.2.2) hg
  have f := w_fr_meanPower hf
  exact r2_keepG (r_pl hJ) h (r1_meanPower hV hJ h.1 hg hf) (ck_fw hV c.1.2 (by decide +kernel) (sr_X11_meanPower hg)) ⟨f.1 19 (by decide), f.1 20 (by decide), f.2 10 (by decide), f.2 12 (by decide), f.2 15 (by decide), f.2 16 (by decide), f.2 17 (by decide), f.2 18 (by decide)⟩
theorem r2_peaks {T : AT} {S : MS} {r1 : Int32} {r2 : Int32} {k1 : Nat} {T1 : AT} {S1 : MS} (hV : IV aR0 1586 aK1 aK2 T) (hJ : JJ S) (h : R2 T S) (hg : g_X11_peaks T 0 = some (k1, r1, T1)) (hf : fr_peaks S = some (r2, S1)) : R2 T1 S1 := by
  have c := tgo (cs_X11_peaks T 0  hV rrole.2.2.2) hg
  have f := w_fr_peaks hf
  exact r2_keepG (r_pl hJ) h (r1_peaks hV hJ h.1 hg hf) (ck_fw hV c.1.2 (by decide +kernel) (sr_X11_peaks hg)) ⟨f.1 19 (by decide), f.1 20 (by decide), f.2 10 (by decide), f.2 12 (by decide), f.2 15 (by decide), f.2 16 (by decide), f.2 17 (by decide), f.2 18 (by decide)⟩
theorem r2_peakAt {T : AT} {S : MS} {a0 : Int32} {r1 : Int32} {r2 : Int32} {k1 : Nat} {T1 : AT} {S1 : MS} (hV : IV aR0 1586 aK1 aK2 T) (hJ : JJ S) (h : R2 T S) (hg : g_X11_peakAt T 0 a0 = some (k1, r1, T1)) (hf : fr_peakAt S a0 = some (r2, S1)) : R2 T1 S1 := by
  have c := tgo (cs_X11_peakAt T 0 a0 hV rrole.2.2.2) hg
  have f := w_fr_peakAt hf
  exact r2_keepG (r_pl hJ) h (r1_peakAt hV hJ h.1 hg hf) (ck_fw hV c.1.2 (by decide +kernel) (sr_X11_peakAt hg)) ⟨f.1 19 (by decide), f.1 20 (by decide), f.2 10 (by decide), f.2 12 (by decide), f.2 15 (by decide), f.2 16 (by decide), f.2 17 (by decide), f.2 18 (by decide)⟩
theorem r2_isPeak {T : AT} {S : MS} {a0 : Int32} {r1 : Int32} {r2 : Int32} {k1 : Nat} {T1 : AT} {S1 : MS} (hV : IV aR0 1586 aK1 aK2 T) (hJ : JJ S) (h : R2 T S) (hg : g_X11_isPeak T 0 a0 = some (k1, r1, T1)) (hf : fr_isPeak S a0 = some (r2, S1)) : R2 T1 S1 := by
  have c := tgo (cs_X11_isPeak T 0 a0 hV rrole.2.2.2) hg
  have f := w_fr_isPeak hf
  exact r2_keepG (r_pl hJ) h (r1_isPeak hV hJ h.1 hg hf) (ck_fw hV c.1.2 (by decide +kernel) (sr_X11_isPeak hg)) ⟨f.1 19 (by decide), f.1 20 (by decide), f.2 10 (by decide), f.2 12 (by decide), f.2 15 (by decide), f.2 16 (by decide), f.2 17 (by decide), f.2 18 (by decide)⟩
theorem r2_zonePower {T : AT} {S : MS} {a0 : Int32} {r1 : Int64} {r2 : Int64} {k1 : Nat} {T1 : AT} {S1 : MS} (hV : IV aR0 1586 aK1 aK2 T) (hJ : JJ S) (h : R2 T S) (hg : g_X11_zonePower T 0 a0 = some (k1, r1, T1)) (hf : fr_zonePower S a0 = some (r2, S1)) : R2 T1 S1 := by
  have c := tgo (cs_X11_zonePower T 0 a0 hV rrole.2.2.2) hg
  have f := w_fr_zonePower hf
  exact r2_keepG (r_pl hJ) h (r1_zonePower hV hJ h.1 hg hf) (ck_fw hV c.1.2 (by decide +kernel) (sr_X11_zonePower hg)) ⟨f.1 19 (by decide), f.1 20 (by decide), f.2 10 (by decide), f.2 12 (by decide), f.2 15 (by decide), f.2 16 (by decide), f.2 17 (by decide), f.2 18 (by decide)⟩
theorem r2_zoneBest {T : AT} {S : MS} {a0 : Int32} {r1 : Int32} {r2 : Int32} {k1 : Nat} {T1 : AT} {S1 : MS} (hV : IV aR0 1586 aK1 aK2 T) (hJ : JJ S) (h : R2 T S) (hg : g_X11_zoneBest T 0 a0 = some (k1, r1, T1)) (hf : fr_zoneBest S a0 = some (r2, S1)) : R2 T1 S1 := by
  have c := tgo (cs_X11_zoneBest T 0 a0 hV rrole.2.2.2) hg
  have f := w_fr_zoneBest hf
  exact r2_keepG (r_pl hJ) h (r1_zoneBest hV hJ h.1 hg hf) (ck_fw hV c.1.2 (by decide +kernel) (sr_X11_zoneBest hg)) ⟨f.1 19 (by decide), f.1 20 (by decide), f.2 10 (by decide), f.2 12 (by decide), f.2 15 (by decide), f.2 16 (by decide), f.2 17 (by decide), f.2 18 (by decide)⟩
theorem r2_contrast {T : AT} {S : MS} {r1 : UInt32} {r2 : UInt32} {k1 : Nat} {T1 : AT} {S1 : MS} (hV : IV aR0 1586 aK1 aK2 T) (hJ : JJ S) (h : R2 T S) (hg : g_X11_contrast T 0 = some (k1, r1, T1)) (hf : fr_contrast S = some (r2, S1)) : R2 T1 S1 := by
  have c := tgo (cs_X11_contrast T 0  hV rrole.2.2.2) hg
  have f := w_fr_contrast hf
  exact r2_keepG (r_pl hJ) h (r1_contrast hV hJ h.1 hg hf) (ck_fw hV c.1.2 (by decide +kernel) (sr_X11_contrast hg)) ⟨f.1 19 (by decide), f.1 20 (by decide), f.2 10 (by decide), f.2 12 (by decide), f.2 15 (by decide), f.2 16 (by decide), f.2 17 (by decide), f.2 18 (by decide)⟩
theorem r2_alias {T : AT} {S : MS} {a0 a1 a2 : Int32} {r1 : Int32} {r2 : Int32} {k1 : Nat} {T1 : AT} {S1 : MS} (hV : IV aR0 1586 aK1 aK2 T) (hJ : JJ S) (h : R2 T S) (hg : g_X11_alias T 0 a0 a1 a2 = some (k1, r1, T1)) (hf : fr_alias S a0 a1 a2 = some (r2, S1)) : R2 T1 S1 := by
  have c := tgo (cs_X11_alias T 0 a0 a1 a2 hV rrole.2.2.2) hg
  have f := w_fr_alias hf
  exact r2_keepG (r_pl hJ) h (r1_alias hV hJ h.1 hg hf) (ck_eq c.1) ⟨f.1 19 (by decide), f.1 20 (by decide), f.2 10 (by decide), f.2 12 (by decide), f.2 15 (by decide), f.2 16 (by decide), f.2 17 (by decide), f.2 18 (by decide)⟩
theorem r2_isAlias {T : AT} {S : MS} {a0 a1 a2 : Int32} {r1 : Int32} {r2 : Int32} {k1 : Nat} {T1 : AT} {S1 : MS} (hV : IV aR0 1586 aK1 aK2 T) (hJ : JJ S) (h : R2 T S) (hg : g_X11_isAlias T 0 a0 a1 a2 = some (k1, r1, T1)) (hf : fr_isAlias S a0 a1 a2 = some (r2, S1)) : R2 T1 S1 := by
  have c := tgo (cs_X11_isAlias T 0 a0 a1 a2 hV rrole.2.2.2) hg
  have f := w_fr_isAlias hf
  exact r2_keepG (r_pl hJ) h (r1_isAlias hV hJ h.1 hg hf) (ck_fw hV c.1.2 (by decide +kernel) (sr_X11_isAlias hg)) ⟨f.1 19 (by decide), f.1 20 (by decide), f.2 10 (by decide), f.2 12 (by decide), f.2 15 (by decide), f.2 16 (by decide), f.2 17 (by decide), f.2 18 (by decide)⟩
theorem r2_aliases {T : AT} {S : MS} {a0 a1 : Int32} {r1 : Int32} {r2 : Int32} {k1 : Nat} {T1 : AT} {S1 : MS} (hV : IV aR0 1586 aK1 aK2 T) (hJ : JJ S) (h : R2 T S) (hg : g_X11_aliases T 0 a0 a1 = some (k1, r1, T1)) (hf : fr_aliases S a0 a1 = some (r2, S1)) : R2 T1 S1 := by
  have c := tgo (cs_X11_aliases T 0 a0 a1 hV rrole.2.2.2) hg
  have f := w_fr_aliases hf
  exact r2_keepG (r_pl hJ) h (r1_aliases hV hJ h.1 hg hf) (ck_fw hV c.1.2 (by decide +kernel) (sr_X11_aliases hg)) ⟨f.1 19 (by decide), f.1 20 (by decide), f.2 10 (by decide), f.2 12 (by decide), f.2 15 (by decide), f.2 16 (by decide), f.2 17 (by decide), f.2 18 (by decide)⟩
theorem r2_blockPower {T : AT} {S : MS} {a0 a1 a2 : Int32} {r1 : Int64} {r2 : Int64} {k1 : Nat} {T1 : AT} {S1 : MS} (hV : IV aR0 1586 aK1 aK2 T) (hJ : JJ S) (h : R2 T S) (hg : g_X11_blockPower T 0 a0 a1 a2 = some (k1, r1, T1)) (hf : fr_blockPower S a0 a1 a2 = some (r2, S1)) : R2 T1 S1 := by
  have c := tgo (cs_X11_blockPower T 0 a0 a1 a2 hV rrole.2.2.2) hg
  have f := w_fr_blockPower hf
  exact r2_keepG (r_pl hJ) h (r1_blockPower hV hJ h.1 hg hf) (ck_fw hV c.1.2 (by decide +kernel) (sr_X11_blockPower hg)) ⟨f.1 19 (by decide), f.1 20 (by decide), f.2 10 (by decide), f.2 12 (by decide), f.2 15 (by decide), f.2 16 (by decide), f.2 17 (by decide), f.2 18 (by decide)⟩
theorem r2_blockBest {T : AT} {S : MS} {a0 a1 : Int32} {r1 : Int32} {r2 : Int32} {k1 : Nat} {T1 : AT} {S1 : MS} (hV : IV aR0 1586 aK1 aK2 T) (hJ : JJ S) (h : R2 T S) (hg : g_X11_blockBest T 0 a0 a1 = some (k1, r1, T1)) (hf : fr_blockBest S a0 a1 = some (r2, S1)) : R2 T1 S1 := by
  have c := tgo (cs_X11_blockBest T 0 a0 a1 hV rrole.2.2.2) hg
  have f := w_fr_blockBest hf
  exact r2_keepG (r_pl hJ) h (r1_blockBest hV hJ h.1 hg hf) (ck_fw hV c.1.2 (by decide +kernel) (sr_X11_blockBest hg)) ⟨f.1 19 (by decide), f.1 20 (by decide), f.2 10 (by decide), f.2 12 (by decide), f.2 15 (by decide), f.2 16 (by decide), f.2 17 (by decide), f.2 18 (by decide)⟩
theorem r2_path {T : AT} {S : MS} {a0 : Int32} {r1 : Int32} {r2 : Int32} {k1 : Nat} {T1 : AT} {S1 : MS} (hV : IV aR0 1586 aK1 aK2 T) (hJ : JJ S) (h : R2 T S) (hg : g_X11_path T 0 a0 = some (k1, r1, T1)) (hf : fr_path S a0 = some (r2, S1)) : R2 T1 S1 := by
  have c := tgo (cs_X11_path T 0 a0 hV rrole.2.2.2) hg
  have f := w_fr_path hf
  exact r2_keepG (r_pl hJ) h (r1_path hV hJ h.1 hg hf) (ck_fw hV c.1.2 (by decide +kernel) (sr_X11_path hg)) ⟨f.1 19 (by decide), f.1 20 (by decide), f.2 10 (by decide), f.2 12 (by decide), f.2 15 (by decide), f.2 16 (by decide), f.2 17 (by decide), f.2 18 (by decide)⟩
theorem r2_trackScore {T : AT} {S : MS} {a0 : Int32} {r1 : Int64} {r2 : Int64} {k1 : Nat} {T1 : AT} {S1 : MS} (hV : IV aR0 1586 aK1 aK2 T) (hJ : JJ S) (h : R2 T S) (hg : g_X11_trackScore T 0 a0 = some (k1, r1, T1)) (hf : fr_trackScore S a0 = some (r2, S1)) : R2 T1 S1 := by
  have c := tgo (cs_X11_trackScore T 0 a0 hV rrole.2.2.2) hg
  have f := w_fr_trackScore hf
  exact r2_keepG (r_pl hJ) h (r1_trackScore hV hJ h.1 hg hf) (ck_fw hV c.1.2 (by decide +kernel) (sr_X11_trackScore hg)) ⟨f.1 19 (by decide), f.1 20 (by decide), f.2 10 (by decide), f.2 12 (by decide), f.2 15 (by decide), f.2 16 (by decide), f.2 17 (by decide), f.2 18 (by decide)⟩
theorem r2_trackCell {T : AT} {S : MS} {a0 a1 : Int32} {r1 : Int32} {r2 : Int32} {k1 : Nat} {T1 : AT} {S1 : MS} (hV : IV aR0 1586 aK1 aK2 T) (hJ : JJ S) (h : R2 T S) (hg : g_X11_trackCell T 0 a0 a1 = some (k1, r1, T1)) (hf : fr_trackCell S a0 a1 = some (r2, S1)) : R2 T1 S1 := by
  have c := tgo (cs_X11_trackCell T 0 a0 a1 hV rrole.2.2.2) hg
  have f := w_fr_trackCell hf
  exact r2_keepG (r_pl hJ) h (r1_trackCell hV hJ h.1 hg hf) (ck_fw hV c.1.2 (by decide +kernel) (sr_X11_trackCell hg)) ⟨f.1 19 (by decide), f.1 20 (by decide), f.2 10 (by decide), f.2 12 (by decide), f.2 15 (by decide), f.2 16 (by decide), f.2 17 (by decide), f.2 18 (by decide)⟩
theorem r2_movingPower {T : AT} {S : MS} {a0 a1 a2 : Int32} {r1 : Int64} {r2 : Int64} {k1 : Nat} {T1 : AT} {S1 : MS} (hV : IV aR0 1586 aK1 aK2 T) (hJ : JJ S) (h : R2 T S) (hg : g_X11_movingPower T 0 a0 a1 a2 = some (k1, r1, T1)) (hf : fr_movingPower S a0 a1 a2 = some (r2, S1)) : R2 T1 S1 := by
  have c := tgo (cs_X11_movingPower T 0 a0 a1 a2 hV rrole.2.2.2) hg
  have f := w_fr_movingPower hf
  exact r2_keepG (r_pl hJ) h (r1_movingPower hV hJ h.1 hg hf) (ck_fd hV c.1.2 (by decide +kernel) (q_movingPower h.1.1 hV hg) (sr_X11_movingPower hg)) ⟨f.1 19 (by decide), f.1 20 (by decide), f.2 10 (by decide), f.2 12 (by decide), f.2 15 (by decide), f.2 16 (by decide), f.2 17 (by decide), f.2 18 (by decide)⟩
theorem r2_bestVelocity {T : AT} {S : MS} {a0 a1 a2 : Int32} {r1 : Int32} {r2 : Int32} {k1 : Nat} {T1 : AT} {S1 : MS} (hV : IV aR0 1586 aK1 aK2 T) (hJ : JJ S) (h : R2 T S) (hg : g_X11_bestVelocity T 0 a0 a1 a2 = some (k1, r1, T1)) (hf : fr_bestVelocity S a0 a1 a2 = some (r2, S1)) : R2 T1 S1 := by
  have c := tgo (cs_X11_bestVelocity T 0 a0 a1 a2 hV rrole.2.2.2) hg
  have f := w_fr_bestVelocity hf
  exact r2_keepG (r_pl hJ) h (r1_bestVelocity hV hJ h.1 hg hf) (ck_fd hV c.1.2 (by decide +kernel) (q_bestVelocity h.1.1 hV hg) (sr_X11_bestVelocity hg)) ⟨f.1 19 (by decide), f.1 20 (by decide), f.2 10 (by decide), f.2 12 (by decide), f.2 15 (by decide), f.2 16 (by decide), f.2 17 (by decide), f.2 18 (by decide)⟩
theorem r2_correlation {T : AT} {S : MS} {a0 a1 a2 : Int32} {r1 : Int64} {r2 : Int64} {k1 : Nat} {T1 : AT} {S1 : MS} (hV : IV aR0 1586 aK1 aK2 T) (hJ : JJ S) (h : R2 T S) (hg : g_X11_correlation T 0 a0 a1 a2 = some (k1, r1, T1)) (hf : fr_correlation S a0 a1 a2 = some (r2, S1)) : R2 T1 S1 := by
  have c := tgo (cs_X11_correlation T 0 a0 a1 a2 hV rrole.2.2.2) hg
  have f := w_fr_correlation hf
  exact r2_keepG (r_pl hJ) h (r1_correlation hV hJ h.1 hg hf) (ck_fw hV c.1.2 (by decide +kernel) (sr_X11_correlation hg)) ⟨f.1 19 (by decide), f.1 20 (by decide), f.2 10 (by decide), f.2 12 (by decide), f.2 15 (by decide), f.2 16 (by decide), f.2 17 (by decide), f.2 18 (by decide)⟩
theorem r2_bestLag {T : AT} {S : MS} {a0 a1 a2 : Int32} {r1 : Int32} {r2 : Int32} {k1 : Nat} {T1 : AT} {S1 : MS} (hV : IV aR0 1586 aK1 aK2 T) (hJ : JJ S) (h : R2 T S) (hg : g_X11_bestLag T 0 a0 a1 a2 = some (k1, r1, T1)) (hf : fr_bestLag S a0 a1 a2 = some (r2, S1)) : R2 T1 S1 := by
  have c := tgo (cs_X11_bestLag T 0 a0 a1 a2 hV rrole.2.2.2) hg
  have f := w_fr_bestLag hf
  exact r2_keepG (r_pl hJ) h (r1_bestLag hV hJ h.1 hg hf) (ck_fw hV c.1.2 (by decide +kernel) (sr_X11_bestLag hg)) ⟨f.1 19 (by decide), f.1 20 (by decide), f.2 10 (by decide), f.2 12 (by decide), f.2 15 (by decide), f.2 16 (by decide), f.2 17 (by decide), f.2 18 (by decide)⟩
theorem r2_level {T : AT} {S : MS} {a0 : Int32} {r1 : Int64} {r2 : Int64} {k1 : Nat} {T1 : AT} {S1 : MS} (hV : IV aR0 1586 aK1 aK2 T) (hJ : JJ S) (h : R2 T S) (hg : g_X11_level T 0 a0 = some (k1, r1, T1)) (hf : fr_level S a0 = some (r2, S1)) : R2 T1 S1 := by
  have c := tgo (cs_X11_level T 0 a0 hV rrole.2.2.2) hg
  have f := w_fr_level hf
  exact r2_keepG (r_pl hJ) h (r1_level hV hJ h.1 hg hf) (ck_fw hV c.1.2 (by decide +kernel) (sr_X11_level hg)) ⟨f.1 19 (by decide), f.1 20 (by decide), f.2 10 (by decide), f.2 12 (by decide), f.2 15 (by decide), f.2 16 (by decide), f.2 17 (by decide), f.2 18 (by decide)⟩
theorem r2_loudest {T : AT} {S : MS} {a0 : Int32} {r1 : Int32} {r2 : Int32} {k1 : Nat} {T1 : AT} {S1 : MS} (hV : IV aR0 1586 aK1 aK2 T) (hJ : JJ S) (h : R2 T S) (hg : g_X11_loudest T 0 a0 = some (k1, r1, T1)) (hf : fr_loudest S a0 = some (r2, S1)) : R2 T1 S1 := by
  have c := tgo (cs_X11_loudest T 0 a0 hV rrole.2.2.2) hg
  have f := w_fr_loudest hf
  exact r2_keepG (r_pl hJ) h (r1_loudest hV hJ h.1 hg hf) (ck_fw hV c.1.2 (by decide +kernel) (sr_X11_loudest hg)) ⟨f.1 19 (by decide), f.1 20 (by decide), f.2 10 (by decide), f.2 12 (by decide), f.2 15 (by decide), f.2 16 (by decide), f.2 17 (by decide), f.2 18 (by decide)⟩
theorem r2_writeMap {T : AT} {S : MS} {r1 : Int32} {r2 : Int32} {k1 : Nat} {T1 : AT} {S1 : MS} (hV : IV aR0 1586 aK1 aK2 T) (hJ : JJ S) (h : R2 T S) (hg : g_X11_writeMap T 0 = some (k1, r1, T1)) (hf : fr_writeMap S = some (r2, S1)) : R2 T1 S1 := by
  have c := tgo (cs_X11_writeMap T 0  hV rrole.2.2.2) hg
  have f := w_fr_writeMap hf
  exact r2_keepG (r_pl hJ) h (r1_writeMap hV hJ h.1 hg hf) (ck_fw hV c.1.2 (by decide +kernel) (sr_X11_writeMap hg)) ⟨f.1 19 (by decide), f.1 20 (by decide), f.2 10 (by decide), f.2 12 (by decide), f.2 15 (by decide), f.2 16 (by decide), f.2 17 (by decide), f.2 18 (by decide)⟩
theorem r2_mapByte {T : AT} {S : MS} {a0 : Int32} {r1 : Int32} {r2 : Int32} {k1 : Nat} {T1 : AT} {S1 : MS} (hV : IV aR0 1586 aK1 aK2 T) (hJ : JJ S) (h : R2 T S) (hg : g_X11_mapByte T 0 a0 = some (k1, r1, T1)) (hf : fr_mapByte S a0 = some (r2, S1)) : R2 T1 S1 := by
  have c := tgo (cs_X11_mapByte T 0 a0 hV rrole.2.2.2) hg
  have f := w_fr_mapByte hf
  exact r2_keepG (r_pl hJ) h (r1_mapByte hV hJ h.1 hg hf) (ck_eq c.1) ⟨f.1 19 (by decide), f.1 20 (by decide), f.2 10 (by decide), f.2 12 (by decide), f.2 15 (by decide), f.2 16 (by decide), f.2 17 (by decide), f.2 18 (by decide)⟩
theorem r2_pointBest {T : AT} {S : MS} {a0 a1 : Int32} {r1 : Int32} {r2 : Int32} {k1 : Nat} {T1 : AT} {S1 : MS} (hV : IV aR0 1586 aK1 aK2 T) (hJ : JJ S) (h : R2 T S) (hg : g_X11_pointBest T 0 a0 a1 = some (k1, r1, T1)) (hf : fr_pointBest S a0 a1 = some (r2, S1)) : R2 T1 S1 := by
  have c := tgo (cs_X11_pointBest T 0 a0 a1 hV rrole.2.2.2) hg
  have f := w_fr_pointBest hf
  exact r2_keepG (r_pl hJ) h (r1_pointBest hV hJ h.1 hg hf) (ck_pointBest h.1.1 hV hg) ⟨f.1 19 (by decide), f.1 20 (by decide), f.2 10 (by decide), f.2 12 (by decide), f.2 15 (by decide), f.2 16 (by decide), f.2 17 (by decide), f.2 18 (by decide)⟩
theorem r2_pointPower {T : AT} {S : MS} {a0 a1 a2 : Int32} {r1 : Int64} {r2 : Int64} {k1 : Nat} {T1 : AT} {S1 : MS} (hV : IV aR0 1586 aK1 aK2 T) (hJ : JJ S) (h : R2 T S) (hg : g_X11_pointPower T 0 a0 a1 a2 = some (k1, r1, T1)) (hf : fr_pointPower S a0 a1 a2 = some (r2, S1)) : R2 T1 S1 := by
  have c := tgo (cs_X11_pointPower T 0 a0 a1 a2 hV rrole.2.2.2) hg
  have f := w_fr_pointPower hf
  exact r2_keepG (r_pl hJ) h (r1_pointPower hV hJ h.1 hg hf) (ck_pointPower h.1.1 hV hg) ⟨f.1 19 (by decide), f.1 20 (by decide), f.2 10 (by decide), f.2 12 (by decide), f.2 15 (by decide), f.2 16 (by decide), f.2 17 (by decide), f.2 18 (by decide)⟩
theorem r2_bestWithout {T : AT} {S : MS} {a0 : Int32} {r1 : Int32} {r2 : Int32} {k1 : Nat} {T1 : AT} {S1 : MS} (hV : IV aR0 1586 aK1 aK2 T) (hJ : JJ S) (h : R2 T S) (hg : g_X11_bestWithout T 0 a0 = some (k1, r1, T1)) (hf : fr_bestWithout S a0 = some (r2, S1)) : R2 T1 S1 := by
  have c := tgo (cs_X11_bestWithout T 0 a0 hV rrole.2.2.2) hg
  have f := w_fr_bestWithout hf
  exact r2_keepG (r_pl hJ) h (r1_bestWithout hV hJ h.1 hg hf) (ck_bestWithout h.1.1 hV hg) ⟨f.1 19 (by decide), f.1 20 (by decide), f.2 10 (by decide), f.2 12 (by decide), f.2 15 (by decide), f.2 16 (by decide), f.2 17 (by decide), f.2 18 (by decide)⟩
theorem r2_bestIfOff {T : AT} {S : MS} {a0 : Int32} {r1 : Int32} {r2 : Int32} {k1 : Nat} {T1 : AT} {S1 : MS} (hV : IV aR0 1586 aK1 aK2 T) (hJ : JJ S) (h : R2 T S) (hg : g_X11_bestIfOff T 0 a0 = some (k1, r1, T1)) (hf : fr_bestIfOff S a0 = some (r2, S1)) : R2 T1 S1 := by
  have c := tgo (cs_X11_bestIfOff T 0 a0 hV rrole.2.2.2) hg
  have f := w_fr_bestIfOff hf
  exact r2_keepG (r_pl hJ) h (r1_bestIfOff hV hJ h.1 hg hf) (ck_bestIfOff h.1.1 hV hg) ⟨f.1 19 (by decide), f.1 20 (by decide), f.2 10 (by decide), f.2 12 (by decide), f.2 15 (by decide), f.2 16 (by decide), f.2 17 (by decide), f.2 18 (by decide)⟩
theorem r2_mute {T : AT} {S : MS} {a0 a1 : Int32} {r1 : Int32} {r2 : Int32} {k1 : Nat} {T1 : AT} {S1 : MS} (hV : IV aR0 1586 aK1 aK2 T) (hJ : JJ S) (hb : 0 ≤ a1.toInt ∧ a1.toInt ≤ 1) (h : R2 T S) (hg : g_X11_mute T 0 a0 a1 = some (k1, r1, T1)) (hf : fr_mute S a0 a1 = some (r2, S1)) : R2 T1 S1 := (r2x_mute hV hJ hb h hg hf).1
theorem r2_setWeight {T : AT} {S : MS} {a0 a1 : Int32} {r1 : Int32} {r2 : Int32} {k1 : Nat} {T1 : AT} {S1 : MS} (hV : IV aR0 1586 aK1 aK2 T) (hJ : JJ S) (h : R2 T S) (hg : g_X11_setWeight T 0 a0 a1 = some (k1, r1, T1)) (hf : fr_setWeight S a0 a1 = some (r2, S1)) : R2 T1 S1 := (r2x_setWeight hV hJ h hg hf).1
theorem r2_setOn {T : AT} {S : MS} {a0 a1 : Int32} {r1 : Int32} {r2 : Int32} {k1 : Nat} {T1 : AT} {S1 : MS} (hV : IV aR0 1586 aK1 aK2 T) (hJ : JJ S) (hb : 0 ≤ a1.toInt ∧ a1.toInt ≤ 1) (h : R2 T S) (hg : g_X11_setOn T 0 a0 a1 = some (k1, r1, T1)) (hf : fr_setOn S a0 a1 = some (r2, S1)) : R2 T1 S1 := (r2x_setOn hV hJ hb h hg hf).1
theorem r2_cleaned {T : AT} {S : MS} {r1 : Int32} {r2 : Int32} {k1 : Nat} {T1 : AT} {S1 : MS} (hV : IV aR0 1586 aK1 aK2 T) (hJ : JJ S) (h : R2 T S) (hg : g_X11_cleaned T 0 = some (k1, r1, T1)) (hf : fr_cleaned S = some (r2, S1)) : R2 T1 S1 := by
  have c := tgo (cs_X11_cleaned T 0  hV rrole.2.2.2) hg
  have f := w_fr_cleaned hf
  exact r2_keepG (r_pl hJ) h (r1_cleaned hV hJ h.1 hg hf) (ck_eq c.1) ⟨f.1 19 (by decide), f.1 20 (by decide), f.2 10 (by decide), f.2 12 (by decide), f.2 15 (by decide), f.2 16 (by decide), f.2 17 (by decide), f.2 18 (by decide)⟩
theorem r2_undo {T : AT} {S : MS} {r1 : Int32} {r2 : Int32} {k1 : Nat} {T1 : AT} {S1 : MS} (hV : IV aR0 1586 aK1 aK2 T) (hJ : JJ S) (h : R2 T S) (hg : g_X11_undo T 0 = some (k1, r1, T1)) (hf : fr_undo S = some (r2, S1)) : R2 T1 S1 := (r2x_undo hV hJ h hg hf).1
theorem r2_undoable {T : AT} {S : MS} {r1 : Int32} {r2 : Int32} {T1 : AT} {S1 : MS} (hV : IV aR0 1586 aK1 aK2 T) (hJ : JJ S) (h : R2 T S) (hg : g_X11_undoable T 0 = some (r1, T1)) (hf : fr_undoable S = some (r2, S1)) : R2 T1 S1 := by
  have c := tgo (cs_X11_undoable T 0  hV rrole.2.2.2) hg
  have f := w_fr_undoable hf
  exact r2_keepG (r_pl hJ) h (r1_undoable hV hJ h.1 hg hf) (ck_eq c.1) ⟨f.1 19 (by decide), f.1 20 (by decide), f.2 10 (by decide), f.2 12 (by decide), f.2 15 (by decide), f.2 16 (by decide), f.2 17 (by decide), f.2 18 (by decide)⟩
end
