section
variable {b : Nat → Int32} {n c i k s : Nat} {T T1 : AT} {S S1 : MS} {r : Int32}
/-- a weight is added on both sides -/
theorem k_shd {a x : Int32} {j : Nat} {w : Nat} {S0 : MS} (hs : s = 478 ∨ s = 656) (hF : SRF s T) (hC : SCNq s T (S.2.1 11) (S.2.1 13)) (hj : S.2.1 11 118 = nI j) (hj2 : j < 12) (ha : g_X6_addShade T s a = some T1) (p : PRq b n c i T S) (e0 : S0 = mf S 11 (upd (S.2.1 11) (119 + j) a)) (e1 : S1 = mf S0 11 (upd (S0.2.1 11) 118 (nI (j + 1)))) : PRq b n c i T1 S1 ∧ SCNq s T1 (S1.2.1 11) (S1.2.1 13) ∧ T1.2.2.2.2 = T.2.2.2.2 ∧ S1.2.1 11 118 = nI (j + 1) := by
  obtain ⟨gH, gM, gG, gS, gW, gF, gT, gZ, ⟨mc, b1, b2, b3, b4⟩, gX⟩ := hC
  have ej : mc = j := by
    rw [hj] at b3
    exact ((nI_eq (by omega) (by omega)).mp b3).symm
  subst ej
  unfold g_X6_addShade at ha
  obtain ⟨-, ha⟩ := oif_some ha
  obtain ⟨v3, e3, ha⟩ := elet_some ha
  rw [b2] at e3
  rw [if_neg (by rw [e3]; intro q; have := (nI_leI (a := 12) (b := mc) (by omega) (by omega)).mp q; omega)] at ha
  obtain ⟨-, ha⟩ := oif_some ha
  obtain ⟨n6, e6, ha⟩ := obind_some ha
  rw [hF.2.2.2.2.2.2.1] at e6
  cases e6
  obtain ⟨-, ha⟩ := oif_some ha
  obtain ⟨v8, e8, ha⟩ := elet_some ha
  rw [b2] at e8
  obtain ⟨-, ha⟩ := oif_some ha
  obtain ⟨-, ha⟩ := oif_some ha
  obtain ⟨T11, e11, ha⟩ := elet_some ha
  rw [e8, nI_clamp (by omega)] at e11
  obtain ⟨-, ha⟩ := oif_some ha
  obtain ⟨v13, e13, ha⟩ := elet_some ha
  rw [e11, ui_ne (by omega), b2] at e13
  obtain ⟨v14, e14, ha⟩ := elet_some ha
  rw [e13, nI_1] at e14
  obtain ⟨-, ha⟩ := oif_some ha
  obtain ⟨T16, e16, ha⟩ := elet_some ha
  have ha := osome1 (show some T16 = some T1 from ha)
  rw [← ha]
  have hI : ∀ m' j : Nat, T16.2.2.1 m' j = if m' = s ∧ j = 16 then nI (mc + 1) else if m' = s + 14 ∧ j = mc then a else T.2.2.1 m' j := fun m' j => by rw [e16, ui_get, e14, e11, ui_get]
  have hP : ∀ x : Nat, S1.2.1 11 x = if x = 118 then nI (mc + 1) else if x = 119 + mc then a else S.2.1 11 x := fun x => by
    rw [e1, mf_at]
    show (if x = 118 then nI (mc + 1) else S0.2.1 11 x) = _
    rw [e0, mf_at]
    rfl
  have hD : ∀ x : Nat, S1.2.1 13 x = S.2.1 13 x := fun x => by rw [e1, mf_ne (by decide), e0, mf_ne (by decide)]
  have iN : ∀ m' j : Nat, (m' ≠ s ∨ j ≠ 16) → m' ≠ s + 14 → T16.2.2.1 m' j = T.2.2.1 m' j := fun m' j h1 h2 => by rw [hI, if_neg (by omega), if_neg (by omega)]
  have pN : ∀ x : Nat, x < 118 → S1.2.1 11 x = S.2.1 11 x := fun x hx => by rw [hP, if_neg (by omega), if_neg (by omega)]
  have p11 := pr_uI (m := s + 14) (k := mc) (v := a) p (by omega)
  rw [← e11] at p11
  have p16 := pr_uI (m := s) (k := 16) (v := v14) p11 (by omega)
  rw [← e16] at p16
  have q0 := pr_mf (a := 11) (f := upd (S.2.1 11) (119 + mc) a) p16 (by decide)
  rw [← e0] at q0
  have q1 := pr_mf (a := 11) (f := upd (S0.2.1 11) 118 (nI (mc + 1))) q0 (by decide)
  rw [← e1] at q1
  refine ⟨q1, ⟨gH.cg (fun j hj => iN _ _ (by omega) (by omega)) (fun j hj => pN _ (by omega)), gM.cg (iN _ _ (by omega) (by omega)) (fun m' j _ _ => iN _ _ (by omega) (by omega)) (fun j hj => pN _ (by omega)), gG.cg (fun k hk => iN _ _ (by omega) (by omega)) (fun k => iN _ _ (by omega) (by omega)) (fun j hj hj2 => pN _ (by omega)), gS.cg (iN _ _ (by omega) (by omega)) (fun m' j _ _ => iN _ _ (by omega) (by omega)) (fun j hj => pN _ (by omega)) (fun j _ _ => hD j), gW.cg (iN _ _ (by omega) (by omega)) (fun k => iN _ _ (by omega) (by omega)) (fun k => iN _ _ (by omega) (by omega)) (fun j hj hj2 => pN _ (by omega)), gF.cg (iN _ _ (by omega) (by omega)) (pN _ (by omega)), gT.cg (iN _ _ (by omega) (by omega)) (fun k => iN _ _ (by omega) (by omega)) (fun j hj hj2 => pN _ (by omega)), gZ.cg (iN _ _ (by omega) (by omega)) (fun m' j _ _ => iN _ _ (by omega) (by omega)) (fun j hj hj2 => pN _ (by omega)), ?_, fun j hj => (hD j).trans (gX j hj)⟩, ?_, ?_⟩
  · refine ⟨mc + 1, by omega, by rw [hI, if_pos ⟨rfl, rfl⟩], by rw [hP, if_pos rfl], fun k hk => ?_⟩
    have hA := hI (s + 14) k
    have hB := hP (119 + k)
    rw [if_neg (by omega)] at hA hB
    rw [hA, hB]
    by_cases e : k = mc
    · rw [if_pos ⟨rfl, e⟩, if_pos (by omega)]
    · rw [if_neg (by omega), if_neg (by omega)]
      exact b4 k (by omega)
  · rw [e16, e11]; rfl
  · rw [hP, if_pos rfl]
theorem k_tap {a : Int32} {j : Nat} {S0 : MS} (hs : s = 478 ∨ s = 656) (hF : SRF s T) (hC : SCNq s T (S.2.1 11) (S.2.1 13)) (hj : S.2.1 11 77 = nI j) (hj2 : j < 5) (ha : g_X6_addTap T s a = some T1) (p : PRq b n c i T S) (e0 : S0 = mf S 11 (upd (S.2.1 11) (78 + j) a)) (e1 : S1 = mf S0 11 (upd (S0.2.1 11) 77 (nI (j + 1)))) : PRq b n c i T1 S1 ∧ SCNq s T1 (S1.2.1 11) (S1.2.1 13) ∧ T1.2.2.2.2 = T.2.2.2.2 ∧ S1.2.1 11 77 = nI (j + 1) := by
  obtain ⟨gH, gM, gG, gS, gW, gF, ⟨mc, b1, b2, b3, b4⟩, gZ, gD, gX⟩ := hC
  have ej : mc = j := by
    rw [hj] at b3
    exact ((nI_eq (by omega) (by omega)).mp b3).symm
  subst ej
  unfold g_X6_addTap at ha
  obtain ⟨-, ha⟩ := oif_some ha
  obtain ⟨v3, e3, ha⟩ := elet_some ha
  rw [b2] at e3
  rw [if_neg (by rw [e3]; intro q; have := (nI_leI (a := 5) (b := mc) (by omega) (by omega)).mp q; omega)] at ha
  obtain ⟨-, ha⟩ := oif_some ha
  obtain ⟨n6, e6, ha⟩ := obind_some ha
  rw [hF.2.2.2.2.2.1] at e6
  cases e6
  obtain ⟨-, ha⟩ := oif_some ha
  obtain ⟨v8, e8, ha⟩ := elet_some ha
  rw [b2] at e8
  obtain ⟨-, ha⟩ := oif_some ha
  obtain ⟨-, ha⟩ := oif_some ha
  obtain ⟨T11, e11, ha⟩ := elet_some ha
  rw [e8, nI_clamp (by omega)] at e11
  obtain ⟨-, ha⟩ := oif_some ha
  obtain ⟨v13, e13, ha⟩ := elet_some ha
  rw [e11, ui_ne (by omega), b2] at e13
  obtain ⟨v14, e14, ha⟩ := elet_some ha
  rw [e13, nI_1] at e14
  obtain ⟨-, ha⟩ := oif_some ha
  obtain ⟨T16, e16, ha⟩ := elet_some ha
  have ha := osome1 (show some T16 = some T1 from ha)
  rw [← ha]
  have hI : ∀ m' j : Nat, T16.2.2.1 m' j = if m' = s ∧ j = 14 then nI (mc + 1) else if m' = s + 13 ∧ j = mc then a else T.2.2.1 m' j := fun m' j => by rw [e16, ui_get, e14, e11, ui_get]
  have hP : ∀ x : Nat, S1.2.1 11 x = if x = 77 then nI (mc + 1) else if x = 78 + mc then a else S.2.1 11 x := fun x => by
    rw [e1, mf_at]
    show (if x = 77 then nI (mc + 1) else S0.2.1 11 x) = _
    rw [e0, mf_at]
    rfl
  have hD : ∀ x : Nat, S1.2.1 13 x = S.2.1 13 x := fun x => by rw [e1, mf_ne (by decide), e0, mf_ne (by decide)]
  have iN : ∀ m' j : Nat, (m' ≠ s ∨ j ≠ 14) → m' ≠ s + 13 → T16.2.2.1 m' j = T.2.2.1 m' j := fun m' j h1 h2 => by rw [hI, if_neg (by omega), if_neg (by omega)]
  have pN : ∀ x : Nat, x < 77 ∨ 83 ≤ x → S1.2.1 11 x = S.2.1 11 x := fun x hx => by rw [hP, if_neg (by omega), if_neg (by omega)]
  have p11 := pr_uI (m := s + 13) (k := mc) (v := a) p (by omega)
  rw [← e11] at p11
  have p16 := pr_uI (m := s) (k := 14) (v := v14) p11 (by omega)
  rw [← e16] at p16
  have q0 := pr_mf (a := 11) (f := upd (S.2.1 11) (78 + mc) a) p16 (by decide)
  rw [← e0] at q0
  have q1 := pr_mf (a := 11) (f := upd (S0.2.1 11) 77 (nI (mc + 1))) q0 (by decide)
  rw [← e1] at q1
  refine ⟨q1, ⟨gH.cg (fun j hj => iN _ _ (by omega) (by omega)) (fun j hj => pN _ (by omega)), gM.cg (iN _ _ (by omega) (by omega)) (fun m' j _ _ => iN _ _ (by omega) (by omega)) (fun j hj => pN _ (by omega)), gG.cg (fun k hk => iN _ _ (by omega) (by omega)) (fun k => iN _ _ (by omega) (by omega)) (fun j hj hj2 => pN _ (by omega)), gS.cg (iN _ _ (by omega) (by omega)) (fun m' j _ _ => iN _ _ (by omega) (by omega)) (fun j hj => pN _ (by omega)) (fun j _ _ => hD j), gW.cg (iN _ _ (by omega) (by omega)) (fun k => iN _ _ (by omega) (by omega)) (fun k => iN _ _ (by omega) (by omega)) (fun j hj hj2 => pN _ (by omega)), gF.cg (iN _ _ (by omega) (by omega)) (pN _ (by omega)), ?_, gZ.cg (iN _ _ (by omega) (by omega)) (fun m' j _ _ => iN _ _ (by omega) (by omega)) (fun j hj hj2 => pN _ (by omega)), gD.cg (iN _ _ (by omega) (by omega)) (fun k => iN _ _ (by omega) (by omega)) (fun j hj hj2 => pN _ (by omega)), fun j hj => (hD j).trans (gX j hj)⟩, ?_, ?_⟩
  · refine ⟨mc + 1, by omega, by rw [hI, if_pos ⟨rfl, rfl⟩], by rw [hP, if_pos rfl], fun k hk => ?_⟩
    have hA := hI (s + 13) k
    have hB := hP (78 + k)
    rw [if_neg (by omega)] at hA hB
    rw [hA, hB]
    by_cases e : k = mc
    · rw [if_pos ⟨rfl, e⟩, if_pos (by omega)]
    · rw [if_neg (by omega), if_neg (by omega)]
      exact b4 k (by omega)
  · rw [e16, e11]; rfl
  · rw [hP, if_pos rfl]
/-- more than fit: the number is out of its bounds, or there are too many -/
theorem k_many {a : Int32} {S2 S3 : MS} (ha : a = 9) (p : PRq b n c i T S) (hg : g_X3_failAsTooMany T 6 a = some (k, r, T1)) (h2 : kd b n (pst b n i) = 2 ∧ (∃ w, fr_look S 0 9 = some (w, S2)) ∨ kd b n (pst b n i) ≠ 2 ∧ S2 = S) (h3 : fr_faults S2 4 = some S3) : k = 3 ∧ ERq T1 S3 := by
  subst ha
  have h11 := p.1.2.2.2.2.2
  have h10 := p.1.2.2.2.2.1
  have q5 := p.2.2.1
  have qt := p.2.2.2.2.2.2.2
  unfold g_X3_failAsTooMany at hg
  obtain ⟨-, hg⟩ := oif_some hg
  obtain ⟨v3, e3, hg⟩ := elet_some hg
  rw [h11] at e3
  obtain ⟨-, hg⟩ := oif_some hg
  obtain ⟨r7, T5, e7, hg⟩ := obind2_some hg
  obtain ⟨k1, k2⟩ := k_kind p e7
  rw [k2] at hg
  have b26 : ∀ {e : Int32} {Sx : MS}, 0 < e.toInt → fr_faults S e = some Sx → g_X3_failAsTooMany_b26 T e v3 6 = some (k, r, T1) → k = 3 ∧ ERq T1 Sx := by
    intro e Sx he hf hg
    unfold g_X3_failAsTooMany_b26 at hg
    obtain ⟨-, hg⟩ := oif_some hg
    rw [e3] at hg
    rcases othr_k hg with ⟨r9, g9, -⟩ | ⟨r9, T9, g9, -⟩
    · exact k_err p h10 rfl he g9 hf
    · exact absurd (k_err p h10 rfl he g9 hf).1 (by decide)
  rcases h2 with ⟨ck, w, hl⟩ | ⟨ck, e⟩
  · rw [if_pos (k1.trans ck)] at hg
    obtain ⟨-, hg⟩ := oif_some hg
    obtain ⟨r13, T11, e13, hg⟩ := obind2_some hg
    obtain ⟨k3, k4⟩ := k_value p e13
    rw [k4] at hg
    unfold fr_look at hl
    obtain ⟨w2, d2, hl⟩ := elet_some hl
    rw [if_pos (by rw [d2, q5]; decide)] at hl
    obtain ⟨w4, d4, hl⟩ := elet_some hl
    rw [if_pos (d4.trans ((tk_num qt).mpr ck))] at hl
    obtain ⟨w6, d6, hl⟩ := elet_some hl
    rw [(qt.2.2.1 ck).2, ← k3] at d6
    obtain ⟨w7, d7, hl⟩ := obind_some hl
    rw [d6] at d7
    have v0 : 0 ≤ r13 := by rw [k3]; exact vf_pos p ck
    rcases tin2 d7 with ⟨c7, c8, c9⟩ | ⟨c7, c8⟩
    · rw [if_pos c9] at hg
      rw [if_neg (by rw [c7]; decide)] at hl
      unfold fr_look_b42 at hl
      obtain ⟨w8, d8, hl⟩ := elet_some hl
      rw [if_pos (by rw [d8, q5]; decide)] at hl
      obtain ⟨w9, d9, hl⟩ := elet_some hl
      have g5 := osome2 (show some (w9, S) = some (w, S2) from hl)
      rw [← g5.2] at h3
      exact b26 (by decide) h3 hg
    · rw [if_neg (fun q => c8 ⟨v0, q⟩)] at hg
      rw [if_pos c7] at hl
      obtain ⟨S10, f10, hl⟩ := obind_some hl
      obtain ⟨a1, a2⟩ := b26 (by decide) f10 hg
      unfold fr_look_b42 at hl
      obtain ⟨w8, d8, hl⟩ := elet_some hl
      rw [if_neg (st_le a2.1 d8)] at hl
      have g5 := osome2 (show some ((0 : Int32), S10) = some (w, S2) from hl)
      rw [← g5.2] at h3
      rw [st_faults a2.1 h3]
      exact ⟨a1, a2⟩
  · rw [if_neg (fun q => ck (k1.symm.trans q))] at hg
    rw [e] at h3
    exact b26 (by decide) h3 hg
theorem st_shade {U : MS} {l : Int32} {kk : MS → Option MS} (q : 0 < (U.1 5).toInt) (hf : fr_readShade_b44 kk U l = some S1) : S1 = U := by
  unfold fr_readShade_b44 at hf
  obtain ⟨U2, f2, hf⟩ := obind_some hf
  rw [st_next q f2] at hf
  obtain ⟨v5, e5, hf⟩ := elet_some hf
  rw [if_neg (st_le q e5)] at hf
  exact (osome1 hf).symm
theorem st_filt {U : MS} {kk : MS → Option MS} (q : 0 < (U.1 5).toInt) (hf : fr_readFilter_b65 kk U = some S1) : S1 = U := by
  unfold fr_readFilter_b65 at hf
  obtain ⟨w5, U2, f2, hf⟩ := obind2_some hf
  rw [st_signed q f2] at hf
  obtain ⟨v5, e5, hf⟩ := elet_some hf
  rw [if_neg (st_le q e5)] at hf
  exact (osome1 hf).symm
/-- the weights behind the first one -/
theorem k_shl (hs : s = 478 ∨ s = 656) : ∀ (f f2 : Nat) {i j k : Nat} {r : Int32} {T T1 : AT} {S S1 : MS}, PRq b n c i T S → SRF s T → SCNq s T (S.2.1 11) (S.2.1 13) → S.2.1 11 118 = nI j → 1 ≤ j → j ≤ 12 → g_X3_parseShade_b30 f T 6 s (nI j) = some (k, r, T1) → (elet (S.1 7) fun v14 => if v14 = 3 then (fr_readShade_b19 f2 S) else (some S)) = some S1 → (k = 0 ∧ (∃ j, i ≤ j ∧ PRq b n c j T1 S1) ∧ SCNq s T1 (S1.2.1 11) (S1.2.1 13) ∧ T1.2.2.2.2 = T.2.2.2.2) ∨ (k = 3 ∧ ERq T1 S1) := by
  intro f
  induction f with
  | zero => intro f2 i j k r T T1 S S1 p hF hC hj h1 h12 hg hf; cases hg
  | succ f ih =>
    intro f2 i j k r T T1 S S1 p hF hC hj h1 h12 hg hf
    have qt := p.2.2.2.2.2.2.2
    unfold g_X3_parseShade_b30 at hg
    rw [if_neg (by intro q; have := (nI_ltI (a := 12) (b := j) (by omega) (by omega)).mp q; omega)] at hg
    obtain ⟨-, hg⟩ := oif_some hg
    obtain ⟨r6, T4, e6, hg⟩ := obind2_some hg
    obtain ⟨k1, k2⟩ := k_kind p e6
    rw [k2] at hg
    obtain ⟨v14, e14, hf⟩ := elet_some hf
    by_cases ck : kd b n (pst b n i) = 2
    · rw [if_pos (k1.trans ck)] at hg
      rw [if_pos (e14.trans ((tk_num qt).mpr ck))] at hf
      cases f2 with
      | zero => cases hf
      | succ f2 =>
        unfold fr_readShade_b19 at hf
        obtain ⟨r5, S2, fS2, hf⟩ := obind2_some hf
        obtain ⟨v6, e6', hf⟩ := elet_some hf
        by_cases c12 : j = 12
        · rw [if_pos (by rw [c12]; rfl)] at hg
          obtain ⟨-, hg⟩ := oif_some hg
          have p118 : S2.2.1 11 118 = S.2.1 11 118 := by
            have := (w_fr_look fS2).2 11 (by decide)
            rw [this]
          rw [if_pos (by rw [e6', p118, hj, c12]; rfl)] at hf
          obtain ⟨S8, f8, hf⟩ := obind_some hf
          right
          rcases othr_k hg with ⟨r9, g9, -⟩ | ⟨r9, T9, g9, -⟩
          · obtain ⟨a1, a2⟩ := k_many rfl p g9 (.inl ⟨ck, r5, fS2⟩) f8
            rw [st_shade a2.1 hf]
            exact ⟨a1, a2⟩
          · exact absurd (k_many rfl p g9 (.inl ⟨ck, r5, fS2⟩) f8).1 (by decide)
        · rw [if_neg (by intro q; exact c12 ((nI_eq (a := j) (b := 12) (by omega) (by decide)).mp q))] at hg
          unfold g_X3_parseShade_b56 at hg
          obtain ⟨-, hg⟩ := oif_some hg
          have p118 : S2.2.1 11 118 = S.2.1 11 118 := by
            have := (w_fr_look fS2).2 11 (by decide)
            rw [this]
          rw [if_neg (by rw [e6', p118, hj]; intro q; exact c12 ((nI_eq (a := j) (b := 12) (by omega) (by decide)).mp q))] at hf
          rcases othr_k hg with ⟨r9, g9, z9⟩ | ⟨r5', T3, g9, hg⟩
          · rcases k_look p g9 fS2 with ⟨z, -⟩ | ⟨z1, z2⟩
            · exact absurd z z9
            · exact .inr ⟨z1, by rw [st_shade z2.1 hf]; exact z2⟩
          rcases k_look p g9 fS2 with ⟨-, qr, -, -, -, e3, e2⟩ | ⟨z1, -⟩
          rotate_left
          · exact absurd z1 (by decide)
          rw [e2] at hf
          unfold fr_readShade_b44 at hf
          obtain ⟨U2, fU2, hf⟩ := obind_some hf
          obtain ⟨p3, m3⟩ := pr_adv p (by rw [ck]; decide) fU2
          rw [← e3] at p3
          obtain ⟨v5, e5, hf⟩ := elet_some hf
          rw [if_pos (by rw [e5, p3.2.2.1]; decide)] at hf
          obtain ⟨v7, e7, hf⟩ := elet_some hf
          rw [m3.1, hj] at e7
          obtain ⟨v8, e8, hf⟩ := elet_some hf
          have k8 : v8 = nI (119 + j) := by rw [e8, e7]; exact nI_add 119 j
          obtain ⟨-, hf⟩ := oif_some hf
          obtain ⟨S10, e10, hf⟩ := elet_some hf
          rw [k8, nI_clamp (by omega), qr] at e10
          obtain ⟨v11, e11, hf⟩ := elet_some hf
          rw [e10, mf_at] at e11
          have e11 : v11 = nI j := by
            rw [e11]
            show (if 118 = 119 + j then r5' else U2.2.1 11 118) = _
            rw [if_neg (by omega), m3.1, hj]
          obtain ⟨v12, e12, hf⟩ := elet_some hf
          rw [e11, nI_1] at e12
          obtain ⟨S13, e13, hf⟩ := elet_some hf
          rw [e12] at e13
          obtain ⟨-, hg⟩ := oif_some hg
          obtain ⟨T8, e8', hg⟩ := obind_some hg
          obtain ⟨v10, e10', hg⟩ := elet_some hg
          have e10' : v10 = nI (j + 1) := e10'.trans (nI_1 j)
          rw [e10'] at hg
          have t3 : TFq T T3 := by rw [e3]; exact tf6
          have r3 : T3.2.2.2.2 = T.2.2.2.2 := congrArg (fun x => x.2) t3.2.2.1
          obtain ⟨a1, a2, a3, a4⟩ := k_shd (w := 0) (x := 0) hs (hF.sub r3) (by rw [m3.1]; exact scn_tf hs t3 hC) (by rw [m3.1]; exact hj) (by omega) e8' p3 e10 e13
          rcases ih f2 a1 (hF.sub (a3.trans r3)) a2 a4 (by omega) (by omega) hg hf with ⟨y1, ⟨j2, y2, y3⟩, y4, y5⟩ | y
          · exact .inl ⟨y1, ⟨j2, by omega, y3⟩, y4, y5.trans (a3.trans r3)⟩
          · exact .inr y
    · rw [if_neg (fun q => ck (k1.symm.trans q))] at hg
      rw [if_neg (fun q => ck ((tk_num qt).mp (e14.symm.trans q)))] at hf
      have g := osome3 (show some ((0 : Nat), (0 : Int32), T) = some (k, r, T1) from hg)
      have ff := osome1 hf
      rw [← ff, ← g.2.2]
      exact .inl ⟨g.1.symm, ⟨i, Nat.le_refl _, p⟩, hC, rfl⟩
set_option maxHeartbeats 400000 in
theorem l_shade (h : PRq b n c i T S) (hk : kd b n (pst b n i) = 1) (hs : s = 478 ∨ s = 656) (hF : SRF s T) (hC : SCNq s T (S.2.1 11) (S.2.1 13)) (hg : g_X3_parseShade T 6 s = some (k, r, T1)) (hf : fr_readShade S = some S1) : LNq b n c i s T T1 S1 k := by
  have hsb : 478 ≤ s ∧ s ≤ 656 := by omega
  obtain ⟨mc, b1, b2, b3, b4⟩ := hC.2.2.2.2.2.2.2.2.1
  have z0 : (0 : Int32).toInt = 0 := by decide
  have qm : (nI mc).toInt = (mc : Int) := nI_toInt (by omega)
  unfold g_X3_parseShade at hg
  obtain ⟨-, hg⟩ := oif_some hg
  obtain ⟨v3, ev3, hg⟩ := elet_some hg
  rw [b2] at ev3
  unfold fr_readShade at hf
  obtain ⟨v2, ev2, hf⟩ := elet_some hf
  rw [b3] at ev2
  have key : ∃ (a0 : Int32) (Sa : MS), g_X3_parseShade_b13 T a0 6 6 s = some (k, r, T1) ∧ fr_readShade_b15 Sa = some S1 ∧ ((a0 = 0 ∧ Sa = S) ∨ (a0 ≠ 0 ∧ fr_faults S 3 = some Sa)) ∧ (a0 = 0 → mc = 0) := by
    by_cases cm : nI mc ≤ 0
    · rw [ev3, if_pos cm] at hg
      rw [ev2, if_pos cm] at hf
      have := i_le cm
      exact ⟨0, S, hg, hf, .inl ⟨rfl, rfl⟩, fun _ => by omega⟩
    · rw [ev3, if_neg cm] at hg
      rw [ev2, if_neg cm] at hf
      obtain ⟨S4, f4, hf⟩ := obind_some hf
      exact ⟨1, S4, hg, hf, .inr ⟨by decide, f4⟩, fun q => absurd q (by decide)⟩
  obtain ⟨a0, Sa, hg, hf, hcase, hmc⟩ := key
  unfold fr_readShade_b15 at hf
  obtain ⟨S2, fS2, hf⟩ := obind_some hf
  have fin19 : ∀ (f : Nat) {U : MS}, 0 < (U.1 5).toInt → fr_readShade_b19 f U = some S1 → S1 = U := by
    intro f U q hf
    cases f with
    | zero => cases hf
    | succ f =>
      unfold fr_readShade_b19 at hf
      obtain ⟨w5, U2, f2, hf⟩ := obind2_some hf
      rw [st_look q f2] at hf
      obtain ⟨v6, e6, hf⟩ := elet_some hf
      by_cases cc : v6 = 12
      · rw [if_pos cc] at hf
        obtain ⟨U8, f8, hf⟩ := obind_some hf
        rw [st_faults q f8] at hf
        exact st_shade q hf
      · rw [if_neg cc] at hf
        exact st_shade q hf
  unfold g_X3_parseShade_b13 at hg
  obtain ⟨-, hg⟩ := oif_some hg
  rcases othr_k hg with ⟨r9, g9, z9⟩ | ⟨r5, T3, g9, hg⟩
  · rcases k_line h hk (by decide) g9 hcase fS2 with ⟨z, -⟩ | ⟨z1, z2⟩
    · exact absurd z z9
    · exact .inr ⟨z1, by rw [fin19 _ z2.1 hf]; exact z2⟩
  rcases k_line h hk (by decide) g9 hcase fS2 with ⟨-, p3, t3, m2, za⟩ | ⟨z1, -⟩
  rotate_left
  · exact absurd z1 (by decide)
  have e0 := hmc za
  subst e0
  obtain ⟨-, hg⟩ := oif_some hg
  have hf : fr_readShade_b19 (16383 + 1) S2 = some S1 := hf
  unfold fr_readShade_b19 at hf
  obtain ⟨w5, S3, f3, hf⟩ := obind2_some hf
  obtain ⟨v6, e6, hf⟩ := elet_some hf
  have p118 : S3.2.1 11 118 = nI 0 := by
    have := (w_fr_look f3).2 11 (by decide)
    rw [this, m2.1, b3]
  rw [if_neg (by rw [e6, p118]; decide)] at hf
  rcases othr_k hg with ⟨r9, g9, z9⟩ | ⟨r10, T8, g9, hg⟩
  · rcases k_look p3 g9 f3 with ⟨z, -⟩ | ⟨z1, z2⟩
    · exact absurd z z9
    · exact .inr ⟨z1, by rw [st_shade z2.1 hf]; exact z2⟩
  rcases k_look p3 g9 f3 with ⟨-, qr, -, -, ck, e8, e3⟩ | ⟨z1, -⟩
  rotate_left
  · exact absurd z1 (by decide)
  rw [e3] at hf
  unfold fr_readShade_b44 at hf
  obtain ⟨U2, fU2, hf⟩ := obind_some hf
  obtain ⟨p8, m8⟩ := pr_adv p3 (by rw [ck]; decide) fU2
  rw [← e8] at p8
  have PU : U2.2 = S.2 := m8.1.trans m2.1
  obtain ⟨v5, e5, hf⟩ := elet_some hf
  rw [if_pos (by rw [e5, p8.2.2.1]; decide)] at hf
  obtain ⟨v7, e7, hf⟩ := elet_some hf
  rw [PU, b3] at e7
  obtain ⟨v8, e8', hf⟩ := elet_some hf
  have k8 : v8 = nI (119 + 0) := by rw [e8', e7]; exact nI_add 119 0
  obtain ⟨-, hf⟩ := oif_some hf
  obtain ⟨S10, e10, hf⟩ := elet_some hf
  rw [k8, nI_clamp (by omega), qr] at e10
  obtain ⟨v11, e11, hf⟩ := elet_some hf
  rw [e10, mf_at] at e11
  have e11 : v11 = nI 0 := by
    rw [e11]
    show (if 118 = 119 + 0 then r10 else U2.2.1 11 118) = _
    rw [if_neg (by omega), PU, b3]
  obtain ⟨v12, e12, hf⟩ := elet_some hf
  rw [e11, nI_1] at e12
  obtain ⟨S13, e13, hf⟩ := elet_some hf
  rw [e12] at e13
  obtain ⟨-, hg⟩ := oif_some hg
  obtain ⟨T13, e13', hg⟩ := obind_some hg
  have t8 : TFq T T8 := by rw [e8]; exact t3.tr tf6
  have r8 : T8.2.2.2.2 = T.2.2.2.2 := congrArg (fun x => x.2) t8.2.2.1
  obtain ⟨a1, a2, a3, a4⟩ := k_shd (w := 0) (x := 0) hs (hF.sub r8) (by rw [PU]; exact scn_tf hs t8 hC) (by rw [PU]; exact b3) (by omega) e13' p8 e10 e13
  rcases k_shl hs 16384 16383 a1 (hF.sub (a3.trans r8)) a2 a4 (by omega) (by omega) hg hf with ⟨y1, ⟨j2, y2, y3⟩, y4, y5⟩ | y
  · exact .inl ⟨y1, ⟨j2, by omega, y3⟩, y4, y5.trans (a3.trans r8)⟩
  · exact .inr y
end
