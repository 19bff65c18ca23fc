set_option maxHeartbeats 4000000 in
set_option maxRecDepth 10000 in
theorem l_mic {b : Nat → Int32} {n c i k s : Nat} {T T1 : AT} {S S1 : MS} {r : Int32} (h : PRq b n c i T S) (hk : kd b n (pst b n i) = 1) (hs : s = 478 ∨ s = 656) (hF : SRF s T) (hC : SCNq s T (S.2.1 11) (S.2.1 13)) (hg : g_X3_parseMic T 6 s = some (k, r, T1)) (hf : fr_readMic S = some S1) : LNq b n c i s T T1 S1 k := by
  have hsb : 478 ≤ s ∧ s ≤ 656 := by omega
  obtain ⟨gH, gM, gG, gS, gW, gF, gT, gZ, gD, gX⟩ := hC
  obtain ⟨F1, F2, F3, F4, F5, F6, F7, F8, F9, F10, F11, F12, F13, F14, F15⟩ := hF
  obtain ⟨mc, b1, b2, b3, b4, b5⟩ := gM
  unfold g_X3_parseMic at hg
  obtain ⟨-, hg⟩ := oif_some hg
  obtain ⟨v3, ev3, hg⟩ := elet_some hg
  rw [b2] at ev3
  unfold fr_readMic at hf
  obtain ⟨v2, ev2, hf⟩ := elet_some hf
  rw [b3] at ev2
  have key : ∃ (a0 : Int32) (Sa : MS), g_X3_parseMic_b15 T a0 6 6 s = some (k, r, T1) ∧ fr_readMic_b18 Sa v2 = some S1 ∧ ((a0 = 0 ∧ Sa = S) ∨ (a0 ≠ 0 ∧ fr_faults S 4 = some Sa)) ∧ (a0 = 0 → mc < 12) := by
    by_cases cm : mc < 12
    · rw [if_pos (by rw [ev3]; exact nI_lt (a := mc) (b := 12) cm (by decide))] at hg
      rw [if_neg (fun q => by rw [ev2] at q; have := (nI_eq (a := mc) (b := 12) (by omega) (by decide)).mp q; omega)] at hf
      exact ⟨0, S, hg, hf, .inl ⟨rfl, rfl⟩, fun _ => cm⟩
    · rw [if_neg (by rw [ev3]; exact nI_nlt (a := mc) (b := 12) (by omega) (by omega))] at hg
      rw [if_pos (by rw [ev2, show mc = 12 from by omega]; rfl)] at hf
      obtain ⟨S4, f4, hf⟩ := obind_some hf
      exact ⟨1, S4, hg, hf, .inr ⟨by decide, f4⟩, fun q => absurd q (by decide)⟩
  obtain ⟨a0, Sa, hg, hf, hcase, hmc⟩ := key
  unfold fr_readMic_b18 at hf
  obtain ⟨S2, fS2, hf⟩ := obind_some hf
  obtain ⟨r8, S5, fS5, hf⟩ := obind2_some hf
  obtain ⟨r12, S9, fS9, hf⟩ := obind2_some hf
  obtain ⟨r16, S13, fS13, hf⟩ := obind2_some hf
  obtain ⟨v17, ev17, hf⟩ := elet_some hf
  have fin_S13 : 0 < (S13.1 5).toInt → S1 = S13 := fun q => by rw [if_neg (st_le q ev17)] at hf; exact (osome1 (show some S13 = some S1 from hf)).symm
  have fin_S9 : 0 < (S9.1 5).toInt → S1 = S9 := fun q => by have e := (st_number q fS13); exact (fin_S13 (by rw [e]; exact q)).trans e
  have fin_S5 : 0 < (S5.1 5).toInt → S1 = S5 := fun q => by have e := (st_signed q fS9); exact (fin_S9 (by rw [e]; exact q)).trans e
  have fin_S2 : 0 < (S2.1 5).toInt → S1 = S2 := fun q => by have e := (st_signed q fS5); exact (fin_S5 (by rw [e]; exact q)).trans e
  unfold g_X3_parseMic_b15 at hg
  obtain ⟨-, hg⟩ := oif_some hg
  rcases othr_k hg with ⟨r9, g9, z0⟩ | ⟨r5c, T3c, g9, hg⟩
  · rcases k_line h hk (by decide) g9 hcase fS2 with ⟨z, -⟩ | ⟨z1, z2⟩
    · exact absurd z z0
    · exact .inr ⟨z1, by rw [fin_S2 z2.1]; exact z2⟩
  rcases k_line h hk (by decide) g9 hcase fS2 with ⟨-, p_T3c, tf_T3c, m0, za⟩ | ⟨z1, -⟩
  rotate_left
  · exact absurd z1 (by decide)
  have cmc := hmc za
  have r_T3c : T3c.2.2.2.2 = T.2.2.2.2 := congrArg (fun x => x.2) tf_T3c.2.2.1
  have hI_T3c : ∀ m j : Nat, m ≠ 6 → T3c.2.2.1 m j = T.2.2.1 m j := fun m j h6 => by rw [tf_T3c.2.2.2 m j h6]
  obtain ⟨-, hg⟩ := oif_some hg
  obtain ⟨n8c, en8c, hg⟩ := obind_some hg
  rw [r_T3c, F1] at en8c
  cases en8c
  obtain ⟨-, hg⟩ := oif_some hg
  obtain ⟨v10c, ev10c, hg⟩ := elet_some hg
  rw [hI_T3c _ _ (by omega)] at ev10c
  rw [b2] at ev10c
  have k_v10c : v10c = nI mc := ev10c
  obtain ⟨-, hg⟩ := oif_some hg
  obtain ⟨-, hg⟩ := oif_some hg
  obtain ⟨n13c, en13c, hg⟩ := obind_some hg
  rw [k_v10c, nI_clamp (by omega)] at en13c
  rw [r_T3c, F9 _ (by omega)] at en13c
  cases en13c
  obtain ⟨-, hg⟩ := oif_some hg
  rcases othr_k hg with ⟨r9, g9, z0⟩ | ⟨r17c, T15c, g9, hg⟩
  · rcases k_signed p_T3c g9 fS5 with ⟨z, -⟩ | ⟨z1, z2⟩
    · exact absurd z z0
    · exact .inr ⟨z1, by rw [fin_S5 z2.1]; exact z2⟩
  rcases k_signed p_T3c g9 fS5 with ⟨-, q_r17c, ⟨i_T15c, l_T15c, p_T15c⟩, tf_T15c, mf_T15c⟩ | ⟨z1, -⟩
  rotate_left
  · exact absurd z1 (by decide)
  have r_T15c : T15c.2.2.2.2 = T.2.2.2.2 := (congrArg (fun x => x.2) tf_T15c.2.2.1).trans r_T3c
  have hI_T15c : ∀ m j : Nat, m ≠ 6 → T15c.2.2.1 m j = T.2.2.1 m j := fun m j h6 => by rw [tf_T15c.2.2.2 m j h6, hI_T3c m j h6]
  have mm_T15c := MFq.tr m0 mf_T15c
  obtain ⟨-, hg⟩ := oif_some hg
  obtain ⟨T20c, eT20c, hg⟩ := elet_some hg
  have r_T20c : T20c.2.2.2.2 = T.2.2.2.2 := by rw [eT20c]; exact r_T15c
  have hI_T20c : ∀ m j : Nat, m ≠ 6 → T20c.2.2.1 m j = if m = (s + 160 + mc) ∧ j = 0 then r17c else T.2.2.1 m j := fun m j h6 => by rw [eT20c, ui_get, hI_T15c m j h6]
  have p_T20c := pr_uI (m := (s + 160 + mc)) (k := 0) (v := r17c) p_T15c (by omega)
  rw [← eT20c] at p_T20c
  obtain ⟨-, hg⟩ := oif_some hg
  rcases othr_k hg with ⟨r9, g9, z0⟩ | ⟨r24c, T22c, g9, hg⟩
  · rcases k_signed p_T20c g9 fS9 with ⟨z, -⟩ | ⟨z1, z2⟩
    · exact absurd z z0
    · exact .inr ⟨z1, by rw [fin_S9 z2.1]; exact z2⟩
  rcases k_signed p_T20c g9 fS9 with ⟨-, q_r24c, ⟨i_T22c, l_T22c, p_T22c⟩, tf_T22c, mf_T22c⟩ | ⟨z1, -⟩
  rotate_left
  · exact absurd z1 (by decide)
  have r_T22c : T22c.2.2.2.2 = T.2.2.2.2 := (congrArg (fun x => x.2) tf_T22c.2.2.1).trans r_T20c
  have hI_T22c : ∀ m j : Nat, m ≠ 6 → T22c.2.2.1 m j = if m = (s + 160 + mc) ∧ j = 0 then r17c else T.2.2.1 m j := fun m j h6 => by rw [tf_T22c.2.2.2 m j h6, hI_T20c m j h6]
  have mm_T22c := MFq.tr mm_T15c mf_T22c
  obtain ⟨-, hg⟩ := oif_some hg
  obtain ⟨T27c, eT27c, hg⟩ := elet_some hg
  have r_T27c : T27c.2.2.2.2 = T.2.2.2.2 := by rw [eT27c]; exact r_T22c
  have hI_T27c : ∀ m j : Nat, m ≠ 6 → T27c.2.2.1 m j = if m = (s + 160 + mc) ∧ j = 1 then r24c else if m = (s + 160 + mc) ∧ j = 0 then r17c else T.2.2.1 m j := fun m j h6 => by rw [eT27c, ui_get, hI_T22c m j h6]
  have p_T27c := pr_uI (m := (s + 160 + mc)) (k := 1) (v := r24c) p_T22c (by omega)
  rw [← eT27c] at p_T27c
  obtain ⟨-, hg⟩ := oif_some hg
  rcases othr_k hg with ⟨r9, g9, z0⟩ | ⟨r31c, T29c, g9, hg⟩
  · rcases k_number p_T27c g9 fS13 with ⟨z, -⟩ | ⟨z1, z2⟩
    · exact absurd z z0
    · exact .inr ⟨z1, by rw [fin_S13 z2.1]; exact z2⟩
  rcases k_number p_T27c g9 fS13 with ⟨-, q_r31c, lo_r31c, hi_r31c, p_T29c, tf_T29c, mf_T29c⟩ | ⟨z1, -⟩
  rotate_left
  · exact absurd z1 (by decide)
  have r_T29c : T29c.2.2.2.2 = T.2.2.2.2 := (congrArg (fun x => x.2) tf_T29c.2.2.1).trans r_T27c
  have hI_T29c : ∀ m j : Nat, m ≠ 6 → T29c.2.2.1 m j = if m = (s + 160 + mc) ∧ j = 1 then r24c else if m = (s + 160 + mc) ∧ j = 0 then r17c else T.2.2.1 m j := fun m j h6 => by rw [tf_T29c.2.2.2 m j h6, hI_T27c m j h6]
  have mm_T29c := MFq.tr mm_T22c mf_T29c
  obtain ⟨-, hg⟩ := oif_some hg
  obtain ⟨T34c, eT34c, hg⟩ := elet_some hg
  have r_T34c : T34c.2.2.2.2 = T.2.2.2.2 := by rw [eT34c]; exact r_T29c
  have hI_T34c : ∀ m j : Nat, m ≠ 6 → T34c.2.2.1 m j = if m = (s + 160 + mc) ∧ j = 2 then r31c else if m = (s + 160 + mc) ∧ j = 1 then r24c else if m = (s + 160 + mc) ∧ j = 0 then r17c else T.2.2.1 m j := fun m j h6 => by rw [eT34c, ui_get, hI_T29c m j h6]
  have p_T34c := pr_uI (m := (s + 160 + mc)) (k := 2) (v := r31c) p_T29c (by omega)
  rw [← eT34c] at p_T34c
  obtain ⟨-, hg⟩ := oif_some hg
  obtain ⟨T36c, eT36c, hg⟩ := elet_some hg
  have r_T36c : T36c.2.2.2.2 = T.2.2.2.2 := by rw [eT36c]; exact r_T34c
  have hI_T36c : ∀ m j : Nat, m ≠ 6 → T36c.2.2.1 m j = if m = (s + 160 + mc) ∧ j = 3 then 0 else if m = (s + 160 + mc) ∧ j = 2 then r31c else if m = (s + 160 + mc) ∧ j = 1 then r24c else if m = (s + 160 + mc) ∧ j = 0 then r17c else T.2.2.1 m j := fun m j h6 => by rw [eT36c, ui_get, hI_T34c m j h6]
  have p_T36c := pr_uI (m := (s + 160 + mc)) (k := 3) (v := 0) p_T34c (by omega)
  rw [← eT36c] at p_T36c
  obtain ⟨-, hg⟩ := oif_some hg
  obtain ⟨v38c, ev38c, hg⟩ := elet_some hg
  rw [hI_T36c _ _ (by omega)] at ev38c
  simp (disch := omega) only [if_neg, if_pos, and_self, and_true, true_and, and_false, false_and, if_true, if_false] at ev38c
  rw [b2] at ev38c
  have k_v38c : v38c = nI mc := ev38c
  obtain ⟨v39c, ev39c, hg⟩ := elet_some hg
  have k_v39c : v39c = nI (mc + 1) := by rw [ev39c, k_v38c]; exact nI_add (mc) 1
  obtain ⟨-, hg⟩ := oif_some hg
  obtain ⟨T41c, eT41c, hg⟩ := elet_some hg
  have r_T41c : T41c.2.2.2.2 = T.2.2.2.2 := by rw [eT41c]; exact r_T36c
  have hI_T41c : ∀ m j : Nat, m ≠ 6 → T41c.2.2.1 m j = if m = s ∧ j = 5 then v39c else if m = (s + 160 + mc) ∧ j = 3 then 0 else if m = (s + 160 + mc) ∧ j = 2 then r31c else if m = (s + 160 + mc) ∧ j = 1 then r24c else if m = (s + 160 + mc) ∧ j = 0 then r17c else T.2.2.1 m j := fun m j h6 => by rw [eT41c, ui_get, hI_T36c m j h6]
  have p_T41c := pr_uI (m := s) (k := 5) (v := v39c) p_T36c (by omega)
  rw [← eT41c] at p_T41c
  have g := osome3 hg
  rw [if_pos (by rw [ev17, p_T41c.2.2.1] <;> decide)] at hf
  obtain ⟨v19, ev19, hf⟩ := elet_some hf
  obtain ⟨-, hf⟩ := oif_some hf
  obtain ⟨S21, eS21, hf⟩ := elet_some hf
  obtain ⟨v22, ev22, hf⟩ := elet_some hf
  obtain ⟨-, hf⟩ := oif_some hf
  obtain ⟨S24, eS24, hf⟩ := elet_some hf
  obtain ⟨v25, ev25, hf⟩ := elet_some hf
  obtain ⟨-, hf⟩ := oif_some hf
  obtain ⟨S27, eS27, hf⟩ := elet_some hf
  obtain ⟨v28, ev28, hf⟩ := elet_some hf
  obtain ⟨v29, ev29, hf⟩ := elet_some hf
  obtain ⟨S30, eS30, hf⟩ := elet_some hf
  have k_l1 : v2 = nI mc := ev2
  have hP_S13 : ∀ x : Nat, S13.2.1 11 x = S.2.1 11 x := fun x => by rw [mm_T29c.1]
  have hD_S13 : ∀ x : Nat, S13.2.1 13 x = S.2.1 13 x := fun x => by rw [mm_T29c.1]
  have k_v19 : v19 = nI (11 + mc) := by rw [ev19, k_l1]; exact nI_add 11 (mc)
  rw [k_v19, nI_clamp (by omega)] at eS21
  have hP_S21 : ∀ x : Nat, S21.2.1 11 x = if x = (11 + mc) then r8 else S.2.1 11 x := fun x => by rw [eS21, mf_at]; show (if x = (11 + mc) then r8 else S13.2.1 11 x) = _; rw [hP_S13]
  have hD_S21 : ∀ x : Nat, S21.2.1 13 x = S.2.1 13 x := fun x => by rw [eS21, mf_ne (by decide), hD_S13]
  have k_v22 : v22 = nI (23 + mc) := by rw [ev22, k_l1]; exact nI_add 23 (mc)
  rw [k_v22, nI_clamp (by omega)] at eS24
  have hP_S24 : ∀ x : Nat, S24.2.1 11 x = if x = (23 + mc) then r12 else if x = (11 + mc) then r8 else S.2.1 11 x := fun x => by rw [eS24, mf_at]; show (if x = (23 + mc) then r12 else S21.2.1 11 x) = _; rw [hP_S21]
  have hD_S24 : ∀ x : Nat, S24.2.1 13 x = S.2.1 13 x := fun x => by rw [eS24, mf_ne (by decide), hD_S21]
  have k_v25 : v25 = nI (35 + mc) := by rw [ev25, k_l1]; exact nI_add 35 (mc)
  rw [k_v25, nI_clamp (by omega)] at eS27
  have hP_S27 : ∀ x : Nat, S27.2.1 11 x = if x = (35 + mc) then r16 else if x = (23 + mc) then r12 else if x = (11 + mc) then r8 else S.2.1 11 x := fun x => by rw [eS27, mf_at]; show (if x = (35 + mc) then r16 else S24.2.1 11 x) = _; rw [hP_S24]
  have hD_S27 : ∀ x : Nat, S27.2.1 13 x = S.2.1 13 x := fun x => by rw [eS27, mf_ne (by decide), hD_S24]
  rw [hP_S27] at ev28
  (try simp (disch := omega) only [if_neg, if_pos, and_self, and_true, true_and, and_false, false_and, if_true, if_false] at ev28)
  rw [b3] at ev28
  have k_v28 : v28 = nI mc := ev28
  have k_v29 : v29 = nI (mc + 1) := by rw [ev29, k_v28]; exact nI_add (mc) 1
  have hP_S30 : ∀ x : Nat, S30.2.1 11 x = if x = 4 then v29 else if x = (35 + mc) then r16 else if x = (23 + mc) then r12 else if x = (11 + mc) then r8 else S.2.1 11 x := fun x => by rw [eS30, mf_at]; show (if x = 4 then v29 else S27.2.1 11 x) = _; rw [hP_S27]
  have hD_S30 : ∀ x : Nat, S30.2.1 13 x = S.2.1 13 x := fun x => by rw [eS30, mf_ne (by decide), hD_S27]
  have p_S21 := pr_mfe p_T41c eS21 (by decide)
  have p_S24 := pr_mfe p_S21 eS24 (by decide)
  have p_S27 := pr_mfe p_S24 eS27 (by decide)
  have p_S30 := pr_mfe p_S27 eS30 (by decide)
  have eS := osome1 (show some S30 = some S1 from hf)
  rw [← g.2.2, ← eS]
  exact .inl ⟨g.1.symm, ⟨_, by omega, p_S30⟩, ⟨gH.cg (fun j hj => by rw [hI_T41c _ _ (by omega)]; try simp (disch := omega) only [if_neg, if_pos, and_self, and_true, true_and, and_false, false_and, if_true, if_false]) (fun j hj => by rw [hP_S30]; try simp (disch := omega) only [if_neg, if_pos, and_self, and_true, true_and, and_false, false_and, if_true, if_false]), ⟨mc + 1, by omega, (by rw [hI_T41c _ _ (by omega)]; (try simp (disch := omega) only [if_neg, if_pos, and_self, and_true, true_and, and_false, false_and, if_true, if_false]); try exact k_v39c), (by rw [hP_S30]; (try simp (disch := omega) only [if_neg, if_pos, and_self, and_true, true_and, and_false, false_and, if_true, if_false]); try exact k_v29), fun m hm => if e : m = mc then ⟨(by rw [e]; rw [hI_T41c _ _ (by omega), hP_S30]; (try simp (disch := omega) only [if_neg, if_pos, and_self, and_true, true_and, and_false, false_and, if_true, if_false]); try exact q_r17c.symm), (by rw [e]; rw [hI_T41c _ _ (by omega), hP_S30]; (try simp (disch := omega) only [if_neg, if_pos, and_self, and_true, true_and, and_false, false_and, if_true, if_false]); try exact q_r24c.symm), (by rw [e]; rw [hI_T41c _ _ (by omega), hP_S30]; (try simp (disch := omega) only [if_neg, if_pos, and_self, and_true, true_and, and_false, false_and, if_true, if_false]); try exact q_r31c.symm), (by rw [e]; rw [hI_T41c _ _ (by omega), hP_S30]; (try simp (disch := omega) only [if_neg, if_pos, and_self, and_true, true_and, and_false, false_and, if_true, if_false]); try exact (b5 mc (Nat.le_refl _) (by omega)).symm)⟩ else ⟨(by rw [hI_T41c _ _ (by omega), hP_S30]; (try simp (disch := omega) only [if_neg, if_pos, and_self, and_true, true_and, and_false, false_and, if_true, if_false]); try exact (b4 m (by omega)).1), (by rw [hI_T41c _ _ (by omega), hP_S30]; (try simp (disch := omega) only [if_neg, if_pos, and_self, and_true, true_and, and_false, false_and, if_true, if_false]); try exact (b4 m (by omega)).2.1), (by rw [hI_T41c _ _ (by omega), hP_S30]; (try simp (disch := omega) only [if_neg, if_pos, and_self, and_true, true_and, and_false, false_and, if_true, if_false]); try exact (b4 m (by omega)).2.2.1), (by rw [hI_T41c _ _ (by omega), hP_S30]; (try simp (disch := omega) only [if_neg, if_pos, and_self, and_true, true_and, and_false, false_and, if_true, if_false]); try exact (b4 m (by omega)).2.2.2)⟩, fun m hm hm2 => (by rw [hP_S30]; (try simp (disch := omega) only [if_neg, if_pos, and_self, and_true, true_and, and_false, false_and, if_true, if_false]); try exact b5 m (by omega) (by omega))⟩, gG.cg (fun k hk => by rw [hI_T41c _ _ (by omega)]; try simp (disch := omega) only [if_neg, if_pos, and_self, and_true, true_and, and_false, false_and, if_true, if_false]) (fun k => by rw [hI_T41c _ _ (by omega)]; try simp (disch := omega) only [if_neg, if_pos, and_self, and_true, true_and, and_false, false_and, if_true, if_false]) (fun j hj hj2 => by rw [hP_S30]; try simp (disch := omega) only [if_neg, if_pos, and_self, and_true, true_and, and_false, false_and, if_true, if_false]), gS.cg (by rw [hI_T41c _ _ (by omega)]; try simp (disch := omega) only [if_neg, if_pos, and_self, and_true, true_and, and_false, false_and, if_true, if_false]) (fun m k hm hm2 => by rw [hI_T41c _ _ (by omega)]; try simp (disch := omega) only [if_neg, if_pos, and_self, and_true, true_and, and_false, false_and, if_true, if_false]) (fun j hj => by rw [hP_S30]; try simp (disch := omega) only [if_neg, if_pos, and_self, and_true, true_and, and_false, false_and, if_true, if_false]) (fun j hj hj2 => by rw [hD_S30]; try simp (disch := omega) only [if_neg, if_pos, and_self, and_true, true_and, and_false, false_and, if_true, if_false]), gW.cg (by rw [hI_T41c _ _ (by omega)]; try simp (disch := omega) only [if_neg, if_pos, and_self, and_true, true_and, and_false, false_and, if_true, if_false]) (fun k => by rw [hI_T41c _ _ (by omega)]; try simp (disch := omega) only [if_neg, if_pos, and_self, and_true, true_and, and_false, false_and, if_true, if_false]) (fun k => by rw [hI_T41c _ _ (by omega)]; try simp (disch := omega) only [if_neg, if_pos, and_self, and_true, true_and, and_false, false_and, if_true, if_false]) (fun j hj hj2 => by rw [hP_S30]; try simp (disch := omega) only [if_neg, if_pos, and_self, and_true, true_and, and_false, false_and, if_true, if_false]), gF.cg (by rw [hI_T41c _ _ (by omega)]; try simp (disch := omega) only [if_neg, if_pos, and_self, and_true, true_and, and_false, false_and, if_true, if_false]) (by rw [hP_S30]; try simp (disch := omega) only [if_neg, if_pos, and_self, and_true, true_and, and_false, false_and, if_true, if_false]), gT.cg (by rw [hI_T41c _ _ (by omega)]; try simp (disch := omega) only [if_neg, if_pos, and_self, and_true, true_and, and_false, false_and, if_true, if_false]) (fun k => by rw [hI_T41c _ _ (by omega)]; try simp (disch := omega) only [if_neg, if_pos, and_self, and_true, true_and, and_false, false_and, if_true, if_false]) (fun j hj hj2 => by rw [hP_S30]; try simp (disch := omega) only [if_neg, if_pos, and_self, and_true, true_and, and_false, false_and, if_true, if_false]), gZ.cg (by rw [hI_T41c _ _ (by omega)]; try simp (disch := omega) only [if_neg, if_pos, and_self, and_true, true_and, and_false, false_and, if_true, if_false]) (fun m k hm hm2 => by rw [hI_T41c _ _ (by omega)]; try simp (disch := omega) only [if_neg, if_pos, and_self, and_true, true_and, and_false, false_and, if_true, if_false]) (fun j hj hj2 => by rw [hP_S30]; try simp (disch := omega) only [if_neg, if_pos, and_self, and_true, true_and, and_false, false_and, if_true, if_false]), gD.cg (by rw [hI_T41c _ _ (by omega)]; try simp (disch := omega) only [if_neg, if_pos, and_self, and_true, true_and, and_false, false_and, if_true, if_false]) (fun k => by rw [hI_T41c _ _ (by omega)]; try simp (disch := omega) only [if_neg, if_pos, and_self, and_true, true_and, and_false, false_and, if_true, if_false]) (fun j hj hj2 => by rw [hP_S30]; try simp (disch := omega) only [if_neg, if_pos, and_self, and_true, true_and, and_false, false_and, if_true, if_false]), (fun j hj => by rw [hD_S30]; (try simp (disch := omega) only [if_neg, if_pos, and_self, and_true, true_and, and_false, false_and, if_true, if_false]); try exact gX j hj)⟩, r_T41c⟩
set_option maxHeartbeats 4000000 in
set_option maxRecDepth 10000 in
theorem l_wall {b : Nat → Int32} {n c i k s : Nat} {T T1 : AT} {S S1 : MS} {r : Int32} (h : PRq b n c i T S) (hk : kd b n (pst b n i) = 1) (hs : s = 478 ∨ s = 656) (hF : SRF s T) (hC : SCNq s T (S.2.1 11) (S.2.1 13)) (hg : g_X3_parseWall T 6 s = some (k, r, T1)) (hf : fr_readWall S = some S1) : LNq b n c i s T T1 S1 k := by
  have hsb : 478 ≤ s ∧ s ≤ 656 := by omega
  obtain ⟨gH, gM, gG, gS, gW, gF, gT, gZ, gD, gX⟩ := hC
  obtain ⟨F1, F2, F3, F4, F5, F6, F7, F8, F9, F10, F11, F12, F13, F14, F15⟩ := hF
  obtain ⟨mc, b1, b2, b3, b4⟩ := gW
  unfold g_X3_parseWall at hg
  obtain ⟨-, hg⟩ := oif_some hg
  obtain ⟨v3, ev3, hg⟩ := elet_some hg
  rw [b2] at ev3
  unfold fr_readWall at hf
  obtain ⟨v2, ev2, hf⟩ := elet_some hf
  rw [b3] at ev2
  have key : ∃ (a0 : Int32) (Sa : MS), g_X3_parseWall_b14 T a0 6 6 s = some (k, r, T1) ∧ fr_readWall_b18 Sa v2 = some S1 ∧ ((a0 = 0 ∧ Sa = S) ∨ (a0 ≠ 0 ∧ fr_faults S 4 = some Sa)) ∧ (a0 = 0 → mc < 2) := by
    by_cases cm : mc < 2
    · rw [if_pos (by rw [ev3]; exact nI_lt (a := mc) (b := 2) cm (by decide))] at hg
      rw [if_neg (fun q => by rw [ev2] at q; have := (nI_eq (a := mc) (b := 2) (by omega) (by decide)).mp q; omega)] at hf
      exact ⟨0, S, hg, hf, .inl ⟨rfl, rfl⟩, fun _ => cm⟩
    · rw [if_neg (by rw [ev3]; exact nI_nlt (a := mc) (b := 2) (by omega) (by omega))] at hg
      rw [if_pos (by rw [ev2, show mc = 2 from by omega]; rfl)] at hf
      obtain ⟨S4, f4, hf⟩ := obind_some hf
      exact ⟨1, S4, hg, hf, .inr ⟨by decide, f4⟩, fun q => absurd q (by decide)⟩
  obtain ⟨a0, Sa, hg, hf, hcase, hmc⟩ := key
  unfold fr_readWall_b18 at hf
  obtain ⟨S2, fS2, hf⟩ := obind_some hf
  obtain ⟨r8, S5, fS5, hf⟩ := obind2_some hf
  obtain ⟨r12, S9, fS9, hf⟩ := obind2_some hf
  obtain ⟨v13, ev13, hf⟩ := elet_some hf
  have fin_S9 : 0 < (S9.1 5).toInt → S1 = S9 := fun q => by rw [if_neg (st_le q ev13)] at hf; exact (osome1 (show some S9 = some S1 from hf)).symm
  have fin_S5 : 0 < (S5.1 5).toInt → S1 = S5 := fun q => by have e := (st_number q fS9); exact (fin_S9 (by rw [e]; exact q)).trans e
  have fin_S2 : 0 < (S2.1 5).toInt → S1 = S2 := fun q => by have e := (st_signed q fS5); exact (fin_S5 (by rw [e]; exact q)).trans e
  unfold g_X3_parseWall_b14 at hg
  obtain ⟨-, hg⟩ := oif_some hg
  rcases othr_k hg with ⟨r9, g9, z0⟩ | ⟨r5c, T3c, g9, hg⟩
  · rcases k_line h hk (by decide) g9 hcase fS2 with ⟨z, -⟩ | ⟨z1, z2⟩
    · exact absurd z z0
    · exact .inr ⟨z1, by rw [fin_S2 z2.1]; exact z2⟩
  rcases k_line h hk (by decide) g9 hcase fS2 with ⟨-, p_T3c, tf_T3c, m0, za⟩ | ⟨z1, -⟩
  rotate_left
  · exact absurd z1 (by decide)
  have cmc := hmc za
  have r_T3c : T3c.2.2.2.2 = T.2.2.2.2 := congrArg (fun x => x.2) tf_T3c.2.2.1
  have hI_T3c : ∀ m j : Nat, m ≠ 6 → T3c.2.2.1 m j = T.2.2.1 m j := fun m j h6 => by rw [tf_T3c.2.2.2 m j h6]
  obtain ⟨-, hg⟩ := oif_some hg
  obtain ⟨n8c, en8c, hg⟩ := obind_some hg
  rw [r_T3c, F4] at en8c
  cases en8c
  obtain ⟨-, hg⟩ := oif_some hg
  obtain ⟨v10c, ev10c, hg⟩ := elet_some hg
  rw [hI_T3c _ _ (by omega)] at ev10c
  rw [b2] at ev10c
  have k_v10c : v10c = nI mc := ev10c
  obtain ⟨-, hg⟩ := oif_some hg
  rcases othr_k hg with ⟨r9, g9, z0⟩ | ⟨r14c, T12c, g9, hg⟩
  · rcases k_signed p_T3c g9 fS5 with ⟨z, -⟩ | ⟨z1, z2⟩
    · exact absurd z z0
    · exact .inr ⟨z1, by rw [fin_S5 z2.1]; exact z2⟩
  rcases k_signed p_T3c g9 fS5 with ⟨-, q_r14c, ⟨i_T12c, l_T12c, p_T12c⟩, tf_T12c, mf_T12c⟩ | ⟨z1, -⟩
  rotate_left
  · exact absurd z1 (by decide)
  have r_T12c : T12c.2.2.2.2 = T.2.2.2.2 := (congrArg (fun x => x.2) tf_T12c.2.2.1).trans r_T3c
  have hI_T12c : ∀ m j : Nat, m ≠ 6 → T12c.2.2.1 m j = T.2.2.1 m j := fun m j h6 => by rw [tf_T12c.2.2.2 m j h6, hI_T3c m j h6]
  have mm_T12c := MFq.tr m0 mf_T12c
  obtain ⟨-, hg⟩ := oif_some hg
  obtain ⟨-, hg⟩ := oif_some hg
  obtain ⟨T18c, eT18c, hg⟩ := elet_some hg
  rw [k_v10c, nI_clamp (by omega)] at eT18c
  have r_T18c : T18c.2.2.2.2 = T.2.2.2.2 := by rw [eT18c]; exact r_T12c
  have hI_T18c : ∀ m j : Nat, m ≠ 6 → T18c.2.2.1 m j = if m = (s + 11) ∧ j = mc then r14c else T.2.2.1 m j := fun m j h6 => by rw [eT18c, ui_get, hI_T12c m j h6]
  have p_T18c := pr_uI (m := (s + 11)) (k := mc) (v := r14c) p_T12c (by omega)
  rw [← eT18c] at p_T18c
  obtain ⟨-, hg⟩ := oif_some hg
  obtain ⟨n20c, en20c, hg⟩ := obind_some hg
  rw [r_T18c, F5] at en20c
  cases en20c
  obtain ⟨-, hg⟩ := oif_some hg
  obtain ⟨v22c, ev22c, hg⟩ := elet_some hg
  rw [hI_T18c _ _ (by omega)] at ev22c
  simp (disch := omega) only [if_neg, if_pos, and_self, and_true, true_and, and_false, false_and, if_true, if_false] at ev22c
  rw [b2] at ev22c
  have k_v22c : v22c = nI mc := ev22c
  obtain ⟨-, hg⟩ := oif_some hg
  rcases othr_k hg with ⟨r9, g9, z0⟩ | ⟨r26c, T24c, g9, hg⟩
  · rcases k_number p_T18c g9 fS9 with ⟨z, -⟩ | ⟨z1, z2⟩
    · exact absurd z z0
    · exact .inr ⟨z1, by rw [fin_S9 z2.1]; exact z2⟩
  rcases k_number p_T18c g9 fS9 with ⟨-, q_r26c, lo_r26c, hi_r26c, p_T24c, tf_T24c, mf_T24c⟩ | ⟨z1, -⟩
  rotate_left
  · exact absurd z1 (by decide)
  have r_T24c : T24c.2.2.2.2 = T.2.2.2.2 := (congrArg (fun x => x.2) tf_T24c.2.2.1).trans r_T18c
  have hI_T24c : ∀ m j : Nat, m ≠ 6 → T24c.2.2.1 m j = if m = (s + 11) ∧ j = mc then r14c else T.2.2.1 m j := fun m j h6 => by rw [tf_T24c.2.2.2 m j h6, hI_T18c m j h6]
  have mm_T24c := MFq.tr mm_T12c mf_T24c
  obtain ⟨-, hg⟩ := oif_some hg
  obtain ⟨-, hg⟩ := oif_some hg
  obtain ⟨T30c, eT30c, hg⟩ := elet_some hg
  rw [k_v22c, nI_clamp (by omega)] at eT30c
  have r_T30c : T30c.2.2.2.2 = T.2.2.2.2 := by rw [eT30c]; exact r_T24c
  have hI_T30c : ∀ m j : Nat, m ≠ 6 → T30c.2.2.1 m j = if m = (s + 12) ∧ j = mc then r26c else if m = (s + 11) ∧ j = mc then r14c else T.2.2.1 m j := fun m j h6 => by rw [eT30c, ui_get, hI_T24c m j h6]
  have p_T30c := pr_uI (m := (s + 12)) (k := mc) (v := r26c) p_T24c (by omega)
  rw [← eT30c] at p_T30c
  obtain ⟨-, hg⟩ := oif_some hg
  obtain ⟨v32c, ev32c, hg⟩ := elet_some hg
  rw [hI_T30c _ _ (by omega)] at ev32c
  simp (disch := omega) only [if_neg, if_pos, and_self, and_true, true_and, and_false, false_and, if_true, if_false] at ev32c
  rw [b2] at ev32c
  have k_v32c : v32c = nI mc := ev32c
  obtain ⟨v33c, ev33c, hg⟩ := elet_some hg
  have k_v33c : v33c = nI (mc + 1) := by rw [ev33c, k_v32c]; exact nI_add (mc) 1
  obtain ⟨-, hg⟩ := oif_some hg
  obtain ⟨T35c, eT35c, hg⟩ := elet_some hg
  have r_T35c : T35c.2.2.2.2 = T.2.2.2.2 := by rw [eT35c]; exact r_T30c
  have hI_T35c : ∀ m j : Nat, m ≠ 6 → T35c.2.2.1 m j = if m = s ∧ j = 11 then v33c else if m = (s + 12) ∧ j = mc then r26c else if m = (s + 11) ∧ j = mc then r14c else T.2.2.1 m j := fun m j h6 => by rw [eT35c, ui_get, hI_T30c m j h6]
  have p_T35c := pr_uI (m := s) (k := 11) (v := v33c) p_T30c (by omega)
  rw [← eT35c] at p_T35c
  have g := osome3 hg
  rw [if_pos (by rw [ev13, p_T35c.2.2.1] <;> decide)] at hf
  obtain ⟨v15, ev15, hf⟩ := elet_some hf
  obtain ⟨-, hf⟩ := oif_some hf
  obtain ⟨S17, eS17, hf⟩ := elet_some hf
  obtain ⟨v18, ev18, hf⟩ := elet_some hf
  obtain ⟨-, hf⟩ := oif_some hf
  obtain ⟨S20, eS20, hf⟩ := elet_some hf
  obtain ⟨v21, ev21, hf⟩ := elet_some hf
  obtain ⟨v22, ev22, hf⟩ := elet_some hf
  obtain ⟨S23, eS23, hf⟩ := elet_some hf
  have k_l1 : v2 = nI mc := ev2
  have hP_S9 : ∀ x : Nat, S9.2.1 11 x = S.2.1 11 x := fun x => by rw [mm_T24c.1]
  have hD_S9 : ∀ x : Nat, S9.2.1 13 x = S.2.1 13 x := fun x => by rw [mm_T24c.1]
  have k_v15 : v15 = nI (72 + mc) := by rw [ev15, k_l1]; exact nI_add 72 (mc)
  rw [k_v15, nI_clamp (by omega)] at eS17
  have hP_S17 : ∀ x : Nat, S17.2.1 11 x = if x = (72 + mc) then r8 else S.2.1 11 x := fun x => by rw [eS17, mf_at]; show (if x = (72 + mc) then r8 else S9.2.1 11 x) = _; rw [hP_S9]
  have hD_S17 : ∀ x : Nat, S17.2.1 13 x = S.2.1 13 x := fun x => by rw [eS17, mf_ne (by decide), hD_S9]
  have k_v18 : v18 = nI (74 + mc) := by rw [ev18, k_l1]; exact nI_add 74 (mc)
  rw [k_v18, nI_clamp (by omega)] at eS20
  have hP_S20 : ∀ x : Nat, S20.2.1 11 x = if x = (74 + mc) then r12 else if x = (72 + mc) then r8 else S.2.1 11 x := fun x => by rw [eS20, mf_at]; show (if x = (74 + mc) then r12 else S17.2.1 11 x) = _; rw [hP_S17]
  have hD_S20 : ∀ x : Nat, S20.2.1 13 x = S.2.1 13 x := fun x => by rw [eS20, mf_ne (by decide), hD_S17]
  rw [hP_S20] at ev21
  (try simp (disch := omega) only [if_neg, if_pos, and_self, and_true, true_and, and_false, false_and, if_true, if_false] at ev21)
  rw [b3] at ev21
  have k_v21 : v21 = nI mc := ev21
  have k_v22 : v22 = nI (mc + 1) := by rw [ev22, k_v21]; exact nI_add (mc) 1
  have hP_S23 : ∀ x : Nat, S23.2.1 11 x = if x = 71 then v22 else if x = (74 + mc) then r12 else if x = (72 + mc) then r8 else S.2.1 11 x := fun x => by rw [eS23, mf_at]; show (if x = 71 then v22 else S20.2.1 11 x) = _; rw [hP_S20]
  have hD_S23 : ∀ x : Nat, S23.2.1 13 x = S.2.1 13 x := fun x => by rw [eS23, mf_ne (by decide), hD_S20]
  have p_S17 := pr_mfe p_T35c eS17 (by decide)
  have p_S20 := pr_mfe p_S17 eS20 (by decide)
  have p_S23 := pr_mfe p_S20 eS23 (by decide)
  have eS := osome1 (show some S23 = some S1 from hf)
  rw [← g.2.2, ← eS]
  exact .inl ⟨g.1.symm, ⟨_, by omega, p_S23⟩, ⟨gH.cg (fun j hj => by rw [hI_T35c _ _ (by omega)]; try simp (disch := omega) only [if_neg, if_pos, and_self, and_true, true_and, and_false, false_and, if_true, if_false]) (fun j hj => by rw [hP_S23]; try simp (disch := omega) only [if_neg, if_pos, and_self, and_true, true_and, and_false, false_and, if_true, if_false]), gM.cg (by rw [hI_T35c _ _ (by omega)]; try simp (disch := omega) only [if_neg, if_pos, and_self, and_true, true_and, and_false, false_and, if_true, if_false]) (fun m k hm hm2 => by rw [hI_T35c _ _ (by omega)]; try simp (disch := omega) only [if_neg, if_pos, and_self, and_true, true_and, and_false, false_and, if_true, if_false]) (fun j hj => by rw [hP_S23]; try simp (disch := omega) only [if_neg, if_pos, and_self, and_true, true_and, and_false, false_and, if_true, if_false]), gG.cg (fun k hk => by rw [hI_T35c _ _ (by omega)]; try simp (disch := omega) only [if_neg, if_pos, and_self, and_true, true_and, and_false, false_and, if_true, if_false]) (fun k => by rw [hI_T35c _ _ (by omega)]; try simp (disch := omega) only [if_neg, if_pos, and_self, and_true, true_and, and_false, false_and, if_true, if_false]) (fun j hj hj2 => by rw [hP_S23]; try simp (disch := omega) only [if_neg, if_pos, and_self, and_true, true_and, and_false, false_and, if_true, if_false]), gS.cg (by rw [hI_T35c _ _ (by omega)]; try simp (disch := omega) only [if_neg, if_pos, and_self, and_true, true_and, and_false, false_and, if_true, if_false]) (fun m k hm hm2 => by rw [hI_T35c _ _ (by omega)]; try simp (disch := omega) only [if_neg, if_pos, and_self, and_true, true_and, and_false, false_and, if_true, if_false]) (fun j hj => by rw [hP_S23]; try simp (disch := omega) only [if_neg, if_pos, and_self, and_true, true_and, and_false, false_and, if_true, if_false]) (fun j hj hj2 => by rw [hD_S23]; try simp (disch := omega) only [if_neg, if_pos, and_self, and_true, true_and, and_false, false_and, if_true, if_false]), ⟨mc + 1, by omega, (by rw [hI_T35c _ _ (by omega)]; (try simp (disch := omega) only [if_neg, if_pos, and_self, and_true, true_and, and_false, false_and, if_true, if_false]); try exact k_v33c), (by rw [hP_S23]; (try simp (disch := omega) only [if_neg, if_pos, and_self, and_true, true_and, and_false, false_and, if_true, if_false]); try exact k_v22), fun m hm => if e : m = mc then ⟨(by rw [e]; rw [hI_T35c _ _ (by omega), hP_S23]; (try simp (disch := omega) only [if_neg, if_pos, and_self, and_true, true_and, and_false, false_and, if_true, if_false]); try exact q_r14c.symm), (by rw [e]; rw [hI_T35c _ _ (by omega), hP_S23]; (try simp (disch := omega) only [if_neg, if_pos, and_self, and_true, true_and, and_false, false_and, if_true, if_false]); try exact q_r26c.symm)⟩ else ⟨(by rw [hI_T35c _ _ (by omega), hP_S23]; (try simp (disch := omega) only [if_neg, if_pos, and_self, and_true, true_and, and_false, false_and, if_true, if_false]); try exact (b4 m (by omega)).1), (by rw [hI_T35c _ _ (by omega), hP_S23]; (try simp (disch := omega) only [if_neg, if_pos, and_self, and_true, true_and, and_false, false_and, if_true, if_false]); try exact (b4 m (by omega)).2)⟩⟩, gF.cg (by rw [hI_T35c _ _ (by omega)]; try simp (disch := omega) only [if_neg, if_pos, and_self, and_true, true_and, and_false, false_and, if_true, if_false]) (by rw [hP_S23]; try simp (disch := omega) only [if_neg, if_pos, and_self, and_true, true_and, and_false, false_and, if_true, if_false]), gT.cg (by rw [hI_T35c _ _ (by omega)]; try simp (disch := omega) only [if_neg, if_pos, and_self, and_true, true_and, and_false, false_and, if_true, if_false]) (fun k => by rw [hI_T35c _ _ (by omega)]; try simp (disch := omega) only [if_neg, if_pos, and_self, and_true, true_and, and_false, false_and, if_true, if_false]) (fun j hj hj2 => by rw [hP_S23]; try simp (disch := omega) only [if_neg, if_pos, and_self, and_true, true_and, and_false, false_and, if_true, if_false]), gZ.cg (by rw [hI_T35c _ _ (by omega)]; try simp (disch := omega) only [if_neg, if_pos, and_self, and_true, true_and, and_false, false_and, if_true, if_false]) (fun m k hm hm2 => by rw [hI_T35c _ _ (by omega)]; try simp (disch := omega) only [if_neg, if_pos, and_self, and_true, true_and, and_false, false_and, if_true, if_false]) (fun j hj hj2 => by rw [hP_S23]; try simp (disch := omega) only [if_neg, if_pos, and_self, and_true, true_and, and_false, false_and, if_true, if_false]), gD.cg (by rw [hI_T35c _ _ (by omega)]; try simp (disch := omega) only [if_neg, if_pos, and_self, and_true, true_and, and_false, false_and, if_true, if_false]) (fun k => by rw [hI_T35c _ _ (by omega)]; try simp (disch := omega) only [if_neg, if_pos, and_self, and_true, true_and, and_false, false_and, if_true, if_false]) (fun j hj hj2 => by rw [hP_S23]; try simp (disch := omega) only [if_neg, if_pos, and_self, and_true, true_and, and_false, false_and, if_true, if_false]), (fun j hj => by rw [hD_S23]; (try simp (disch := omega) only [if_neg, if_pos, and_self, and_true, true_and, and_false, false_and, if_true, if_false]); try exact gX j hj)⟩, r_T35c⟩
set_option maxHeartbeats 4000000 in
set_option maxRecDepth 10000 in
theorem l_zone {b : Nat → Int32} {n c i k s : Nat} {T T1 : AT} {S S1 : MS} {r : Int32} (h : PRq b n c i T S) (hk : kd b n (pst b n i) = 1) (hs : s = 478 ∨ s = 656) (hF : SRF s T) (hC : SCNq s T (S.2.1 11) (S.2.1 13)) (hg : g_X3_parseZone T 6 (s + 2) = some (k, r, T1)) (hf : fr_readZone S = some S1) : LNq b n c i s T T1 S1 k := by
  have hsb : 478 ≤ s ∧ s ≤ 656 := by omega
  obtain ⟨gH, gM, gG, gS, gW, gF, gT, gZ, gD, gX⟩ := hC
  obtain ⟨F1, F2, F3, F4, F5, F6, F7, F8, F9, F10, F11, F12, F13, F14, F15⟩ := hF
  obtain ⟨mc, b1, b2, b3, b4⟩ := gZ
  unfold g_X3_parseZone at hg
  obtain ⟨-, hg⟩ := oif_some hg
  obtain ⟨v3, ev3, hg⟩ := elet_some hg
  rw [b2] at ev3
  unfold fr_readZone at hf
  obtain ⟨v2, ev2, hf⟩ := elet_some hf
  rw [b3] at ev2
  have key : ∃ (a0 : Int32) (Sa : MS), g_X3_parseZone_b14 T a0 6 6 (s + 2) = some (k, r, T1) ∧ fr_readZone_b18 Sa v2 = some S1 ∧ ((a0 = 0 ∧ Sa = S) ∨ (a0 ≠ 0 ∧ fr_faults S 4 = some Sa)) ∧ (a0 = 0 → mc < 4) := by
    by_cases cm : mc < 4
    · rw [if_pos (by rw [ev3]; exact nI_lt (a := mc) (b := 4) cm (by decide))] at hg
      rw [if_neg (fun q => by rw [ev2] at q; have := (nI_eq (a := mc) (b := 4) (by omega) (by decide)).mp q; omega)] at hf
      exact ⟨0, S, hg, hf, .inl ⟨rfl, rfl⟩, fun _ => cm⟩
    · rw [if_neg (by rw [ev3]; exact nI_nlt (a := mc) (b := 4) (by omega) (by omega))] at hg
      rw [if_pos (by rw [ev2, show mc = 4 from by omega]; rfl)] at hf
      obtain ⟨S4, f4, hf⟩ := obind_some hf
      exact ⟨1, S4, hg, hf, .inr ⟨by decide, f4⟩, fun q => absurd q (by decide)⟩
  obtain ⟨a0, Sa, hg, hf, hcase, hmc⟩ := key
  unfold fr_readZone_b18 at hf
  obtain ⟨S2, fS2, hf⟩ := obind_some hf
  obtain ⟨v5, ev5, hf⟩ := elet_some hf
  obtain ⟨v6, ev6, hf⟩ := elet_some hf
  obtain ⟨r10, S7, fS7, hf⟩ := obind2_some hf
  obtain ⟨v11, ev11, hf⟩ := elet_some hf
  obtain ⟨v12, ev12, hf⟩ := elet_some hf
  obtain ⟨r16, S13, fS13, hf⟩ := obind2_some hf
  obtain ⟨v17, ev17, hf⟩ := elet_some hf
  obtain ⟨v18, ev18, hf⟩ := elet_some hf
  obtain ⟨r22, S19, fS19, hf⟩ := obind2_some hf
  obtain ⟨v23, ev23, hf⟩ := elet_some hf
  obtain ⟨v24, ev24, hf⟩ := elet_some hf
  obtain ⟨r28, S25, fS25, hf⟩ := obind2_some hf
  obtain ⟨v29, ev29, hf⟩ := elet_some hf
  have fin_S25 : 0 < (S25.1 5).toInt → S1 = S25 := fun q => by rw [if_neg (st_le q ev29)] at hf; exact (osome1 (show some S25 = some S1 from hf)).symm
  have fin_S19 : 0 < (S19.1 5).toInt → S1 = S19 := fun q => by have e := (st_number q fS25); exact (fin_S25 (by rw [e]; exact q)).trans e
  have fin_S13 : 0 < (S13.1 5).toInt → S1 = S13 := fun q => by have e := (st_number q fS19); exact (fin_S19 (by rw [e]; exact q)).trans e
  have fin_S7 : 0 < (S7.1 5).toInt → S1 = S7 := fun q => by have e := (st_number q fS13); exact (fin_S13 (by rw [e]; exact q)).trans e
  have fin_S2 : 0 < (S2.1 5).toInt → S1 = S2 := fun q => by have e := (st_number q fS7); exact (fin_S7 (by rw [e]; exact q)).trans e
  unfold g_X3_parseZone_b14 at hg
  obtain ⟨-, hg⟩ := oif_some hg
  rcases othr_k hg with ⟨r9, g9, z0⟩ | ⟨r5c, T3c, g9, hg⟩
  · rcases k_line h hk (by decide) g9 hcase fS2 with ⟨z, -⟩ | ⟨z1, z2⟩
    · exact absurd z z0
    · exact .inr ⟨z1, by rw [fin_S2 z2.1]; exact z2⟩
  rcases k_line h hk (by decide) g9 hcase fS2 with ⟨-, p_T3c, tf_T3c, m0, za⟩ | ⟨z1, -⟩
  rotate_left
  · exact absurd z1 (by decide)
  have cmc := hmc za
  have r_T3c : T3c.2.2.2.2 = T.2.2.2.2 := congrArg (fun x => x.2) tf_T3c.2.2.1
  have hI_T3c : ∀ m j : Nat, m ≠ 6 → T3c.2.2.1 m j = T.2.2.1 m j := fun m j h6 => by rw [tf_T3c.2.2.2 m j h6]
  obtain ⟨-, hg⟩ := oif_some hg
  obtain ⟨n8c, en8c, hg⟩ := obind_some hg
  rw [r_T3c, F12] at en8c
  cases en8c
  obtain ⟨-, hg⟩ := oif_some hg
  obtain ⟨v10c, ev10c, hg⟩ := elet_some hg
  rw [hI_T3c _ _ (by omega)] at ev10c
  rw [b2] at ev10c
  have k_v10c : v10c = nI mc := ev10c
  obtain ⟨-, hg⟩ := oif_some hg
  obtain ⟨-, hg⟩ := oif_some hg
  obtain ⟨n13c, en13c, hg⟩ := obind_some hg
  rw [k_v10c, nI_clamp (by omega)] at en13c
  rw [r_T3c, F13 _ (by omega)] at en13c
  cases en13c
  obtain ⟨-, hg⟩ := oif_some hg
  obtain ⟨v15c, ev15c, hg⟩ := elet_some hg
  rw [hI_T3c _ _ (by omega)] at ev15c
  rw [gG.1] at ev15c
  obtain ⟨v16c, ev16c, hg⟩ := elet_some hg
  obtain ⟨-, hg⟩ := oif_some hg
  have u1 : v16c = v6 := by rw [ev16c, ev15c, ev6, ev5, m0.1]
  rw [u1] at hg
  rcases othr_k hg with ⟨r9, g9, z0⟩ | ⟨r20c, T18c, g9, hg⟩
  · rcases k_number p_T3c g9 fS7 with ⟨z, -⟩ | ⟨z1, z2⟩
    · exact absurd z z0
    · exact .inr ⟨z1, by rw [fin_S7 z2.1]; exact z2⟩
  rcases k_number p_T3c g9 fS7 with ⟨-, q_r20c, lo_r20c, hi_r20c, p_T18c, tf_T18c, mf_T18c⟩ | ⟨z1, -⟩
  rotate_left
  · exact absurd z1 (by decide)
  have r_T18c : T18c.2.2.2.2 = T.2.2.2.2 := (congrArg (fun x => x.2) tf_T18c.2.2.1).trans r_T3c
  have hI_T18c : ∀ m j : Nat, m ≠ 6 → T18c.2.2.1 m j = T.2.2.1 m j := fun m j h6 => by rw [tf_T18c.2.2.2 m j h6, hI_T3c m j h6]
  have mm_T18c := MFq.tr m0 mf_T18c
  obtain ⟨-, hg⟩ := oif_some hg
  obtain ⟨-, hg⟩ := oif_some hg
  obtain ⟨T24c, eT24c, hg⟩ := elet_some hg
  rw [show (0 : Int32).toNatClampNeg = 0 from by decide] at eT24c
  have r_T24c : T24c.2.2.2.2 = T.2.2.2.2 := by rw [eT24c]; exact r_T18c
  have hI_T24c : ∀ m j : Nat, m ≠ 6 → T24c.2.2.1 m j = if m = (s + 5 + mc) ∧ j = 0 then r20c else T.2.2.1 m j := fun m j h6 => by rw [eT24c, ui_get, hI_T18c m j h6]
  have p_T24c := pr_uI (m := (s + 5 + mc)) (k := 0) (v := r20c) p_T18c (by omega)
  rw [← eT24c] at p_T24c
  obtain ⟨-, hg⟩ := oif_some hg
  obtain ⟨v26c, ev26c, hg⟩ := elet_some hg
  rw [hI_T24c _ _ (by omega)] at ev26c
  simp (disch := omega) only [if_neg, if_pos, and_self, and_true, true_and, and_false, false_and, if_true, if_false] at ev26c
  rw [gG.2.1] at ev26c
  obtain ⟨v27c, ev27c, hg⟩ := elet_some hg
  obtain ⟨-, hg⟩ := oif_some hg
  have u2 : v27c = v12 := by rw [ev27c, ev26c, ev12, ev11, mm_T18c.1]
  rw [u2] at hg
  rcases othr_k hg with ⟨r9, g9, z0⟩ | ⟨r31c, T29c, g9, hg⟩
  · rcases k_number p_T24c g9 fS13 with ⟨z, -⟩ | ⟨z1, z2⟩
    · exact absurd z z0
    · exact .inr ⟨z1, by rw [fin_S13 z2.1]; exact z2⟩
  rcases k_number p_T24c g9 fS13 with ⟨-, q_r31c, lo_r31c, hi_r31c, p_T29c, tf_T29c, mf_T29c⟩ | ⟨z1, -⟩
  rotate_left
  · exact absurd z1 (by decide)
  have r_T29c : T29c.2.2.2.2 = T.2.2.2.2 := (congrArg (fun x => x.2) tf_T29c.2.2.1).trans r_T24c
  have hI_T29c : ∀ m j : Nat, m ≠ 6 → T29c.2.2.1 m j = if m = (s + 5 + mc) ∧ j = 0 then r20c else T.2.2.1 m j := fun m j h6 => by rw [tf_T29c.2.2.2 m j h6, hI_T24c m j h6]
  have mm_T29c := MFq.tr mm_T18c mf_T29c
  obtain ⟨-, hg⟩ := oif_some hg
  obtain ⟨-, hg⟩ := oif_some hg
  obtain ⟨T35c, eT35c, hg⟩ := elet_some hg
  rw [show (1 : Int32).toNatClampNeg = 1 from by decide] at eT35c
  have r_T35c : T35c.2.2.2.2 = T.2.2.2.2 := by rw [eT35c]; exact r_T29c
  have hI_T35c : ∀ m j : Nat, m ≠ 6 → T35c.2.2.1 m j = if m = (s + 5 + mc) ∧ j = 1 then r31c else if m = (s + 5 + mc) ∧ j = 0 then r20c else T.2.2.1 m j := fun m j h6 => by rw [eT35c, ui_get, hI_T29c m j h6]
  have p_T35c := pr_uI (m := (s + 5 + mc)) (k := 1) (v := r31c) p_T29c (by omega)
  rw [← eT35c] at p_T35c
  obtain ⟨-, hg⟩ := oif_some hg
  obtain ⟨-, hg⟩ := oif_some hg
  obtain ⟨v38c, ev38c, hg⟩ := elet_some hg
  rw [show (0 : Int32).toNatClampNeg = 0 from by decide] at ev38c
  rw [hI_T35c _ _ (by omega)] at ev38c
  simp (disch := omega) only [if_neg, if_pos, and_self, and_true, true_and, and_false, false_and, if_true, if_false] at ev38c
  rw [ev38c] at hg
  obtain ⟨-, hg⟩ := oif_some hg
  obtain ⟨v40c, ev40c, hg⟩ := elet_some hg
  rw [hI_T35c _ _ (by omega)] at ev40c
  simp (disch := omega) only [if_neg, if_pos, and_self, and_true, true_and, and_false, false_and, if_true, if_false] at ev40c
  rw [gG.1] at ev40c
  obtain ⟨v41c, ev41c, hg⟩ := elet_some hg
  obtain ⟨-, hg⟩ := oif_some hg
  have u3 : v41c = v18 := by rw [ev41c, ev40c, ev18, ev17, mm_T29c.1]
  rw [u3] at hg
  rw [q_r20c] at fS19
  rcases othr_k hg with ⟨r9, g9, z0⟩ | ⟨r45c, T43c, g9, hg⟩
  · rcases k_number p_T35c g9 fS19 with ⟨z, -⟩ | ⟨z1, z2⟩
    · exact absurd z z0
    · exact .inr ⟨z1, by rw [fin_S19 z2.1]; exact z2⟩
  rcases k_number p_T35c g9 fS19 with ⟨-, q_r45c, lo_r45c, hi_r45c, p_T43c, tf_T43c, mf_T43c⟩ | ⟨z1, -⟩
  rotate_left
  · exact absurd z1 (by decide)
  have r_T43c : T43c.2.2.2.2 = T.2.2.2.2 := (congrArg (fun x => x.2) tf_T43c.2.2.1).trans r_T35c
  have hI_T43c : ∀ m j : Nat, m ≠ 6 → T43c.2.2.1 m j = if m = (s + 5 + mc) ∧ j = 1 then r31c else if m = (s + 5 + mc) ∧ j = 0 then r20c else T.2.2.1 m j := fun m j h6 => by rw [tf_T43c.2.2.2 m j h6, hI_T35c m j h6]
  have mm_T43c := MFq.tr mm_T29c mf_T43c
  obtain ⟨-, hg⟩ := oif_some hg
  obtain ⟨-, hg⟩ := oif_some hg
  obtain ⟨T49c, eT49c, hg⟩ := elet_some hg
  rw [show (2 : Int32).toNatClampNeg = 2 from by decide] at eT49c
  have r_T49c : T49c.2.2.2.2 = T.2.2.2.2 := by rw [eT49c]; exact r_T43c
  have hI_T49c : ∀ m j : Nat, m ≠ 6 → T49c.2.2.1 m j = if m = (s + 5 + mc) ∧ j = 2 then r45c else if m = (s + 5 + mc) ∧ j = 1 then r31c else if m = (s + 5 + mc) ∧ j = 0 then r20c else T.2.2.1 m j := fun m j h6 => by rw [eT49c, ui_get, hI_T43c m j h6]
  have p_T49c := pr_uI (m := (s + 5 + mc)) (k := 2) (v := r45c) p_T43c (by omega)
  rw [← eT49c] at p_T49c
  obtain ⟨-, hg⟩ := oif_some hg
  obtain ⟨-, hg⟩ := oif_some hg
  obtain ⟨v52c, ev52c, hg⟩ := elet_some hg
  rw [show (1 : Int32).toNatClampNeg = 1 from by decide] at ev52c
  rw [hI_T49c _ _ (by omega)] at ev52c
  simp (disch := omega) only [if_neg, if_pos, and_self, and_true, true_and, and_false, false_and, if_true, if_false] at ev52c
  rw [ev52c] at hg
  obtain ⟨-, hg⟩ := oif_some hg
  obtain ⟨v54c, ev54c, hg⟩ := elet_some hg
  rw [hI_T49c _ _ (by omega)] at ev54c
  simp (disch := omega) only [if_neg, if_pos, and_self, and_true, true_and, and_false, false_and, if_true, if_false] at ev54c
  rw [gG.2.1] at ev54c
  obtain ⟨v55c, ev55c, hg⟩ := elet_some hg
  obtain ⟨-, hg⟩ := oif_some hg
  have u4 : v55c = v24 := by rw [ev55c, ev54c, ev24, ev23, mm_T43c.1]
  rw [u4] at hg
  rw [q_r31c] at fS25
  rcases othr_k hg with ⟨r9, g9, z0⟩ | ⟨r59c, T57c, g9, hg⟩
  · rcases k_number p_T49c g9 fS25 with ⟨z, -⟩ | ⟨z1, z2⟩
    · exact absurd z z0
    · exact .inr ⟨z1, by rw [fin_S25 z2.1]; exact z2⟩
  rcases k_number p_T49c g9 fS25 with ⟨-, q_r59c, lo_r59c, hi_r59c, p_T57c, tf_T57c, mf_T57c⟩ | ⟨z1, -⟩
  rotate_left
  · exact absurd z1 (by decide)
  have r_T57c : T57c.2.2.2.2 = T.2.2.2.2 := (congrArg (fun x => x.2) tf_T57c.2.2.1).trans r_T49c
  have hI_T57c : ∀ m j : Nat, m ≠ 6 → T57c.2.2.1 m j = if m = (s + 5 + mc) ∧ j = 2 then r45c else if m = (s + 5 + mc) ∧ j = 1 then r31c else if m = (s + 5 + mc) ∧ j = 0 then r20c else T.2.2.1 m j := fun m j h6 => by rw [tf_T57c.2.2.2 m j h6, hI_T49c m j h6]
  have mm_T57c := MFq.tr mm_T43c mf_T57c
  obtain ⟨-, hg⟩ := oif_some hg
  obtain ⟨-, hg⟩ := oif_some hg
  obtain ⟨T63c, eT63c, hg⟩ := elet_some hg
  rw [show (3 : Int32).toNatClampNeg = 3 from by decide] at eT63c
  have r_T63c : T63c.2.2.2.2 = T.2.2.2.2 := by rw [eT63c]; exact r_T57c
  have hI_T63c : ∀ m j : Nat, m ≠ 6 → T63c.2.2.1 m j = if m = (s + 5 + mc) ∧ j = 3 then r59c else if m = (s + 5 + mc) ∧ j = 2 then r45c else if m = (s + 5 + mc) ∧ j = 1 then r31c else if m = (s + 5 + mc) ∧ j = 0 then r20c else T.2.2.1 m j := fun m j h6 => by rw [eT63c, ui_get, hI_T57c m j h6]
  have p_T63c := pr_uI (m := (s + 5 + mc)) (k := 3) (v := r59c) p_T57c (by omega)
  rw [← eT63c] at p_T63c
  obtain ⟨-, hg⟩ := oif_some hg
  obtain ⟨v65c, ev65c, hg⟩ := elet_some hg
  rw [hI_T63c _ _ (by omega)] at ev65c
  simp (disch := omega) only [if_neg, if_pos, and_self, and_true, true_and, and_false, false_and, if_true, if_false] at ev65c
  rw [b2] at ev65c
  have k_v65c : v65c = nI mc := ev65c
  obtain ⟨v66c, ev66c, hg⟩ := elet_some hg
  have k_v66c : v66c = nI (mc + 1) := by rw [ev66c, k_v65c]; exact nI_add (mc) 1
  obtain ⟨-, hg⟩ := oif_some hg
  obtain ⟨T68c, eT68c, hg⟩ := elet_some hg
  have r_T68c : T68c.2.2.2.2 = T.2.2.2.2 := by rw [eT68c]; exact r_T63c
  have hI_T68c : ∀ m j : Nat, m ≠ 6 → T68c.2.2.1 m j = if m = (s + 2) ∧ j = 7 then v66c else if m = (s + 5 + mc) ∧ j = 3 then r59c else if m = (s + 5 + mc) ∧ j = 2 then r45c else if m = (s + 5 + mc) ∧ j = 1 then r31c else if m = (s + 5 + mc) ∧ j = 0 then r20c else T.2.2.1 m j := fun m j h6 => by rw [eT68c, ui_get, hI_T63c m j h6]
  have p_T68c := pr_uI (m := (s + 2)) (k := 7) (v := v66c) p_T63c (by omega)
  rw [← eT68c] at p_T68c
  have g := osome3 hg
  rw [if_pos (by rw [ev29, p_T68c.2.2.1] <;> decide)] at hf
  obtain ⟨v31, ev31, hf⟩ := elet_some hf
  obtain ⟨v32, ev32, hf⟩ := elet_some hf
  obtain ⟨-, hf⟩ := oif_some hf
  obtain ⟨S34, eS34, hf⟩ := elet_some hf
  obtain ⟨v35, ev35, hf⟩ := elet_some hf
  obtain ⟨-, hf⟩ := oif_some hf
  obtain ⟨S37, eS37, hf⟩ := elet_some hf
  obtain ⟨v38, ev38, hf⟩ := elet_some hf
  obtain ⟨-, hf⟩ := oif_some hf
  obtain ⟨S40, eS40, hf⟩ := elet_some hf
  obtain ⟨v41, ev41, hf⟩ := elet_some hf
  obtain ⟨-, hf⟩ := oif_some hf
  obtain ⟨S43, eS43, hf⟩ := elet_some hf
  obtain ⟨v44, ev44, hf⟩ := elet_some hf
  obtain ⟨v45, ev45, hf⟩ := elet_some hf
  obtain ⟨S46, eS46, hf⟩ := elet_some hf
  have k_l1 : v2 = nI mc := ev2
  have hP_S25 : ∀ x : Nat, S25.2.1 11 x = S.2.1 11 x := fun x => by rw [mm_T57c.1]
  have hD_S25 : ∀ x : Nat, S25.2.1 13 x = S.2.1 13 x := fun x => by rw [mm_T57c.1]
  have k_v31 : v31 = nI (4 * mc) := by rw [ev31, k_l1]; rcases (show mc = 0 ∨ mc = 1 ∨ mc = 2 ∨ mc = 3 by omega) with y | y | y | y <;> rw [y] <;> decide
  have k_v32 : v32 = nI (102 + (4 * mc)) := by rw [ev32, k_v31]; exact nI_add 102 (4 * mc)
  rw [k_v32, nI_clamp (by omega)] at eS34
  have hP_S34 : ∀ x : Nat, S34.2.1 11 x = if x = (102 + (4 * mc)) then r10 else S.2.1 11 x := fun x => by rw [eS34, mf_at]; show (if x = (102 + (4 * mc)) then r10 else S25.2.1 11 x) = _; rw [hP_S25]
  have hD_S34 : ∀ x : Nat, S34.2.1 13 x = S.2.1 13 x := fun x => by rw [eS34, mf_ne (by decide), hD_S25]
  have k_v35 : v35 = nI (102 + (4 * mc) + 1) := by rw [ev35, k_v32]; exact nI_add (102 + (4 * mc)) 1
  rw [k_v35, nI_clamp (by omega)] at eS37
  have hP_S37 : ∀ x : Nat, S37.2.1 11 x = if x = (102 + (4 * mc) + 1) then r16 else if x = (102 + (4 * mc)) then r10 else S.2.1 11 x := fun x => by rw [eS37, mf_at]; show (if x = (102 + (4 * mc) + 1) then r16 else S34.2.1 11 x) = _; rw [hP_S34]
  have hD_S37 : ∀ x : Nat, S37.2.1 13 x = S.2.1 13 x := fun x => by rw [eS37, mf_ne (by decide), hD_S34]
  have k_v38 : v38 = nI (102 + (4 * mc) + 2) := by rw [ev38, k_v32]; exact nI_add (102 + (4 * mc)) 2
  rw [k_v38, nI_clamp (by omega)] at eS40
  have hP_S40 : ∀ x : Nat, S40.2.1 11 x = if x = (102 + (4 * mc) + 2) then r22 else if x = (102 + (4 * mc) + 1) then r16 else if x = (102 + (4 * mc)) then r10 else S.2.1 11 x := fun x => by rw [eS40, mf_at]; show (if x = (102 + (4 * mc) + 2) then r22 else S37.2.1 11 x) = _; rw [hP_S37]
  have hD_S40 : ∀ x : Nat, S40.2.1 13 x = S.2.1 13 x := fun x => by rw [eS40, mf_ne (by decide), hD_S37]
  have k_v41 : v41 = nI (102 + (4 * mc) + 3) := by rw [ev41, k_v32]; exact nI_add (102 + (4 * mc)) 3
  rw [k_v41, nI_clamp (by omega)] at eS43
  have hP_S43 : ∀ x : Nat, S43.2.1 11 x = if x = (102 + (4 * mc) + 3) then r28 else if x = (102 + (4 * mc) + 2) then r22 else if x = (102 + (4 * mc) + 1) then r16 else if x = (102 + (4 * mc)) then r10 else S.2.1 11 x := fun x => by rw [eS43, mf_at]; show (if x = (102 + (4 * mc) + 3) then r28 else S40.2.1 11 x) = _; rw [hP_S40]
  have hD_S43 : ∀ x : Nat, S43.2.1 13 x = S.2.1 13 x := fun x => by rw [eS43, mf_ne (by decide), hD_S40]
  rw [hP_S43] at ev44
  (try simp (disch := omega) only [if_neg, if_pos, and_self, and_true, true_and, and_false, false_and, if_true, if_false] at ev44)
  rw [b3] at ev44
  have k_v44 : v44 = nI mc := ev44
  have k_v45 : v45 = nI (mc + 1) := by rw [ev45, k_v44]; exact nI_add (mc) 1
  have hP_S46 : ∀ x : Nat, S46.2.1 11 x = if x = 101 then v45 else if x = (102 + (4 * mc) + 3) then r28 else if x = (102 + (4 * mc) + 2) then r22 else if x = (102 + (4 * mc) + 1) then r16 else if x = (102 + (4 * mc)) then r10 else S.2.1 11 x := fun x => by rw [eS46, mf_at]; show (if x = 101 then v45 else S43.2.1 11 x) = _; rw [hP_S43]
  have hD_S46 : ∀ x : Nat, S46.2.1 13 x = S.2.1 13 x := fun x => by rw [eS46, mf_ne (by decide), hD_S43]
  have p_S34 := pr_mfe p_T68c eS34 (by decide)
  have p_S37 := pr_mfe p_S34 eS37 (by decide)
  have p_S40 := pr_mfe p_S37 eS40 (by decide)
  have p_S43 := pr_mfe p_S40 eS43 (by decide)
  have p_S46 := pr_mfe p_S43 eS46 (by decide)
  have eS := osome1 (show some S46 = some S1 from hf)
  rw [← g.2.2, ← eS]
  exact .inl ⟨g.1.symm, ⟨_, by omega, p_S46⟩, ⟨gH.cg (fun j hj => by rw [hI_T68c _ _ (by omega)]; try simp (disch := omega) only [if_neg, if_pos, and_self, and_true, true_and, and_false, false_and, if_true, if_false]) (fun j hj => by rw [hP_S46]; try simp (disch := omega) only [if_neg, if_pos, and_self, and_true, true_and, and_false, false_and, if_true, if_false]), gM.cg (by rw [hI_T68c _ _ (by omega)]; try simp (disch := omega) only [if_neg, if_pos, and_self, and_true, true_and, and_false, false_and, if_true, if_false]) (fun m k hm hm2 => by rw [hI_T68c _ _ (by omega)]; try simp (disch := omega) only [if_neg, if_pos, and_self, and_true, true_and, and_false, false_and, if_true, if_false]) (fun j hj => by rw [hP_S46]; try simp (disch := omega) only [if_neg, if_pos, and_self, and_true, true_and, and_false, false_and, if_true, if_false]), gG.cg (fun k hk => by rw [hI_T68c _ _ (by omega)]; try simp (disch := omega) only [if_neg, if_pos, and_self, and_true, true_and, and_false, false_and, if_true, if_false]) (fun k => by rw [hI_T68c _ _ (by omega)]; try simp (disch := omega) only [if_neg, if_pos, and_self, and_true, true_and, and_false, false_and, if_true, if_false]) (fun j hj hj2 => by rw [hP_S46]; try simp (disch := omega) only [if_neg, if_pos, and_self, and_true, true_and, and_false, false_and, if_true, if_false]), gS.cg (by rw [hI_T68c _ _ (by omega)]; try simp (disch := omega) only [if_neg, if_pos, and_self, and_true, true_and, and_false, false_and, if_true, if_false]) (fun m k hm hm2 => by rw [hI_T68c _ _ (by omega)]; try simp (disch := omega) only [if_neg, if_pos, and_self, and_true, true_and, and_false, false_and, if_true, if_false]) (fun j hj => by rw [hP_S46]; try simp (disch := omega) only [if_neg, if_pos, and_self, and_true, true_and, and_false, false_and, if_true, if_false]) (fun j hj hj2 => by rw [hD_S46]; try simp (disch := omega) only [if_neg, if_pos, and_self, and_true, true_and, and_false, false_and, if_true, if_false]), gW.cg (by rw [hI_T68c _ _ (by omega)]; try simp (disch := omega) only [if_neg, if_pos, and_self, and_true, true_and, and_false, false_and, if_true, if_false]) (fun k => by rw [hI_T68c _ _ (by omega)]; try simp (disch := omega) only [if_neg, if_pos, and_self, and_true, true_and, and_false, false_and, if_true, if_false]) (fun k => by rw [hI_T68c _ _ (by omega)]; try simp (disch := omega) only [if_neg, if_pos, and_self, and_true, true_and, and_false, false_and, if_true, if_false]) (fun j hj hj2 => by rw [hP_S46]; try simp (disch := omega) only [if_neg, if_pos, and_self, and_true, true_and, and_false, false_and, if_true, if_false]), gF.cg (by rw [hI_T68c _ _ (by omega)]; try simp (disch := omega) only [if_neg, if_pos, and_self, and_true, true_and, and_false, false_and, if_true, if_false]) (by rw [hP_S46]; try simp (disch := omega) only [if_neg, if_pos, and_self, and_true, true_and, and_false, false_and, if_true, if_false]), gT.cg (by rw [hI_T68c _ _ (by omega)]; try simp (disch := omega) only [if_neg, if_pos, and_self, and_true, true_and, and_false, false_and, if_true, if_false]) (fun k => by rw [hI_T68c _ _ (by omega)]; try simp (disch := omega) only [if_neg, if_pos, and_self, and_true, true_and, and_false, false_and, if_true, if_false]) (fun j hj hj2 => by rw [hP_S46]; try simp (disch := omega) only [if_neg, if_pos, and_self, and_true, true_and, and_false, false_and, if_true, if_false]), ⟨mc + 1, by omega, (by rw [hI_T68c _ _ (by omega)]; (try simp (disch := omega) only [if_neg, if_pos, and_self, and_true, true_and, and_false, false_and, if_true, if_false]); try exact k_v66c), (by rw [hP_S46]; (try simp (disch := omega) only [if_neg, if_pos, and_self, and_true, true_and, and_false, false_and, if_true, if_false]); try exact k_v45), fun m hm j hj => if e : m = mc then (by rw [e]; rcases (show j = 0 ∨ j = 1 ∨ j = 2 ∨ j = 3 by omega) with e0 | e0 | e0 | e0 <;> subst e0 <;> rw [hI_T68c _ _ (by omega), hP_S46] <;> (try simp (disch := omega) only [if_neg, if_pos, and_self, and_true, true_and, and_false, false_and, if_true, if_false]) <;> first | done | exact q_r20c.symm | exact q_r31c.symm | exact q_r45c.symm | exact q_r59c.symm) else (by rw [hI_T68c _ _ (by omega), hP_S46]; (try simp (disch := omega) only [if_neg, if_pos, and_self, and_true, true_and, and_false, false_and, if_true, if_false]); try exact b4 m (by omega) j hj)⟩, gD.cg (by rw [hI_T68c _ _ (by omega)]; try simp (disch := omega) only [if_neg, if_pos, and_self, and_true, true_and, and_false, false_and, if_true, if_false]) (fun k => by rw [hI_T68c _ _ (by omega)]; try simp (disch := omega) only [if_neg, if_pos, and_self, and_true, true_and, and_false, false_and, if_true, if_false]) (fun j hj hj2 => by rw [hP_S46]; try simp (disch := omega) only [if_neg, if_pos, and_self, and_true, true_and, and_false, false_and, if_true, if_false]), (fun j hj => by rw [hD_S46]; (try simp (disch := omega) only [if_neg, if_pos, and_self, and_true, true_and, and_false, false_and, if_true, if_false]); try exact gX j hj)⟩, r_T68c⟩
set_option maxHeartbeats 4000000 in
set_option maxRecDepth 10000 in
theorem l_map {b : Nat → Int32} {n c i k s : Nat} {T T1 : AT} {S S1 : MS} {r : Int32} (h : PRq b n c i T S) (hk : kd b n (pst b n i) = 1) (hs : s = 478 ∨ s = 656) (hF : SRF s T) (hC : SCNq s T (S.2.1 11) (S.2.1 13)) (hg : g_X3_parseMap T 6 (s + 2) = some (k, r, T1)) (hf : fr_readMap S = some S1) : LNq b n c i s T T1 S1 k := by
  have hsb : 478 ≤ s ∧ s ≤ 656 := by omega
  obtain ⟨gH, gM, gG, gS, gW, gF, gT, gZ, gD, gX⟩ := hC
  obtain ⟨F1, F2, F3, F4, F5, F6, F7, F8, F9, F10, F11, F12, F13, F14, F15⟩ := hF
  unfold g_X3_parseMap at hg
  obtain ⟨-, hg⟩ := oif_some hg
  obtain ⟨v3, ev3, hg⟩ := elet_some hg
  unfold fr_readMap at hf
  obtain ⟨v2, ev2, hf⟩ := elet_some hf
  have key : ∃ (a0 : Int32) (Sa : MS), g_X3_parseMap_b13 T a0 6 6 (s + 2) = some (k, r, T1) ∧ fr_readMap_b15 Sa = some S1 ∧ ((a0 = 0 ∧ Sa = S) ∨ (a0 ≠ 0 ∧ fr_faults S 3 = some Sa)) ∧ (a0 = 0 → True) := by
    by_cases cm : v3 ≤ 0
    · rw [if_pos cm] at hg
      have cr : v2 ≤ 0 ∧ True := by
        have z0 : (0 : Int32).toInt = 0 := by decide
        rw [gG.1] at ev3
        rcases gG.2.2 with ⟨y, -, -⟩ | ⟨y, y1, -⟩
        · rw [ev2, y]; exact ⟨by decide, trivial⟩
        · have := i_le cm; rw [ev3] at this; omega
      rw [if_pos cr.1] at hf
      exact ⟨0, S, hg, hf, .inl ⟨rfl, rfl⟩, fun _ => cr.2⟩
    · rw [if_neg cm] at hg
      have cr : ¬ v2 ≤ 0 := by
        have z0 : (0 : Int32).toInt = 0 := by decide
        rw [gG.1] at ev3
        intro q
        rcases gG.2.2 with ⟨y, y1, -⟩ | ⟨y, y1, -⟩
        · rw [ev3, y1] at cm; exact cm (by decide)
        · have := i_le q; rw [ev2] at this; omega
      rw [if_neg cr] at hf
      obtain ⟨S4, f4, hf⟩ := obind_some hf
      exact ⟨1, S4, hg, hf, .inr ⟨by decide, f4⟩, fun q => absurd q (by decide)⟩
  obtain ⟨a0, Sa, hg, hf, hcase, hmc⟩ := key
  unfold fr_readMap_b15 at hf
  obtain ⟨S2, fS2, hf⟩ := obind_some hf
  obtain ⟨r8, S5, fS5, hf⟩ := obind2_some hf
  obtain ⟨r12, S9, fS9, hf⟩ := obind2_some hf
  obtain ⟨r16, S13, fS13, hf⟩ := obind2_some hf
  obtain ⟨r20, S17, fS17, hf⟩ := obind2_some hf
  obtain ⟨r24, S21, fS21, hf⟩ := obind2_some hf
  obtain ⟨v25, ev25, hf⟩ := elet_some hf
  have fin_S21 : 0 < (S21.1 5).toInt → S1 = S21 := fun q => by rw [if_neg (st_le q ev25)] at hf; exact (osome1 (show some S21 = some S1 from hf)).symm
  have fin_S17 : 0 < (S17.1 5).toInt → S1 = S17 := fun q => by have e := (st_number q fS21); exact (fin_S21 (by rw [e]; exact q)).trans e
  have fin_S13 : 0 < (S13.1 5).toInt → S1 = S13 := fun q => by have e := (st_number q fS17); exact (fin_S17 (by rw [e]; exact q)).trans e
  have fin_S9 : 0 < (S9.1 5).toInt → S1 = S9 := fun q => by have e := (st_number q fS13); exact (fin_S13 (by rw [e]; exact q)).trans e
  have fin_S5 : 0 < (S5.1 5).toInt → S1 = S5 := fun q => by have e := (st_signed q fS9); exact (fin_S9 (by rw [e]; exact q)).trans e
  have fin_S2 : 0 < (S2.1 5).toInt → S1 = S2 := fun q => by have e := (st_signed q fS5); exact (fin_S5 (by rw [e]; exact q)).trans e
  unfold g_X3_parseMap_b13 at hg
  obtain ⟨-, hg⟩ := oif_some hg
  rcases othr_k hg with ⟨r9, g9, z0⟩ | ⟨r5c, T3c, g9, hg⟩
  · rcases k_line h hk (by decide) g9 hcase fS2 with ⟨z, -⟩ | ⟨z1, z2⟩
    · exact absurd z z0
    · exact .inr ⟨z1, by rw [fin_S2 z2.1]; exact z2⟩
  rcases k_line h hk (by decide) g9 hcase fS2 with ⟨-, p_T3c, tf_T3c, m0, za⟩ | ⟨z1, -⟩
  rotate_left
  · exact absurd z1 (by decide)
  have cmc := hmc za
  have r_T3c : T3c.2.2.2.2 = T.2.2.2.2 := congrArg (fun x => x.2) tf_T3c.2.2.1
  have hI_T3c : ∀ m j : Nat, m ≠ 6 → T3c.2.2.1 m j = T.2.2.1 m j := fun m j h6 => by rw [tf_T3c.2.2.2 m j h6]
  obtain ⟨-, hg⟩ := oif_some hg
  rcases othr_k hg with ⟨r9, g9, z0⟩ | ⟨r10c, T8c, g9, hg⟩
  · rcases k_signed p_T3c g9 fS5 with ⟨z, -⟩ | ⟨z1, z2⟩
    · exact absurd z z0
    · exact .inr ⟨z1, by rw [fin_S5 z2.1]; exact z2⟩
  rcases k_signed p_T3c g9 fS5 with ⟨-, q_r10c, ⟨i_T8c, l_T8c, p_T8c⟩, tf_T8c, mf_T8c⟩ | ⟨z1, -⟩
  rotate_left
  · exact absurd z1 (by decide)
  have r_T8c : T8c.2.2.2.2 = T.2.2.2.2 := (congrArg (fun x => x.2) tf_T8c.2.2.1).trans r_T3c
  have hI_T8c : ∀ m j : Nat, m ≠ 6 → T8c.2.2.1 m j = T.2.2.1 m j := fun m j h6 => by rw [tf_T8c.2.2.2 m j h6, hI_T3c m j h6]
  have mm_T8c := MFq.tr m0 mf_T8c
  obtain ⟨-, hg⟩ := oif_some hg
  obtain ⟨T13c, eT13c, hg⟩ := elet_some hg
  have r_T13c : T13c.2.2.2.2 = T.2.2.2.2 := by rw [eT13c]; exact r_T8c
  have hI_T13c : ∀ m j : Nat, m ≠ 6 → T13c.2.2.1 m j = if m = (s + 2) ∧ j = 0 then r10c else T.2.2.1 m j := fun m j h6 => by rw [eT13c, ui_get, hI_T8c m j h6]
  have p_T13c := pr_uI (m := (s + 2)) (k := 0) (v := r10c) p_T8c (by omega)
  rw [← eT13c] at p_T13c
  obtain ⟨-, hg⟩ := oif_some hg
  rcases othr_k hg with ⟨r9, g9, z0⟩ | ⟨r17c, T15c, g9, hg⟩
  · rcases k_signed p_T13c g9 fS9 with ⟨z, -⟩ | ⟨z1, z2⟩
    · exact absurd z z0
    · exact .inr ⟨z1, by rw [fin_S9 z2.1]; exact z2⟩
  rcases k_signed p_T13c g9 fS9 with ⟨-, q_r17c, ⟨i_T15c, l_T15c, p_T15c⟩, tf_T15c, mf_T15c⟩ | ⟨z1, -⟩
  rotate_left
  · exact absurd z1 (by decide)
  have r_T15c : T15c.2.2.2.2 = T.2.2.2.2 := (congrArg (fun x => x.2) tf_T15c.2.2.1).trans r_T13c
  have hI_T15c : ∀ m j : Nat, m ≠ 6 → T15c.2.2.1 m j = if m = (s + 2) ∧ j = 0 then r10c else T.2.2.1 m j := fun m j h6 => by rw [tf_T15c.2.2.2 m j h6, hI_T13c m j h6]
  have mm_T15c := MFq.tr mm_T8c mf_T15c
  obtain ⟨-, hg⟩ := oif_some hg
  obtain ⟨T20c, eT20c, hg⟩ := elet_some hg
  have r_T20c : T20c.2.2.2.2 = T.2.2.2.2 := by rw [eT20c]; exact r_T15c
  have hI_T20c : ∀ m j : Nat, m ≠ 6 → T20c.2.2.1 m j = if m = (s + 2) ∧ j = 1 then r17c else if m = (s + 2) ∧ j = 0 then r10c else T.2.2.1 m j := fun m j h6 => by rw [eT20c, ui_get, hI_T15c m j h6]
  have p_T20c := pr_uI (m := (s + 2)) (k := 1) (v := r17c) p_T15c (by omega)
  rw [← eT20c] at p_T20c
  obtain ⟨-, hg⟩ := oif_some hg
  rcases othr_k hg with ⟨r9, g9, z0⟩ | ⟨r24c, T22c, g9, hg⟩
  · rcases k_number p_T20c g9 fS13 with ⟨z, -⟩ | ⟨z1, z2⟩
    · exact absurd z z0
    · exact .inr ⟨z1, by rw [fin_S13 z2.1]; exact z2⟩
  rcases k_number p_T20c g9 fS13 with ⟨-, q_r24c, lo_r24c, hi_r24c, p_T22c, tf_T22c, mf_T22c⟩ | ⟨z1, -⟩
  rotate_left
  · exact absurd z1 (by decide)
  have r_T22c : T22c.2.2.2.2 = T.2.2.2.2 := (congrArg (fun x => x.2) tf_T22c.2.2.1).trans r_T20c
  have hI_T22c : ∀ m j : Nat, m ≠ 6 → T22c.2.2.1 m j = if m = (s + 2) ∧ j = 1 then r17c else if m = (s + 2) ∧ j = 0 then r10c else T.2.2.1 m j := fun m j h6 => by rw [tf_T22c.2.2.2 m j h6, hI_T20c m j h6]
  have mm_T22c := MFq.tr mm_T15c mf_T22c
  obtain ⟨-, hg⟩ := oif_some hg
  obtain ⟨T27c, eT27c, hg⟩ := elet_some hg
  have r_T27c : T27c.2.2.2.2 = T.2.2.2.2 := by rw [eT27c]; exact r_T22c
  have hI_T27c : ∀ m j : Nat, m ≠ 6 → T27c.2.2.1 m j = if m = (s + 2) ∧ j = 2 then r24c else if m = (s + 2) ∧ j = 1 then r17c else if m = (s + 2) ∧ j = 0 then r10c else T.2.2.1 m j := fun m j h6 => by rw [eT27c, ui_get, hI_T22c m j h6]
  have p_T27c := pr_uI (m := (s + 2)) (k := 2) (v := r24c) p_T22c (by omega)
  rw [← eT27c] at p_T27c
  obtain ⟨-, hg⟩ := oif_some hg
  rcases othr_k hg with ⟨r9, g9, z0⟩ | ⟨r31c, T29c, g9, hg⟩
  · rcases k_number p_T27c g9 fS17 with ⟨z, -⟩ | ⟨z1, z2⟩
    · exact absurd z z0
    · exact .inr ⟨z1, by rw [fin_S17 z2.1]; exact z2⟩
  rcases k_number p_T27c g9 fS17 with ⟨-, q_r31c, lo_r31c, hi_r31c, p_T29c, tf_T29c, mf_T29c⟩ | ⟨z1, -⟩
  rotate_left
  · exact absurd z1 (by decide)
  have r_T29c : T29c.2.2.2.2 = T.2.2.2.2 := (congrArg (fun x => x.2) tf_T29c.2.2.1).trans r_T27c
  have hI_T29c : ∀ m j : Nat, m ≠ 6 → T29c.2.2.1 m j = if m = (s + 2) ∧ j = 2 then r24c else if m = (s + 2) ∧ j = 1 then r17c else if m = (s + 2) ∧ j = 0 then r10c else T.2.2.1 m j := fun m j h6 => by rw [tf_T29c.2.2.2 m j h6, hI_T27c m j h6]
  have mm_T29c := MFq.tr mm_T22c mf_T29c
  obtain ⟨-, hg⟩ := oif_some hg
  rcases othr_k hg with ⟨r9, g9, z0⟩ | ⟨r36c, T34c, g9, hg⟩
  · rcases k_number p_T29c g9 fS21 with ⟨z, -⟩ | ⟨z1, z2⟩
    · exact absurd z z0
    · exact .inr ⟨z1, by rw [fin_S21 z2.1]; exact z2⟩
  rcases k_number p_T29c g9 fS21 with ⟨-, q_r36c, lo_r36c, hi_r36c, p_T34c, tf_T34c, mf_T34c⟩ | ⟨z1, -⟩
  rotate_left
  · exact absurd z1 (by decide)
  have r_T34c : T34c.2.2.2.2 = T.2.2.2.2 := (congrArg (fun x => x.2) tf_T34c.2.2.1).trans r_T29c
  have hI_T34c : ∀ m j : Nat, m ≠ 6 → T34c.2.2.1 m j = if m = (s + 2) ∧ j = 2 then r24c else if m = (s + 2) ∧ j = 1 then r17c else if m = (s + 2) ∧ j = 0 then r10c else T.2.2.1 m j := fun m j h6 => by rw [tf_T34c.2.2.2 m j h6, hI_T29c m j h6]
  have mm_T34c := MFq.tr mm_T29c mf_T34c
  obtain ⟨-, hg⟩ := oif_some hg
  obtain ⟨T39c, o39, hg⟩ := obind_some hg
  unfold g_X1_open at o39
  obtain ⟨-, o39⟩ := oif_some o39
  obtain ⟨T3o, eT3o, o39⟩ := elet_some o39
  have r_T3o : T3o.2.2.2.2 = T.2.2.2.2 := by rw [eT3o]; exact r_T34c
  have hI_T3o : ∀ m j : Nat, m ≠ 6 → T3o.2.2.1 m j = if m = (s + 2) ∧ j = 3 then r31c else if m = (s + 2) ∧ j = 2 then r24c else if m = (s + 2) ∧ j = 1 then r17c else if m = (s + 2) ∧ j = 0 then r10c else T.2.2.1 m j := fun m j h6 => by rw [eT3o, ui_get, hI_T34c m j h6]
  have p_T3o := pr_uI (m := (s + 2)) (k := 3) (v := r31c) p_T34c (by omega)
  rw [← eT3o] at p_T3o
  obtain ⟨-, o39⟩ := oif_some o39
  obtain ⟨T5o, eT5o, o39⟩ := elet_some o39
  have r_T5o : T5o.2.2.2.2 = T.2.2.2.2 := by rw [eT5o]; exact r_T3o
  have hI_T5o : ∀ m j : Nat, m ≠ 6 → T5o.2.2.1 m j = if m = (s + 2) ∧ j = 4 then r36c else if m = (s + 2) ∧ j = 3 then r31c else if m = (s + 2) ∧ j = 2 then r24c else if m = (s + 2) ∧ j = 1 then r17c else if m = (s + 2) ∧ j = 0 then r10c else T.2.2.1 m j := fun m j h6 => by rw [eT5o, ui_get, hI_T3o m j h6]
  have p_T5o := pr_uI (m := (s + 2)) (k := 4) (v := r36c) p_T3o (by omega)
  rw [← eT5o] at p_T5o
  obtain ⟨-, o39⟩ := oif_some o39
  obtain ⟨n7o, en7o, o39⟩ := obind_some o39
  rw [r_T5o, F11] at en7o
  cases en7o
  obtain ⟨v8o, ev8o, o39⟩ := elet_some o39
  obtain ⟨-, o39⟩ := oif_some o39
  obtain ⟨-, o39⟩ := oif_some o39
  obtain ⟨T11o, eT11o, o39⟩ := elet_some o39
  rw [show (2 : Int32).toNatClampNeg = 2 from by decide] at eT11o
  have r_T11o : T11o.2.2.2.2 = T.2.2.2.2 := by rw [eT11o]; exact r_T5o
  have hI_T11o : ∀ m j : Nat, m ≠ 6 → T11o.2.2.1 m j = if m = (s + 3) ∧ j = 2 then v8o else if m = (s + 2) ∧ j = 4 then r36c else if m = (s + 2) ∧ j = 3 then r31c else if m = (s + 2) ∧ j = 2 then r24c else if m = (s + 2) ∧ j = 1 then r17c else if m = (s + 2) ∧ j = 0 then r10c else T.2.2.1 m j := fun m j h6 => by rw [eT11o, ui_get, hI_T5o m j h6]
  have p_T11o := pr_uI (m := (s + 3)) (k := 2) (v := v8o) p_T5o (by omega)
  rw [← eT11o] at p_T11o
  obtain ⟨-, o39⟩ := oif_some o39
  obtain ⟨n13o, en13o, o39⟩ := obind_some o39
  rw [r_T11o, F11] at en13o
  cases en13o
  obtain ⟨v14o, ev14o, o39⟩ := elet_some o39
  obtain ⟨-, o39⟩ := oif_some o39
  obtain ⟨-, o39⟩ := oif_some o39
  obtain ⟨T17o, eT17o, o39⟩ := elet_some o39
  rw [show (3 : Int32).toNatClampNeg = 3 from by decide] at eT17o
  have r_T17o : T17o.2.2.2.2 = T.2.2.2.2 := by rw [eT17o]; exact r_T11o
  have hI_T17o : ∀ m j : Nat, m ≠ 6 → T17o.2.2.1 m j = if m = (s + 3) ∧ j = 3 then v14o else if m = (s + 3) ∧ j = 2 then v8o else if m = (s + 2) ∧ j = 4 then r36c else if m = (s + 2) ∧ j = 3 then r31c else if m = (s + 2) ∧ j = 2 then r24c else if m = (s + 2) ∧ j = 1 then r17c else if m = (s + 2) ∧ j = 0 then r10c else T.2.2.1 m j := fun m j h6 => by rw [eT17o, ui_get, hI_T11o m j h6]
  have p_T17o := pr_uI (m := (s + 3)) (k := 3) (v := v14o) p_T11o (by omega)
  rw [← eT17o] at p_T17o
  have o40 := osome1 o39
  rw [← o40] at hg
  have g := osome3 hg
  rw [if_pos (by rw [ev25, p_T17o.2.2.1] <;> decide)] at hf
  obtain ⟨S27, eS27, hf⟩ := elet_some hf
  obtain ⟨S28, eS28, hf⟩ := elet_some hf
  obtain ⟨S29, eS29, hf⟩ := elet_some hf
  obtain ⟨S30, eS30, hf⟩ := elet_some hf
  obtain ⟨S31, eS31, hf⟩ := elet_some hf
  skip
  have hP_S21 : ∀ x : Nat, S21.2.1 11 x = S.2.1 11 x := fun x => by rw [mm_T34c.1]
  have hD_S21 : ∀ x : Nat, S21.2.1 13 x = S.2.1 13 x := fun x => by rw [mm_T34c.1]
  have hP_S27 : ∀ x : Nat, S27.2.1 11 x = if x = 6 then r8 else S.2.1 11 x := fun x => by rw [eS27, mf_at]; show (if x = 6 then r8 else S21.2.1 11 x) = _; rw [hP_S21]
  have hD_S27 : ∀ x : Nat, S27.2.1 13 x = S.2.1 13 x := fun x => by rw [eS27, mf_ne (by decide), hD_S21]
  have hP_S28 : ∀ x : Nat, S28.2.1 11 x = if x = 7 then r12 else if x = 6 then r8 else S.2.1 11 x := fun x => by rw [eS28, mf_at]; show (if x = 7 then r12 else S27.2.1 11 x) = _; rw [hP_S27]
  have hD_S28 : ∀ x : Nat, S28.2.1 13 x = S.2.1 13 x := fun x => by rw [eS28, mf_ne (by decide), hD_S27]
  have hP_S29 : ∀ x : Nat, S29.2.1 11 x = if x = 8 then r16 else if x = 7 then r12 else if x = 6 then r8 else S.2.1 11 x := fun x => by rw [eS29, mf_at]; show (if x = 8 then r16 else S28.2.1 11 x) = _; rw [hP_S28]
  have hD_S29 : ∀ x : Nat, S29.2.1 13 x = S.2.1 13 x := fun x => by rw [eS29, mf_ne (by decide), hD_S28]
  have hP_S30 : ∀ x : Nat, S30.2.1 11 x = if x = 9 then r20 else if x = 8 then r16 else if x = 7 then r12 else if x = 6 then r8 else S.2.1 11 x := fun x => by rw [eS30, mf_at]; show (if x = 9 then r20 else S29.2.1 11 x) = _; rw [hP_S29]
  have hD_S30 : ∀ x : Nat, S30.2.1 13 x = S.2.1 13 x := fun x => by rw [eS30, mf_ne (by decide), hD_S29]
  have hP_S31 : ∀ x : Nat, S31.2.1 11 x = if x = 10 then r24 else if x = 9 then r20 else if x = 8 then r16 else if x = 7 then r12 else if x = 6 then r8 else S.2.1 11 x := fun x => by rw [eS31, mf_at]; show (if x = 10 then r24 else S30.2.1 11 x) = _; rw [hP_S30]
  have hD_S31 : ∀ x : Nat, S31.2.1 13 x = S.2.1 13 x := fun x => by rw [eS31, mf_ne (by decide), hD_S30]
  have p_S27 := pr_mfe p_T17o eS27 (by decide)
  have p_S28 := pr_mfe p_S27 eS28 (by decide)
  have p_S29 := pr_mfe p_S28 eS29 (by decide)
  have p_S30 := pr_mfe p_S29 eS30 (by decide)
  have p_S31 := pr_mfe p_S30 eS31 (by decide)
  have eS := osome1 (show some S31 = some S1 from hf)
  rw [← g.2.2, ← eS]
  exact .inl ⟨g.1.symm, ⟨_, by omega, p_S31⟩, ⟨gH.cg (fun j hj => by rw [hI_T17o _ _ (by omega)]; try simp (disch := omega) only [if_neg, if_pos, and_self, and_true, true_and, and_false, false_and, if_true, if_false]) (fun j hj => by rw [hP_S31]; try simp (disch := omega) only [if_neg, if_pos, and_self, and_true, true_and, and_false, false_and, if_true, if_false]), gM.cg (by rw [hI_T17o _ _ (by omega)]; try simp (disch := omega) only [if_neg, if_pos, and_self, and_true, true_and, and_false, false_and, if_true, if_false]) (fun m k hm hm2 => by rw [hI_T17o _ _ (by omega)]; try simp (disch := omega) only [if_neg, if_pos, and_self, and_true, true_and, and_false, false_and, if_true, if_false]) (fun j hj => by rw [hP_S31]; try simp (disch := omega) only [if_neg, if_pos, and_self, and_true, true_and, and_false, false_and, if_true, if_false]), ⟨(by rw [hI_T17o _ _ (by omega), hP_S31]; (try simp (disch := omega) only [if_neg, if_pos, and_self, and_true, true_and, and_false, false_and, if_true, if_false]); try exact q_r31c.symm), (by rw [hI_T17o _ _ (by omega), hP_S31]; (try simp (disch := omega) only [if_neg, if_pos, and_self, and_true, true_and, and_false, false_and, if_true, if_false]); try exact q_r36c.symm), .inr ⟨(by rw [hP_S31]; (try simp (disch := omega) only [if_neg, if_pos, and_self, and_true, true_and, and_false, false_and, if_true, if_false]); (try rw [q_r24c]); try exact lo_r24c), (by rw [hP_S31]; (try simp (disch := omega) only [if_neg, if_pos, and_self, and_true, true_and, and_false, false_and, if_true, if_false]); (try rw [q_r31c]); try exact lo_r31c), (by rw [hI_T17o _ _ (by omega), hP_S31]; (try simp (disch := omega) only [if_neg, if_pos, and_self, and_true, true_and, and_false, false_and, if_true, if_false]); try exact q_r10c.symm), (by rw [hI_T17o _ _ (by omega), hP_S31]; (try simp (disch := omega) only [if_neg, if_pos, and_self, and_true, true_and, and_false, false_and, if_true, if_false]); try exact q_r17c.symm), (by rw [hI_T17o _ _ (by omega), hP_S31]; (try simp (disch := omega) only [if_neg, if_pos, and_self, and_true, true_and, and_false, false_and, if_true, if_false]); try exact q_r24c.symm), (by rw [hI_T17o _ _ (by omega), hP_S31]; (try simp (disch := omega) only [if_neg, if_pos, and_self, and_true, true_and, and_false, false_and, if_true, if_false]); (try rw [q_r31c]); try exact ev8o), (by rw [hI_T17o _ _ (by omega), hP_S31]; (try simp (disch := omega) only [if_neg, if_pos, and_self, and_true, true_and, and_false, false_and, if_true, if_false]); (try rw [q_r36c]); try exact ev14o)⟩⟩, gS.cg (by rw [hI_T17o _ _ (by omega)]; try simp (disch := omega) only [if_neg, if_pos, and_self, and_true, true_and, and_false, false_and, if_true, if_false]) (fun m k hm hm2 => by rw [hI_T17o _ _ (by omega)]; try simp (disch := omega) only [if_neg, if_pos, and_self, and_true, true_and, and_false, false_and, if_true, if_false]) (fun j hj => by rw [hP_S31]; try simp (disch := omega) only [if_neg, if_pos, and_self, and_true, true_and, and_false, false_and, if_true, if_false]) (fun j hj hj2 => by rw [hD_S31]; try simp (disch := omega) only [if_neg, if_pos, and_self, and_true, true_and, and_false, false_and, if_true, if_false]), gW.cg (by rw [hI_T17o _ _ (by omega)]; try simp (disch := omega) only [if_neg, if_pos, and_self, and_true, true_and, and_false, false_and, if_true, if_false]) (fun k => by rw [hI_T17o _ _ (by omega)]; try simp (disch := omega) only [if_neg, if_pos, and_self, and_true, true_and, and_false, false_and, if_true, if_false]) (fun k => by rw [hI_T17o _ _ (by omega)]; try simp (disch := omega) only [if_neg, if_pos, and_self, and_true, true_and, and_false, false_and, if_true, if_false]) (fun j hj hj2 => by rw [hP_S31]; try simp (disch := omega) only [if_neg, if_pos, and_self, and_true, true_and, and_false, false_and, if_true, if_false]), gF.cg (by rw [hI_T17o _ _ (by omega)]; try simp (disch := omega) only [if_neg, if_pos, and_self, and_true, true_and, and_false, false_and, if_true, if_false]) (by rw [hP_S31]; try simp (disch := omega) only [if_neg, if_pos, and_self, and_true, true_and, and_false, false_and, if_true, if_false]), gT.cg (by rw [hI_T17o _ _ (by omega)]; try simp (disch := omega) only [if_neg, if_pos, and_self, and_true, true_and, and_false, false_and, if_true, if_false]) (fun k => by rw [hI_T17o _ _ (by omega)]; try simp (disch := omega) only [if_neg, if_pos, and_self, and_true, true_and, and_false, false_and, if_true, if_false]) (fun j hj hj2 => by rw [hP_S31]; try simp (disch := omega) only [if_neg, if_pos, and_self, and_true, true_and, and_false, false_and, if_true, if_false]), gZ.cg (by rw [hI_T17o _ _ (by omega)]; try simp (disch := omega) only [if_neg, if_pos, and_self, and_true, true_and, and_false, false_and, if_true, if_false]) (fun m k hm hm2 => by rw [hI_T17o _ _ (by omega)]; try simp (disch := omega) only [if_neg, if_pos, and_self, and_true, true_and, and_false, false_and, if_true, if_false]) (fun j hj hj2 => by rw [hP_S31]; try simp (disch := omega) only [if_neg, if_pos, and_self, and_true, true_and, and_false, false_and, if_true, if_false]), gD.cg (by rw [hI_T17o _ _ (by omega)]; try simp (disch := omega) only [if_neg, if_pos, and_self, and_true, true_and, and_false, false_and, if_true, if_false]) (fun k => by rw [hI_T17o _ _ (by omega)]; try simp (disch := omega) only [if_neg, if_pos, and_self, and_true, true_and, and_false, false_and, if_true, if_false]) (fun j hj hj2 => by rw [hP_S31]; try simp (disch := omega) only [if_neg, if_pos, and_self, and_true, true_and, and_false, false_and, if_true, if_false]), (fun j hj => by rw [hD_S31]; (try simp (disch := omega) only [if_neg, if_pos, and_self, and_true, true_and, and_false, false_and, if_true, if_false]); try exact gX j hj)⟩, r_T17o⟩
set_option maxHeartbeats 4000000 in
set_option maxRecDepth 10000 in
theorem l_src2 {b : Nat → Int32} {n c i i0 k s mc : Nat} {T Tq T1 : AT} {S Sq S1 : MS} {r s0 l1 l2 l3 l4 l5 l6 l7 l8 l9 : Int32} (pq : PRq b n c i0 Tq Sq) (hi0 : i < i0) (hs : s = 478 ∨ s = 656) (gH : HDg s T (S.2.1 11)) (gM : MICg s T (S.2.1 11)) (gG : GRDg s T (S.2.1 11)) (b2 : T.2.2.1 s 8 = nI mc) (b3 : S.2.1 11 5 = nI mc) (b4 : ∀ k, k < mc → T.2.2.1 (s + 172 + k) 0 = S.2.1 11 (47 + k) ∧ T.2.2.1 (s + 172 + k) 5 = S.2.1 11 (53 + k) ∧ T.2.2.1 (s + 172 + k) 6 = S.2.1 11 (59 + k) ∧ T.2.2.1 (s + 172 + k) 7 = S.2.1 11 (65 + k) ∧ T.2.2.1 (s + 172 + k) 8 = S.2.1 11 (95 + k) ∧ (T.2.2.1 (s + 172 + k) 9 = 0 ∧ S.2.1 13 (25 + k) = 1 ∨ T.2.2.1 (s + 172 + k) 9 = 1 ∧ S.2.1 13 (25 + k) = 0) ∧ T.2.2.1 (s + 172 + k) 1 = S.2.1 13 (31 + k) ∧ T.2.2.1 (s + 172 + k) 2 = S.2.1 13 (37 + k) ∧ T.2.2.1 (s + 172 + k) 3 = S.2.1 13 (43 + k) ∧ T.2.2.1 (s + 172 + k) 4 = S.2.1 13 (49 + k)) (gW : WALg s T (S.2.1 11)) (gF : FADg s T (S.2.1 11)) (gT : TAPg s T (S.2.1 11)) (gZ : ZONg s T (S.2.1 11)) (gD : SHDg s T (S.2.1 11)) (gX : DZg (S.2.1 13)) (cmc : mc < 6) (k_l1 : l1 = nI mc) (rq : Tq.2.2.2.2 = T.2.2.2.2) (mq0 : MFq S Sq) (hIq : ∀ m j : Nat, m ≠ 6 → m ≠ s + 172 + mc → Tq.2.2.1 m j = T.2.2.1 m j) (hw : Tq.2.2.1 (s + 172 + mc) 0 = l2 ∧ Tq.2.2.1 (s + 172 + mc) 1 = l3 ∧ Tq.2.2.1 (s + 172 + mc) 2 = l4 ∧ Tq.2.2.1 (s + 172 + mc) 3 = l5 ∧ Tq.2.2.1 (s + 172 + mc) 4 = l6 ∧ Tq.2.2.1 (s + 172 + mc) 5 = l7 ∧ Tq.2.2.1 (s + 172 + mc) 6 = l8 ∧ Tq.2.2.1 (s + 172 + mc) 7 = l9 ∧ Tq.2.2.1 (s + 172 + mc) 8 = s0 ∧ Tq.2.2.1 (s + 172 + mc) 9 = 0) (hg : g_X3_parseSource_b168 Tq s = some (k, r, T1)) (hf : fr_readSource_b186 Sq s0 l1 l2 l3 l4 l5 l6 l7 l8 l9 = some S1) : LNq b n c i s T T1 S1 k := by
  have hsb : 478 ≤ s ∧ s ≤ 656 := by omega
  obtain ⟨w0, w1, w2, w3, w4, w5, w6, w7, w8, w9⟩ := hw
  unfold g_X3_parseSource_b168 at hg
  obtain ⟨-, hg⟩ := oif_some hg
  obtain ⟨cv3, ecv3, hg⟩ := elet_some hg
  rw [hIq _ _ (by omega) (by omega), b2] at ecv3
  obtain ⟨cv4, ecv4, hg⟩ := elet_some hg
  have k_cv4 : cv4 = nI (mc + 1) := by rw [ecv4, ecv3]; exact nI_add mc 1
  obtain ⟨-, hg⟩ := oif_some hg
  obtain ⟨Tz, eTz, hg⟩ := elet_some hg
  have r_Tz : Tz.2.2.2.2 = T.2.2.2.2 := by rw [eTz]; exact rq
  have p_Tz := pr_uI (m := s) (k := 8) (v := cv4) pq (by omega)
  rw [← eTz] at p_Tz
  have hI_Tz : ∀ m j : Nat, m ≠ 6 → m ≠ s + 172 + mc → Tz.2.2.1 m j = if m = s ∧ j = 8 then cv4 else T.2.2.1 m j := fun m j h6 h7 => by rw [eTz, ui_get, hIq m j h6 h7]
  have hN_Tz : ∀ j : Nat, Tz.2.2.1 (s + 172 + mc) j = Tq.2.2.1 (s + 172 + mc) j := fun j => by rw [eTz]; exact ui_ne (.inl (by omega))
  unfold fr_readSource_b186 at hf
  obtain ⟨v2, ev2, hf⟩ := elet_some hf
  rw [if_pos (by rw [ev2, pq.2.2.1]; decide)] at hf
  obtain ⟨v4, ev4, hf⟩ := elet_some hf
  obtain ⟨-, hf⟩ := oif_some hf
  obtain ⟨S6, eS6, hf⟩ := elet_some hf
  obtain ⟨v7, ev7, hf⟩ := elet_some hf
  obtain ⟨-, hf⟩ := oif_some hf
  obtain ⟨S9, eS9, hf⟩ := elet_some hf
  obtain ⟨v10, ev10, hf⟩ := elet_some hf
  obtain ⟨-, hf⟩ := oif_some hf
  obtain ⟨S12, eS12, hf⟩ := elet_some hf
  obtain ⟨v13, ev13, hf⟩ := elet_some hf
  obtain ⟨-, hf⟩ := oif_some hf
  obtain ⟨S15, eS15, hf⟩ := elet_some hf
  obtain ⟨v16, ev16, hf⟩ := elet_some hf
  obtain ⟨-, hf⟩ := oif_some hf
  obtain ⟨S18, eS18, hf⟩ := elet_some hf
  obtain ⟨v19, ev19, hf⟩ := elet_some hf
  obtain ⟨-, hf⟩ := oif_some hf
  obtain ⟨S21, eS21, hf⟩ := elet_some hf
  obtain ⟨v22, ev22, hf⟩ := elet_some hf
  obtain ⟨-, hf⟩ := oif_some hf
  obtain ⟨S24, eS24, hf⟩ := elet_some hf
  obtain ⟨v25, ev25, hf⟩ := elet_some hf
  obtain ⟨-, hf⟩ := oif_some hf
  obtain ⟨S27, eS27, hf⟩ := elet_some hf
  obtain ⟨v28, ev28, hf⟩ := elet_some hf
  obtain ⟨-, hf⟩ := oif_some hf
  obtain ⟨S30, eS30, hf⟩ := elet_some hf
  obtain ⟨v31, ev31, hf⟩ := elet_some hf
  obtain ⟨-, hf⟩ := oif_some hf
  obtain ⟨S33, eS33, hf⟩ := elet_some hf
  obtain ⟨v34, ev34, hf⟩ := elet_some hf
  obtain ⟨v35, ev35, hf⟩ := elet_some hf
  obtain ⟨S36, eS36, hf⟩ := elet_some hf
  have hP_Sq : ∀ x : Nat, Sq.2.1 11 x = S.2.1 11 x := fun x => by rw [mq0.1]
  have hD_Sq : ∀ x : Nat, Sq.2.1 13 x = S.2.1 13 x := fun x => by rw [mq0.1]
  have k_v4 : v4 = nI (95 + mc) := by rw [ev4, k_l1]; exact nI_add 95 (mc)
  rw [k_v4, nI_clamp (by omega)] at eS6
  have hP_S6 : ∀ x : Nat, S6.2.1 11 x = if x = (95 + mc) then s0 else S.2.1 11 x := fun x => by rw [eS6, mf_at]; show (if x = (95 + mc) then s0 else Sq.2.1 11 x) = _; rw [hP_Sq]
  have hD_S6 : ∀ x : Nat, S6.2.1 13 x = S.2.1 13 x := fun x => by rw [eS6, mf_ne (by decide), hD_Sq]
  have k_v7 : v7 = nI (25 + mc) := by rw [ev7, k_l1]; exact nI_add 25 (mc)
  rw [k_v7, nI_clamp (by omega)] at eS9
  have hD_S9 : ∀ x : Nat, S9.2.1 13 x = if x = (25 + mc) then 1 else S.2.1 13 x := fun x => by rw [eS9, mf_at]; show (if x = (25 + mc) then 1 else S6.2.1 13 x) = _; rw [hD_S6]
  have hP_S9 : ∀ x : Nat, S9.2.1 11 x = if x = (95 + mc) then s0 else S.2.1 11 x := fun x => by rw [eS9, mf_ne (by decide), hP_S6]
  have k_v10 : v10 = nI (31 + mc) := by rw [ev10, k_l1]; exact nI_add 31 (mc)
  rw [k_v10, nI_clamp (by omega)] at eS12
  have hD_S12 : ∀ x : Nat, S12.2.1 13 x = if x = (31 + mc) then l3 else if x = (25 + mc) then 1 else S.2.1 13 x := fun x => by rw [eS12, mf_at]; show (if x = (31 + mc) then l3 else S9.2.1 13 x) = _; rw [hD_S9]
  have hP_S12 : ∀ x : Nat, S12.2.1 11 x = if x = (95 + mc) then s0 else S.2.1 11 x := fun x => by rw [eS12, mf_ne (by decide), hP_S9]
  have k_v13 : v13 = nI (37 + mc) := by rw [ev13, k_l1]; exact nI_add 37 (mc)
  rw [k_v13, nI_clamp (by omega)] at eS15
  have hD_S15 : ∀ x : Nat, S15.2.1 13 x = if x = (37 + mc) then l4 else if x = (31 + mc) then l3 else if x = (25 + mc) then 1 else S.2.1 13 x := fun x => by rw [eS15, mf_at]; show (if x = (37 + mc) then l4 else S12.2.1 13 x) = _; rw [hD_S12]
  have hP_S15 : ∀ x : Nat, S15.2.1 11 x = if x = (95 + mc) then s0 else S.2.1 11 x := fun x => by rw [eS15, mf_ne (by decide), hP_S12]
  have k_v16 : v16 = nI (43 + mc) := by rw [ev16, k_l1]; exact nI_add 43 (mc)
  rw [k_v16, nI_clamp (by omega)] at eS18
  have hD_S18 : ∀ x : Nat, S18.2.1 13 x = if x = (43 + mc) then l5 else if x = (37 + mc) then l4 else if x = (31 + mc) then l3 else if x = (25 + mc) then 1 else S.2.1 13 x := fun x => by rw [eS18, mf_at]; show (if x = (43 + mc) then l5 else S15.2.1 13 x) = _; rw [hD_S15]
  have hP_S18 : ∀ x : Nat, S18.2.1 11 x = if x = (95 + mc) then s0 else S.2.1 11 x := fun x => by rw [eS18, mf_ne (by decide), hP_S15]
  have k_v19 : v19 = nI (49 + mc) := by rw [ev19, k_l1]; exact nI_add 49 (mc)
  rw [k_v19, nI_clamp (by omega)] at eS21
  have hD_S21 : ∀ x : Nat, S21.2.1 13 x = if x = (49 + mc) then l6 else if x = (43 + mc) then l5 else if x = (37 + mc) then l4 else if x = (31 + mc) then l3 else if x = (25 + mc) then 1 else S.2.1 13 x := fun x => by rw [eS21, mf_at]; show (if x = (49 + mc) then l6 else S18.2.1 13 x) = _; rw [hD_S18]
  have hP_S21 : ∀ x : Nat, S21.2.1 11 x = if x = (95 + mc) then s0 else S.2.1 11 x := fun x => by rw [eS21, mf_ne (by decide), hP_S18]
  have k_v22 : v22 = nI (47 + mc) := by rw [ev22, k_l1]; exact nI_add 47 (mc)
  rw [k_v22, nI_clamp (by omega)] at eS24
  have hP_S24 : ∀ x : Nat, S24.2.1 11 x = if x = (47 + mc) then l2 else if x = (95 + mc) then s0 else S.2.1 11 x := fun x => by rw [eS24, mf_at]; show (if x = (47 + mc) then l2 else S21.2.1 11 x) = _; rw [hP_S21]
  have hD_S24 : ∀ x : Nat, S24.2.1 13 x = if x = (49 + mc) then l6 else if x = (43 + mc) then l5 else if x = (37 + mc) then l4 else if x = (31 + mc) then l3 else if x = (25 + mc) then 1 else S.2.1 13 x := fun x => by rw [eS24, mf_ne (by decide), hD_S21]
  have k_v25 : v25 = nI (53 + mc) := by rw [ev25, k_l1]; exact nI_add 53 (mc)
  rw [k_v25, nI_clamp (by omega)] at eS27
  have hP_S27 : ∀ x : Nat, S27.2.1 11 x = if x = (53 + mc) then l7 else if x = (47 + mc) then l2 else if x = (95 + mc) then s0 else S.2.1 11 x := fun x => by rw [eS27, mf_at]; show (if x = (53 + mc) then l7 else S24.2.1 11 x) = _; rw [hP_S24]
  have hD_S27 : ∀ x : Nat, S27.2.1 13 x = if x = (49 + mc) then l6 else if x = (43 + mc) then l5 else if x = (37 + mc) then l4 else if x = (31 + mc) then l3 else if x = (25 + mc) then 1 else S.2.1 13 x := fun x => by rw [eS27, mf_ne (by decide), hD_S24]
  have k_v28 : v28 = nI (59 + mc) := by rw [ev28, k_l1]; exact nI_add 59 (mc)
  rw [k_v28, nI_clamp (by omega)] at eS30
  have hP_S30 : ∀ x : Nat, S30.2.1 11 x = if x = (59 + mc) then l8 else if x = (53 + mc) then l7 else if x = (47 + mc) then l2 else if x = (95 + mc) then s0 else S.2.1 11 x := fun x => by rw [eS30, mf_at]; show (if x = (59 + mc) then l8 else S27.2.1 11 x) = _; rw [hP_S27]
  have hD_S30 : ∀ x : Nat, S30.2.1 13 x = if x = (49 + mc) then l6 else if x = (43 + mc) then l5 else if x = (37 + mc) then l4 else if x = (31 + mc) then l3 else if x = (25 + mc) then 1 else S.2.1 13 x := fun x => by rw [eS30, mf_ne (by decide), hD_S27]
  have k_v31 : v31 = nI (65 + mc) := by rw [ev31, k_l1]; exact nI_add 65 (mc)
  rw [k_v31, nI_clamp (by omega)] at eS33
  have hP_S33 : ∀ x : Nat, S33.2.1 11 x = if x = (65 + mc) then l9 else if x = (59 + mc) then l8 else if x = (53 + mc) then l7 else if x = (47 + mc) then l2 else if x = (95 + mc) then s0 else S.2.1 11 x := fun x => by rw [eS33, mf_at]; show (if x = (65 + mc) then l9 else S30.2.1 11 x) = _; rw [hP_S30]
  have hD_S33 : ∀ x : Nat, S33.2.1 13 x = if x = (49 + mc) then l6 else if x = (43 + mc) then l5 else if x = (37 + mc) then l4 else if x = (31 + mc) then l3 else if x = (25 + mc) then 1 else S.2.1 13 x := fun x => by rw [eS33, mf_ne (by decide), hD_S30]
  rw [hP_S33] at ev34
  (try simp (disch := omega) only [if_neg, if_pos, and_self, and_true, true_and, and_false, false_and, if_true, if_false] at ev34)
  rw [b3] at ev34
  have k_v34 : v34 = nI mc := ev34
  have k_v35 : v35 = nI (mc + 1) := by rw [ev35, k_v34]; exact nI_add (mc) 1
  have hP_S36 : ∀ x : Nat, S36.2.1 11 x = if x = 5 then v35 else if x = (65 + mc) then l9 else if x = (59 + mc) then l8 else if x = (53 + mc) then l7 else if x = (47 + mc) then l2 else if x = (95 + mc) then s0 else S.2.1 11 x := fun x => by rw [eS36, mf_at]; show (if x = 5 then v35 else S33.2.1 11 x) = _; rw [hP_S33]
  have hD_S36 : ∀ x : Nat, S36.2.1 13 x = if x = (49 + mc) then l6 else if x = (43 + mc) then l5 else if x = (37 + mc) then l4 else if x = (31 + mc) then l3 else if x = (25 + mc) then 1 else S.2.1 13 x := fun x => by rw [eS36, mf_ne (by decide), hD_S33]
  have p_S6 := pr_mfe p_Tz eS6 (by decide)
  have p_S9 := pr_mfe p_S6 eS9 (by decide)
  have p_S12 := pr_mfe p_S9 eS12 (by decide)
  have p_S15 := pr_mfe p_S12 eS15 (by decide)
  have p_S18 := pr_mfe p_S15 eS18 (by decide)
  have p_S21 := pr_mfe p_S18 eS21 (by decide)
  have p_S24 := pr_mfe p_S21 eS24 (by decide)
  have p_S27 := pr_mfe p_S24 eS27 (by decide)
  have p_S30 := pr_mfe p_S27 eS30 (by decide)
  have p_S33 := pr_mfe p_S30 eS33 (by decide)
  have p_S36 := pr_mfe p_S33 eS36 (by decide)
  have g := osome3 hg
  have eS := osome1 hf
  rw [← g.2.2, ← eS]
  exact .inl ⟨g.1.symm, ⟨_, by omega, p_S36⟩, ⟨gH.cg (fun j hj => by rw [hI_Tz _ _ (by omega) (by omega)]; try simp (disch := omega) only [if_neg, if_pos, and_self, and_true, true_and, and_false, false_and, if_true, if_false]) (fun j hj => by rw [hP_S36]; try simp (disch := omega) only [if_neg, if_pos, and_self, and_true, true_and, and_false, false_and, if_true, if_false]), gM.cg (by rw [hI_Tz _ _ (by omega) (by omega)]; try simp (disch := omega) only [if_neg, if_pos, and_self, and_true, true_and, and_false, false_and, if_true, if_false]) (fun m k hm hm2 => by rw [hI_Tz _ _ (by omega) (by omega)]; try simp (disch := omega) only [if_neg, if_pos, and_self, and_true, true_and, and_false, false_and, if_true, if_false]) (fun j hj => by rw [hP_S36]; try simp (disch := omega) only [if_neg, if_pos, and_self, and_true, true_and, and_false, false_and, if_true, if_false]), gG.cg (fun k hk => by rw [hI_Tz _ _ (by omega) (by omega)]; try simp (disch := omega) only [if_neg, if_pos, and_self, and_true, true_and, and_false, false_and, if_true, if_false]) (fun k => by rw [hI_Tz _ _ (by omega) (by omega)]; try simp (disch := omega) only [if_neg, if_pos, and_self, and_true, true_and, and_false, false_and, if_true, if_false]) (fun j hj hj2 => by rw [hP_S36]; try simp (disch := omega) only [if_neg, if_pos, and_self, and_true, true_and, and_false, false_and, if_true, if_false]), ⟨mc + 1, by omega, (by rw [hI_Tz _ _ (by omega) (by omega)]; (try simp (disch := omega) only [if_neg, if_pos, and_self, and_true, true_and, and_false, false_and, if_true, if_false]); try exact k_cv4), (by rw [hP_S36]; (try simp (disch := omega) only [if_neg, if_pos, and_self, and_true, true_and, and_false, false_and, if_true, if_false]); try exact k_v35), fun k2 hk2 => if e : k2 = mc then ⟨(by rw [e]; rw [hN_Tz, hP_S36]; (try simp (disch := omega) only [if_neg, if_pos, and_self, and_true, true_and, and_false, false_and, if_true, if_false]); try exact w0), (by rw [e]; rw [hN_Tz, hP_S36]; (try simp (disch := omega) only [if_neg, if_pos, and_self, and_true, true_and, and_false, false_and, if_true, if_false]); try exact w5), (by rw [e]; rw [hN_Tz, hP_S36]; (try simp (disch := omega) only [if_neg, if_pos, and_self, and_true, true_and, and_false, false_and, if_true, if_false]); try exact w6), (by rw [e]; rw [hN_Tz, hP_S36]; (try simp (disch := omega) only [if_neg, if_pos, and_self, and_true, true_and, and_false, false_and, if_true, if_false]); try exact w7), (by rw [e]; rw [hN_Tz, hP_S36]; (try simp (disch := omega) only [if_neg, if_pos, and_self, and_true, true_and, and_false, false_and, if_true, if_false]); try exact w8), .inl ⟨(by rw [e]; rw [hN_Tz]; exact w9), (by rw [e]; rw [hD_S36]; try simp (disch := omega) only [if_neg, if_pos, and_self, and_true, true_and, and_false, false_and, if_true, if_false])⟩, (by rw [e]; rw [hN_Tz, hD_S36]; (try simp (disch := omega) only [if_neg, if_pos, and_self, and_true, true_and, and_false, false_and, if_true, if_false]); try exact w1), (by rw [e]; rw [hN_Tz, hD_S36]; (try simp (disch := omega) only [if_neg, if_pos, and_self, and_true, true_and, and_false, false_and, if_true, if_false]); try exact w2), (by rw [e]; rw [hN_Tz, hD_S36]; (try simp (disch := omega) only [if_neg, if_pos, and_self, and_true, true_and, and_false, false_and, if_true, if_false]); try exact w3), (by rw [e]; rw [hN_Tz, hD_S36]; (try simp (disch := omega) only [if_neg, if_pos, and_self, and_true, true_and, and_false, false_and, if_true, if_false]); try exact w4)⟩ else ⟨(by rw [hI_Tz _ _ (by omega) (by omega), hP_S36]; (try simp (disch := omega) only [if_neg, if_pos, and_self, and_true, true_and, and_false, false_and, if_true, if_false]); try exact (b4 k2 (by omega)).1), (by rw [hI_Tz _ _ (by omega) (by omega), hP_S36]; (try simp (disch := omega) only [if_neg, if_pos, and_self, and_true, true_and, and_false, false_and, if_true, if_false]); try exact (b4 k2 (by omega)).2.1), (by rw [hI_Tz _ _ (by omega) (by omega), hP_S36]; (try simp (disch := omega) only [if_neg, if_pos, and_self, and_true, true_and, and_false, false_and, if_true, if_false]); try exact (b4 k2 (by omega)).2.2.1), (by rw [hI_Tz _ _ (by omega) (by omega), hP_S36]; (try simp (disch := omega) only [if_neg, if_pos, and_self, and_true, true_and, and_false, false_and, if_true, if_false]); try exact (b4 k2 (by omega)).2.2.2.1), (by rw [hI_Tz _ _ (by omega) (by omega), hP_S36]; (try simp (disch := omega) only [if_neg, if_pos, and_self, and_true, true_and, and_false, false_and, if_true, if_false]); try exact (b4 k2 (by omega)).2.2.2.2.1), (by rw [hI_Tz _ _ (by omega) (by omega), hD_S36]; (try simp (disch := omega) only [if_neg, if_pos, and_self, and_true, true_and, and_false, false_and, if_true, if_false]); try exact (b4 k2 (by omega)).2.2.2.2.2.1), (by rw [hI_Tz _ _ (by omega) (by omega), hD_S36]; (try simp (disch := omega) only [if_neg, if_pos, and_self, and_true, true_and, and_false, false_and, if_true, if_false]); try exact (b4 k2 (by omega)).2.2.2.2.2.2.1), (by rw [hI_Tz _ _ (by omega) (by omega), hD_S36]; (try simp (disch := omega) only [if_neg, if_pos, and_self, and_true, true_and, and_false, false_and, if_true, if_false]); try exact (b4 k2 (by omega)).2.2.2.2.2.2.2.1), (by rw [hI_Tz _ _ (by omega) (by omega), hD_S36]; (try simp (disch := omega) only [if_neg, if_pos, and_self, and_true, true_and, and_false, false_and, if_true, if_false]); try exact (b4 k2 (by omega)).2.2.2.2.2.2.2.2.1), (by rw [hI_Tz _ _ (by omega) (by omega), hD_S36]; (try simp (disch := omega) only [if_neg, if_pos, and_self, and_true, true_and, and_false, false_and, if_true, if_false]); try exact (b4 k2 (by omega)).2.2.2.2.2.2.2.2.2)⟩⟩, gW.cg (by rw [hI_Tz _ _ (by omega) (by omega)]; try simp (disch := omega) only [if_neg, if_pos, and_self, and_true, true_and, and_false, false_and, if_true, if_false]) (fun k => by rw [hI_Tz _ _ (by omega) (by omega)]; try simp (disch := omega) only [if_neg, if_pos, and_self, and_true, true_and, and_false, false_and, if_true, if_false]) (fun k => by rw [hI_Tz _ _ (by omega) (by omega)]; try simp (disch := omega) only [if_neg, if_pos, and_self, and_true, true_and, and_false, false_and, if_true, if_false]) (fun j hj hj2 => by rw [hP_S36]; try simp (disch := omega) only [if_neg, if_pos, and_self, and_true, true_and, and_false, false_and, if_true, if_false]), gF.cg (by rw [hI_Tz _ _ (by omega) (by omega)]; try simp (disch := omega) only [if_neg, if_pos, and_self, and_true, true_and, and_false, false_and, if_true, if_false]) (by rw [hP_S36]; try simp (disch := omega) only [if_neg, if_pos, and_self, and_true, true_and, and_false, false_and, if_true, if_false]), gT.cg (by rw [hI_Tz _ _ (by omega) (by omega)]; try simp (disch := omega) only [if_neg, if_pos, and_self, and_true, true_and, and_false, false_and, if_true, if_false]) (fun k => by rw [hI_Tz _ _ (by omega) (by omega)]; try simp (disch := omega) only [if_neg, if_pos, and_self, and_true, true_and, and_false, false_and, if_true, if_false]) (fun j hj hj2 => by rw [hP_S36]; try simp (disch := omega) only [if_neg, if_pos, and_self, and_true, true_and, and_false, false_and, if_true, if_false]), gZ.cg (by rw [hI_Tz _ _ (by omega) (by omega)]; try simp (disch := omega) only [if_neg, if_pos, and_self, and_true, true_and, and_false, false_and, if_true, if_false]) (fun m k hm hm2 => by rw [hI_Tz _ _ (by omega) (by omega)]; try simp (disch := omega) only [if_neg, if_pos, and_self, and_true, true_and, and_false, false_and, if_true, if_false]) (fun j hj hj2 => by rw [hP_S36]; try simp (disch := omega) only [if_neg, if_pos, and_self, and_true, true_and, and_false, false_and, if_true, if_false]), gD.cg (by rw [hI_Tz _ _ (by omega) (by omega)]; try simp (disch := omega) only [if_neg, if_pos, and_self, and_true, true_and, and_false, false_and, if_true, if_false]) (fun k => by rw [hI_Tz _ _ (by omega) (by omega)]; try simp (disch := omega) only [if_neg, if_pos, and_self, and_true, true_and, and_false, false_and, if_true, if_false]) (fun j hj hj2 => by rw [hP_S36]; try simp (disch := omega) only [if_neg, if_pos, and_self, and_true, true_and, and_false, false_and, if_true, if_false]), (fun j hj => by rw [hD_S36]; (try simp (disch := omega) only [if_neg, if_pos, and_self, and_true, true_and, and_false, false_and, if_true, if_false]); try exact gX j hj)⟩, r_Tz⟩
theorem st_b186 {S S1 : MS} {s0 l1 l2 l3 l4 l5 l6 l7 l8 l9 : Int32} (q : 0 < (S.1 5).toInt) (hf : fr_readSource_b186 S s0 l1 l2 l3 l4 l5 l6 l7 l8 l9 = some S1) : S1 = S := by
  unfold fr_readSource_b186 at hf
  obtain ⟨v, ev, hf⟩ := elet_some hf
  rw [if_neg (st_le q ev)] at hf
  exact (osome1 hf).symm
theorem st_src2 {S S1 : MS} {r : Int32} {l1 l2 l3 l4 l5 l6 l7 l8 l9 : Int32} (q : 0 < (S.1 5).toInt) (hf : (if r = 0 then (fr_readSource_b186 S 0 l1 l2 l3 l4 l5 l6 l7 l8 l9) else (obind2 (fr_number S 0 199) fun r42 S39 => fr_readSource_b186 S39 r42 l1 l2 l3 l4 l5 l6 l7 l8 l9)) = some S1) : S1 = S := by
  by_cases c : r = 0
  · rw [if_pos c] at hf
    exact st_b186 q hf
  · rw [if_neg c] at hf
    obtain ⟨r42, S39, f, hf⟩ := obind2_some hf
    have e := st_number q f
    rw [e] at hf
    exact st_b186 q hf
theorem st_b86 {S S1 : MS} {l1 l2 : Int32} (q : 0 < (S.1 5).toInt) (hf : fr_readSource_b86 S l1 l2 = some S1) : S1 = S := by
  unfold fr_readSource_b86 at hf
  obtain ⟨S2, f2, hf⟩ := obind_some hf
  rw [st_next q f2] at hf
  obtain ⟨r8, S5, f5, hf⟩ := obind2_some hf
  rw [st_signed q f5] at hf
  obtain ⟨r12, S9, f9, hf⟩ := obind2_some hf
  rw [st_signed q f9] at hf
  obtain ⟨r16, S13, f13, hf⟩ := obind2_some hf
  rw [st_signed q f13] at hf
  obtain ⟨r20, S17, f17, hf⟩ := obind2_some hf
  rw [st_signed q f17] at hf
  obtain ⟨r24, S21, f21, hf⟩ := obind2_some hf
  rw [st_number q f21] at hf
  obtain ⟨r28, S25, f25, hf⟩ := obind2_some hf
  rw [st_number q f25] at hf
  obtain ⟨r32, S29, f29, hf⟩ := obind2_some hf
  rw [st_number q f29] at hf
  obtain ⟨r37, S34, f34, hf⟩ := obind2_some hf
  rw [(st_takes q f34).2] at hf
  exact st_src2 q hf
theorem st_b75 {S S1 : MS} {s0 l1 : Int32} (q : 0 < (S.1 5).toInt) (hf : fr_readSource_b75 S s0 l1 = some S1) : S1 = S := by
  unfold fr_readSource_b75 at hf
  by_cases c : s0 = -1
  · rw [if_pos c] at hf
    obtain ⟨S3, f3, hf⟩ := obind_some hf
    rw [st_faults q f3] at hf
    exact st_b86 q hf
  · rw [if_neg c] at hf
    exact st_b86 q hf
theorem st_source {S S1 : MS} {l1 : Int32} (q : 0 < (S.1 5).toInt) (hf : (obind2 (fr_isWord S (sTx "square")) fun r9 S6 => if r9 = 0 then (obind2 (fr_isWord S6 (sTx "triangle")) fun r15 S12 => if r15 = 0 then (obind2 (fr_isWord S12 (sTx "pulse")) fun r21 S18 => if r21 = 0 then (obind2 (fr_isWord S18 (sTx "noise")) fun r27 S24 => if r27 = 0 then (fr_readSource_b75 S24 (-1) l1) else (fr_readSource_b75 S24 3 l1)) else (fr_readSource_b75 S18 2 l1)) else (fr_readSource_b75 S12 1 l1)) else (fr_readSource_b75 S6 0 l1)) = some S1) : S1 = S := by
  obtain ⟨r9, S6, f6, hf⟩ := obind2_some hf
  rw [if_pos (st_word q f6).1, (st_word q f6).2] at hf
  obtain ⟨r15, S12, f12, hf⟩ := obind2_some hf
  rw [if_pos (st_word q f12).1, (st_word q f12).2] at hf
  obtain ⟨r21, S18, f18, hf⟩ := obind2_some hf
  rw [if_pos (st_word q f18).1, (st_word q f18).2] at hf
  obtain ⟨r27, S24, f24, hf⟩ := obind2_some hf
  rw [if_pos (st_word q f24).1, (st_word q f24).2] at hf
  exact st_b75 q hf
set_option maxHeartbeats 4000000 in
set_option maxRecDepth 10000 in
theorem l_source {b : Nat → Int32} {n c i k s : Nat} {T T1 : AT} {S S1 : MS} {r : Int32} (h : PRq b n c i T S) (hk : kd b n (pst b n i) = 1) (hs : s = 478 ∨ s = 656) (hF : SRF s T) (hC : SCNq s T (S.2.1 11) (S.2.1 13)) (hg : g_X3_parseSource T 6 s = some (k, r, T1)) (hf : fr_readSource S = some S1) : LNq b n c i s T T1 S1 k := by
  have hsb : 478 ≤ s ∧ s ≤ 656 := by omega
  obtain ⟨gH, gM, gG, gS, gW, gF, gT, gZ, gD, gX⟩ := hC
  obtain ⟨F1, F2, F3, F4, F5, F6, F7, F8, F9, F10, F11, F12, F13, F14, F15⟩ := hF
  obtain ⟨mc, b1, b2, b3, b4⟩ := gS
  unfold g_X3_parseSource at hg
  obtain ⟨-, hg⟩ := oif_some hg
  obtain ⟨v3, ev3, hg⟩ := elet_some hg
  rw [b2] at ev3
  unfold fr_readSource at hf
  obtain ⟨v2, ev2, hf⟩ := elet_some hf
  rw [b3] at ev2
  have key : ∃ (a0 : Int32) (Sa : MS), g_X3_parseSource_b15 T a0 6 6 s = some (k, r, T1) ∧ fr_readSource_b18 Sa v2 = some S1 ∧ ((a0 = 0 ∧ Sa = S) ∨ (a0 ≠ 0 ∧ fr_faults S 4 = some Sa)) ∧ (a0 = 0 → mc < 6) := by
    by_cases cm : mc < 6
    · rw [if_pos (by rw [ev3]; exact nI_lt (a := mc) (b := 6) cm (by decide))] at hg
      rw [if_neg (fun q => by rw [ev2] at q; have := (nI_eq (a := mc) (b := 6) (by omega) (by decide)).mp q; omega)] at hf
      exact ⟨0, S, hg, hf, .inl ⟨rfl, rfl⟩, fun _ => cm⟩
    · rw [if_neg (by rw [ev3]; exact nI_nlt (a := mc) (b := 6) (by omega) (by omega))] at hg
      rw [if_pos (by rw [ev2, show mc = 6 from by omega]; rfl)] at hf
      obtain ⟨S4, f4, hf⟩ := obind_some hf
      exact ⟨1, S4, hg, hf, .inr ⟨by decide, f4⟩, fun q => absurd q (by decide)⟩
  obtain ⟨a0, Sa, hg, hf, hcase, hmc⟩ := key
  unfold fr_readSource_b18 at hf
  obtain ⟨S2, fS2, hf⟩ := obind_some hf
  unfold g_X3_parseSource_b15 at hg
  obtain ⟨-, hg⟩ := oif_some hg
  have fin_S2 : 0 < (S2.1 5).toInt → S1 = S2 := fun q => st_source q hf
  rcases othr_k hg with ⟨r9, g9, z0⟩ | ⟨r5c, T3c, g9, hg⟩
  · rcases k_line h hk (by decide) g9 hcase fS2 with ⟨z, -⟩ | ⟨z1, z2⟩
    · exact absurd z z0
    · exact .inr ⟨z1, by rw [fin_S2 z2.1]; exact z2⟩
  rcases k_line h hk (by decide) g9 hcase fS2 with ⟨-, p_T3c, tf_T3c, m0, za⟩ | ⟨z1, -⟩
  rotate_left
  · exact absurd z1 (by decide)
  have cmc := hmc za
  obtain ⟨sv, Sb, hf, hsh⟩ := r_shape p_T3c hf
  unfold fr_readSource_b86 at hf
  obtain ⟨S2q, fS2q, hf⟩ := obind_some hf
  obtain ⟨r8q, S5q, fS5q, hf⟩ := obind2_some hf
  obtain ⟨r12q, S9q, fS9q, hf⟩ := obind2_some hf
  obtain ⟨r16q, S13q, fS13q, hf⟩ := obind2_some hf
  obtain ⟨r20q, S17q, fS17q, hf⟩ := obind2_some hf
  obtain ⟨r24q, S21q, fS21q, hf⟩ := obind2_some hf
  obtain ⟨r28q, S25q, fS25q, hf⟩ := obind2_some hf
  obtain ⟨r32q, S29q, fS29q, hf⟩ := obind2_some hf
  obtain ⟨r37q, S34q, fS34q, hf⟩ := obind2_some hf
  have fin_S34q : 0 < (S34q.1 5).toInt → S1 = S34q := fun q => st_src2 q hf
  have fin_S29q : 0 < (S29q.1 5).toInt → S1 = S29q := fun q => by have e := (st_takes q fS34q).2; exact (fin_S34q (by rw [e]; exact q)).trans e
  have fin_S25q : 0 < (S25q.1 5).toInt → S1 = S25q := fun q => by have e := (st_number q fS29q); exact (fin_S29q (by rw [e]; exact q)).trans e
  have fin_S21q : 0 < (S21q.1 5).toInt → S1 = S21q := fun q => by have e := (st_number q fS25q); exact (fin_S25q (by rw [e]; exact q)).trans e
  have fin_S17q : 0 < (S17q.1 5).toInt → S1 = S17q := fun q => by have e := (st_number q fS21q); exact (fin_S21q (by rw [e]; exact q)).trans e
  have fin_S13q : 0 < (S13q.1 5).toInt → S1 = S13q := fun q => by have e := (st_signed q fS17q); exact (fin_S17q (by rw [e]; exact q)).trans e
  have fin_S9q : 0 < (S9q.1 5).toInt → S1 = S9q := fun q => by have e := (st_signed q fS13q); exact (fin_S13q (by rw [e]; exact q)).trans e
  have fin_S5q : 0 < (S5q.1 5).toInt → S1 = S5q := fun q => by have e := (st_signed q fS9q); exact (fin_S9q (by rw [e]; exact q)).trans e
  have fin_S2q : 0 < (S2q.1 5).toInt → S1 = S2q := fun q => by have e := (st_signed q fS5q); exact (fin_S5q (by rw [e]; exact q)).trans e
  have fin_Sb : 0 < (Sb.1 5).toInt → S1 = Sb := fun q => by have e := (st_next q fS2q); exact (fin_S2q (by rw [e]; exact q)).trans e
  have r_T3c : T3c.2.2.2.2 = T.2.2.2.2 := congrArg (fun x => x.2) tf_T3c.2.2.1
  have hI_T3c : ∀ m j : Nat, m ≠ 6 → T3c.2.2.1 m j = T.2.2.1 m j := fun m j h6 => by rw [tf_T3c.2.2.2 m j h6]
  obtain ⟨-, hg⟩ := oif_some hg
  obtain ⟨n8c, en8c, hg⟩ := obind_some hg
  rw [r_T3c, F3] at en8c
  cases en8c
  obtain ⟨-, hg⟩ := oif_some hg
  obtain ⟨v10c, ev10c, hg⟩ := elet_some hg
  rw [hI_T3c _ _ (by omega)] at ev10c
  rw [b2] at ev10c
  have k_v10c : v10c = nI mc := ev10c
  obtain ⟨-, hg⟩ := oif_some hg
  obtain ⟨-, hg⟩ := oif_some hg
  obtain ⟨n13c, en13c, hg⟩ := obind_some hg
  rw [k_v10c, nI_clamp (by omega)] at en13c
  rw [r_T3c, F10 _ (by omega)] at en13c
  cases en13c
  obtain ⟨-, hg⟩ := oif_some hg
  rcases othr_k hg with ⟨r9, g9, z0⟩ | ⟨r17c, T15c, g9, hg⟩
  · rcases k_shape p_T3c g9 hsh fS2q with ⟨z, -⟩ | ⟨z1, z2⟩
    · exact absurd z z0
    · exact .inr ⟨z1, by rw [fin_S2q z2.1]; exact z2⟩
  rcases k_shape p_T3c g9 hsh fS2q with ⟨-, qv, p_T15c, tf_T15c, mf_T15c⟩ | ⟨z1, -⟩
  rotate_left
  · exact absurd z1 (by decide)
  have r_T15c : T15c.2.2.2.2 = T.2.2.2.2 := (congrArg (fun x => x.2) tf_T15c.2.2.1).trans r_T3c
  have hI_T15c : ∀ m j : Nat, m ≠ 6 → T15c.2.2.1 m j = T.2.2.1 m j := fun m j h6 => by rw [tf_T15c.2.2.2 m j h6, hI_T3c m j h6]
  have mm_T15c := MFq.tr m0 mf_T15c
  obtain ⟨-, hg⟩ := oif_some hg
  obtain ⟨T20c, eT20c, hg⟩ := elet_some hg
  have r_T20c : T20c.2.2.2.2 = T.2.2.2.2 := by rw [eT20c]; exact r_T15c
  have hI_T20c : ∀ m j : Nat, m ≠ 6 → T20c.2.2.1 m j = if m = (s + 172 + mc) ∧ j = 0 then r17c else T.2.2.1 m j := fun m j h6 => by rw [eT20c, ui_get, hI_T15c m j h6]
  have p_T20c := pr_uI (m := (s + 172 + mc)) (k := 0) (v := r17c) p_T15c (by omega)
  rw [← eT20c] at p_T20c
  obtain ⟨-, hg⟩ := oif_some hg
  rcases othr_k hg with ⟨r9, g9, z0⟩ | ⟨r24c, T22c, g9, hg⟩
  · rcases k_signed p_T20c g9 fS5q with ⟨z, -⟩ | ⟨z1, z2⟩
    · exact absurd z z0
    · exact .inr ⟨z1, by rw [fin_S5q z2.1]; exact z2⟩
  rcases k_signed p_T20c g9 fS5q with ⟨-, q_r24c, ⟨i_T22c, l_T22c, p_T22c⟩, tf_T22c, mf_T22c⟩ | ⟨z1, -⟩
  rotate_left
  · exact absurd z1 (by decide)
  have r_T22c : T22c.2.2.2.2 = T.2.2.2.2 := (congrArg (fun x => x.2) tf_T22c.2.2.1).trans r_T20c
  have hI_T22c : ∀ m j : Nat, m ≠ 6 → T22c.2.2.1 m j = if m = (s + 172 + mc) ∧ j = 0 then r17c else T.2.2.1 m j := fun m j h6 => by rw [tf_T22c.2.2.2 m j h6, hI_T20c m j h6]
  have mm_T22c := MFq.tr mm_T15c mf_T22c
  obtain ⟨-, hg⟩ := oif_some hg
  obtain ⟨T27c, eT27c, hg⟩ := elet_some hg
  have r_T27c : T27c.2.2.2.2 = T.2.2.2.2 := by rw [eT27c]; exact r_T22c
  have hI_T27c : ∀ m j : Nat, m ≠ 6 → T27c.2.2.1 m j = if m = (s + 172 + mc) ∧ j = 1 then r24c else if m = (s + 172 + mc) ∧ j = 0 then r17c else T.2.2.1 m j := fun m j h6 => by rw [eT27c, ui_get, hI_T22c m j h6]
  have p_T27c := pr_uI (m := (s + 172 + mc)) (k := 1) (v := r24c) p_T22c (by omega)
  rw [← eT27c] at p_T27c
  obtain ⟨-, hg⟩ := oif_some hg
  rcases othr_k hg with ⟨r9, g9, z0⟩ | ⟨r31c, T29c, g9, hg⟩
  · rcases k_signed p_T27c g9 fS9q with ⟨z, -⟩ | ⟨z1, z2⟩
    · exact absurd z z0
    · exact .inr ⟨z1, by rw [fin_S9q z2.1]; exact z2⟩
  rcases k_signed p_T27c g9 fS9q with ⟨-, q_r31c, ⟨i_T29c, l_T29c, p_T29c⟩, tf_T29c, mf_T29c⟩ | ⟨z1, -⟩
  rotate_left
  · exact absurd z1 (by decide)
  have r_T29c : T29c.2.2.2.2 = T.2.2.2.2 := (congrArg (fun x => x.2) tf_T29c.2.2.1).trans r_T27c
  have hI_T29c : ∀ m j : Nat, m ≠ 6 → T29c.2.2.1 m j = if m = (s + 172 + mc) ∧ j = 1 then r24c else if m = (s + 172 + mc) ∧ j = 0 then r17c else T.2.2.1 m j := fun m j h6 => by rw [tf_T29c.2.2.2 m j h6, hI_T27c m j h6]
  have mm_T29c := MFq.tr mm_T22c mf_T29c
  obtain ⟨-, hg⟩ := oif_some hg
  obtain ⟨T34c, eT34c, hg⟩ := elet_some hg
  have r_T34c : T34c.2.2.2.2 = T.2.2.2.2 := by rw [eT34c]; exact r_T29c
  have hI_T34c : ∀ m j : Nat, m ≠ 6 → T34c.2.2.1 m j = if m = (s + 172 + mc) ∧ j = 2 then r31c else if m = (s + 172 + mc) ∧ j = 1 then r24c else if m = (s + 172 + mc) ∧ j = 0 then r17c else T.2.2.1 m j := fun m j h6 => by rw [eT34c, ui_get, hI_T29c m j h6]
  have p_T34c := pr_uI (m := (s + 172 + mc)) (k := 2) (v := r31c) p_T29c (by omega)
  rw [← eT34c] at p_T34c
  obtain ⟨-, hg⟩ := oif_some hg
  rcases othr_k hg with ⟨r9, g9, z0⟩ | ⟨r38c, T36c, g9, hg⟩
  · rcases k_signed p_T34c g9 fS13q with ⟨z, -⟩ | ⟨z1, z2⟩
    · exact absurd z z0
    · exact .inr ⟨z1, by rw [fin_S13q z2.1]; exact z2⟩
  rcases k_signed p_T34c g9 fS13q with ⟨-, q_r38c, ⟨i_T36c, l_T36c, p_T36c⟩, tf_T36c, mf_T36c⟩ | ⟨z1, -⟩
  rotate_left
  · exact absurd z1 (by decide)
  have r_T36c : T36c.2.2.2.2 = T.2.2.2.2 := (congrArg (fun x => x.2) tf_T36c.2.2.1).trans r_T34c
  have hI_T36c : ∀ m j : Nat, m ≠ 6 → T36c.2.2.1 m j = if m = (s + 172 + mc) ∧ j = 2 then r31c else if m = (s + 172 + mc) ∧ j = 1 then r24c else if m = (s + 172 + mc) ∧ j = 0 then r17c else T.2.2.1 m j := fun m j h6 => by rw [tf_T36c.2.2.2 m j h6, hI_T34c m j h6]
  have mm_T36c := MFq.tr mm_T29c mf_T36c
  obtain ⟨-, hg⟩ := oif_some hg
  obtain ⟨T41c, eT41c, hg⟩ := elet_some hg
  have r_T41c : T41c.2.2.2.2 = T.2.2.2.2 := by rw [eT41c]; exact r_T36c
  have hI_T41c : ∀ m j : Nat, m ≠ 6 → T41c.2.2.1 m j = if m = (s + 172 + mc) ∧ j = 3 then r38c else if m = (s + 172 + mc) ∧ j = 2 then r31c else if m = (s + 172 + mc) ∧ j = 1 then r24c else if m = (s + 172 + mc) ∧ j = 0 then r17c else T.2.2.1 m j := fun m j h6 => by rw [eT41c, ui_get, hI_T36c m j h6]
  have p_T41c := pr_uI (m := (s + 172 + mc)) (k := 3) (v := r38c) p_T36c (by omega)
  rw [← eT41c] at p_T41c
  obtain ⟨-, hg⟩ := oif_some hg
  rcases othr_k hg with ⟨r9, g9, z0⟩ | ⟨r45c, T43c, g9, hg⟩
  · rcases k_signed p_T41c g9 fS17q with ⟨z, -⟩ | ⟨z1, z2⟩
    · exact absurd z z0
    · exact .inr ⟨z1, by rw [fin_S17q z2.1]; exact z2⟩
  rcases k_signed p_T41c g9 fS17q with ⟨-, q_r45c, ⟨i_T43c, l_T43c, p_T43c⟩, tf_T43c, mf_T43c⟩ | ⟨z1, -⟩
  rotate_left
  · exact absurd z1 (by decide)
  have r_T43c : T43c.2.2.2.2 = T.2.2.2.2 := (congrArg (fun x => x.2) tf_T43c.2.2.1).trans r_T41c
  have hI_T43c : ∀ m j : Nat, m ≠ 6 → T43c.2.2.1 m j = if m = (s + 172 + mc) ∧ j = 3 then r38c else if m = (s + 172 + mc) ∧ j = 2 then r31c else if m = (s + 172 + mc) ∧ j = 1 then r24c else if m = (s + 172 + mc) ∧ j = 0 then r17c else T.2.2.1 m j := fun m j h6 => by rw [tf_T43c.2.2.2 m j h6, hI_T41c m j h6]
  have mm_T43c := MFq.tr mm_T36c mf_T43c
  obtain ⟨-, hg⟩ := oif_some hg
  obtain ⟨T48c, eT48c, hg⟩ := elet_some hg
  have r_T48c : T48c.2.2.2.2 = T.2.2.2.2 := by rw [eT48c]; exact r_T43c
  have hI_T48c : ∀ m j : Nat, m ≠ 6 → T48c.2.2.1 m j = if m = (s + 172 + mc) ∧ j = 4 then r45c else if m = (s + 172 + mc) ∧ j = 3 then r38c else if m = (s + 172 + mc) ∧ j = 2 then r31c else if m = (s + 172 + mc) ∧ j = 1 then r24c else if m = (s + 172 + mc) ∧ j = 0 then r17c else T.2.2.1 m j := fun m j h6 => by rw [eT48c, ui_get, hI_T43c m j h6]
  have p_T48c := pr_uI (m := (s + 172 + mc)) (k := 4) (v := r45c) p_T43c (by omega)
  rw [← eT48c] at p_T48c
  obtain ⟨-, hg⟩ := oif_some hg
  rcases othr_k hg with ⟨r9, g9, z0⟩ | ⟨r52c, T50c, g9, hg⟩
  · rcases k_number p_T48c g9 fS21q with ⟨z, -⟩ | ⟨z1, z2⟩
    · exact absurd z z0
    · exact .inr ⟨z1, by rw [fin_S21q z2.1]; exact z2⟩
  rcases k_number p_T48c g9 fS21q with ⟨-, q_r52c, lo_r52c, hi_r52c, p_T50c, tf_T50c, mf_T50c⟩ | ⟨z1, -⟩
  rotate_left
  · exact absurd z1 (by decide)
  have r_T50c : T50c.2.2.2.2 = T.2.2.2.2 := (congrArg (fun x => x.2) tf_T50c.2.2.1).trans r_T48c
  have hI_T50c : ∀ m j : Nat, m ≠ 6 → T50c.2.2.1 m j = if m = (s + 172 + mc) ∧ j = 4 then r45c else if m = (s + 172 + mc) ∧ j = 3 then r38c else if m = (s + 172 + mc) ∧ j = 2 then r31c else if m = (s + 172 + mc) ∧ j = 1 then r24c else if m = (s + 172 + mc) ∧ j = 0 then r17c else T.2.2.1 m j := fun m j h6 => by rw [tf_T50c.2.2.2 m j h6, hI_T48c m j h6]
  have mm_T50c := MFq.tr mm_T43c mf_T50c
  obtain ⟨-, hg⟩ := oif_some hg
  obtain ⟨T55c, eT55c, hg⟩ := elet_some hg
  have r_T55c : T55c.2.2.2.2 = T.2.2.2.2 := by rw [eT55c]; exact r_T50c
  have hI_T55c : ∀ m j : Nat, m ≠ 6 → T55c.2.2.1 m j = if m = (s + 172 + mc) ∧ j = 5 then r52c else if m = (s + 172 + mc) ∧ j = 4 then r45c else if m = (s + 172 + mc) ∧ j = 3 then r38c else if m = (s + 172 + mc) ∧ j = 2 then r31c else if m = (s + 172 + mc) ∧ j = 1 then r24c else if m = (s + 172 + mc) ∧ j = 0 then r17c else T.2.2.1 m j := fun m j h6 => by rw [eT55c, ui_get, hI_T50c m j h6]
  have p_T55c := pr_uI (m := (s + 172 + mc)) (k := 5) (v := r52c) p_T50c (by omega)
  rw [← eT55c] at p_T55c
  obtain ⟨-, hg⟩ := oif_some hg
  rcases othr_k hg with ⟨r9, g9, z0⟩ | ⟨r59c, T57c, g9, hg⟩
  · rcases k_number p_T55c g9 fS25q with ⟨z, -⟩ | ⟨z1, z2⟩
    · exact absurd z z0
    · exact .inr ⟨z1, by rw [fin_S25q z2.1]; exact z2⟩
  rcases k_number p_T55c g9 fS25q with ⟨-, q_r59c, lo_r59c, hi_r59c, p_T57c, tf_T57c, mf_T57c⟩ | ⟨z1, -⟩
  rotate_left
  · exact absurd z1 (by decide)
  have r_T57c : T57c.2.2.2.2 = T.2.2.2.2 := (congrArg (fun x => x.2) tf_T57c.2.2.1).trans r_T55c
  have hI_T57c : ∀ m j : Nat, m ≠ 6 → T57c.2.2.1 m j = if m = (s + 172 + mc) ∧ j = 5 then r52c else if m = (s + 172 + mc) ∧ j = 4 then r45c else if m = (s + 172 + mc) ∧ j = 3 then r38c else if m = (s + 172 + mc) ∧ j = 2 then r31c else if m = (s + 172 + mc) ∧ j = 1 then r24c else if m = (s + 172 + mc) ∧ j = 0 then r17c else T.2.2.1 m j := fun m j h6 => by rw [tf_T57c.2.2.2 m j h6, hI_T55c m j h6]
  have mm_T57c := MFq.tr mm_T50c mf_T57c
  obtain ⟨-, hg⟩ := oif_some hg
  obtain ⟨T62c, eT62c, hg⟩ := elet_some hg
  have r_T62c : T62c.2.2.2.2 = T.2.2.2.2 := by rw [eT62c]; exact r_T57c
  have hI_T62c : ∀ m j : Nat, m ≠ 6 → T62c.2.2.1 m j = if m = (s + 172 + mc) ∧ j = 6 then r59c else if m = (s + 172 + mc) ∧ j = 5 then r52c else if m = (s + 172 + mc) ∧ j = 4 then r45c else if m = (s + 172 + mc) ∧ j = 3 then r38c else if m = (s + 172 + mc) ∧ j = 2 then r31c else if m = (s + 172 + mc) ∧ j = 1 then r24c else if m = (s + 172 + mc) ∧ j = 0 then r17c else T.2.2.1 m j := fun m j h6 => by rw [eT62c, ui_get, hI_T57c m j h6]
  have p_T62c := pr_uI (m := (s + 172 + mc)) (k := 6) (v := r59c) p_T57c (by omega)
  rw [← eT62c] at p_T62c
  obtain ⟨-, hg⟩ := oif_some hg
  rcases othr_k hg with ⟨r9, g9, z0⟩ | ⟨r66c, T64c, g9, hg⟩
  · rcases k_number p_T62c g9 fS29q with ⟨z, -⟩ | ⟨z1, z2⟩
    · exact absurd z z0
    · exact .inr ⟨z1, by rw [fin_S29q z2.1]; exact z2⟩
  rcases k_number p_T62c g9 fS29q with ⟨-, q_r66c, lo_r66c, hi_r66c, p_T64c, tf_T64c, mf_T64c⟩ | ⟨z1, -⟩
  rotate_left
  · exact absurd z1 (by decide)
  have r_T64c : T64c.2.2.2.2 = T.2.2.2.2 := (congrArg (fun x => x.2) tf_T64c.2.2.1).trans r_T62c
  have hI_T64c : ∀ m j : Nat, m ≠ 6 → T64c.2.2.1 m j = if m = (s + 172 + mc) ∧ j = 6 then r59c else if m = (s + 172 + mc) ∧ j = 5 then r52c else if m = (s + 172 + mc) ∧ j = 4 then r45c else if m = (s + 172 + mc) ∧ j = 3 then r38c else if m = (s + 172 + mc) ∧ j = 2 then r31c else if m = (s + 172 + mc) ∧ j = 1 then r24c else if m = (s + 172 + mc) ∧ j = 0 then r17c else T.2.2.1 m j := fun m j h6 => by rw [tf_T64c.2.2.2 m j h6, hI_T62c m j h6]
  have mm_T64c := MFq.tr mm_T57c mf_T64c
  obtain ⟨-, hg⟩ := oif_some hg
  obtain ⟨T69c, eT69c, hg⟩ := elet_some hg
  have r_T69c : T69c.2.2.2.2 = T.2.2.2.2 := by rw [eT69c]; exact r_T64c
  have hI_T69c : ∀ m j : Nat, m ≠ 6 → T69c.2.2.1 m j = if m = (s + 172 + mc) ∧ j = 7 then r66c else if m = (s + 172 + mc) ∧ j = 6 then r59c else if m = (s + 172 + mc) ∧ j = 5 then r52c else if m = (s + 172 + mc) ∧ j = 4 then r45c else if m = (s + 172 + mc) ∧ j = 3 then r38c else if m = (s + 172 + mc) ∧ j = 2 then r31c else if m = (s + 172 + mc) ∧ j = 1 then r24c else if m = (s + 172 + mc) ∧ j = 0 then r17c else T.2.2.1 m j := fun m j h6 => by rw [eT69c, ui_get, hI_T64c m j h6]
  have p_T69c := pr_uI (m := (s + 172 + mc)) (k := 7) (v := r66c) p_T64c (by omega)
  rw [← eT69c] at p_T69c
  obtain ⟨-, hg⟩ := oif_some hg
  obtain ⟨T71c, eT71c, hg⟩ := elet_some hg
  have r_T71c : T71c.2.2.2.2 = T.2.2.2.2 := by rw [eT71c]; exact r_T69c
  have hI_T71c : ∀ m j : Nat, m ≠ 6 → T71c.2.2.1 m j = if m = (s + 172 + mc) ∧ j = 8 then 0 else if m = (s + 172 + mc) ∧ j = 7 then r66c else if m = (s + 172 + mc) ∧ j = 6 then r59c else if m = (s + 172 + mc) ∧ j = 5 then r52c else if m = (s + 172 + mc) ∧ j = 4 then r45c else if m = (s + 172 + mc) ∧ j = 3 then r38c else if m = (s + 172 + mc) ∧ j = 2 then r31c else if m = (s + 172 + mc) ∧ j = 1 then r24c else if m = (s + 172 + mc) ∧ j = 0 then r17c else T.2.2.1 m j := fun m j h6 => by rw [eT71c, ui_get, hI_T69c m j h6]
  have p_T71c := pr_uI (m := (s + 172 + mc)) (k := 8) (v := 0) p_T69c (by omega)
  rw [← eT71c] at p_T71c
  obtain ⟨-, hg⟩ := oif_some hg
  obtain ⟨T73c, eT73c, hg⟩ := elet_some hg
  have r_T73c : T73c.2.2.2.2 = T.2.2.2.2 := by rw [eT73c]; exact r_T71c
  have hI_T73c : ∀ m j : Nat, m ≠ 6 → T73c.2.2.1 m j = if m = (s + 172 + mc) ∧ j = 9 then 0 else if m = (s + 172 + mc) ∧ j = 8 then 0 else if m = (s + 172 + mc) ∧ j = 7 then r66c else if m = (s + 172 + mc) ∧ j = 6 then r59c else if m = (s + 172 + mc) ∧ j = 5 then r52c else if m = (s + 172 + mc) ∧ j = 4 then r45c else if m = (s + 172 + mc) ∧ j = 3 then r38c else if m = (s + 172 + mc) ∧ j = 2 then r31c else if m = (s + 172 + mc) ∧ j = 1 then r24c else if m = (s + 172 + mc) ∧ j = 0 then r17c else T.2.2.1 m j := fun m j h6 => by rw [eT73c, ui_get, hI_T71c m j h6]
  have p_T73c := pr_uI (m := (s + 172 + mc)) (k := 9) (v := 0) p_T71c (by omega)
  rw [← eT73c] at p_T73c
  obtain ⟨-, hg⟩ := oif_some hg
  obtain ⟨r78c, T76c, g78, hg⟩ := obind2_some hg
  obtain ⟨t76, d78⟩ := kc_word wl4.2.2.2.2 p_T73c g78
  rw [t76] at hg
  unfold fr_takes at fS34q
  obtain ⟨u1, U1, g79, fS34q⟩ := obind2_some fS34q
  obtain ⟨t77, d79⟩ := kr_word wl4.2.2.2.2 p_T73c g79
  rw [t77] at fS34q
  by_cases cw : WD b n (pst b n (i_T43c + 1 + 1 + 1)) (sTx "from")
  rotate_left
  · have z1 : r78c = 0 := by
      rcases d78 with q | q
      · exact absurd q.2 cw
      · exact q.1
    have z2 : u1 = 0 := by
      rcases d79 with q | q
      · exact absurd q.2 cw
      · exact q.1
    rw [if_pos z1] at hg
    rw [if_pos z2] at fS34q
    unfold fr_takes_b14 at fS34q
    obtain ⟨-, fS34q⟩ := oif_some fS34q
    have g5 := osome2 fS34q
    rw [← g5.1, ← g5.2, if_pos z2] at hf
    exact l_src2 p_T73c (by omega) hs gH gM gG b2 b3 b4 gW gF gT gZ gD gX cmc ev2 r_T73c mm_T64c (fun m j h6 h7 => by rw [hI_T73c m j h6]; try simp (disch := omega) only [if_neg, if_pos, and_self, and_true, true_and, and_false, false_and, if_true, if_false]) ⟨(by rw [hI_T73c _ _ (by omega)]; (try simp (disch := omega) only [if_neg, if_pos, and_self, and_true, true_and, and_false, false_and, if_true, if_false]); try exact qv.symm), (by rw [hI_T73c _ _ (by omega)]; (try simp (disch := omega) only [if_neg, if_pos, and_self, and_true, true_and, and_false, false_and, if_true, if_false]); try exact q_r24c.symm), (by rw [hI_T73c _ _ (by omega)]; (try simp (disch := omega) only [if_neg, if_pos, and_self, and_true, true_and, and_false, false_and, if_true, if_false]); try exact q_r31c.symm), (by rw [hI_T73c _ _ (by omega)]; (try simp (disch := omega) only [if_neg, if_pos, and_self, and_true, true_and, and_false, false_and, if_true, if_false]); try exact q_r38c.symm), (by rw [hI_T73c _ _ (by omega)]; (try simp (disch := omega) only [if_neg, if_pos, and_self, and_true, true_and, and_false, false_and, if_true, if_false]); try exact q_r45c.symm), (by rw [hI_T73c _ _ (by omega)]; (try simp (disch := omega) only [if_neg, if_pos, and_self, and_true, true_and, and_false, false_and, if_true, if_false]); try exact q_r52c.symm), (by rw [hI_T73c _ _ (by omega)]; (try simp (disch := omega) only [if_neg, if_pos, and_self, and_true, true_and, and_false, false_and, if_true, if_false]); try exact q_r59c.symm), (by rw [hI_T73c _ _ (by omega)]; (try simp (disch := omega) only [if_neg, if_pos, and_self, and_true, true_and, and_false, false_and, if_true, if_false]); try exact q_r66c.symm), (by rw [hI_T73c _ _ (by omega)]; (try simp (disch := omega) only [if_neg, if_pos, and_self, and_true, true_and, and_false, false_and, if_true, if_false]); try exact rfl), (by rw [hI_T73c _ _ (by omega)]; (try simp (disch := omega) only [if_neg, if_pos, and_self, and_true, true_and, and_false, false_and, if_true, if_false]); try exact rfl)⟩ hg hf
  · have z1 : r78c = 1 := by
      rcases d78 with q | q
      · exact q.1
      · exact absurd cw q.2
    have z2 : u1 = 1 := by
      rcases d79 with q | q
      · exact q.1
      · exact absurd cw q.2
    rw [if_neg (by rw [z1]; decide)] at hg
    rw [if_neg (by rw [z2]; decide)] at fS34q
    obtain ⟨U7, fU7, fS34q⟩ := obind_some fS34q
    unfold fr_takes_b14 at fS34q
    obtain ⟨-, fS34q⟩ := oif_some fS34q
    have g5 := osome2 fS34q
    rw [← g5.1, ← g5.2, if_neg (by rw [z2]; decide)] at hf
    obtain ⟨pa, ma⟩ := pr_adv p_T73c (by rw [cw.1]; decide) fU7
    obtain ⟨r42, S39, fS39, hf⟩ := obind2_some hf
    obtain ⟨-, hg⟩ := oif_some hg
    obtain ⟨v82, ev82, hg⟩ := elet_some hg
    rw [p_T73c.1.2.2.2.2.2] at ev82
    obtain ⟨v83, ev83, hg⟩ := elet_some hg
    rw [ev82, nI_1] at ev83
    obtain ⟨-, hg⟩ := oif_some hg
    obtain ⟨T85, eT85, hg⟩ := elet_some hg
    rw [← ev83, ← eT85] at pa
    obtain ⟨-, hg⟩ := oif_some hg
    rcases othr_k hg with ⟨r9, g9, z0⟩ | ⟨r89, T87, g9, hg⟩
    · rcases k_number pa g9 fS39 with ⟨z, -⟩ | ⟨z3, z4⟩
      · exact absurd z z0
      · exact .inr ⟨z3, by rw [st_b186 z4.1 hf]; exact z4⟩
    rcases k_number pa g9 fS39 with ⟨-, q_r89, -, -, p_T87, tf_T87, mf_T87⟩ | ⟨z3, -⟩
    rotate_left
    · exact absurd z3 (by decide)
    obtain ⟨-, hg⟩ := oif_some hg
    obtain ⟨T92, eT92, hg⟩ := elet_some hg
    have r_T85 : T85.2.2.2.2 = T.2.2.2.2 := by rw [eT85]; exact r_T73c
    have r_T92 : T92.2.2.2.2 = T.2.2.2.2 := by rw [eT92]; exact (congrArg (fun x => x.2) tf_T87.2.2.1).trans r_T85
    have hI_T92 : ∀ m j : Nat, m ≠ 6 → T92.2.2.1 m j = if m = (s + 172 + mc) ∧ j = 8 then r89 else if m = (s + 172 + mc) ∧ j = 9 then 0 else if m = (s + 172 + mc) ∧ j = 8 then 0 else if m = (s + 172 + mc) ∧ j = 7 then r66c else if m = (s + 172 + mc) ∧ j = 6 then r59c else if m = (s + 172 + mc) ∧ j = 5 then r52c else if m = (s + 172 + mc) ∧ j = 4 then r45c else if m = (s + 172 + mc) ∧ j = 3 then r38c else if m = (s + 172 + mc) ∧ j = 2 then r31c else if m = (s + 172 + mc) ∧ j = 1 then r24c else if m = (s + 172 + mc) ∧ j = 0 then r17c else T.2.2.1 m j := fun m j h6 => by rw [eT92, ui_get, tf_T87.2.2.2 m j h6, eT85, ui_ne (.inl h6), hI_T73c m j h6]
    have p_T92 := pr_uI (m := s + 172 + mc) (k := 8) (v := r89) p_T87 (by omega)
    rw [← eT92] at p_T92
    exact l_src2 p_T92 (by omega) hs gH gM gG b2 b3 b4 gW gF gT gZ gD gX cmc ev2 r_T92 ((MFq.tr mm_T64c ma).tr mf_T87) (fun m j h6 h7 => by rw [hI_T92 m j h6]; try simp (disch := omega) only [if_neg, if_pos, and_self, and_true, true_and, and_false, false_and, if_true, if_false]) ⟨(by rw [hI_T92 _ _ (by omega)]; (try simp (disch := omega) only [if_neg, if_pos, and_self, and_true, true_and, and_false, false_and, if_true, if_false]); try exact qv.symm), (by rw [hI_T92 _ _ (by omega)]; (try simp (disch := omega) only [if_neg, if_pos, and_self, and_true, true_and, and_false, false_and, if_true, if_false]); try exact q_r24c.symm), (by rw [hI_T92 _ _ (by omega)]; (try simp (disch := omega) only [if_neg, if_pos, and_self, and_true, true_and, and_false, false_and, if_true, if_false]); try exact q_r31c.symm), (by rw [hI_T92 _ _ (by omega)]; (try simp (disch := omega) only [if_neg, if_pos, and_self, and_true, true_and, and_false, false_and, if_true, if_false]); try exact q_r38c.symm), (by rw [hI_T92 _ _ (by omega)]; (try simp (disch := omega) only [if_neg, if_pos, and_self, and_true, true_and, and_false, false_and, if_true, if_false]); try exact q_r45c.symm), (by rw [hI_T92 _ _ (by omega)]; (try simp (disch := omega) only [if_neg, if_pos, and_self, and_true, true_and, and_false, false_and, if_true, if_false]); try exact q_r52c.symm), (by rw [hI_T92 _ _ (by omega)]; (try simp (disch := omega) only [if_neg, if_pos, and_self, and_true, true_and, and_false, false_and, if_true, if_false]); try exact q_r59c.symm), (by rw [hI_T92 _ _ (by omega)]; (try simp (disch := omega) only [if_neg, if_pos, and_self, and_true, true_and, and_false, false_and, if_true, if_false]); try exact q_r66c.symm), (by rw [hI_T92 _ _ (by omega)]; (try simp (disch := omega) only [if_neg, if_pos, and_self, and_true, true_and, and_false, false_and, if_true, if_false]); try exact q_r89.symm), (by rw [hI_T92 _ _ (by omega)]; (try simp (disch := omega) only [if_neg, if_pos, and_self, and_true, true_and, and_false, false_and, if_true, if_false]); try exact rfl)⟩ hg hf
set_option maxHeartbeats 4000000 in
set_option maxRecDepth 10000 in
theorem l_fade {b : Nat → Int32} {n c i k s : Nat} {T T1 : AT} {S S1 : MS} {r : Int32} (h : PRq b n c i T S) (hk : kd b n (pst b n i) = 1) (hs : s = 478 ∨ s = 656) (hF : SRF s T) (hC : SCNq s T (S.2.1 11) (S.2.1 13)) (hg : (elet (T.2.2.1 s 12) fun v107 => if v107 ≤ 0 then (g_X3_parseLine_b93 T 0 6 6 s) else (g_X3_parseLine_b93 T 1 6 6 s)) = some (k, r, T1)) (hf : fr_readFade S = some S1) : LNq b n c i s T T1 S1 k := by
  have hsb : 478 ≤ s ∧ s ≤ 656 := by omega
  obtain ⟨gH, gM, gG, gS, gW, gF, gT, gZ, gD, gX⟩ := hC
  obtain ⟨F1, F2, F3, F4, F5, F6, F7, F8, F9, F10, F11, F12, F13, F14, F15⟩ := hF
  obtain ⟨v3, ev3, hg⟩ := elet_some hg
  unfold fr_readFade at hf
  obtain ⟨v2, ev2, hf⟩ := elet_some hf
  have key : ∃ (a0 : Int32) (Sa : MS), g_X3_parseLine_b93 T a0 6 6 s = some (k, r, T1) ∧ fr_readFade_b15 Sa = some S1 ∧ ((a0 = 0 ∧ Sa = S) ∨ (a0 ≠ 0 ∧ fr_faults S 3 = some Sa)) ∧ (a0 = 0 → True) := by
    by_cases cm : v3 ≤ 0
    · rw [if_pos cm] at hg
      have cr : v2 ≤ 0 ∧ True := by
        have gF2 : T.2.2.1 s 12 = S.2.1 11 76 := gF
        rw [gF2] at ev3
        rw [ev2, ← ev3]
        exact ⟨cm, trivial⟩
      rw [if_pos cr.1] at hf
      exact ⟨0, S, hg, hf, .inl ⟨rfl, rfl⟩, fun _ => cr.2⟩
    · rw [if_neg cm] at hg
      have cr : ¬ v2 ≤ 0 := by
        have gF2 : T.2.2.1 s 12 = S.2.1 11 76 := gF
        rw [gF2] at ev3
        rw [ev2, ← ev3]
        exact cm
      rw [if_neg cr] at hf
      obtain ⟨S4, f4, hf⟩ := obind_some hf
      exact ⟨1, S4, hg, hf, .inr ⟨by decide, f4⟩, fun q => absurd q (by decide)⟩
  obtain ⟨a0, Sa, hg, hf, hcase, hmc⟩ := key
  unfold fr_readFade_b15 at hf
  obtain ⟨S2, fS2, hf⟩ := obind_some hf
  obtain ⟨r8, S5, fS5, hf⟩ := obind2_some hf
  obtain ⟨v9, ev9, hf⟩ := elet_some hf
  have fin_S5 : 0 < (S5.1 5).toInt → S1 = S5 := fun q => by rw [if_neg (st_ne q ev9)] at hf; exact (osome1 (show some S5 = some S1 from hf)).symm
  have fin_S2 : 0 < (S2.1 5).toInt → S1 = S2 := fun q => by have e := (st_number q fS5); exact (fin_S5 (by rw [e]; exact q)).trans e
  unfold g_X3_parseLine_b93 at hg
  obtain ⟨-, hg⟩ := oif_some hg
  rcases othr_k hg with ⟨r9, g9, z0⟩ | ⟨r5c, T3c, g9, hg⟩
  · rcases k_line h hk (by decide) g9 hcase fS2 with ⟨z, -⟩ | ⟨z1, z2⟩
    · exact absurd z z0
    · exact .inr ⟨z1, by rw [fin_S2 z2.1]; exact z2⟩
  rcases k_line h hk (by decide) g9 hcase fS2 with ⟨-, p_T3c, tf_T3c, m0, za⟩ | ⟨z1, -⟩
  rotate_left
  · exact absurd z1 (by decide)
  have cmc := hmc za
  have r_T3c : T3c.2.2.2.2 = T.2.2.2.2 := congrArg (fun x => x.2) tf_T3c.2.2.1
  have hI_T3c : ∀ m j : Nat, m ≠ 6 → T3c.2.2.1 m j = T.2.2.1 m j := fun m j h6 => by rw [tf_T3c.2.2.2 m j h6]
  obtain ⟨-, hg⟩ := oif_some hg
  rcases othr_k hg with ⟨r9, g9, z0⟩ | ⟨r10c, T8c, g9, hg⟩
  · rcases k_number p_T3c g9 fS5 with ⟨z, -⟩ | ⟨z1, z2⟩
    · exact absurd z z0
    · exact .inr ⟨z1, by rw [fin_S5 z2.1]; exact z2⟩
  rcases k_number p_T3c g9 fS5 with ⟨-, q_r10c, lo_r10c, hi_r10c, p_T8c, tf_T8c, mf_T8c⟩ | ⟨z1, -⟩
  rotate_left
  · exact absurd z1 (by decide)
  have r_T8c : T8c.2.2.2.2 = T.2.2.2.2 := (congrArg (fun x => x.2) tf_T8c.2.2.1).trans r_T3c
  have hI_T8c : ∀ m j : Nat, m ≠ 6 → T8c.2.2.1 m j = T.2.2.1 m j := fun m j h6 => by rw [tf_T8c.2.2.2 m j h6, hI_T3c m j h6]
  have mm_T8c := MFq.tr m0 mf_T8c
  obtain ⟨-, hg⟩ := oif_some hg
  obtain ⟨T13c, eT13c, hg⟩ := elet_some hg
  have r_T13c : T13c.2.2.2.2 = T.2.2.2.2 := by rw [eT13c]; exact r_T8c
  have hI_T13c : ∀ m j : Nat, m ≠ 6 → T13c.2.2.1 m j = if m = s ∧ j = 12 then r10c else T.2.2.1 m j := fun m j h6 => by rw [eT13c, ui_get, hI_T8c m j h6]
  have p_T13c := pr_uI (m := s) (k := 12) (v := r10c) p_T8c (by omega)
  rw [← eT13c] at p_T13c
  unfold g_X3_parseLine_b209 at hg
  have g := osome3 hg
  rw [if_pos (by rw [ev9, p_T13c.2.2.1] <;> decide)] at hf
  obtain ⟨S11, eS11, hf⟩ := elet_some hf
  skip
  have hP_S5 : ∀ x : Nat, S5.2.1 11 x = S.2.1 11 x := fun x => by rw [mm_T8c.1]
  have hD_S5 : ∀ x : Nat, S5.2.1 13 x = S.2.1 13 x := fun x => by rw [mm_T8c.1]
  have hP_S11 : ∀ x : Nat, S11.2.1 11 x = if x = 76 then r8 else S.2.1 11 x := fun x => by rw [eS11, mf_at]; show (if x = 76 then r8 else S5.2.1 11 x) = _; rw [hP_S5]
  have hD_S11 : ∀ x : Nat, S11.2.1 13 x = S.2.1 13 x := fun x => by rw [eS11, mf_ne (by decide), hD_S5]
  have p_S11 := pr_mfe p_T13c eS11 (by decide)
  have eS := osome1 (show some S11 = some S1 from hf)
  rw [← g.2.2, ← eS]
  exact .inl ⟨g.1.symm, ⟨_, by omega, p_S11⟩, ⟨gH.cg (fun j hj => by rw [hI_T13c _ _ (by omega)]; try simp (disch := omega) only [if_neg, if_pos, and_self, and_true, true_and, and_false, false_and, if_true, if_false]) (fun j hj => by rw [hP_S11]; try simp (disch := omega) only [if_neg, if_pos, and_self, and_true, true_and, and_false, false_and, if_true, if_false]), gM.cg (by rw [hI_T13c _ _ (by omega)]; try simp (disch := omega) only [if_neg, if_pos, and_self, and_true, true_and, and_false, false_and, if_true, if_false]) (fun m k hm hm2 => by rw [hI_T13c _ _ (by omega)]; try simp (disch := omega) only [if_neg, if_pos, and_self, and_true, true_and, and_false, false_and, if_true, if_false]) (fun j hj => by rw [hP_S11]; try simp (disch := omega) only [if_neg, if_pos, and_self, and_true, true_and, and_false, false_and, if_true, if_false]), gG.cg (fun k hk => by rw [hI_T13c _ _ (by omega)]; try simp (disch := omega) only [if_neg, if_pos, and_self, and_true, true_and, and_false, false_and, if_true, if_false]) (fun k => by rw [hI_T13c _ _ (by omega)]; try simp (disch := omega) only [if_neg, if_pos, and_self, and_true, true_and, and_false, false_and, if_true, if_false]) (fun j hj hj2 => by rw [hP_S11]; try simp (disch := omega) only [if_neg, if_pos, and_self, and_true, true_and, and_false, false_and, if_true, if_false]), gS.cg (by rw [hI_T13c _ _ (by omega)]; try simp (disch := omega) only [if_neg, if_pos, and_self, and_true, true_and, and_false, false_and, if_true, if_false]) (fun m k hm hm2 => by rw [hI_T13c _ _ (by omega)]; try simp (disch := omega) only [if_neg, if_pos, and_self, and_true, true_and, and_false, false_and, if_true, if_false]) (fun j hj => by rw [hP_S11]; try simp (disch := omega) only [if_neg, if_pos, and_self, and_true, true_and, and_false, false_and, if_true, if_false]) (fun j hj hj2 => by rw [hD_S11]; try simp (disch := omega) only [if_neg, if_pos, and_self, and_true, true_and, and_false, false_and, if_true, if_false]), gW.cg (by rw [hI_T13c _ _ (by omega)]; try simp (disch := omega) only [if_neg, if_pos, and_self, and_true, true_and, and_false, false_and, if_true, if_false]) (fun k => by rw [hI_T13c _ _ (by omega)]; try simp (disch := omega) only [if_neg, if_pos, and_self, and_true, true_and, and_false, false_and, if_true, if_false]) (fun k => by rw [hI_T13c _ _ (by omega)]; try simp (disch := omega) only [if_neg, if_pos, and_self, and_true, true_and, and_false, false_and, if_true, if_false]) (fun j hj hj2 => by rw [hP_S11]; try simp (disch := omega) only [if_neg, if_pos, and_self, and_true, true_and, and_false, false_and, if_true, if_false]), (by unfold FADg; rw [hI_T13c _ _ (by omega), hP_S11]; (try simp (disch := omega) only [if_neg, if_pos, and_self, and_true, true_and, and_false, false_and, if_true, if_false]); try exact q_r10c.symm), gT.cg (by rw [hI_T13c _ _ (by omega)]; try simp (disch := omega) only [if_neg, if_pos, and_self, and_true, true_and, and_false, false_and, if_true, if_false]) (fun k => by rw [hI_T13c _ _ (by omega)]; try simp (disch := omega) only [if_neg, if_pos, and_self, and_true, true_and, and_false, false_and, if_true, if_false]) (fun j hj hj2 => by rw [hP_S11]; try simp (disch := omega) only [if_neg, if_pos, and_self, and_true, true_and, and_false, false_and, if_true, if_false]), gZ.cg (by rw [hI_T13c _ _ (by omega)]; try simp (disch := omega) only [if_neg, if_pos, and_self, and_true, true_and, and_false, false_and, if_true, if_false]) (fun m k hm hm2 => by rw [hI_T13c _ _ (by omega)]; try simp (disch := omega) only [if_neg, if_pos, and_self, and_true, true_and, and_false, false_and, if_true, if_false]) (fun j hj hj2 => by rw [hP_S11]; try simp (disch := omega) only [if_neg, if_pos, and_self, and_true, true_and, and_false, false_and, if_true, if_false]), gD.cg (by rw [hI_T13c _ _ (by omega)]; try simp (disch := omega) only [if_neg, if_pos, and_self, and_true, true_and, and_false, false_and, if_true, if_false]) (fun k => by rw [hI_T13c _ _ (by omega)]; try simp (disch := omega) only [if_neg, if_pos, and_self, and_true, true_and, and_false, false_and, if_true, if_false]) (fun j hj hj2 => by rw [hP_S11]; try simp (disch := omega) only [if_neg, if_pos, and_self, and_true, true_and, and_false, false_and, if_true, if_false]), (fun j hj => by rw [hD_S11]; (try simp (disch := omega) only [if_neg, if_pos, and_self, and_true, true_and, and_false, false_and, if_true, if_false]); try exact gX j hj)⟩, r_T13c⟩
