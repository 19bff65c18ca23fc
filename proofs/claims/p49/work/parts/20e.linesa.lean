set_option maxHeartbeats 4000000 in
set_option maxRecDepth 10000 in
theorem l_mic {b : Nat → Int32} {n c i k s : Nat} {T T1 : AT} {S S1 : MS} {r : Int32} (h : PRq b n c i T S) (hk : kd b n (pst b n i) = 1) (hs : s = 478 ∨ s = 656) (hF : SRF s T) (hC : SCNq s T (S.2.1 11) (S.2.1 13)) (hg : g_X3_parseMic T 6 s = some (k, r, T1)) (hf : fr_readMic S = some S1) : LNq b n c i s T T1 S1 k := by
  obtain ⟨gH, gM, gG, gS, gW, gF, gT, gZ, gD, gX⟩ := hC
  obtain ⟨F1, F2, F3, F4, F5, F6, F7, F8, F9, F10, F11, F12, F13, F14, F15⟩ := hF
  obtain ⟨mc, b1, b2, b3, b4, b5⟩ := gM
  unfold g_X3_parseMic at hg
  obtain ⟨-, hg⟩ := oif_some hg
  obtain ⟨v3, ev3, hg⟩ := elet_some hg
  rw [b2] at ev3
  unfold fr_readMic at hf
  obtain ⟨v2, ev2, hf⟩ := elet_some hf
  rw [b3] at ev2
  have key : ∃ (a0 : Int32) (Sa : MS), g_X3_parseMic_b15 T a0 6 6 s = some (k, r, T1) ∧ fr_readMic_b18 Sa v2 = some S1 ∧ ((a0 = 0 ∧ Sa = S) ∨ (a0 ≠ 0 ∧ fr_faults S 4 = some Sa)) ∧ (a0 = 0 → mc < 12) := by
    by_cases cm : mc < 12
    · rw [if_pos (by rw [ev3]; exact nI_lt (a := mc) (b := 12) cm (by decide))] at hg
      rw [if_neg (fun q => by rw [ev2] at q; have := (nI_eq (a := mc) (b := 12) (by omega) (by decide)).mp q; omega)] at hf
      exact ⟨0, S, hg, hf, .inl ⟨rfl, rfl⟩, fun _ => cm⟩
    · rw [if_neg (by rw [ev3]; exact nI_nlt (a := mc) (b := 12) (by omega) (by omega))] at hg
      rw [if_pos (by rw [ev2, show mc = 12 from by omega]; rfl)] at hf
      obtain ⟨S4, f4, hf⟩ := obind_some hf
      exact ⟨1, S4, hg, hf, .inr ⟨by decide, f4⟩, fun q => absurd q (by decide)⟩
  obtain ⟨a0, Sa, hg, hf, hcase, hmc⟩ := key
  unfold fr_readMic_b18 at hf
  obtain ⟨S2, fS2, hf⟩ := obind_some hf
  obtain ⟨r8, S5, fS5, hf⟩ := obind2_some hf
  obtain ⟨r12, S9, fS9, hf⟩ := obind2_some hf
  obtain ⟨r16, S13, fS13, hf⟩ := obind2_some hf
  obtain ⟨v17, ev17, hf⟩ := elet_some hf
  have fin_S13 : 0 < (S13.1 5).toInt → S1 = S13 := fun q => by rw [if_neg (st_le q ev17)] at hf; exact (osome1 (show some S13 = some S1 from hf)).symm
  have fin_S9 : 0 < (S9.1 5).toInt → S1 = S9 := fun q => by have e := (st_number q fS13); exact (fin_S13 (by rw [e]; exact q)).trans e
  have fin_S5 : 0 < (S5.1 5).toInt → S1 = S5 := fun q => by have e := (st_signed q fS9); exact (fin_S9 (by rw [e]; exact q)).trans e
  have fin_S2 : 0 < (S2.1 5).toInt → S1 = S2 := fun q => by have e := (st_signed q fS5); exact (fin_S5 (by rw [e]; exact q)).trans e
  unfold g_X3_parseMic_b15 at hg
  obtain ⟨-, hg⟩ := oif_some hg
  rcases othr_k hg with ⟨r9, g9, z0⟩ | ⟨r5c, T3c, g9, hg⟩
  · rcases k_line h hk (by decide) g9 hcase fS2 with ⟨z, -⟩ | ⟨z1, z2⟩
    · exact absurd z z0
    · exact .inr ⟨z1, by rw [fin_S2 z2.1]; exact z2⟩
  rcases k_line h hk (by decide) g9 hcase fS2 with ⟨-, p_T3c, tf_T3c, m0, za⟩ | ⟨z1, -⟩
  rotate_left
  · exact absurd z1 (by decide)
  have cmc := hmc za
  have r_T3c : T3c.2.2.2.2 = T.2.2.2.2 := congrArg (fun x => x.2) tf_T3c.2.2.1
  have hI_T3c : ∀ m j : Nat, m ≠ 6 → T3c.2.2.1 m j = T.2.2.1 m j := fun m j h6 => by rw [tf_T3c.2.2.2 m j h6]
  obtain ⟨-, hg⟩ := oif_some hg
  obtain ⟨n8c, en8c, hg⟩ := obind_some hg
  rw [r_T3c, F1] at en8c
  cases en8c
  obtain ⟨-, hg⟩ := oif_some hg
  obtain ⟨v10c, ev10c, hg⟩ := elet_some hg
  rw [hI_T3c _ _ (by omega)] at ev10c
  rw [b2] at ev10c
  have k_v10c : v10c = nI mc := ev10c
  obtain ⟨-, hg⟩ := oif_some hg
  obtain ⟨-, hg⟩ := oif_some hg
  obtain ⟨n13c, en13c, hg⟩ := obind_some hg
  rw [k_v10c, nI_clamp (by omega)] at en13c
  rw [r_T3c, F9 _ (by omega)] at en13c
  cases en13c
  obtain ⟨-, hg⟩ := oif_some hg
  rcases othr_k hg with ⟨r9, g9, z0⟩ | ⟨r17c, T15c, g9, hg⟩
  · rcases k_signed p_T3c g9 fS5 with ⟨z, -⟩ | ⟨z1, z2⟩
    · exact absurd z z0
    · exact .inr ⟨z1, by rw [fin_S5 z2.1]; exact z2⟩
  rcases k_signed p_T3c g9 fS5 with ⟨-, q_r17c, ⟨i_T15c, l_T15c, p_T15c⟩, tf_T15c, mf_T15c⟩ | ⟨z1, -⟩
  rotate_left
  · exact absurd z1 (by decide)
  have r_T15c : T15c.2.2.2.2 = T.2.2.2.2 := (congrArg (fun x => x.2) tf_T15c.2.2.1).trans r_T3c
  have hI_T15c : ∀ m j : Nat, m ≠ 6 → T15c.2.2.1 m j = T.2.2.1 m j := fun m j h6 => by rw [tf_T15c.2.2.2 m j h6, hI_T3c m j h6]
  have mm_T15c := MFq.tr m0 mf_T15c
  obtain ⟨-, hg⟩ := oif_some hg
  obtain ⟨T20c, eT20c, hg⟩ := elet_some hg
  have r_T20c : T20c.2.2.2.2 = T.2.2.2.2 := by rw [eT20c]; exact r_T15c
  have hI_T20c : ∀ m j : Nat, m ≠ 6 → T20c.2.2.1 m j = if m = (s + 160 + mc) ∧ j = 0 then r17c else T.2.2.1 m j := fun m j h6 => by rw [eT20c, ui_get, hI_T15c m j h6]
  have p_T20c := pr_uI (m := (s + 160 + mc)) (k := 0) (v := r17c) p_T15c (by omega)
  rw [← eT20c] at p_T20c
  obtain ⟨-, hg⟩ := oif_some hg
  rcases othr_k hg with ⟨r9, g9, z0⟩ | ⟨r24c, T22c, g9, hg⟩
  · rcases k_signed p_T20c g9 fS9 with ⟨z, -⟩ | ⟨z1, z2⟩
    · exact absurd z z0
    · exact .inr ⟨z1, by rw [fin_S9 z2.1]; exact z2⟩
  rcases k_signed p_T20c g9 fS9 with ⟨-, q_r24c, ⟨i_T22c, l_T22c, p_T22c⟩, tf_T22c, mf_T22c⟩ | ⟨z1, -⟩
  rotate_left
  · exact absurd z1 (by decide)
  have r_T22c : T22c.2.2.2.2 = T.2.2.2.2 := (congrArg (fun x => x.2) tf_T22c.2.2.1).trans r_T20c
  have hI_T22c : ∀ m j : Nat, m ≠ 6 → T22c.2.2.1 m j = if m = (s + 160 + mc) ∧ j = 0 then r17c else T.2.2.1 m j := fun m j h6 => by rw [tf_T22c.2.2.2 m j h6, hI_T20c m j h6]
  have mm_T22c := MFq.tr mm_T15c mf_T22c
  obtain ⟨-, hg⟩ := oif_some hg
  obtain ⟨T27c, eT27c, hg⟩ := elet_some hg
  have r_T27c : T27c.2.2.2.2 = T.2.2.2.2 := by rw [eT27c]; exact r_T22c
  have hI_T27c : ∀ m j : Nat, m ≠ 6 → T27c.2.2.1 m j = if m = (s + 160 + mc) ∧ j = 1 then r24c else if m = (s + 160 + mc) ∧ j = 0 then r17c else T.2.2.1 m j := fun m j h6 => by rw [eT27c, ui_get, hI_T22c m j h6]
  have p_T27c := pr_uI (m := (s + 160 + mc)) (k := 1) (v := r24c) p_T22c (by omega)
  rw [← eT27c] at p_T27c
  obtain ⟨-, hg⟩ := oif_some hg
  rcases othr_k hg with ⟨r9, g9, z0⟩ | ⟨r31c, T29c, g9, hg⟩
  · rcases k_number p_T27c g9 fS13 with ⟨z, -⟩ | ⟨z1, z2⟩
    · exact absurd z z0
    · exact .inr ⟨z1, by rw [fin_S13 z2.1]; exact z2⟩
  rcases k_number p_T27c g9 fS13 with ⟨-, q_r31c, lo_r31c, hi_r31c, p_T29c, tf_T29c, mf_T29c⟩ | ⟨z1, -⟩
  rotate_left
  · exact absurd z1 (by decide)
  have r_T29c : T29c.2.2.2.2 = T.2.2.2.2 := (congrArg (fun x => x.2) tf_T29c.2.2.1).trans r_T27c
  have hI_T29c : ∀ m j : Nat, m ≠ 6 → T29c.2.2.1 m j = if m = (s + 160 + mc) ∧ j = 1 then r24c else if m = (s + 160 + mc) ∧ j = 0 then r17c else T.2.2.1 m j := fun m j h6 => by rw [tf_T29c.2.2.2 m j h6, hI_T27c m j h6]
  have mm_T29c := MFq.tr mm_T22c mf_T29c
  obtain ⟨-, hg⟩ := oif_some hg
  obtain ⟨T34c, eT34c, hg⟩ := elet_some hg
  have r_T34c : T34c.2.2.2.2 = T.2.2.2.2 := by rw [eT34c]; exact r_T29c
  have hI_T34c : ∀ m j : Nat, m ≠ 6 → T34c.2.2.1 m j = if m = (s + 160 + mc) ∧ j = 2 then r31c else if m = (s + 160 + mc) ∧ j = 1 then r24c else if m = (s + 160 + mc) ∧ j = 0 then r17c else T.2.2.1 m j := fun m j h6 => by rw [eT34c, ui_get, hI_T29c m j h6]
  have p_T34c := pr_uI (m := (s + 160 + mc)) (k := 2) (v := r31c) p_T29c (by omega)
  rw [← eT34c] at p_T34c
  obtain ⟨-, hg⟩ := oif_some hg
  obtain ⟨T36c, eT36c, hg⟩ := elet_some hg
  have r_T36c : T36c.2.2.2.2 = T.2.2.2.2 := by rw [eT36c]; exact r_T34c
  have hI_T36c : ∀ m j : Nat, m ≠ 6 → T36c.2.2.1 m j = if m = (s + 160 + mc) ∧ j = 3 then 0 else if m = (s + 160 + mc) ∧ j = 2 then r31c else if m = (s + 160 + mc) ∧ j = 1 then r24c else if m = (s + 160 + mc) ∧ j = 0 then r17c else T.2.2.1 m j := fun m j h6 => by rw [eT36c, ui_get, hI_T34c m j h6]
  have p_T36c := pr_uI (m := (s + 160 + mc)) (k := 3) (v := 0) p_T34c (by omega)
  rw [← eT36c] at p_T36c
  obtain ⟨-, hg⟩ := oif_some hg
  obtain ⟨v38c, ev38c, hg⟩ := elet_some hg
  rw [hI_T36c _ _ (by omega)] at ev38c
  simp (disch := omega) only [if_neg, if_pos, and_self, and_true, true_and, and_false, false_and, if_true, if_false] at ev38c
  rw [b2] at ev38c
  have k_v38c : v38c = nI mc := ev38c
  obtain ⟨v39c, ev39c, hg⟩ := elet_some hg
  have k_v39c : v39c = nI (mc + 1) := by rw [ev39c, k_v38c]; exact nI_add (mc) 1
  obtain ⟨-, hg⟩ := oif_some hg
  obtain ⟨T41c, eT41c, hg⟩ := elet_some hg
  have r_T41c : T41c.2.2.2.2 = T.2.2.2.2 := by rw [eT41c]; exact r_T36c
  have hI_T41c : ∀ m j : Nat, m ≠ 6 → T41c.2.2.1 m j = if m = s ∧ j = 5 then v39c else if m = (s + 160 + mc) ∧ j = 3 then 0 else if m = (s + 160 + mc) ∧ j = 2 then r31c else if m = (s + 160 + mc) ∧ j = 1 then r24c else if m = (s + 160 + mc) ∧ j = 0 then r17c else T.2.2.1 m j := fun m j h6 => by rw [eT41c, ui_get, hI_T36c m j h6]
  have p_T41c := pr_uI (m := s) (k := 5) (v := v39c) p_T36c (by omega)
  rw [← eT41c] at p_T41c
  have g := osome3 hg
  rw [if_pos (by rw [ev17, p_T41c.2.2.1] <;> decide)] at hf
  obtain ⟨v19, ev19, hf⟩ := elet_some hf
  obtain ⟨-, hf⟩ := oif_some hf
  obtain ⟨S21, eS21, hf⟩ := elet_some hf
  obtain ⟨v22, ev22, hf⟩ := elet_some hf
  obtain ⟨-, hf⟩ := oif_some hf
  obtain ⟨S24, eS24, hf⟩ := elet_some hf
  obtain ⟨v25, ev25, hf⟩ := elet_some hf
  obtain ⟨-, hf⟩ := oif_some hf
  obtain ⟨S27, eS27, hf⟩ := elet_some hf
  obtain ⟨v28, ev28, hf⟩ := elet_some hf
  obtain ⟨v29, ev29, hf⟩ := elet_some hf
  obtain ⟨S30, eS30, hf⟩ := elet_some hf
  have k_l1 : v2 = nI mc := ev2
  have hP_S13 : ∀ x : Nat, S13.2.1 11 x = S.2.1 11 x := fun x => by rw [mm_T29c.1]
  have hD_S13 : ∀ x : Nat, S13.2.1 13 x = S.2.1 13 x := fun x => by rw [mm_T29c.1]
  have k_v19 : v19 = nI (11 + mc) := by rw [ev19, k_l1]; exact nI_add 11 (mc)
  rw [k_v19, nI_clamp (by omega)] at eS21
  have hP_S21 : ∀ x : Nat, S21.2.1 11 x = if x = (11 + mc) then r8 else S.2.1 11 x := fun x => by rw [eS21, mf_at]; show (if x = (11 + mc) then r8 else S13.2.1 11 x) = _; rw [hP_S13]
  have hD_S21 : ∀ x : Nat, S21.2.1 13 x = S.2.1 13 x := fun x => by rw [eS21, mf_ne (by decide), hD_S13]
  have k_v22 : v22 = nI (23 + mc) := by rw [ev22, k_l1]; exact nI_add 23 (mc)
  rw [k_v22, nI_clamp (by omega)] at eS24
  have hP_S24 : ∀ x : Nat, S24.2.1 11 x = if x = (23 + mc) then r12 else if x = (11 + mc) then r8 else S.2.1 11 x := fun x => by rw [eS24, mf_at]; show (if x = (23 + mc) then r12 else S21.2.1 11 x) = _; rw [hP_S21]
  have hD_S24 : ∀ x : Nat, S24.2.1 13 x = S.2.1 13 x := fun x => by rw [eS24, mf_ne (by decide), hD_S21]
  have k_v25 : v25 = nI (35 + mc) := by rw [ev25, k_l1]; exact nI_add 35 (mc)
  rw [k_v25, nI_clamp (by omega)] at eS27
  have hP_S27 : ∀ x : Nat, S27.2.1 11 x = if x = (35 + mc) then r16 else if x = (23 + mc) then r12 else if x = (11 + mc) then r8 else S.2.1 11 x := fun x => by rw [eS27, mf_at]; show (if x = (35 + mc) then r16 else S24.2.1 11 x) = _; rw [hP_S24]
  have hD_S27 : ∀ x : Nat, S27.2.1 13 x = S.2.1 13 x := fun x => by rw [eS27, mf_ne (by decide), hD_S24]
  rw [hP_S27] at ev28
  (try simp (disch := omega) only [if_neg, if_pos, and_self, and_true, true_and, and_false, false_and, if_true, if_false] at ev28)
  rw [b3] at ev28
  have k_v28 : v28 = nI mc := ev28
  have k_v29 : v29 = nI (mc + 1) := by rw [ev29, k_v28]; exact nI_add (mc) 1
  have hP_S30 : ∀ x : Nat, S30.2.1 11 x = if x = 4 then v29 else if x = (35 + mc) then r16 else if x = (23 + mc) then r12 else if x = (11 + mc) then r8 else S.2.1 11 x := fun x => by rw [eS30, mf_at]; show (if x = 4 then v29 else S27.2.1 11 x) = _; rw [hP_S27]
  have hD_S30 : ∀ x : Nat, S30.2.1 13 x = S.2.1 13 x := fun x => by rw [eS30, mf_ne (by decide), hD_S27]
  have p_S21 := pr_mfe p_T41c eS21 (by decide)
  have p_S24 := pr_mfe p_S21 eS24 (by decide)
  have p_S27 := pr_mfe p_S24 eS27 (by decide)
  have p_S30 := pr_mfe p_S27 eS30 (by decide)
  have eS := osome1 (show some S30 = some S1 from hf)
  rw [← g.2.2, ← eS]
  exact .inl ⟨g.1.symm, ⟨_, by omega, p_S30⟩, ⟨gH.cg (fun j hj => by rw [hI_T41c _ _ (by omega)]; try simp (disch := omega) only [if_neg, if_pos, and_self, and_true, true_and, and_false, false_and, if_true, if_false]) (fun j hj => by rw [hP_S30]; try simp (disch := omega) only [if_neg, if_pos, and_self, and_true, true_and, and_false, false_and, if_true, if_false]), ⟨mc + 1, by omega, (by rw [hI_T41c _ _ (by omega)]; (try simp (disch := omega) only [if_neg, if_pos, and_self, and_true, true_and, and_false, false_and, if_true, if_false]); try exact k_v39c), (by rw [hP_S30]; (try simp (disch := omega) only [if_neg, if_pos, and_self, and_true, true_and, and_false, false_and, if_true, if_false]); try exact k_v29), fun m hm => if e : m = mc then ⟨(by rw [e]; rw [hI_T41c _ _ (by omega), hP_S30]; (try simp (disch := omega) only [if_neg, if_pos, and_self, and_true, true_and, and_false, false_and, if_true, if_false]); try exact q_r17c.symm), (by rw [e]; rw [hI_T41c _ _ (by omega), hP_S30]; (try simp (disch := omega) only [if_neg, if_pos, and_self, and_true, true_and, and_false, false_and, if_true, if_false]); try exact q_r24c.symm), (by rw [e]; rw [hI_T41c _ _ (by omega), hP_S30]; (try simp (disch := omega) only [if_neg, if_pos, and_self, and_true, true_and, and_false, false_and, if_true, if_false]); try exact q_r31c.symm), (by rw [e]; rw [hI_T41c _ _ (by omega), hP_S30]; (try simp (disch := omega) only [if_neg, if_pos, and_self, and_true, true_and, and_false, false_and, if_true, if_false]); try exact (b5 mc (Nat.le_refl _) (by omega)).symm)⟩ else ⟨(by rw [hI_T41c _ _ (by omega), hP_S30]; (try simp (disch := omega) only [if_neg, if_pos, and_self, and_true, true_and, and_false, false_and, if_true, if_false]); try exact (b4 m (by omega)).1), (by rw [hI_T41c _ _ (by omega), hP_S30]; (try simp (disch := omega) only [if_neg, if_pos, and_self, and_true, true_and, and_false, false_and, if_true, if_false]); try exact (b4 m (by omega)).2.1), (by rw [hI_T41c _ _ (by omega), hP_S30]; (try simp (disch := omega) only [if_neg, if_pos, and_self, and_true, true_and, and_false, false_and, if_true, if_false]); try exact (b4 m (by omega)).2.2.1), (by rw [hI_T41c _ _ (by omega), hP_S30]; (try simp (disch := omega) only [if_neg, if_pos, and_self, and_true, true_and, and_false, false_and, if_true, if_false]); try exact (b4 m (by omega)).2.2.2)⟩, fun m hm hm2 => (by rw [hP_S30]; (try simp (disch := omega) only [if_neg, if_pos, and_self, and_true, true_and, and_false, false_and, if_true, if_false]); try exact b5 m (by omega) (by omega))⟩, gG.cg (fun k hk => by rw [hI_T41c _ _ (by omega)]; try simp (disch := omega) only [if_neg, if_pos, and_self, and_true, true_and, and_false, false_and, if_true, if_false]) (fun k => by rw [hI_T41c _ _ (by omega)]; try simp (disch := omega) only [if_neg, if_pos, and_self, and_true, true_and, and_false, false_and, if_true, if_false]) (fun j hj hj2 => by rw [hP_S30]; try simp (disch := omega) only [if_neg, if_pos, and_self, and_true, true_and, and_false, false_and, if_true, if_false]), gS.cg (by rw [hI_T41c _ _ (by omega)]; try simp (disch := omega) only [if_neg, if_pos, and_self, and_true, true_and, and_false, false_and, if_true, if_false]) (fun m k hm hm2 => by rw [hI_T41c _ _ (by omega)]; try simp (disch := omega) only [if_neg, if_pos, and_self, and_true, true_and, and_false, false_and, if_true, if_false]) (fun j hj => by rw [hP_S30]; try simp (disch := omega) only [if_neg, if_pos, and_self, and_true, true_and, and_false, false_and, if_true, if_false]) (fun j hj hj2 => by rw [hD_S30]; try simp (disch := omega) only [if_neg, if_pos, and_self, and_true, true_and, and_false, false_and, if_true, if_false]), gW.cg (by rw [hI_T41c _ _ (by omega)]; try simp (disch := omega) only [if_neg, if_pos, and_self, and_true, true_and, and_false, false_and, if_true, if_false]) (fun k => by rw [hI_T41c _ _ (by omega)]; try simp (disch := omega) only [if_neg, if_pos, and_self, and_true, true_and, and_false, false_and, if_true, if_false]) (fun k => by rw [hI_T41c _ _ (by omega)]; try simp (disch := omega) only [if_neg, if_pos, and_self, and_true, true_and, and_false, false_and, if_true, if_false]) (fun j hj hj2 => by rw [hP_S30]; try simp (disch := omega) only [if_neg, if_pos, and_self, and_true, true_and, and_false, false_and, if_true, if_false]), gF.cg (by rw [hI_T41c _ _ (by omega)]; try simp (disch := omega) only [if_neg, if_pos, and_self, and_true, true_and, and_false, false_and, if_true, if_false]) (by rw [hP_S30]; try simp (disch := omega) only [if_neg, if_pos, and_self, and_true, true_and, and_false, false_and, if_true, if_false]), gT.cg (by rw [hI_T41c _ _ (by omega)]; try simp (disch := omega) only [if_neg, if_pos, and_self, and_true, true_and, and_false, false_and, if_true, if_false]) (fun k => by rw [hI_T41c _ _ (by omega)]; try simp (disch := omega) only [if_neg, if_pos, and_self, and_true, true_and, and_false, false_and, if_true, if_false]) (fun j hj hj2 => by rw [hP_S30]; try simp (disch := omega) only [if_neg, if_pos, and_self, and_true, true_and, and_false, false_and, if_true, if_false]), gZ.cg (by rw [hI_T41c _ _ (by omega)]; try simp (disch := omega) only [if_neg, if_pos, and_self, and_true, true_and, and_false, false_and, if_true, if_false]) (fun m k hm hm2 => by rw [hI_T41c _ _ (by omega)]; try simp (disch := omega) only [if_neg, if_pos, and_self, and_true, true_and, and_false, false_and, if_true, if_false]) (fun j hj hj2 => by rw [hP_S30]; try simp (disch := omega) only [if_neg, if_pos, and_self, and_true, true_and, and_false, false_and, if_true, if_false]), gD.cg (by rw [hI_T41c _ _ (by omega)]; try simp (disch := omega) only [if_neg, if_pos, and_self, and_true, true_and, and_false, false_and, if_true, if_false]) (fun k => by rw [hI_T41c _ _ (by omega)]; try simp (disch := omega) only [if_neg, if_pos, and_self, and_true, true_and, and_false, false_and, if_true, if_false]) (fun j hj hj2 => by rw [hP_S30]; try simp (disch := omega) only [if_neg, if_pos, and_self, and_true, true_and, and_false, false_and, if_true, if_false]), (fun j hj => by rw [hD_S30]; (try simp (disch := omega) only [if_neg, if_pos, and_self, and_true, true_and, and_false, false_and, if_true, if_false]); try exact gX j hj)⟩, r_T41c⟩
