set_option maxHeartbeats 4000000 in
set_option maxRecDepth 10000 in
theorem l_fade {b : Nat → Int32} {n c i k s : Nat} {T T1 : AT} {S S1 : MS} {r : Int32} (h : PRq b n c i T S) (hk : kd b n (pst b n i) = 1) (hs : s = 478 ∨ s = 656) (hF : SRF s T) (hC : SCNq s T (S.2.1 11) (S.2.1 13)) (hg : (elet (T.2.2.1 s 12) fun v107 => if v107 ≤ 0 then (g_X3_parseLine_b93 T 0 6 6 s) else (g_X3_parseLine_b93 T 1 6 6 s)) = some (k, r, T1)) (hf : fr_readFade S = some S1) : LNq b n c i s T T1 S1 k := by
  obtain ⟨gH, gM, gG, gS, gW, gF, gT, gZ, gD, gX⟩ := hC
  obtain ⟨F1, F2, F3, F4, F5, F6, F7, F8, F9, F10, F11, F12, F13, F14, F15⟩ := hF
  obtain ⟨v3, ev3, hg⟩ := elet_some hg
  unfold fr_readFade at hf
  obtain ⟨v2, ev2, hf⟩ := elet_some hf
  have key : ∃ (a0 : Int32) (Sa : MS), g_X3_parseLine_b93 T a0 6 6 s = some (k, r, T1) ∧ fr_readFade_b15 Sa = some S1 ∧ ((a0 = 0 ∧ Sa = S) ∨ (a0 ≠ 0 ∧ fr_faults S 3 = some Sa)) ∧ (a0 = 0 → True) := by
    by_cases cm : v3 ≤ 0
    · rw [if_pos cm] at hg
      have cr : v2 ≤ 0 ∧ True := by
        have gF2 : T.2.2.1 s 12 = S.2.1 11 76 := gF
        rw [gF2] at ev3
        rw [ev2, ← ev3]
        exact ⟨cm, trivial⟩
      rw [if_pos cr.1] at hf
      exact ⟨0, S, hg, hf, .inl ⟨rfl, rfl⟩, fun _ => cr.2⟩
    · rw [if_neg cm] at hg
      have cr : ¬ v2 ≤ 0 := by
        have gF2 : T.2.2.1 s 12 = S.2.1 11 76 := gF
        rw [gF2] at ev3
        rw [ev2, ← ev3]
        exact cm
      rw [if_neg cr] at hf
      obtain ⟨S4, f4, hf⟩ := obind_some hf
      exact ⟨1, S4, hg, hf, .inr ⟨by decide, f4⟩, fun q => absurd q (by decide)⟩
  obtain ⟨a0, Sa, hg, hf, hcase, hmc⟩ := key
  unfold fr_readFade_b15 at hf
  obtain ⟨S2, fS2, hf⟩ := obind_some hf
  obtain ⟨r8, S5, fS5, hf⟩ := obind2_some hf
  obtain ⟨v9, ev9, hf⟩ := elet_some hf
  have fin_S5 : 0 < (S5.1 5).toInt → S1 = S5 := fun q => by rw [if_neg (st_ne q ev9)] at hf; exact (osome1 (show some S5 = some S1 from hf)).symm
  have fin_S2 : 0 < (S2.1 5).toInt → S1 = S2 := fun q => by have e := (st_number q fS5); exact (fin_S5 (by rw [e]; exact q)).trans e
  unfold g_X3_parseLine_b93 at hg
  obtain ⟨-, hg⟩ := oif_some hg
  rcases othr_k hg with ⟨r9, g9, z0⟩ | ⟨r5c, T3c, g9, hg⟩
  · rcases k_line h hk (by decide) g9 hcase fS2 with ⟨z, -⟩ | ⟨z1, z2⟩
    · exact absurd z z0
    · exact .inr ⟨z1, by rw [fin_S2 z2.1]; exact z2⟩
  rcases k_line h hk (by decide) g9 hcase fS2 with ⟨-, p_T3c, tf_T3c, m0, za⟩ | ⟨z1, -⟩
  rotate_left
  · exact absurd z1 (by decide)
  have cmc := hmc za
  have r_T3c : T3c.2.2.2.2 = T.2.2.2.2 := congrArg (fun x => x.2) tf_T3c.2.2.1
  have hI_T3c : ∀ m j : Nat, m ≠ 6 → T3c.2.2.1 m j = T.2.2.1 m j := fun m j h6 => by rw [tf_T3c.2.2.2 m j h6]
  obtain ⟨-, hg⟩ := oif_some hg
  rcases othr_k hg with ⟨r9, g9, z0⟩ | ⟨r10c, T8c, g9, hg⟩
  · rcases k_number p_T3c g9 fS5 with ⟨z, -⟩ | ⟨z1, z2⟩
    · exact absurd z z0
    · exact .inr ⟨z1, by rw [fin_S5 z2.1]; exact z2⟩
  rcases k_number p_T3c g9 fS5 with ⟨-, q_r10c, lo_r10c, hi_r10c, p_T8c, tf_T8c, mf_T8c⟩ | ⟨z1, -⟩
  rotate_left
  · exact absurd z1 (by decide)
  have r_T8c : T8c.2.2.2.2 = T.2.2.2.2 := (congrArg (fun x => x.2) tf_T8c.2.2.1).trans r_T3c
  have hI_T8c : ∀ m j : Nat, m ≠ 6 → T8c.2.2.1 m j = T.2.2.1 m j := fun m j h6 => by rw [tf_T8c.2.2.2 m j h6, hI_T3c m j h6]
  have mm_T8c := MFq.tr m0 mf_T8c
  obtain ⟨-, hg⟩ := oif_some hg
  obtain ⟨T13c, eT13c, hg⟩ := elet_some hg
  have r_T13c : T13c.2.2.2.2 = T.2.2.2.2 := by rw [eT13c]; exact r_T8c
  have hI_T13c : ∀ m j : Nat, m ≠ 6 → T13c.2.2.1 m j = if m = s ∧ j = 12 then r10c else T.2.2.1 m j := fun m j h6 => by rw [eT13c, ui_get, hI_T8c m j h6]
  have p_T13c := pr_uI (m := s) (k := 12) (v := r10c) p_T8c (by omega)
  rw [← eT13c] at p_T13c
  unfold g_X3_parseLine_b209 at hg
  have g := osome3 hg
  rw [if_pos (by rw [ev9, p_T13c.2.2.1] <;> decide)] at hf
  obtain ⟨S11, eS11, hf⟩ := elet_some hf
  skip
  have hP_S5 : ∀ x : Nat, S5.2.1 11 x = S.2.1 11 x := fun x => by rw [mm_T8c.1]
  have hD_S5 : ∀ x : Nat, S5.2.1 13 x = S.2.1 13 x := fun x => by rw [mm_T8c.1]
  have hP_S11 : ∀ x : Nat, S11.2.1 11 x = if x = 76 then r8 else S.2.1 11 x := fun x => by rw [eS11, mf_at]; show (if x = 76 then r8 else S5.2.1 11 x) = _; rw [hP_S5]
  have hD_S11 : ∀ x : Nat, S11.2.1 13 x = S.2.1 13 x := fun x => by rw [eS11, mf_ne (by decide), hD_S5]
  have p_S11 := pr_mfe p_T13c eS11 (by decide)
  have eS := osome1 (show some S11 = some S1 from hf)
  rw [← g.2.2, ← eS]
  exact .inl ⟨g.1.symm, ⟨_, by omega, p_S11⟩, ⟨gH.cg (fun j hj => by rw [hI_T13c _ _ (by omega)]; try simp (disch := omega) only [if_neg, if_pos, and_self, and_true, true_and, and_false, false_and, if_true, if_false]) (fun j hj => by rw [hP_S11]; try simp (disch := omega) only [if_neg, if_pos, and_self, and_true, true_and, and_false, false_and, if_true, if_false]), gM.cg (by rw [hI_T13c _ _ (by omega)]; try simp (disch := omega) only [if_neg, if_pos, and_self, and_true, true_and, and_false, false_and, if_true, if_false]) (fun m k hm hm2 => by rw [hI_T13c _ _ (by omega)]; try simp (disch := omega) only [if_neg, if_pos, and_self, and_true, true_and, and_false, false_and, if_true, if_false]) (fun j hj => by rw [hP_S11]; try simp (disch := omega) only [if_neg, if_pos, and_self, and_true, true_and, and_false, false_and, if_true, if_false]), gG.cg (fun k hk => by rw [hI_T13c _ _ (by omega)]; try simp (disch := omega) only [if_neg, if_pos, and_self, and_true, true_and, and_false, false_and, if_true, if_false]) (fun k => by rw [hI_T13c _ _ (by omega)]; try simp (disch := omega) only [if_neg, if_pos, and_self, and_true, true_and, and_false, false_and, if_true, if_false]) (fun j hj hj2 => by rw [hP_S11]; try simp (disch := omega) only [if_neg, if_pos, and_self, and_true, true_and, and_false, false_and, if_true, if_false]), gS.cg (by rw [hI_T13c _ _ (by omega)]; try simp (disch := omega) only [if_neg, if_pos, and_self, and_true, true_and, and_false, false_and, if_true, if_false]) (fun m k hm hm2 => by rw [hI_T13c _ _ (by omega)]; try simp (disch := omega) only [if_neg, if_pos, and_self, and_true, true_and, and_false, false_and, if_true, if_false]) (fun j hj => by rw [hP_S11]; try simp (disch := omega) only [if_neg, if_pos, and_self, and_true, true_and, and_false, false_and, if_true, if_false]) (fun j hj hj2 => by rw [hD_S11]; try simp (disch := omega) only [if_neg, if_pos, and_self, and_true, true_and, and_false, false_and, if_true, if_false]), gW.cg (by rw [hI_T13c _ _ (by omega)]; try simp (disch := omega) only [if_neg, if_pos, and_self, and_true, true_and, and_false, false_and, if_true, if_false]) (fun k => by rw [hI_T13c _ _ (by omega)]; try simp (disch := omega) only [if_neg, if_pos, and_self, and_true, true_and, and_false, false_and, if_true, if_false]) (fun k => by rw [hI_T13c _ _ (by omega)]; try simp (disch := omega) only [if_neg, if_pos, and_self, and_true, true_and, and_false, false_and, if_true, if_false]) (fun j hj hj2 => by rw [hP_S11]; try simp (disch := omega) only [if_neg, if_pos, and_self, and_true, true_and, and_false, false_and, if_true, if_false]), (by unfold FADg; rw [hI_T13c _ _ (by omega), hP_S11]; (try simp (disch := omega) only [if_neg, if_pos, and_self, and_true, true_and, and_false, false_and, if_true, if_false]); try exact q_r10c.symm), gT.cg (by rw [hI_T13c _ _ (by omega)]; try simp (disch := omega) only [if_neg, if_pos, and_self, and_true, true_and, and_false, false_and, if_true, if_false]) (fun k => by rw [hI_T13c _ _ (by omega)]; try simp (disch := omega) only [if_neg, if_pos, and_self, and_true, true_and, and_false, false_and, if_true, if_false]) (fun j hj hj2 => by rw [hP_S11]; try simp (disch := omega) only [if_neg, if_pos, and_self, and_true, true_and, and_false, false_and, if_true, if_false]), gZ.cg (by rw [hI_T13c _ _ (by omega)]; try simp (disch := omega) only [if_neg, if_pos, and_self, and_true, true_and, and_false, false_and, if_true, if_false]) (fun m k hm hm2 => by rw [hI_T13c _ _ (by omega)]; try simp (disch := omega) only [if_neg, if_pos, and_self, and_true, true_and, and_false, false_and, if_true, if_false]) (fun j hj hj2 => by rw [hP_S11]; try simp (disch := omega) only [if_neg, if_pos, and_self, and_true, true_and, and_false, false_and, if_true, if_false]), gD.cg (by rw [hI_T13c _ _ (by omega)]; try simp (disch := omega) only [if_neg, if_pos, and_self, and_true, true_and, and_false, false_and, if_true, if_false]) (fun k => by rw [hI_T13c _ _ (by omega)]; try simp (disch := omega) only [if_neg, if_pos, and_self, and_true, true_and, and_false, false_and, if_true, if_false]) (fun j hj hj2 => by rw [hP_S11]; try simp (disch := omega) only [if_neg, if_pos, and_self, and_true, true_and, and_false, false_and, if_true, if_false]), (fun j hj => by rw [hD_S11]; (try simp (disch := omega) only [if_neg, if_pos, and_self, and_true, true_and, and_false, false_and, if_true, if_false]); try exact gX j hj)⟩, r_T13c⟩

