set_option maxHeartbeats 4000000 in
set_option maxRecDepth 10000 in
theorem l_wall {b : Nat → Int32} {n c i k s : Nat} {T T1 : AT} {S S1 : MS} {r : Int32} (h : PRq b n c i T S) (hk : kd b n (pst b n i) = 1) (hs : s = 478 ∨ s = 656) (hF : SRF s T) (hC : SCNq s T (S.2.1 11) (S.2.1 13)) (hg : g_X3_parseWall T 6 s = some (k, r, T1)) (hf : fr_readWall S = some S1) : LNq b n c i s T T1 S1 k := by
  obtain ⟨gH, gM, gG, gS, gW, gF, gT, gZ, gD, gX⟩ := hC
  obtain ⟨F1, F2, F3, F4, F5, F6, F7, F8, F9, F10, F11, F12, F13, F14, F15⟩ := hF
  obtain ⟨mc, b1, b2, b3, b4⟩ := gW
  unfold g_X3_parseWall at hg
  obtain ⟨-, hg⟩ := oif_some hg
  obtain ⟨v3, ev3, hg⟩ := elet_some hg
  rw [b2] at ev3
  unfold fr_readWall at hf
  obtain ⟨v2, ev2, hf⟩ := elet_some hf
  rw [b3] at ev2
  have key : ∃ (a0 : Int32) (Sa : MS), g_X3_parseWall_b14 T a0 6 6 s = some (k, r, T1) ∧ fr_readWall_b18 Sa v2 = some S1 ∧ ((a0 = 0 ∧ Sa = S) ∨ (a0 ≠ 0 ∧ fr_faults S 4 = some Sa)) ∧ (a0 = 0 → mc < 2) := by
    by_cases cm : mc < 2
    · rw [if_pos (by rw [ev3]; exact nI_lt (a := mc) (b := 2) cm (by decide))] at hg
      rw [if_neg (fun q => by rw [ev2] at q; have := (nI_eq (a := mc) (b := 2) (by omega) (by decide)).mp q; omega)] at hf
      exact ⟨0, S, hg, hf, .inl ⟨rfl, rfl⟩, fun _ => cm⟩
    · rw [if_neg (by rw [ev3]; exact nI_nlt (a := mc) (b := 2) (by omega) (by omega))] at hg
      rw [if_pos (by rw [ev2, show mc = 2 from by omega]; rfl)] at hf
      obtain ⟨S4, f4, hf⟩ := obind_some hf
      exact ⟨1, S4, hg, hf, .inr ⟨by decide, f4⟩, fun q => absurd q (by decide)⟩
  obtain ⟨a0, Sa, hg, hf, hcase, hmc⟩ := key
  unfold fr_readWall_b18 at hf
  obtain ⟨S2, fS2, hf⟩ := obind_some hf
  obtain ⟨r8, S5, fS5, hf⟩ := obind2_some hf
  obtain ⟨r12, S9, fS9, hf⟩ := obind2_some hf
  obtain ⟨v13, ev13, hf⟩ := elet_some hf
  have fin_S9 : 0 < (S9.1 5).toInt → S1 = S9 := fun q => by rw [if_neg (st_le q ev13)] at hf; exact (osome1 (show some S9 = some S1 from hf)).symm
  have fin_S5 : 0 < (S5.1 5).toInt → S1 = S5 := fun q => by have e := (st_number q fS9); exact (fin_S9 (by rw [e]; exact q)).trans e
  have fin_S2 : 0 < (S2.1 5).toInt → S1 = S2 := fun q => by have e := (st_signed q fS5); exact (fin_S5 (by rw [e]; exact q)).trans e
  unfold g_X3_parseWall_b14 at hg
  obtain ⟨-, hg⟩ := oif_some hg
  rcases othr_k hg with ⟨r9, g9, z0⟩ | ⟨r5c, T3c, g9, hg⟩
  · rcases k_line h hk (by decide) g9 hcase fS2 with ⟨z, -⟩ | ⟨z1, z2⟩
    · exact absurd z z0
    · exact .inr ⟨z1, by rw [fin_S2 z2.1]; exact z2⟩
  rcases k_line h hk (by decide) g9 hcase fS2 with ⟨-, p_T3c, tf_T3c, m0, za⟩ | ⟨z1, -⟩
  rotate_left
  · exact absurd z1 (by decide)
  have cmc := hmc za
  have r_T3c : T3c.2.2.2.2 = T.2.2.2.2 := congrArg (fun x => x.2) tf_T3c.2.2.1
  have hI_T3c : ∀ m j : Nat, m ≠ 6 → T3c.2.2.1 m j = T.2.2.1 m j := fun m j h6 => by rw [tf_T3c.2.2.2 m j h6]
  obtain ⟨-, hg⟩ := oif_some hg
  obtain ⟨n8c, en8c, hg⟩ := obind_some hg
  rw [r_T3c, F4] at en8c
  cases en8c
  obtain ⟨-, hg⟩ := oif_some hg
  obtain ⟨v10c, ev10c, hg⟩ := elet_some hg
  rw [hI_T3c _ _ (by omega)] at ev10c
  rw [b2] at ev10c
  have k_v10c : v10c = nI mc := ev10c
  obtain ⟨-, hg⟩ := oif_some hg
  rcases othr_k hg with ⟨r9, g9, z0⟩ | ⟨r14c, T12c, g9, hg⟩
  · rcases k_signed p_T3c g9 fS5 with ⟨z, -⟩ | ⟨z1, z2⟩
    · exact absurd z z0
    · exact .inr ⟨z1, by rw [fin_S5 z2.1]; exact z2⟩
  rcases k_signed p_T3c g9 fS5 with ⟨-, q_r14c, ⟨i_T12c, l_T12c, p_T12c⟩, tf_T12c, mf_T12c⟩ | ⟨z1, -⟩
  rotate_left
  · exact absurd z1 (by decide)
  have r_T12c : T12c.2.2.2.2 = T.2.2.2.2 := (congrArg (fun x => x.2) tf_T12c.2.2.1).trans r_T3c
  have hI_T12c : ∀ m j : Nat, m ≠ 6 → T12c.2.2.1 m j = T.2.2.1 m j := fun m j h6 => by rw [tf_T12c.2.2.2 m j h6, hI_T3c m j h6]
  have mm_T12c := MFq.tr m0 mf_T12c
  obtain ⟨-, hg⟩ := oif_some hg
  obtain ⟨-, hg⟩ := oif_some hg
  obtain ⟨T18c, eT18c, hg⟩ := elet_some hg
  rw [k_v10c, nI_clamp (by omega)] at eT18c
  have r_T18c : T18c.2.2.2.2 = T.2.2.2.2 := by rw [eT18c]; exact r_T12c
  have hI_T18c : ∀ m j : Nat, m ≠ 6 → T18c.2.2.1 m j = if m = (s + 11) ∧ j = mc then r14c else T.2.2.1 m j := fun m j h6 => by rw [eT18c, ui_get, hI_T12c m j h6]
  have p_T18c := pr_uI (m := (s + 11)) (k := mc) (v := r14c) p_T12c (by omega)
  rw [← eT18c] at p_T18c
  obtain ⟨-, hg⟩ := oif_some hg
  obtain ⟨n20c, en20c, hg⟩ := obind_some hg
  rw [r_T18c, F5] at en20c
  cases en20c
  obtain ⟨-, hg⟩ := oif_some hg
  obtain ⟨v22c, ev22c, hg⟩ := elet_some hg
  rw [hI_T18c _ _ (by omega)] at ev22c
  simp (disch := omega) only [if_neg, if_pos, and_self, and_true, true_and, and_false, false_and, if_true, if_false] at ev22c
  rw [b2] at ev22c
  have k_v22c : v22c = nI mc := ev22c
  obtain ⟨-, hg⟩ := oif_some hg
  rcases othr_k hg with ⟨r9, g9, z0⟩ | ⟨r26c, T24c, g9, hg⟩
  · rcases k_number p_T18c g9 fS9 with ⟨z, -⟩ | ⟨z1, z2⟩
    · exact absurd z z0
    · exact .inr ⟨z1, by rw [fin_S9 z2.1]; exact z2⟩
  rcases k_number p_T18c g9 fS9 with ⟨-, q_r26c, lo_r26c, hi_r26c, p_T24c, tf_T24c, mf_T24c⟩ | ⟨z1, -⟩
  rotate_left
  · exact absurd z1 (by decide)
  have r_T24c : T24c.2.2.2.2 = T.2.2.2.2 := (congrArg (fun x => x.2) tf_T24c.2.2.1).trans r_T18c
  have hI_T24c : ∀ m j : Nat, m ≠ 6 → T24c.2.2.1 m j = if m = (s + 11) ∧ j = mc then r14c else T.2.2.1 m j := fun m j h6 => by rw [tf_T24c.2.2.2 m j h6, hI_T18c m j h6]
  have mm_T24c := MFq.tr mm_T12c mf_T24c
  obtain ⟨-, hg⟩ := oif_some hg
  obtain ⟨-, hg⟩ := oif_some hg
  obtain ⟨T30c, eT30c, hg⟩ := elet_some hg
  rw [k_v22c, nI_clamp (by omega)] at eT30c
  have r_T30c : T30c.2.2.2.2 = T.2.2.2.2 := by rw [eT30c]; exact r_T24c
  have hI_T30c : ∀ m j : Nat, m ≠ 6 → T30c.2.2.1 m j = if m = (s + 12) ∧ j = mc then r26c else if m = (s + 11) ∧ j = mc then r14c else T.2.2.1 m j := fun m j h6 => by rw [eT30c, ui_get, hI_T24c m j h6]
  have p_T30c := pr_uI (m := (s + 12)) (k := mc) (v := r26c) p_T24c (by omega)
  rw [← eT30c] at p_T30c
  obtain ⟨-, hg⟩ := oif_some hg
  obtain ⟨v32c, ev32c, hg⟩ := elet_some hg
  rw [hI_T30c _ _ (by omega)] at ev32c
  simp (disch := omega) only [if_neg, if_pos, and_self, and_true, true_and, and_false, false_and, if_true, if_false] at ev32c
  rw [b2] at ev32c
  have k_v32c : v32c = nI mc := ev32c
  obtain ⟨v33c, ev33c, hg⟩ := elet_some hg
  have k_v33c : v33c = nI (mc + 1) := by rw [ev33c, k_v32c]; exact nI_add (mc) 1
  obtain ⟨-, hg⟩ := oif_some hg
  obtain ⟨T35c, eT35c, hg⟩ := elet_some hg
  have r_T35c : T35c.2.2.2.2 = T.2.2.2.2 := by rw [eT35c]; exact r_T30c
  have hI_T35c : ∀ m j : Nat, m ≠ 6 → T35c.2.2.1 m j = if m = s ∧ j = 11 then v33c else if m = (s + 12) ∧ j = mc then r26c else if m = (s + 11) ∧ j = mc then r14c else T.2.2.1 m j := fun m j h6 => by rw [eT35c, ui_get, hI_T30c m j h6]
  have p_T35c := pr_uI (m := s) (k := 11) (v := v33c) p_T30c (by omega)
  rw [← eT35c] at p_T35c
  have g := osome3 hg
  rw [if_pos (by rw [ev13, p_T35c.2.2.1] <;> decide)] at hf
  obtain ⟨v15, ev15, hf⟩ := elet_some hf
  obtain ⟨-, hf⟩ := oif_some hf
  obtain ⟨S17, eS17, hf⟩ := elet_some hf
  obtain ⟨v18, ev18, hf⟩ := elet_some hf
  obtain ⟨-, hf⟩ := oif_some hf
  obtain ⟨S20, eS20, hf⟩ := elet_some hf
  obtain ⟨v21, ev21, hf⟩ := elet_some hf
  obtain ⟨v22, ev22, hf⟩ := elet_some hf
  obtain ⟨S23, eS23, hf⟩ := elet_some hf
  have k_l1 : v2 = nI mc := ev2
  have hP_S9 : ∀ x : Nat, S9.2.1 11 x = S.2.1 11 x := fun x => by rw [mm_T24c.1]
  have hD_S9 : ∀ x : Nat, S9.2.1 13 x = S.2.1 13 x := fun x => by rw [mm_T24c.1]
  have k_v15 : v15 = nI (72 + mc) := by rw [ev15, k_l1]; exact nI_add 72 (mc)
  rw [k_v15, nI_clamp (by omega)] at eS17
  have hP_S17 : ∀ x : Nat, S17.2.1 11 x = if x = (72 + mc) then r8 else S.2.1 11 x := fun x => by rw [eS17, mf_at]; show (if x = (72 + mc) then r8 else S9.2.1 11 x) = _; rw [hP_S9]
  have hD_S17 : ∀ x : Nat, S17.2.1 13 x = S.2.1 13 x := fun x => by rw [eS17, mf_ne (by decide), hD_S9]
  have k_v18 : v18 = nI (74 + mc) := by rw [ev18, k_l1]; exact nI_add 74 (mc)
  rw [k_v18, nI_clamp (by omega)] at eS20
  have hP_S20 : ∀ x : Nat, S20.2.1 11 x = if x = (74 + mc) then r12 else if x = (72 + mc) then r8 else S.2.1 11 x := fun x => by rw [eS20, mf_at]; show (if x = (74 + mc) then r12 else S17.2.1 11 x) = _; rw [hP_S17]
  have hD_S20 : ∀ x : Nat, S20.2.1 13 x = S.2.1 13 x := fun x => by rw [eS20, mf_ne (by decide), hD_S17]
  rw [hP_S20] at ev21
  (try simp (disch := omega) only [if_neg, if_pos, and_self, and_true, true_and, and_false, false_and, if_true, if_false] at ev21)
  rw [b3] at ev21
  have k_v21 : v21 = nI mc := ev21
  have k_v22 : v22 = nI (mc + 1) := by rw [ev22, k_v21]; exact nI_add (mc) 1
  have hP_S23 : ∀ x : Nat, S23.2.1 11 x = if x = 71 then v22 else if x = (74 + mc) then r12 else if x = (72 + mc) then r8 else S.2.1 11 x := fun x => by rw [eS23, mf_at]; show (if x = 71 then v22 else S20.2.1 11 x) = _; rw [hP_S20]
  have hD_S23 : ∀ x : Nat, S23.2.1 13 x = S.2.1 13 x := fun x => by rw [eS23, mf_ne (by decide), hD_S20]
  have p_S17 := pr_mfe p_T35c eS17 (by decide)
  have p_S20 := pr_mfe p_S17 eS20 (by decide)
  have p_S23 := pr_mfe p_S20 eS23 (by decide)
  have eS := osome1 (show some S23 = some S1 from hf)
  rw [← g.2.2, ← eS]
  exact .inl ⟨g.1.symm, ⟨_, by omega, p_S23⟩, ⟨gH.cg (fun j hj => by rw [hI_T35c _ _ (by omega)]; try simp (disch := omega) only [if_neg, if_pos, and_self, and_true, true_and, and_false, false_and, if_true, if_false]) (fun j hj => by rw [hP_S23]; try simp (disch := omega) only [if_neg, if_pos, and_self, and_true, true_and, and_false, false_and, if_true, if_false]), gM.cg (by rw [hI_T35c _ _ (by omega)]; try simp (disch := omega) only [if_neg, if_pos, and_self, and_true, true_and, and_false, false_and, if_true, if_false]) (fun m k hm hm2 => by rw [hI_T35c _ _ (by omega)]; try simp (disch := omega) only [if_neg, if_pos, and_self, and_true, true_and, and_false, false_and, if_true, if_false]) (fun j hj => by rw [hP_S23]; try simp (disch := omega) only [if_neg, if_pos, and_self, and_true, true_and, and_false, false_and, if_true, if_false]), gG.cg (fun k hk => by rw [hI_T35c _ _ (by omega)]; try simp (disch := omega) only [if_neg, if_pos, and_self, and_true, true_and, and_false, false_and, if_true, if_false]) (fun k => by rw [hI_T35c _ _ (by omega)]; try simp (disch := omega) only [if_neg, if_pos, and_self, and_true, true_and, and_false, false_and, if_true, if_false]) (fun j hj hj2 => by rw [hP_S23]; try simp (disch := omega) only [if_neg, if_pos, and_self, and_true, true_and, and_false, false_and, if_true, if_false]), gS.cg (by rw [hI_T35c _ _ (by omega)]; try simp (disch := omega) only [if_neg, if_pos, and_self, and_true, true_and, and_false, false_and, if_true, if_false]) (fun m k hm hm2 => by rw [hI_T35c _ _ (by omega)]; try simp (disch := omega) only [if_neg, if_pos, and_self, and_true, true_and, and_false, false_and, if_true, if_false]) (fun j hj => by rw [hP_S23]; try simp (disch := omega) only [if_neg, if_pos, and_self, and_true, true_and, and_false, false_and, if_true, if_false]) (fun j hj hj2 => by rw [hD_S23]; try simp (disch := omega) only [if_neg, if_pos, and_self, and_true, true_and, and_false, false_and, if_true, if_false]), ⟨mc + 1, by omega, (by rw [hI_T35c _ _ (by omega)]; (try simp (disch := omega) only [if_neg, if_pos, and_self, and_true, true_and, and_false, false_and, if_true, if_false]); try exact k_v33c), (by rw [hP_S23]; (try simp (disch := omega) only [if_neg, if_pos, and_self, and_true, true_and, and_false, false_and, if_true, if_false]); try exact k_v22), fun m hm => if e : m = mc then ⟨(by rw [e]; rw [hI_T35c _ _ (by omega), hP_S23]; (try simp (disch := omega) only [if_neg, if_pos, and_self, and_true, true_and, and_false, false_and, if_true, if_false]); try exact q_r14c.symm), (by rw [e]; rw [hI_T35c _ _ (by omega), hP_S23]; (try simp (disch := omega) only [if_neg, if_pos, and_self, and_true, true_and, and_false, false_and, if_true, if_false]); try exact q_r26c.symm)⟩ else ⟨(by rw [hI_T35c _ _ (by omega), hP_S23]; (try simp (disch := omega) only [if_neg, if_pos, and_self, and_true, true_and, and_false, false_and, if_true, if_false]); try exact (b4 m (by omega)).1), (by rw [hI_T35c _ _ (by omega), hP_S23]; (try simp (disch := omega) only [if_neg, if_pos, and_self, and_true, true_and, and_false, false_and, if_true, if_false]); try exact (b4 m (by omega)).2)⟩⟩, gF.cg (by rw [hI_T35c _ _ (by omega)]; try simp (disch := omega) only [if_neg, if_pos, and_self, and_true, true_and, and_false, false_and, if_true, if_false]) (by rw [hP_S23]; try simp (disch := omega) only [if_neg, if_pos, and_self, and_true, true_and, and_false, false_and, if_true, if_false]), gT.cg (by rw [hI_T35c _ _ (by omega)]; try simp (disch := omega) only [if_neg, if_pos, and_self, and_true, true_and, and_false, false_and, if_true, if_false]) (fun k => by rw [hI_T35c _ _ (by omega)]; try simp (disch := omega) only [if_neg, if_pos, and_self, and_true, true_and, and_false, false_and, if_true, if_false]) (fun j hj hj2 => by rw [hP_S23]; try simp (disch := omega) only [if_neg, if_pos, and_self, and_true, true_and, and_false, false_and, if_true, if_false]), gZ.cg (by rw [hI_T35c _ _ (by omega)]; try simp (disch := omega) only [if_neg, if_pos, and_self, and_true, true_and, and_false, false_and, if_true, if_false]) (fun m k hm hm2 => by rw [hI_T35c _ _ (by omega)]; try simp (disch := omega) only [if_neg, if_pos, and_self, and_true, true_and, and_false, false_and, if_true, if_false]) (fun j hj hj2 => by rw [hP_S23]; try simp (disch := omega) only [if_neg, if_pos, and_self, and_true, true_and, and_false, false_and, if_true, if_false]), gD.cg (by rw [hI_T35c _ _ (by omega)]; try simp (disch := omega) only [if_neg, if_pos, and_self, and_true, true_and, and_false, false_and, if_true, if_false]) (fun k => by rw [hI_T35c _ _ (by omega)]; try simp (disch := omega) only [if_neg, if_pos, and_self, and_true, true_and, and_false, false_and, if_true, if_false]) (fun j hj hj2 => by rw [hP_S23]; try simp (disch := omega) only [if_neg, if_pos, and_self, and_true, true_and, and_false, false_and, if_true, if_false]), (fun j hj => by rw [hD_S23]; (try simp (disch := omega) only [if_neg, if_pos, and_self, and_true, true_and, and_false, false_and, if_true, if_false]); try exact gX j hj)⟩, r_T35c⟩
