set_option maxHeartbeats 4000000 in
set_option maxRecDepth 10000 in
theorem l_zone {b : Nat → Int32} {n c i k s : Nat} {T T1 : AT} {S S1 : MS} {r : Int32} (h : PRq b n c i T S) (hk : kd b n (pst b n i) = 1) (hs : s = 478 ∨ s = 656) (hF : SRF s T) (hC : SCNq s T (S.2.1 11) (S.2.1 13)) (hg : g_X3_parseZone T 6 (s + 2) = some (k, r, T1)) (hf : fr_readZone S = some S1) : LNq b n c i s T T1 S1 k := by
  obtain ⟨gH, gM, gG, gS, gW, gF, gT, gZ, gD, gX⟩ := hC
  obtain ⟨F1, F2, F3, F4, F5, F6, F7, F8, F9, F10, F11, F12, F13, F14, F15⟩ := hF
  obtain ⟨mc, b1, b2, b3, b4⟩ := gZ
  unfold g_X3_parseZone at hg
  obtain ⟨-, hg⟩ := oif_some hg
  obtain ⟨v3, ev3, hg⟩ := elet_some hg
  rw [b2] at ev3
  unfold fr_readZone at hf
  obtain ⟨v2, ev2, hf⟩ := elet_some hf
  rw [b3] at ev2
  have key : ∃ (a0 : Int32) (Sa : MS), g_X3_parseZone_b14 T a0 6 6 (s + 2) = some (k, r, T1) ∧ fr_readZone_b18 Sa v2 = some S1 ∧ ((a0 = 0 ∧ Sa = S) ∨ (a0 ≠ 0 ∧ fr_faults S 4 = some Sa)) ∧ (a0 = 0 → mc < 4) := by
    by_cases cm : mc < 4
    · rw [if_pos (by rw [ev3]; exact nI_lt (a := mc) (b := 4) cm (by decide))] at hg
      rw [if_neg (fun q => by rw [ev2] at q; have := (nI_eq (a := mc) (b := 4) (by omega) (by decide)).mp q; omega)] at hf
      exact ⟨0, S, hg, hf, .inl ⟨rfl, rfl⟩, fun _ => cm⟩
    · rw [if_neg (by rw [ev3]; exact nI_nlt (a := mc) (b := 4) (by omega) (by omega))] at hg
      rw [if_pos (by rw [ev2, show mc = 4 from by omega]; rfl)] at hf
      obtain ⟨S4, f4, hf⟩ := obind_some hf
      exact ⟨1, S4, hg, hf, .inr ⟨by decide, f4⟩, fun q => absurd q (by decide)⟩
  obtain ⟨a0, Sa, hg, hf, hcase, hmc⟩ := key
  unfold fr_readZone_b18 at hf
  obtain ⟨S2, fS2, hf⟩ := obind_some hf
  obtain ⟨v5, ev5, hf⟩ := elet_some hf
  obtain ⟨v6, ev6, hf⟩ := elet_some hf
  obtain ⟨r10, S7, fS7, hf⟩ := obind2_some hf
  obtain ⟨v11, ev11, hf⟩ := elet_some hf
  obtain ⟨v12, ev12, hf⟩ := elet_some hf
  obtain ⟨r16, S13, fS13, hf⟩ := obind2_some hf
  obtain ⟨v17, ev17, hf⟩ := elet_some hf
  obtain ⟨v18, ev18, hf⟩ := elet_some hf
  obtain ⟨r22, S19, fS19, hf⟩ := obind2_some hf
  obtain ⟨v23, ev23, hf⟩ := elet_some hf
  obtain ⟨v24, ev24, hf⟩ := elet_some hf
  obtain ⟨r28, S25, fS25, hf⟩ := obind2_some hf
  obtain ⟨v29, ev29, hf⟩ := elet_some hf
  have fin_S25 : 0 < (S25.1 5).toInt → S1 = S25 := fun q => by rw [if_neg (st_le q ev29)] at hf; exact (osome1 (show some S25 = some S1 from hf)).symm
  have fin_S19 : 0 < (S19.1 5).toInt → S1 = S19 := fun q => by have e := (st_number q fS25); exact (fin_S25 (by rw [e]; exact q)).trans e
  have fin_S13 : 0 < (S13.1 5).toInt → S1 = S13 := fun q => by have e := (st_number q fS19); exact (fin_S19 (by rw [e]; exact q)).trans e
  have fin_S7 : 0 < (S7.1 5).toInt → S1 = S7 := fun q => by have e := (st_number q fS13); exact (fin_S13 (by rw [e]; exact q)).trans e
  have fin_S2 : 0 < (S2.1 5).toInt → S1 = S2 := fun q => by have e := (st_number q fS7); exact (fin_S7 (by rw [e]; exact q)).trans e
  unfold g_X3_parseZone_b14 at hg
  obtain ⟨-, hg⟩ := oif_some hg
  rcases othr_k hg with ⟨r9, g9, z0⟩ | ⟨r5c, T3c, g9, hg⟩
  · rcases k_line h hk (by decide) g9 hcase fS2 with ⟨z, -⟩ | ⟨z1, z2⟩
    · exact absurd z z0
    · exact .inr ⟨z1, by rw [fin_S2 z2.1]; exact z2⟩
  rcases k_line h hk (by decide) g9 hcase fS2 with ⟨-, p_T3c, tf_T3c, m0, za⟩ | ⟨z1, -⟩
  rotate_left
  · exact absurd z1 (by decide)
  have cmc := hmc za
  have r_T3c : T3c.2.2.2.2 = T.2.2.2.2 := congrArg (fun x => x.2) tf_T3c.2.2.1
  have hI_T3c : ∀ m j : Nat, m ≠ 6 → T3c.2.2.1 m j = T.2.2.1 m j := fun m j h6 => by rw [tf_T3c.2.2.2 m j h6]
  obtain ⟨-, hg⟩ := oif_some hg
  obtain ⟨n8c, en8c, hg⟩ := obind_some hg
  rw [r_T3c, F12] at en8c
  cases en8c
  obtain ⟨-, hg⟩ := oif_some hg
  obtain ⟨v10c, ev10c, hg⟩ := elet_some hg
  rw [hI_T3c _ _ (by omega)] at ev10c
  rw [b2] at ev10c
  have k_v10c : v10c = nI mc := ev10c
  obtain ⟨-, hg⟩ := oif_some hg
  obtain ⟨-, hg⟩ := oif_some hg
  obtain ⟨n13c, en13c, hg⟩ := obind_some hg
  rw [k_v10c, nI_clamp (by omega)] at en13c
  rw [r_T3c, F13 _ (by omega)] at en13c
  cases en13c
  obtain ⟨-, hg⟩ := oif_some hg
  obtain ⟨v15c, ev15c, hg⟩ := elet_some hg
  rw [hI_T3c _ _ (by omega)] at ev15c
  rw [gG.1] at ev15c
  obtain ⟨v16c, ev16c, hg⟩ := elet_some hg
  obtain ⟨-, hg⟩ := oif_some hg
  have u1 : v16c = v6 := by rw [ev16c, ev15c, ev6, ev5, m0.1]
  rw [u1] at hg
  rcases othr_k hg with ⟨r9, g9, z0⟩ | ⟨r20c, T18c, g9, hg⟩
  · rcases k_number p_T3c g9 fS7 with ⟨z, -⟩ | ⟨z1, z2⟩
    · exact absurd z z0
    · exact .inr ⟨z1, by rw [fin_S7 z2.1]; exact z2⟩
  rcases k_number p_T3c g9 fS7 with ⟨-, q_r20c, lo_r20c, hi_r20c, p_T18c, tf_T18c, mf_T18c⟩ | ⟨z1, -⟩
  rotate_left
  · exact absurd z1 (by decide)
  have r_T18c : T18c.2.2.2.2 = T.2.2.2.2 := (congrArg (fun x => x.2) tf_T18c.2.2.1).trans r_T3c
  have hI_T18c : ∀ m j : Nat, m ≠ 6 → T18c.2.2.1 m j = T.2.2.1 m j := fun m j h6 => by rw [tf_T18c.2.2.2 m j h6, hI_T3c m j h6]
  have mm_T18c := MFq.tr m0 mf_T18c
  obtain ⟨-, hg⟩ := oif_some hg
  obtain ⟨-, hg⟩ := oif_some hg
  obtain ⟨T24c, eT24c, hg⟩ := elet_some hg
  rw [show (0 : Int32).toNatClampNeg = 0 from by decide] at eT24c
  have r_T24c : T24c.2.2.2.2 = T.2.2.2.2 := by rw [eT24c]; exact r_T18c
  have hI_T24c : ∀ m j : Nat, m ≠ 6 → T24c.2.2.1 m j = if m = (s + 5 + mc) ∧ j = 0 then r20c else T.2.2.1 m j := fun m j h6 => by rw [eT24c, ui_get, hI_T18c m j h6]
  have p_T24c := pr_uI (m := (s + 5 + mc)) (k := 0) (v := r20c) p_T18c (by omega)
  rw [← eT24c] at p_T24c
  obtain ⟨-, hg⟩ := oif_some hg
  obtain ⟨v26c, ev26c, hg⟩ := elet_some hg
  rw [hI_T24c _ _ (by omega)] at ev26c
  simp (disch := omega) only [if_neg, if_pos, and_self, and_true, true_and, and_false, false_and, if_true, if_false] at ev26c
  rw [gG.2.1] at ev26c
  obtain ⟨v27c, ev27c, hg⟩ := elet_some hg
  obtain ⟨-, hg⟩ := oif_some hg
  have u2 : v27c = v12 := by rw [ev27c, ev26c, ev12, ev11, mm_T18c.1]
  rw [u2] at hg
  rcases othr_k hg with ⟨r9, g9, z0⟩ | ⟨r31c, T29c, g9, hg⟩
  · rcases k_number p_T24c g9 fS13 with ⟨z, -⟩ | ⟨z1, z2⟩
    · exact absurd z z0
    · exact .inr ⟨z1, by rw [fin_S13 z2.1]; exact z2⟩
  rcases k_number p_T24c g9 fS13 with ⟨-, q_r31c, lo_r31c, hi_r31c, p_T29c, tf_T29c, mf_T29c⟩ | ⟨z1, -⟩
  rotate_left
  · exact absurd z1 (by decide)
  have r_T29c : T29c.2.2.2.2 = T.2.2.2.2 := (congrArg (fun x => x.2) tf_T29c.2.2.1).trans r_T24c
  have hI_T29c : ∀ m j : Nat, m ≠ 6 → T29c.2.2.1 m j = if m = (s + 5 + mc) ∧ j = 0 then r20c else T.2.2.1 m j := fun m j h6 => by rw [tf_T29c.2.2.2 m j h6, hI_T24c m j h6]
  have mm_T29c := MFq.tr mm_T18c mf_T29c
  obtain ⟨-, hg⟩ := oif_some hg
  obtain ⟨-, hg⟩ := oif_some hg
  obtain ⟨T35c, eT35c, hg⟩ := elet_some hg
  rw [show (1 : Int32).toNatClampNeg = 1 from by decide] at eT35c
  have r_T35c : T35c.2.2.2.2 = T.2.2.2.2 := by rw [eT35c]; exact r_T29c
  have hI_T35c : ∀ m j : Nat, m ≠ 6 → T35c.2.2.1 m j = if m = (s + 5 + mc) ∧ j = 1 then r31c else if m = (s + 5 + mc) ∧ j = 0 then r20c else T.2.2.1 m j := fun m j h6 => by rw [eT35c, ui_get, hI_T29c m j h6]
  have p_T35c := pr_uI (m := (s + 5 + mc)) (k := 1) (v := r31c) p_T29c (by omega)
  rw [← eT35c] at p_T35c
  obtain ⟨-, hg⟩ := oif_some hg
  obtain ⟨-, hg⟩ := oif_some hg
  obtain ⟨v38c, ev38c, hg⟩ := elet_some hg
  rw [show (0 : Int32).toNatClampNeg = 0 from by decide] at ev38c
  rw [hI_T35c _ _ (by omega)] at ev38c
  simp (disch := omega) only [if_neg, if_pos, and_self, and_true, true_and, and_false, false_and, if_true, if_false] at ev38c
  rw [ev38c] at hg
  obtain ⟨-, hg⟩ := oif_some hg
  obtain ⟨v40c, ev40c, hg⟩ := elet_some hg
  rw [hI_T35c _ _ (by omega)] at ev40c
  simp (disch := omega) only [if_neg, if_pos, and_self, and_true, true_and, and_false, false_and, if_true, if_false] at ev40c
  rw [gG.1] at ev40c
  obtain ⟨v41c, ev41c, hg⟩ := elet_some hg
  obtain ⟨-, hg⟩ := oif_some hg
  have u3 : v41c = v18 := by rw [ev41c, ev40c, ev18, ev17, mm_T29c.1]
  rw [u3] at hg
  rw [q_r20c] at fS19
  rcases othr_k hg with ⟨r9, g9, z0⟩ | ⟨r45c, T43c, g9, hg⟩
  · rcases k_number p_T35c g9 fS19 with ⟨z, -⟩ | ⟨z1, z2⟩
    · exact absurd z z0
    · exact .inr ⟨z1, by rw [fin_S19 z2.1]; exact z2⟩
  rcases k_number p_T35c g9 fS19 with ⟨-, q_r45c, lo_r45c, hi_r45c, p_T43c, tf_T43c, mf_T43c⟩ | ⟨z1, -⟩
  rotate_left
  · exact absurd z1 (by decide)
  have r_T43c : T43c.2.2.2.2 = T.2.2.2.2 := (congrArg (fun x => x.2) tf_T43c.2.2.1).trans r_T35c
  have hI_T43c : ∀ m j : Nat, m ≠ 6 → T43c.2.2.1 m j = if m = (s + 5 + mc) ∧ j = 1 then r31c else if m = (s + 5 + mc) ∧ j = 0 then r20c else T.2.2.1 m j := fun m j h6 => by rw [tf_T43c.2.2.2 m j h6, hI_T35c m j h6]
  have mm_T43c := MFq.tr mm_T29c mf_T43c
  obtain ⟨-, hg⟩ := oif_some hg
  obtain ⟨-, hg⟩ := oif_some hg
  obtain ⟨T49c, eT49c, hg⟩ := elet_some hg
  rw [show (2 : Int32).toNatClampNeg = 2 from by decide] at eT49c
  have r_T49c : T49c.2.2.2.2 = T.2.2.2.2 := by rw [eT49c]; exact r_T43c
  have hI_T49c : ∀ m j : Nat, m ≠ 6 → T49c.2.2.1 m j = if m = (s + 5 + mc) ∧ j = 2 then r45c else if m = (s + 5 + mc) ∧ j = 1 then r31c else if m = (s + 5 + mc) ∧ j = 0 then r20c else T.2.2.1 m j := fun m j h6 => by rw [eT49c, ui_get, hI_T43c m j h6]
  have p_T49c := pr_uI (m := (s + 5 + mc)) (k := 2) (v := r45c) p_T43c (by omega)
  rw [← eT49c] at p_T49c
  obtain ⟨-, hg⟩ := oif_some hg
  obtain ⟨-, hg⟩ := oif_some hg
  obtain ⟨v52c, ev52c, hg⟩ := elet_some hg
  rw [show (1 : Int32).toNatClampNeg = 1 from by decide] at ev52c
  rw [hI_T49c _ _ (by omega)] at ev52c
  simp (disch := omega) only [if_neg, if_pos, and_self, and_true, true_and, and_false, false_and, if_true, if_false] at ev52c
  rw [ev52c] at hg
  obtain ⟨-, hg⟩ := oif_some hg
  obtain ⟨v54c, ev54c, hg⟩ := elet_some hg
  rw [hI_T49c _ _ (by omega)] at ev54c
  simp (disch := omega) only [if_neg, if_pos, and_self, and_true, true_and, and_false, false_and, if_true, if_false] at ev54c
  rw [gG.2.1] at ev54c
  obtain ⟨v55c, ev55c, hg⟩ := elet_some hg
  obtain ⟨-, hg⟩ := oif_some hg
  have u4 : v55c = v24 := by rw [ev55c, ev54c, ev24, ev23, mm_T43c.1]
  rw [u4] at hg
  rw [q_r31c] at fS25
  rcases othr_k hg with ⟨r9, g9, z0⟩ | ⟨r59c, T57c, g9, hg⟩
  · rcases k_number p_T49c g9 fS25 with ⟨z, -⟩ | ⟨z1, z2⟩
    · exact absurd z z0
    · exact .inr ⟨z1, by rw [fin_S25 z2.1]; exact z2⟩
  rcases k_number p_T49c g9 fS25 with ⟨-, q_r59c, lo_r59c, hi_r59c, p_T57c, tf_T57c, mf_T57c⟩ | ⟨z1, -⟩
  rotate_left
  · exact absurd z1 (by decide)
  have r_T57c : T57c.2.2.2.2 = T.2.2.2.2 := (congrArg (fun x => x.2) tf_T57c.2.2.1).trans r_T49c
  have hI_T57c : ∀ m j : Nat, m ≠ 6 → T57c.2.2.1 m j = if m = (s + 5 + mc) ∧ j = 2 then r45c else if m = (s + 5 + mc) ∧ j = 1 then r31c else if m = (s + 5 + mc) ∧ j = 0 then r20c else T.2.2.1 m j := fun m j h6 => by rw [tf_T57c.2.2.2 m j h6, hI_T49c m j h6]
  have mm_T57c := MFq.tr mm_T43c mf_T57c
  obtain ⟨-, hg⟩ := oif_some hg
  obtain ⟨-, hg⟩ := oif_some hg
  obtain ⟨T63c, eT63c, hg⟩ := elet_some hg
  rw [show (3 : Int32).toNatClampNeg = 3 from by decide] at eT63c
  have r_T63c : T63c.2.2.2.2 = T.2.2.2.2 := by rw [eT63c]; exact r_T57c
  have hI_T63c : ∀ m j : Nat, m ≠ 6 → T63c.2.2.1 m j = if m = (s + 5 + mc) ∧ j = 3 then r59c else if m = (s + 5 + mc) ∧ j = 2 then r45c else if m = (s + 5 + mc) ∧ j = 1 then r31c else if m = (s + 5 + mc) ∧ j = 0 then r20c else T.2.2.1 m j := fun m j h6 => by rw [eT63c, ui_get, hI_T57c m j h6]
  have p_T63c := pr_uI (m := (s + 5 + mc)) (k := 3) (v := r59c) p_T57c (by omega)
  rw [← eT63c] at p_T63c
  obtain ⟨-, hg⟩ := oif_some hg
  obtain ⟨v65c, ev65c, hg⟩ := elet_some hg
  rw [hI_T63c _ _ (by omega)] at ev65c
  simp (disch := omega) only [if_neg, if_pos, and_self, and_true, true_and, and_false, false_and, if_true, if_false] at ev65c
  rw [b2] at ev65c
  have k_v65c : v65c = nI mc := ev65c
  obtain ⟨v66c, ev66c, hg⟩ := elet_some hg
  have k_v66c : v66c = nI (mc + 1) := by rw [ev66c, k_v65c]; exact nI_add (mc) 1
  obtain ⟨-, hg⟩ := oif_some hg
  obtain ⟨T68c, eT68c, hg⟩ := elet_some hg
  have r_T68c : T68c.2.2.2.2 = T.2.2.2.2 := by rw [eT68c]; exact r_T63c
  have hI_T68c : ∀ m j : Nat, m ≠ 6 → T68c.2.2.1 m j = if m = (s + 2) ∧ j = 7 then v66c else if m = (s + 5 + mc) ∧ j = 3 then r59c else if m = (s + 5 + mc) ∧ j = 2 then r45c else if m = (s + 5 + mc) ∧ j = 1 then r31c else if m = (s + 5 + mc) ∧ j = 0 then r20c else T.2.2.1 m j := fun m j h6 => by rw [eT68c, ui_get, hI_T63c m j h6]
  have p_T68c := pr_uI (m := (s + 2)) (k := 7) (v := v66c) p_T63c (by omega)
  rw [← eT68c] at p_T68c
  have g := osome3 hg
  rw [if_pos (by rw [ev29, p_T68c.2.2.1] <;> decide)] at hf
  obtain ⟨v31, ev31, hf⟩ := elet_some hf
  obtain ⟨v32, ev32, hf⟩ := elet_some hf
  obtain ⟨-, hf⟩ := oif_some hf
  obtain ⟨S34, eS34, hf⟩ := elet_some hf
  obtain ⟨v35, ev35, hf⟩ := elet_some hf
  obtain ⟨-, hf⟩ := oif_some hf
  obtain ⟨S37, eS37, hf⟩ := elet_some hf
  obtain ⟨v38, ev38, hf⟩ := elet_some hf
  obtain ⟨-, hf⟩ := oif_some hf
  obtain ⟨S40, eS40, hf⟩ := elet_some hf
  obtain ⟨v41, ev41, hf⟩ := elet_some hf
  obtain ⟨-, hf⟩ := oif_some hf
  obtain ⟨S43, eS43, hf⟩ := elet_some hf
  obtain ⟨v44, ev44, hf⟩ := elet_some hf
  obtain ⟨v45, ev45, hf⟩ := elet_some hf
  obtain ⟨S46, eS46, hf⟩ := elet_some hf
  have k_l1 : v2 = nI mc := ev2
  have hP_S25 : ∀ x : Nat, S25.2.1 11 x = S.2.1 11 x := fun x => by rw [mm_T57c.1]
  have hD_S25 : ∀ x : Nat, S25.2.1 13 x = S.2.1 13 x := fun x => by rw [mm_T57c.1]
  have k_v31 : v31 = nI (4 * mc) := by rw [ev31, k_l1]; rcases (show mc = 0 ∨ mc = 1 ∨ mc = 2 ∨ mc = 3 by omega) with y | y | y | y <;> rw [y] <;> decide
  have k_v32 : v32 = nI (102 + (4 * mc)) := by rw [ev32, k_v31]; exact nI_add 102 (4 * mc)
  rw [k_v32, nI_clamp (by omega)] at eS34
  have hP_S34 : ∀ x : Nat, S34.2.1 11 x = if x = (102 + (4 * mc)) then r10 else S.2.1 11 x := fun x => by rw [eS34, mf_at]; show (if x = (102 + (4 * mc)) then r10 else S25.2.1 11 x) = _; rw [hP_S25]
  have hD_S34 : ∀ x : Nat, S34.2.1 13 x = S.2.1 13 x := fun x => by rw [eS34, mf_ne (by decide), hD_S25]
  have k_v35 : v35 = nI (102 + (4 * mc) + 1) := by rw [ev35, k_v32]; exact nI_add (102 + (4 * mc)) 1
  rw [k_v35, nI_clamp (by omega)] at eS37
  have hP_S37 : ∀ x : Nat, S37.2.1 11 x = if x = (102 + (4 * mc) + 1) then r16 else if x = (102 + (4 * mc)) then r10 else S.2.1 11 x := fun x => by rw [eS37, mf_at]; show (if x = (102 + (4 * mc) + 1) then r16 else S34.2.1 11 x) = _; rw [hP_S34]
  have hD_S37 : ∀ x : Nat, S37.2.1 13 x = S.2.1 13 x := fun x => by rw [eS37, mf_ne (by decide), hD_S34]
  have k_v38 : v38 = nI (102 + (4 * mc) + 2) := by rw [ev38, k_v32]; exact nI_add (102 + (4 * mc)) 2
  rw [k_v38, nI_clamp (by omega)] at eS40
  have hP_S40 : ∀ x : Nat, S40.2.1 11 x = if x = (102 + (4 * mc) + 2) then r22 else if x = (102 + (4 * mc) + 1) then r16 else if x = (102 + (4 * mc)) then r10 else S.2.1 11 x := fun x => by rw [eS40, mf_at]; show (if x = (102 + (4 * mc) + 2) then r22 else S37.2.1 11 x) = _; rw [hP_S37]
  have hD_S40 : ∀ x : Nat, S40.2.1 13 x = S.2.1 13 x := fun x => by rw [eS40, mf_ne (by decide), hD_S37]
  have k_v41 : v41 = nI (102 + (4 * mc) + 3) := by rw [ev41, k_v32]; exact nI_add (102 + (4 * mc)) 3
  rw [k_v41, nI_clamp (by omega)] at eS43
  have hP_S43 : ∀ x : Nat, S43.2.1 11 x = if x = (102 + (4 * mc) + 3) then r28 else if x = (102 + (4 * mc) + 2) then r22 else if x = (102 + (4 * mc) + 1) then r16 else if x = (102 + (4 * mc)) then r10 else S.2.1 11 x := fun x => by rw [eS43, mf_at]; show (if x = (102 + (4 * mc) + 3) then r28 else S40.2.1 11 x) = _; rw [hP_S40]
  have hD_S43 : ∀ x : Nat, S43.2.1 13 x = S.2.1 13 x := fun x => by rw [eS43, mf_ne (by decide), hD_S40]
  rw [hP_S43] at ev44
  (try simp (disch := omega) only [if_neg, if_pos, and_self, and_true, true_and, and_false, false_and, if_true, if_false] at ev44)
  rw [b3] at ev44
  have k_v44 : v44 = nI mc := ev44
  have k_v45 : v45 = nI (mc + 1) := by rw [ev45, k_v44]; exact nI_add (mc) 1
  have hP_S46 : ∀ x : Nat, S46.2.1 11 x = if x = 101 then v45 else if x = (102 + (4 * mc) + 3) then r28 else if x = (102 + (4 * mc) + 2) then r22 else if x = (102 + (4 * mc) + 1) then r16 else if x = (102 + (4 * mc)) then r10 else S.2.1 11 x := fun x => by rw [eS46, mf_at]; show (if x = 101 then v45 else S43.2.1 11 x) = _; rw [hP_S43]
  have hD_S46 : ∀ x : Nat, S46.2.1 13 x = S.2.1 13 x := fun x => by rw [eS46, mf_ne (by decide), hD_S43]
  have p_S34 := pr_mfe p_T68c eS34 (by decide)
  have p_S37 := pr_mfe p_S34 eS37 (by decide)
  have p_S40 := pr_mfe p_S37 eS40 (by decide)
  have p_S43 := pr_mfe p_S40 eS43 (by decide)
  have p_S46 := pr_mfe p_S43 eS46 (by decide)
  have eS := osome1 (show some S46 = some S1 from hf)
  rw [← g.2.2, ← eS]
  exact .inl ⟨g.1.symm, ⟨_, by omega, p_S46⟩, ⟨gH.cg (fun j hj => by rw [hI_T68c _ _ (by omega)]; try simp (disch := omega) only [if_neg, if_pos, and_self, and_true, true_and, and_false, false_and, if_true, if_false]) (fun j hj => by rw [hP_S46]; try simp (disch := omega) only [if_neg, if_pos, and_self, and_true, true_and, and_false, false_and, if_true, if_false]), gM.cg (by rw [hI_T68c _ _ (by omega)]; try simp (disch := omega) only [if_neg, if_pos, and_self, and_true, true_and, and_false, false_and, if_true, if_false]) (fun m k hm hm2 => by rw [hI_T68c _ _ (by omega)]; try simp (disch := omega) only [if_neg, if_pos, and_self, and_true, true_and, and_false, false_and, if_true, if_false]) (fun j hj => by rw [hP_S46]; try simp (disch := omega) only [if_neg, if_pos, and_self, and_true, true_and, and_false, false_and, if_true, if_false]), gG.cg (fun k hk => by rw [hI_T68c _ _ (by omega)]; try simp (disch := omega) only [if_neg, if_pos, and_self, and_true, true_and, and_false, false_and, if_true, if_false]) (fun k => by rw [hI_T68c _ _ (by omega)]; try simp (disch := omega) only [if_neg, if_pos, and_self, and_true, true_and, and_false, false_and, if_true, if_false]) (fun j hj hj2 => by rw [hP_S46]; try simp (disch := omega) only [if_neg, if_pos, and_self, and_true, true_and, and_false, false_and, if_true, if_false]), gS.cg (by rw [hI_T68c _ _ (by omega)]; try simp (disch := omega) only [if_neg, if_pos, and_self, and_true, true_and, and_false, false_and, if_true, if_false]) (fun m k hm hm2 => by rw [hI_T68c _ _ (by omega)]; try simp (disch := omega) only [if_neg, if_pos, and_self, and_true, true_and, and_false, false_and, if_true, if_false]) (fun j hj => by rw [hP_S46]; try simp (disch := omega) only [if_neg, if_pos, and_self, and_true, true_and, and_false, false_and, if_true, if_false]) (fun j hj hj2 => by rw [hD_S46]; try simp (disch := omega) only [if_neg, if_pos, and_self, and_true, true_and, and_false, false_and, if_true, if_false]), gW.cg (by rw [hI_T68c _ _ (by omega)]; try simp (disch := omega) only [if_neg, if_pos, and_self, and_true, true_and, and_false, false_and, if_true, if_false]) (fun k => by rw [hI_T68c _ _ (by omega)]; try simp (disch := omega) only [if_neg, if_pos, and_self, and_true, true_and, and_false, false_and, if_true, if_false]) (fun k => by rw [hI_T68c _ _ (by omega)]; try simp (disch := omega) only [if_neg, if_pos, and_self, and_true, true_and, and_false, false_and, if_true, if_false]) (fun j hj hj2 => by rw [hP_S46]; try simp (disch := omega) only [if_neg, if_pos, and_self, and_true, true_and, and_false, false_and, if_true, if_false]), gF.cg (by rw [hI_T68c _ _ (by omega)]; try simp (disch := omega) only [if_neg, if_pos, and_self, and_true, true_and, and_false, false_and, if_true, if_false]) (by rw [hP_S46]; try simp (disch := omega) only [if_neg, if_pos, and_self, and_true, true_and, and_false, false_and, if_true, if_false]), gT.cg (by rw [hI_T68c _ _ (by omega)]; try simp (disch := omega) only [if_neg, if_pos, and_self, and_true, true_and, and_false, false_and, if_true, if_false]) (fun k => by rw [hI_T68c _ _ (by omega)]; try simp (disch := omega) only [if_neg, if_pos, and_self, and_true, true_and, and_false, false_and, if_true, if_false]) (fun j hj hj2 => by rw [hP_S46]; try simp (disch := omega) only [if_neg, if_pos, and_self, and_true, true_and, and_false, false_and, if_true, if_false]), ⟨mc + 1, by omega, (by rw [hI_T68c _ _ (by omega)]; (try simp (disch := omega) only [if_neg, if_pos, and_self, and_true, true_and, and_false, false_and, if_true, if_false]); try exact k_v66c), (by rw [hP_S46]; (try simp (disch := omega) only [if_neg, if_pos, and_self, and_true, true_and, and_false, false_and, if_true, if_false]); try exact k_v45), fun m hm j hj => if e : m = mc then (by rw [e]; rcases (show j = 0 ∨ j = 1 ∨ j = 2 ∨ j = 3 by omega) with e0 | e0 | e0 | e0 <;> subst e0 <;> rw [hI_T68c _ _ (by omega), hP_S46] <;> (try simp (disch := omega) only [if_neg, if_pos, and_self, and_true, true_and, and_false, false_and, if_true, if_false]) <;> first | done | exact q_r20c.symm | exact q_r31c.symm | exact q_r45c.symm | exact q_r59c.symm) else (by rw [hI_T68c _ _ (by omega), hP_S46]; (try simp (disch := omega) only [if_neg, if_pos, and_self, and_true, true_and, and_false, false_and, if_true, if_false]); try exact b4 m (by omega) j hj)⟩, gD.cg (by rw [hI_T68c _ _ (by omega)]; try simp (disch := omega) only [if_neg, if_pos, and_self, and_true, true_and, and_false, false_and, if_true, if_false]) (fun k => by rw [hI_T68c _ _ (by omega)]; try simp (disch := omega) only [if_neg, if_pos, and_self, and_true, true_and, and_false, false_and, if_true, if_false]) (fun j hj hj2 => by rw [hP_S46]; try simp (disch := omega) only [if_neg, if_pos, and_self, and_true, true_and, and_false, false_and, if_true, if_false]), (fun j hj => by rw [hD_S46]; (try simp (disch := omega) only [if_neg, if_pos, and_self, and_true, true_and, and_false, false_and, if_true, if_false]); try exact gX j hj)⟩, r_T68c⟩
