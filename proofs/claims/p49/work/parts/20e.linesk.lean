set_option maxHeartbeats 4000000 in
set_option maxRecDepth 10000 in
theorem l_source {b : Nat → Int32} {n c i k s : Nat} {T T1 : AT} {S S1 : MS} {r : Int32} (h : PRq b n c i T S) (hk : kd b n (pst b n i) = 1) (hs : s = 478 ∨ s = 656) (hF : SRF s T) (hC : SCNq s T (S.2.1 11) (S.2.1 13)) (hg : g_X3_parseSource T 6 s = some (k, r, T1)) (hf : fr_readSource S = some S1) : LNq b n c i s T T1 S1 k := by
  obtain ⟨gH, gM, gG, gS, gW, gF, gT, gZ, gD, gX⟩ := hC
  obtain ⟨F1, F2, F3, F4, F5, F6, F7, F8, F9, F10, F11, F12, F13, F14, F15⟩ := hF
  obtain ⟨mc, b1, b2, b3, b4⟩ := gS
  unfold g_X3_parseSource at hg
  obtain ⟨-, hg⟩ := oif_some hg
  obtain ⟨v3, ev3, hg⟩ := elet_some hg
  rw [b2] at ev3
  unfold fr_readSource at hf
  obtain ⟨v2, ev2, hf⟩ := elet_some hf
  rw [b3] at ev2
  have key : ∃ (a0 : Int32) (Sa : MS), g_X3_parseSource_b15 T a0 6 6 s = some (k, r, T1) ∧ fr_readSource_b18 Sa v2 = some S1 ∧ ((a0 = 0 ∧ Sa = S) ∨ (a0 ≠ 0 ∧ fr_faults S 4 = some Sa)) ∧ (a0 = 0 → mc < 6) := by
    by_cases cm : mc < 6
    · rw [if_pos (by rw [ev3]; exact nI_lt (a := mc) (b := 6) cm (by decide))] at hg
      rw [if_neg (fun q => by rw [ev2] at q; have := (nI_eq (a := mc) (b := 6) (by omega) (by decide)).mp q; omega)] at hf
      exact ⟨0, S, hg, hf, .inl ⟨rfl, rfl⟩, fun _ => cm⟩
    · rw [if_neg (by rw [ev3]; exact nI_nlt (a := mc) (b := 6) (by omega) (by omega))] at hg
      rw [if_pos (by rw [ev2, show mc = 6 from by omega]; rfl)] at hf
      obtain ⟨S4, f4, hf⟩ := obind_some hf
      exact ⟨1, S4, hg, hf, .inr ⟨by decide, f4⟩, fun q => absurd q (by decide)⟩
  obtain ⟨a0, Sa, hg, hf, hcase, hmc⟩ := key
  unfold fr_readSource_b18 at hf
  obtain ⟨S2, fS2, hf⟩ := obind_some hf
  unfold g_X3_parseSource_b15 at hg
  obtain ⟨-, hg⟩ := oif_some hg
  have fin_S2 : 0 < (S2.1 5).toInt → S1 = S2 := fun q => st_source q hf
  rcases othr_k hg with ⟨r9, g9, z0⟩ | ⟨r5c, T3c, g9, hg⟩
  · rcases k_line h hk (by decide) g9 hcase fS2 with ⟨z, -⟩ | ⟨z1, z2⟩
    · exact absurd z z0
    · exact .inr ⟨z1, by rw [fin_S2 z2.1]; exact z2⟩
  rcases k_line h hk (by decide) g9 hcase fS2 with ⟨-, p_T3c, tf_T3c, m0, za⟩ | ⟨z1, -⟩
  rotate_left
  · exact absurd z1 (by decide)
  have cmc := hmc za
  obtain ⟨sv, Sb, hf, hsh⟩ := r_shape p_T3c hf
  unfold fr_readSource_b86 at hf
  obtain ⟨S2q, fS2q, hf⟩ := obind_some hf
  obtain ⟨r8q, S5q, fS5q, hf⟩ := obind2_some hf
  obtain ⟨r12q, S9q, fS9q, hf⟩ := obind2_some hf
  obtain ⟨r16q, S13q, fS13q, hf⟩ := obind2_some hf
  obtain ⟨r20q, S17q, fS17q, hf⟩ := obind2_some hf
  obtain ⟨r24q, S21q, fS21q, hf⟩ := obind2_some hf
  obtain ⟨r28q, S25q, fS25q, hf⟩ := obind2_some hf
  obtain ⟨r32q, S29q, fS29q, hf⟩ := obind2_some hf
  obtain ⟨r37q, S34q, fS34q, hf⟩ := obind2_some hf
  have fin_S34q : 0 < (S34q.1 5).toInt → S1 = S34q := fun q => st_src2 q hf
  have fin_S29q : 0 < (S29q.1 5).toInt → S1 = S29q := fun q => by have e := (st_takes q fS34q).2; exact (fin_S34q (by rw [e]; exact q)).trans e
  have fin_S25q : 0 < (S25q.1 5).toInt → S1 = S25q := fun q => by have e := (st_number q fS29q); exact (fin_S29q (by rw [e]; exact q)).trans e
  have fin_S21q : 0 < (S21q.1 5).toInt → S1 = S21q := fun q => by have e := (st_number q fS25q); exact (fin_S25q (by rw [e]; exact q)).trans e
  have fin_S17q : 0 < (S17q.1 5).toInt → S1 = S17q := fun q => by have e := (st_number q fS21q); exact (fin_S21q (by rw [e]; exact q)).trans e
  have fin_S13q : 0 < (S13q.1 5).toInt → S1 = S13q := fun q => by have e := (st_signed q fS17q); exact (fin_S17q (by rw [e]; exact q)).trans e
  have fin_S9q : 0 < (S9q.1 5).toInt → S1 = S9q := fun q => by have e := (st_signed q fS13q); exact (fin_S13q (by rw [e]; exact q)).trans e
  have fin_S5q : 0 < (S5q.1 5).toInt → S1 = S5q := fun q => by have e := (st_signed q fS9q); exact (fin_S9q (by rw [e]; exact q)).trans e
  have fin_S2q : 0 < (S2q.1 5).toInt → S1 = S2q := fun q => by have e := (st_signed q fS5q); exact (fin_S5q (by rw [e]; exact q)).trans e
  have fin_Sb : 0 < (Sb.1 5).toInt → S1 = Sb := fun q => by have e := (st_next q fS2q); exact (fin_S2q (by rw [e]; exact q)).trans e
  have r_T3c : T3c.2.2.2.2 = T.2.2.2.2 := congrArg (fun x => x.2) tf_T3c.2.2.1
  have hI_T3c : ∀ m j : Nat, m ≠ 6 → T3c.2.2.1 m j = T.2.2.1 m j := fun m j h6 => by rw [tf_T3c.2.2.2 m j h6]
  obtain ⟨-, hg⟩ := oif_some hg
  obtain ⟨n8c, en8c, hg⟩ := obind_some hg
  rw [r_T3c, F3] at en8c
  cases en8c
  obtain ⟨-, hg⟩ := oif_some hg
  obtain ⟨v10c, ev10c, hg⟩ := elet_some hg
  rw [hI_T3c _ _ (by omega)] at ev10c
  rw [b2] at ev10c
  have k_v10c : v10c = nI mc := ev10c
  obtain ⟨-, hg⟩ := oif_some hg
  obtain ⟨-, hg⟩ := oif_some hg
  obtain ⟨n13c, en13c, hg⟩ := obind_some hg
  rw [k_v10c, nI_clamp (by omega)] at en13c
  rw [r_T3c, F10 _ (by omega)] at en13c
  cases en13c
  obtain ⟨-, hg⟩ := oif_some hg
  rcases othr_k hg with ⟨r9, g9, z0⟩ | ⟨r17c, T15c, g9, hg⟩
  · rcases k_shape p_T3c g9 hsh fS2q with ⟨z, -⟩ | ⟨z1, z2⟩
    · exact absurd z z0
    · exact .inr ⟨z1, by rw [fin_S2q z2.1]; exact z2⟩
  rcases k_shape p_T3c g9 hsh fS2q with ⟨-, qv, p_T15c, tf_T15c, mf_T15c⟩ | ⟨z1, -⟩
  rotate_left
  · exact absurd z1 (by decide)
  have r_T15c : T15c.2.2.2.2 = T.2.2.2.2 := (congrArg (fun x => x.2) tf_T15c.2.2.1).trans r_T3c
  have hI_T15c : ∀ m j : Nat, m ≠ 6 → T15c.2.2.1 m j = T.2.2.1 m j := fun m j h6 => by rw [tf_T15c.2.2.2 m j h6, hI_T3c m j h6]
  have mm_T15c := MFq.tr m0 mf_T15c
  obtain ⟨-, hg⟩ := oif_some hg
  obtain ⟨T20c, eT20c, hg⟩ := elet_some hg
  have r_T20c : T20c.2.2.2.2 = T.2.2.2.2 := by rw [eT20c]; exact r_T15c
  have hI_T20c : ∀ m j : Nat, m ≠ 6 → T20c.2.2.1 m j = if m = (s + 172 + mc) ∧ j = 0 then r17c else T.2.2.1 m j := fun m j h6 => by rw [eT20c, ui_get, hI_T15c m j h6]
  have p_T20c := pr_uI (m := (s + 172 + mc)) (k := 0) (v := r17c) p_T15c (by omega)
  rw [← eT20c] at p_T20c
  obtain ⟨-, hg⟩ := oif_some hg
  rcases othr_k hg with ⟨r9, g9, z0⟩ | ⟨r24c, T22c, g9, hg⟩
  · rcases k_signed p_T20c g9 fS5q with ⟨z, -⟩ | ⟨z1, z2⟩
    · exact absurd z z0
    · exact .inr ⟨z1, by rw [fin_S5q z2.1]; exact z2⟩
  rcases k_signed p_T20c g9 fS5q with ⟨-, q_r24c, ⟨i_T22c, l_T22c, p_T22c⟩, tf_T22c, mf_T22c⟩ | ⟨z1, -⟩
  rotate_left
  · exact absurd z1 (by decide)
  have r_T22c : T22c.2.2.2.2 = T.2.2.2.2 := (congrArg (fun x => x.2) tf_T22c.2.2.1).trans r_T20c
  have hI_T22c : ∀ m j : Nat, m ≠ 6 → T22c.2.2.1 m j = if m = (s + 172 + mc) ∧ j = 0 then r17c else T.2.2.1 m j := fun m j h6 => by rw [tf_T22c.2.2.2 m j h6, hI_T20c m j h6]
  have mm_T22c := MFq.tr mm_T15c mf_T22c
  obtain ⟨-, hg⟩ := oif_some hg
  obtain ⟨T27c, eT27c, hg⟩ := elet_some hg
  have r_T27c : T27c.2.2.2.2 = T.2.2.2.2 := by rw [eT27c]; exact r_T22c
  have hI_T27c : ∀ m j : Nat, m ≠ 6 → T27c.2.2.1 m j = if m = (s + 172 + mc) ∧ j = 1 then r24c else if m = (s + 172 + mc) ∧ j = 0 then r17c else T.2.2.1 m j := fun m j h6 => by rw [eT27c, ui_get, hI_T22c m j h6]
  have p_T27c := pr_uI (m := (s + 172 + mc)) (k := 1) (v := r24c) p_T22c (by omega)
  rw [← eT27c] at p_T27c
  obtain ⟨-, hg⟩ := oif_some hg
  rcases othr_k hg with ⟨r9, g9, z0⟩ | ⟨r31c, T29c, g9, hg⟩
  · rcases k_signed p_T27c g9 fS9q with ⟨z, -⟩ | ⟨z1, z2⟩
    · exact absurd z z0
    · exact .inr ⟨z1, by rw [fin_S9q z2.1]; exact z2⟩
  rcases k_signed p_T27c g9 fS9q with ⟨-, q_r31c, ⟨i_T29c, l_T29c, p_T29c⟩, tf_T29c, mf_T29c⟩ | ⟨z1, -⟩
  rotate_left
  · exact absurd z1 (by decide)
  have r_T29c : T29c.2.2.2.2 = T.2.2.2.2 := (congrArg (fun x => x.2) tf_T29c.2.2.1).trans r_T27c
  have hI_T29c : ∀ m j : Nat, m ≠ 6 → T29c.2.2.1 m j = if m = (s + 172 + mc) ∧ j = 1 then r24c else if m = (s + 172 + mc) ∧ j = 0 then r17c else T.2.2.1 m j := fun m j h6 => by rw [tf_T29c.2.2.2 m j h6, hI_T27c m j h6]
  have mm_T29c := MFq.tr mm_T22c mf_T29c
  obtain ⟨-, hg⟩ := oif_some hg
  obtain ⟨T34c, eT34c, hg⟩ := elet_some hg
  have r_T34c : T34c.2.2.2.2 = T.2.2.2.2 := by rw [eT34c]; exact r_T29c
  have hI_T34c : ∀ m j : Nat, m ≠ 6 → T34c.2.2.1 m j = if m = (s + 172 + mc) ∧ j = 2 then r31c else if m = (s + 172 + mc) ∧ j = 1 then r24c else if m = (s + 172 + mc) ∧ j = 0 then r17c else T.2.2.1 m j := fun m j h6 => by rw [eT34c, ui_get, hI_T29c m j h6]
  have p_T34c := pr_uI (m := (s + 172 + mc)) (k := 2) (v := r31c) p_T29c (by omega)
  rw [← eT34c] at p_T34c
  obtain ⟨-, hg⟩ := oif_some hg
  rcases othr_k hg with ⟨r9, g9, z0⟩ | ⟨r38c, T36c, g9, hg⟩
  · rcases k_signed p_T34c g9 fS13q with ⟨z, -⟩ | ⟨z1, z2⟩
    · exact absurd z z0
    · exact .inr ⟨z1, by rw [fin_S13q z2.1]; exact z2⟩
  rcases k_signed p_T34c g9 fS13q with ⟨-, q_r38c, ⟨i_T36c, l_T36c, p_T36c⟩, tf_T36c, mf_T36c⟩ | ⟨z1, -⟩
  rotate_left
  · exact absurd z1 (by decide)
  have r_T36c : T36c.2.2.2.2 = T.2.2.2.2 := (congrArg (fun x => x.2) tf_T36c.2.2.1).trans r_T34c
  have hI_T36c : ∀ m j : Nat, m ≠ 6 → T36c.2.2.1 m j = if m = (s + 172 + mc) ∧ j = 2 then r31c else if m = (s + 172 + mc) ∧ j = 1 then r24c else if m = (s + 172 + mc) ∧ j = 0 then r17c else T.2.2.1 m j := fun m j h6 => by rw [tf_T36c.2.2.2 m j h6, hI_T34c m j h6]
  have mm_T36c := MFq.tr mm_T29c mf_T36c
  obtain ⟨-, hg⟩ := oif_some hg
  obtain ⟨T41c, eT41c, hg⟩ := elet_some hg
  have r_T41c : T41c.2.2.2.2 = T.2.2.2.2 := by rw [eT41c]; exact r_T36c
  have hI_T41c : ∀ m j : Nat, m ≠ 6 → T41c.2.2.1 m j = if m = (s + 172 + mc) ∧ j = 3 then r38c else if m = (s + 172 + mc) ∧ j = 2 then r31c else if m = (s + 172 + mc) ∧ j = 1 then r24c else if m = (s + 172 + mc) ∧ j = 0 then r17c else T.2.2.1 m j := fun m j h6 => by rw [eT41c, ui_get, hI_T36c m j h6]
  have p_T41c := pr_uI (m := (s + 172 + mc)) (k := 3) (v := r38c) p_T36c (by omega)
  rw [← eT41c] at p_T41c
  obtain ⟨-, hg⟩ := oif_some hg
  rcases othr_k hg with ⟨r9, g9, z0⟩ | ⟨r45c, T43c, g9, hg⟩
  · rcases k_signed p_T41c g9 fS17q with ⟨z, -⟩ | ⟨z1, z2⟩
    · exact absurd z z0
    · exact .inr ⟨z1, by rw [fin_S17q z2.1]; exact z2⟩
  rcases k_signed p_T41c g9 fS17q with ⟨-, q_r45c, ⟨i_T43c, l_T43c, p_T43c⟩, tf_T43c, mf_T43c⟩ | ⟨z1, -⟩
  rotate_left
  · exact absurd z1 (by decide)
  have r_T43c : T43c.2.2.2.2 = T.2.2.2.2 := (congrArg (fun x => x.2) tf_T43c.2.2.1).trans r_T41c
  have hI_T43c : ∀ m j : Nat, m ≠ 6 → T43c.2.2.1 m j = if m = (s + 172 + mc) ∧ j = 3 then r38c else if m = (s + 172 + mc) ∧ j = 2 then r31c else if m = (s + 172 + mc) ∧ j = 1 then r24c else if m = (s + 172 + mc) ∧ j = 0 then r17c else T.2.2.1 m j := fun m j h6 => by rw [tf_T43c.2.2.2 m j h6, hI_T41c m j h6]
  have mm_T43c := MFq.tr mm_T36c mf_T43c
  obtain ⟨-, hg⟩ := oif_some hg
  obtain ⟨T48c, eT48c, hg⟩ := elet_some hg
  have r_T48c : T48c.2.2.2.2 = T.2.2.2.2 := by rw [eT48c]; exact r_T43c
  have hI_T48c : ∀ m j : Nat, m ≠ 6 → T48c.2.2.1 m j = if m = (s + 172 + mc) ∧ j = 4 then r45c else if m = (s + 172 + mc) ∧ j = 3 then r38c else if m = (s + 172 + mc) ∧ j = 2 then r31c else if m = (s + 172 + mc) ∧ j = 1 then r24c else if m = (s + 172 + mc) ∧ j = 0 then r17c else T.2.2.1 m j := fun m j h6 => by rw [eT48c, ui_get, hI_T43c m j h6]
  have p_T48c := pr_uI (m := (s + 172 + mc)) (k := 4) (v := r45c) p_T43c (by omega)
  rw [← eT48c] at p_T48c
  obtain ⟨-, hg⟩ := oif_some hg
  rcases othr_k hg with ⟨r9, g9, z0⟩ | ⟨r52c, T50c, g9, hg⟩
  · rcases k_number p_T48c g9 fS21q with ⟨z, -⟩ | ⟨z1, z2⟩
    · exact absurd z z0
    · exact .inr ⟨z1, by rw [fin_S21q z2.1]; exact z2⟩
  rcases k_number p_T48c g9 fS21q with ⟨-, q_r52c, lo_r52c, hi_r52c, p_T50c, tf_T50c, mf_T50c⟩ | ⟨z1, -⟩
  rotate_left
  · exact absurd z1 (by decide)
  have r_T50c : T50c.2.2.2.2 = T.2.2.2.2 := (congrArg (fun x => x.2) tf_T50c.2.2.1).trans r_T48c
  have hI_T50c : ∀ m j : Nat, m ≠ 6 → T50c.2.2.1 m j = if m = (s + 172 + mc) ∧ j = 4 then r45c else if m = (s + 172 + mc) ∧ j = 3 then r38c else if m = (s + 172 + mc) ∧ j = 2 then r31c else if m = (s + 172 + mc) ∧ j = 1 then r24c else if m = (s + 172 + mc) ∧ j = 0 then r17c else T.2.2.1 m j := fun m j h6 => by rw [tf_T50c.2.2.2 m j h6, hI_T48c m j h6]
  have mm_T50c := MFq.tr mm_T43c mf_T50c
  obtain ⟨-, hg⟩ := oif_some hg
  obtain ⟨T55c, eT55c, hg⟩ := elet_some hg
  have r_T55c : T55c.2.2.2.2 = T.2.2.2.2 := by rw [eT55c]; exact r_T50c
  have hI_T55c : ∀ m j : Nat, m ≠ 6 → T55c.2.2.1 m j = if m = (s + 172 + mc) ∧ j = 5 then r52c else if m = (s + 172 + mc) ∧ j = 4 then r45c else if m = (s + 172 + mc) ∧ j = 3 then r38c else if m = (s + 172 + mc) ∧ j = 2 then r31c else if m = (s + 172 + mc) ∧ j = 1 then r24c else if m = (s + 172 + mc) ∧ j = 0 then r17c else T.2.2.1 m j := fun m j h6 => by rw [eT55c, ui_get, hI_T50c m j h6]
  have p_T55c := pr_uI (m := (s + 172 + mc)) (k := 5) (v := r52c) p_T50c (by omega)
  rw [← eT55c] at p_T55c
  obtain ⟨-, hg⟩ := oif_some hg
  rcases othr_k hg with ⟨r9, g9, z0⟩ | ⟨r59c, T57c, g9, hg⟩
  · rcases k_number p_T55c g9 fS25q with ⟨z, -⟩ | ⟨z1, z2⟩
    · exact absurd z z0
    · exact .inr ⟨z1, by rw [fin_S25q z2.1]; exact z2⟩
  rcases k_number p_T55c g9 fS25q with ⟨-, q_r59c, lo_r59c, hi_r59c, p_T57c, tf_T57c, mf_T57c⟩ | ⟨z1, -⟩
  rotate_left
  · exact absurd z1 (by decide)
  have r_T57c : T57c.2.2.2.2 = T.2.2.2.2 := (congrArg (fun x => x.2) tf_T57c.2.2.1).trans r_T55c
  have hI_T57c : ∀ m j : Nat, m ≠ 6 → T57c.2.2.1 m j = if m = (s + 172 + mc) ∧ j = 5 then r52c else if m = (s + 172 + mc) ∧ j = 4 then r45c else if m = (s + 172 + mc) ∧ j = 3 then r38c else if m = (s + 172 + mc) ∧ j = 2 then r31c else if m = (s + 172 + mc) ∧ j = 1 then r24c else if m = (s + 172 + mc) ∧ j = 0 then r17c else T.2.2.1 m j := fun m j h6 => by rw [tf_T57c.2.2.2 m j h6, hI_T55c m j h6]
  have mm_T57c := MFq.tr mm_T50c mf_T57c
  obtain ⟨-, hg⟩ := oif_some hg
  obtain ⟨T62c, eT62c, hg⟩ := elet_some hg
  have r_T62c : T62c.2.2.2.2 = T.2.2.2.2 := by rw [eT62c]; exact r_T57c
  have hI_T62c : ∀ m j : Nat, m ≠ 6 → T62c.2.2.1 m j = if m = (s + 172 + mc) ∧ j = 6 then r59c else if m = (s + 172 + mc) ∧ j = 5 then r52c else if m = (s + 172 + mc) ∧ j = 4 then r45c else if m = (s + 172 + mc) ∧ j = 3 then r38c else if m = (s + 172 + mc) ∧ j = 2 then r31c else if m = (s + 172 + mc) ∧ j = 1 then r24c else if m = (s + 172 + mc) ∧ j = 0 then r17c else T.2.2.1 m j := fun m j h6 => by rw [eT62c, ui_get, hI_T57c m j h6]
  have p_T62c := pr_uI (m := (s + 172 + mc)) (k := 6) (v := r59c) p_T57c (by omega)
  rw [← eT62c] at p_T62c
  obtain ⟨-, hg⟩ := oif_some hg
  rcases othr_k hg with ⟨r9, g9, z0⟩ | ⟨r66c, T64c, g9, hg⟩
  · rcases k_number p_T62c g9 fS29q with ⟨z, -⟩ | ⟨z1, z2⟩
    · exact absurd z z0
    · exact .inr ⟨z1, by rw [fin_S29q z2.1]; exact z2⟩
  rcases k_number p_T62c g9 fS29q with ⟨-, q_r66c, lo_r66c, hi_r66c, p_T64c, tf_T64c, mf_T64c⟩ | ⟨z1, -⟩
  rotate_left
  · exact absurd z1 (by decide)
  have r_T64c : T64c.2.2.2.2 = T.2.2.2.2 := (congrArg (fun x => x.2) tf_T64c.2.2.1).trans r_T62c
  have hI_T64c : ∀ m j : Nat, m ≠ 6 → T64c.2.2.1 m j = if m = (s + 172 + mc) ∧ j = 6 then r59c else if m = (s + 172 + mc) ∧ j = 5 then r52c else if m = (s + 172 + mc) ∧ j = 4 then r45c else if m = (s + 172 + mc) ∧ j = 3 then r38c else if m = (s + 172 + mc) ∧ j = 2 then r31c else if m = (s + 172 + mc) ∧ j = 1 then r24c else if m = (s + 172 + mc) ∧ j = 0 then r17c else T.2.2.1 m j := fun m j h6 => by rw [tf_T64c.2.2.2 m j h6, hI_T62c m j h6]
  have mm_T64c := MFq.tr mm_T57c mf_T64c
  obtain ⟨-, hg⟩ := oif_some hg
  obtain ⟨T69c, eT69c, hg⟩ := elet_some hg
  have r_T69c : T69c.2.2.2.2 = T.2.2.2.2 := by rw [eT69c]; exact r_T64c
  have hI_T69c : ∀ m j : Nat, m ≠ 6 → T69c.2.2.1 m j = if m = (s + 172 + mc) ∧ j = 7 then r66c else if m = (s + 172 + mc) ∧ j = 6 then r59c else if m = (s + 172 + mc) ∧ j = 5 then r52c else if m = (s + 172 + mc) ∧ j = 4 then r45c else if m = (s + 172 + mc) ∧ j = 3 then r38c else if m = (s + 172 + mc) ∧ j = 2 then r31c else if m = (s + 172 + mc) ∧ j = 1 then r24c else if m = (s + 172 + mc) ∧ j = 0 then r17c else T.2.2.1 m j := fun m j h6 => by rw [eT69c, ui_get, hI_T64c m j h6]
  have p_T69c := pr_uI (m := (s + 172 + mc)) (k := 7) (v := r66c) p_T64c (by omega)
  rw [← eT69c] at p_T69c
  obtain ⟨-, hg⟩ := oif_some hg
  obtain ⟨T71c, eT71c, hg⟩ := elet_some hg
  have r_T71c : T71c.2.2.2.2 = T.2.2.2.2 := by rw [eT71c]; exact r_T69c
  have hI_T71c : ∀ m j : Nat, m ≠ 6 → T71c.2.2.1 m j = if m = (s + 172 + mc) ∧ j = 8 then 0 else if m = (s + 172 + mc) ∧ j = 7 then r66c else if m = (s + 172 + mc) ∧ j = 6 then r59c else if m = (s + 172 + mc) ∧ j = 5 then r52c else if m = (s + 172 + mc) ∧ j = 4 then r45c else if m = (s + 172 + mc) ∧ j = 3 then r38c else if m = (s + 172 + mc) ∧ j = 2 then r31c else if m = (s + 172 + mc) ∧ j = 1 then r24c else if m = (s + 172 + mc) ∧ j = 0 then r17c else T.2.2.1 m j := fun m j h6 => by rw [eT71c, ui_get, hI_T69c m j h6]
  have p_T71c := pr_uI (m := (s + 172 + mc)) (k := 8) (v := 0) p_T69c (by omega)
  rw [← eT71c] at p_T71c
  obtain ⟨-, hg⟩ := oif_some hg
  obtain ⟨T73c, eT73c, hg⟩ := elet_some hg
  have r_T73c : T73c.2.2.2.2 = T.2.2.2.2 := by rw [eT73c]; exact r_T71c
  have hI_T73c : ∀ m j : Nat, m ≠ 6 → T73c.2.2.1 m j = if m = (s + 172 + mc) ∧ j = 9 then 0 else if m = (s + 172 + mc) ∧ j = 8 then 0 else if m = (s + 172 + mc) ∧ j = 7 then r66c else if m = (s + 172 + mc) ∧ j = 6 then r59c else if m = (s + 172 + mc) ∧ j = 5 then r52c else if m = (s + 172 + mc) ∧ j = 4 then r45c else if m = (s + 172 + mc) ∧ j = 3 then r38c else if m = (s + 172 + mc) ∧ j = 2 then r31c else if m = (s + 172 + mc) ∧ j = 1 then r24c else if m = (s + 172 + mc) ∧ j = 0 then r17c else T.2.2.1 m j := fun m j h6 => by rw [eT73c, ui_get, hI_T71c m j h6]
  have p_T73c := pr_uI (m := (s + 172 + mc)) (k := 9) (v := 0) p_T71c (by omega)
  rw [← eT73c] at p_T73c
  obtain ⟨-, hg⟩ := oif_some hg
  obtain ⟨r78c, T76c, g78, hg⟩ := obind2_some hg
  obtain ⟨t76, d78⟩ := kc_word wl4.2.2.2.2 p_T73c g78
  rw [t76] at hg
  unfold fr_takes at fS34q
  obtain ⟨u1, U1, g79, fS34q⟩ := obind2_some fS34q
  obtain ⟨t77, d79⟩ := kr_word wl4.2.2.2.2 p_T73c g79
  rw [t77] at fS34q
  by_cases cw : WD b n (pst b n (i_T43c + 1 + 1 + 1)) (sTx "from")
  rotate_left
  · have z1 : r78c = 0 := by
      rcases d78 with q | q
      · exact absurd q.2 cw
      · exact q.1
    have z2 : u1 = 0 := by
      rcases d79 with q | q
      · exact absurd q.2 cw
      · exact q.1
    rw [if_pos z1] at hg
    rw [if_pos z2] at fS34q
    unfold fr_takes_b14 at fS34q
    obtain ⟨-, fS34q⟩ := oif_some fS34q
    have g5 := osome2 fS34q
    rw [← g5.1, ← g5.2, if_pos z2] at hf
    exact l_src2 p_T73c (by omega) hs gH gM gG b2 b3 b4 gW gF gT gZ gD gX cmc ev2 r_T73c mm_T64c (fun m j h6 h7 => by rw [hI_T73c m j h6]; try simp (disch := omega) only [if_neg, if_pos, and_self, and_true, true_and, and_false, false_and, if_true, if_false]) ⟨(by rw [hI_T73c _ _ (by omega)]; (try simp (disch := omega) only [if_neg, if_pos, and_self, and_true, true_and, and_false, false_and, if_true, if_false]); try exact qv.symm), (by rw [hI_T73c _ _ (by omega)]; (try simp (disch := omega) only [if_neg, if_pos, and_self, and_true, true_and, and_false, false_and, if_true, if_false]); try exact q_r24c.symm), (by rw [hI_T73c _ _ (by omega)]; (try simp (disch := omega) only [if_neg, if_pos, and_self, and_true, true_and, and_false, false_and, if_true, if_false]); try exact q_r31c.symm), (by rw [hI_T73c _ _ (by omega)]; (try simp (disch := omega) only [if_neg, if_pos, and_self, and_true, true_and, and_false, false_and, if_true, if_false]); try exact q_r38c.symm), (by rw [hI_T73c _ _ (by omega)]; (try simp (disch := omega) only [if_neg, if_pos, and_self, and_true, true_and, and_false, false_and, if_true, if_false]); try exact q_r45c.symm), (by rw [hI_T73c _ _ (by omega)]; (try simp (disch := omega) only [if_neg, if_pos, and_self, and_true, true_and, and_false, false_and, if_true, if_false]); try exact q_r52c.symm), (by rw [hI_T73c _ _ (by omega)]; (try simp (disch := omega) only [if_neg, if_pos, and_self, and_true, true_and, and_false, false_and, if_true, if_false]); try exact q_r59c.symm), (by rw [hI_T73c _ _ (by omega)]; (try simp (disch := omega) only [if_neg, if_pos, and_self, and_true, true_and, and_false, false_and, if_true, if_false]); try exact q_r66c.symm), (by rw [hI_T73c _ _ (by omega)]; (try simp (disch := omega) only [if_neg, if_pos, and_self, and_true, true_and, and_false, false_and, if_true, if_false]); try exact rfl), (by rw [hI_T73c _ _ (by omega)]; (try simp (disch := omega) only [if_neg, if_pos, and_self, and_true, true_and, and_false, false_and, if_true, if_false]); try exact rfl)⟩ hg hf
  · have z1 : r78c = 1 := by
      rcases d78 with q | q
      · exact q.1
      · exact absurd cw q.2
    have z2 : u1 = 1 := by
      rcases d79 with q | q
      · exact q.1
      · exact absurd cw q.2
    rw [if_neg (by rw [z1]; decide)] at hg
    rw [if_neg (by rw [z2]; decide)] at fS34q
    obtain ⟨U7, fU7, fS34q⟩ := obind_some fS34q
    unfold fr_takes_b14 at fS34q
    obtain ⟨-, fS34q⟩ := oif_some fS34q
    have g5 := osome2 fS34q
    rw [← g5.1, ← g5.2, if_neg (by rw [z2]; decide)] at hf
    obtain ⟨pa, ma⟩ := pr_adv p_T73c (by rw [cw.1]; decide) fU7
    obtain ⟨r42, S39, fS39, hf⟩ := obind2_some hf
    obtain ⟨-, hg⟩ := oif_some hg
    obtain ⟨v82, ev82, hg⟩ := elet_some hg
    rw [p_T73c.1.2.2.2.2.2] at ev82
    obtain ⟨v83, ev83, hg⟩ := elet_some hg
    rw [ev82, nI_1] at ev83
    obtain ⟨-, hg⟩ := oif_some hg
    obtain ⟨T85, eT85, hg⟩ := elet_some hg
    rw [← ev83, ← eT85] at pa
    obtain ⟨-, hg⟩ := oif_some hg
    rcases othr_k hg with ⟨r9, g9, z0⟩ | ⟨r89, T87, g9, hg⟩
    · rcases k_number pa g9 fS39 with ⟨z, -⟩ | ⟨z3, z4⟩
      · exact absurd z z0
      · exact .inr ⟨z3, by rw [st_b186 z4.1 hf]; exact z4⟩
    rcases k_number pa g9 fS39 with ⟨-, q_r89, -, -, p_T87, tf_T87, mf_T87⟩ | ⟨z3, -⟩
    rotate_left
    · exact absurd z3 (by decide)
    obtain ⟨-, hg⟩ := oif_some hg
    obtain ⟨T92, eT92, hg⟩ := elet_some hg
    have r_T85 : T85.2.2.2.2 = T.2.2.2.2 := by rw [eT85]; exact r_T73c
    have r_T92 : T92.2.2.2.2 = T.2.2.2.2 := by rw [eT92]; exact (congrArg (fun x => x.2) tf_T87.2.2.1).trans r_T85
    have hI_T92 : ∀ m j : Nat, m ≠ 6 → T92.2.2.1 m j = if m = (s + 172 + mc) ∧ j = 8 then r89 else if m = (s + 172 + mc) ∧ j = 9 then 0 else if m = (s + 172 + mc) ∧ j = 8 then 0 else if m = (s + 172 + mc) ∧ j = 7 then r66c else if m = (s + 172 + mc) ∧ j = 6 then r59c else if m = (s + 172 + mc) ∧ j = 5 then r52c else if m = (s + 172 + mc) ∧ j = 4 then r45c else if m = (s + 172 + mc) ∧ j = 3 then r38c else if m = (s + 172 + mc) ∧ j = 2 then r31c else if m = (s + 172 + mc) ∧ j = 1 then r24c else if m = (s + 172 + mc) ∧ j = 0 then r17c else T.2.2.1 m j := fun m j h6 => by rw [eT92, ui_get, tf_T87.2.2.2 m j h6, eT85, ui_ne (.inl h6), hI_T73c m j h6]
    have p_T92 := pr_uI (m := s + 172 + mc) (k := 8) (v := r89) p_T87 (by omega)
    rw [← eT92] at p_T92
    exact l_src2 p_T92 (by omega) hs gH gM gG b2 b3 b4 gW gF gT gZ gD gX cmc ev2 r_T92 ((MFq.tr mm_T64c ma).tr mf_T87) (fun m j h6 h7 => by rw [hI_T92 m j h6]; try simp (disch := omega) only [if_neg, if_pos, and_self, and_true, true_and, and_false, false_and, if_true, if_false]) ⟨(by rw [hI_T92 _ _ (by omega)]; (try simp (disch := omega) only [if_neg, if_pos, and_self, and_true, true_and, and_false, false_and, if_true, if_false]); try exact qv.symm), (by rw [hI_T92 _ _ (by omega)]; (try simp (disch := omega) only [if_neg, if_pos, and_self, and_true, true_and, and_false, false_and, if_true, if_false]); try exact q_r24c.symm), (by rw [hI_T92 _ _ (by omega)]; (try simp (disch := omega) only [if_neg, if_pos, and_self, and_true, true_and, and_false, false_and, if_true, if_false]); try exact q_r31c.symm), (by rw [hI_T92 _ _ (by omega)]; (try simp (disch := omega) only [if_neg, if_pos, and_self, and_true, true_and, and_false, false_and, if_true, if_false]); try exact q_r38c.symm), (by rw [hI_T92 _ _ (by omega)]; (try simp (disch := omega) only [if_neg, if_pos, and_self, and_true, true_and, and_false, false_and, if_true, if_false]); try exact q_r45c.symm), (by rw [hI_T92 _ _ (by omega)]; (try simp (disch := omega) only [if_neg, if_pos, and_self, and_true, true_and, and_false, false_and, if_true, if_false]); try exact q_r52c.symm), (by rw [hI_T92 _ _ (by omega)]; (try simp (disch := omega) only [if_neg, if_pos, and_self, and_true, true_and, and_false, false_and, if_true, if_false]); try exact q_r59c.symm), (by rw [hI_T92 _ _ (by omega)]; (try simp (disch := omega) only [if_neg, if_pos, and_self, and_true, true_and, and_false, false_and, if_true, if_false]); try exact q_r66c.symm), (by rw [hI_T92 _ _ (by omega)]; (try simp (disch := omega) only [if_neg, if_pos, and_self, and_true, true_and, and_false, false_and, if_true, if_false]); try exact q_r89.symm), (by rw [hI_T92 _ _ (by omega)]; (try simp (disch := omega) only [if_neg, if_pos, and_self, and_true, true_and, and_false, false_and, if_true, if_false]); try exact rfl)⟩ hg hf
