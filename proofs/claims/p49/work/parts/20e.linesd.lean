set_option maxHeartbeats 4000000 in
set_option maxRecDepth 10000 in
theorem l_map {b : Nat → Int32} {n c i k s : Nat} {T T1 : AT} {S S1 : MS} {r : Int32} (h : PRq b n c i T S) (hk : kd b n (pst b n i) = 1) (hs : s = 478 ∨ s = 656) (hF : SRF s T) (hC : SCNq s T (S.2.1 11) (S.2.1 13)) (hg : g_X3_parseMap T 6 (s + 2) = some (k, r, T1)) (hf : fr_readMap S = some S1) : LNq b n c i s T T1 S1 k := by
  obtain ⟨gH, gM, gG, gS, gW, gF, gT, gZ, gD, gX⟩ := hC
  obtain ⟨F1, F2, F3, F4, F5, F6, F7, F8, F9, F10, F11, F12, F13, F14, F15⟩ := hF
  unfold g_X3_parseMap at hg
  obtain ⟨-, hg⟩ := oif_some hg
  obtain ⟨v3, ev3, hg⟩ := elet_some hg
  unfold fr_readMap at hf
  obtain ⟨v2, ev2, hf⟩ := elet_some hf
  have key : ∃ (a0 : Int32) (Sa : MS), g_X3_parseMap_b13 T a0 6 6 (s + 2) = some (k, r, T1) ∧ fr_readMap_b15 Sa = some S1 ∧ ((a0 = 0 ∧ Sa = S) ∨ (a0 ≠ 0 ∧ fr_faults S 3 = some Sa)) ∧ (a0 = 0 → True) := by
    by_cases cm : v3 ≤ 0
    · rw [if_pos cm] at hg
      have cr : v2 ≤ 0 ∧ True := by
        have z0 : (0 : Int32).toInt = 0 := by decide
        rw [gG.1] at ev3
        rcases gG.2.2 with ⟨y, -, -⟩ | ⟨y, y1, -⟩
        · rw [ev2, y]; exact ⟨by decide, trivial⟩
        · have := i_le cm; rw [ev3] at this; omega
      rw [if_pos cr.1] at hf
      exact ⟨0, S, hg, hf, .inl ⟨rfl, rfl⟩, fun _ => cr.2⟩
    · rw [if_neg cm] at hg
      have cr : ¬ v2 ≤ 0 := by
        have z0 : (0 : Int32).toInt = 0 := by decide
        rw [gG.1] at ev3
        intro q
        rcases gG.2.2 with ⟨y, y1, -⟩ | ⟨y, y1, -⟩
        · rw [ev3, y1] at cm; exact cm (by decide)
        · have := i_le q; rw [ev2] at this; omega
      rw [if_neg cr] at hf
      obtain ⟨S4, f4, hf⟩ := obind_some hf
      exact ⟨1, S4, hg, hf, .inr ⟨by decide, f4⟩, fun q => absurd q (by decide)⟩
  obtain ⟨a0, Sa, hg, hf, hcase, hmc⟩ := key
  unfold fr_readMap_b15 at hf
  obtain ⟨S2, fS2, hf⟩ := obind_some hf
  obtain ⟨r8, S5, fS5, hf⟩ := obind2_some hf
  obtain ⟨r12, S9, fS9, hf⟩ := obind2_some hf
  obtain ⟨r16, S13, fS13, hf⟩ := obind2_some hf
  obtain ⟨r20, S17, fS17, hf⟩ := obind2_some hf
  obtain ⟨r24, S21, fS21, hf⟩ := obind2_some hf
  obtain ⟨v25, ev25, hf⟩ := elet_some hf
  have fin_S21 : 0 < (S21.1 5).toInt → S1 = S21 := fun q => by rw [if_neg (st_le q ev25)] at hf; exact (osome1 (show some S21 = some S1 from hf)).symm
  have fin_S17 : 0 < (S17.1 5).toInt → S1 = S17 := fun q => by have e := (st_number q fS21); exact (fin_S21 (by rw [e]; exact q)).trans e
  have fin_S13 : 0 < (S13.1 5).toInt → S1 = S13 := fun q => by have e := (st_number q fS17); exact (fin_S17 (by rw [e]; exact q)).trans e
  have fin_S9 : 0 < (S9.1 5).toInt → S1 = S9 := fun q => by have e := (st_number q fS13); exact (fin_S13 (by rw [e]; exact q)).trans e
  have fin_S5 : 0 < (S5.1 5).toInt → S1 = S5 := fun q => by have e := (st_signed q fS9); exact (fin_S9 (by rw [e]; exact q)).trans e
  have fin_S2 : 0 < (S2.1 5).toInt → S1 = S2 := fun q => by have e := (st_signed q fS5); exact (fin_S5 (by rw [e]; exact q)).trans e
  unfold g_X3_parseMap_b13 at hg
  obtain ⟨-, hg⟩ := oif_some hg
  rcases othr_k hg with ⟨r9, g9, z0⟩ | ⟨r5c, T3c, g9, hg⟩
  · rcases k_line h hk (by decide) g9 hcase fS2 with ⟨z, -⟩ | ⟨z1, z2⟩
    · exact absurd z z0
    · exact .inr ⟨z1, by rw [fin_S2 z2.1]; exact z2⟩
  rcases k_line h hk (by decide) g9 hcase fS2 with ⟨-, p_T3c, tf_T3c, m0, za⟩ | ⟨z1, -⟩
  rotate_left
  · exact absurd z1 (by decide)
  have cmc := hmc za
  have r_T3c : T3c.2.2.2.2 = T.2.2.2.2 := congrArg (fun x => x.2) tf_T3c.2.2.1
  have hI_T3c : ∀ m j : Nat, m ≠ 6 → T3c.2.2.1 m j = T.2.2.1 m j := fun m j h6 => by rw [tf_T3c.2.2.2 m j h6]
  obtain ⟨-, hg⟩ := oif_some hg
  rcases othr_k hg with ⟨r9, g9, z0⟩ | ⟨r10c, T8c, g9, hg⟩
  · rcases k_signed p_T3c g9 fS5 with ⟨z, -⟩ | ⟨z1, z2⟩
    · exact absurd z z0
    · exact .inr ⟨z1, by rw [fin_S5 z2.1]; exact z2⟩
  rcases k_signed p_T3c g9 fS5 with ⟨-, q_r10c, ⟨i_T8c, l_T8c, p_T8c⟩, tf_T8c, mf_T8c⟩ | ⟨z1, -⟩
  rotate_left
  · exact absurd z1 (by decide)
  have r_T8c : T8c.2.2.2.2 = T.2.2.2.2 := (congrArg (fun x => x.2) tf_T8c.2.2.1).trans r_T3c
  have hI_T8c : ∀ m j : Nat, m ≠ 6 → T8c.2.2.1 m j = T.2.2.1 m j := fun m j h6 => by rw [tf_T8c.2.2.2 m j h6, hI_T3c m j h6]
  have mm_T8c := MFq.tr m0 mf_T8c
  obtain ⟨-, hg⟩ := oif_some hg
  obtain ⟨T13c, eT13c, hg⟩ := elet_some hg
  have r_T13c : T13c.2.2.2.2 = T.2.2.2.2 := by rw [eT13c]; exact r_T8c
  have hI_T13c : ∀ m j : Nat, m ≠ 6 → T13c.2.2.1 m j = if m = (s + 2) ∧ j = 0 then r10c else T.2.2.1 m j := fun m j h6 => by rw [eT13c, ui_get, hI_T8c m j h6]
  have p_T13c := pr_uI (m := (s + 2)) (k := 0) (v := r10c) p_T8c (by omega)
  rw [← eT13c] at p_T13c
  obtain ⟨-, hg⟩ := oif_some hg
  rcases othr_k hg with ⟨r9, g9, z0⟩ | ⟨r17c, T15c, g9, hg⟩
  · rcases k_signed p_T13c g9 fS9 with ⟨z, -⟩ | ⟨z1, z2⟩
    · exact absurd z z0
    · exact .inr ⟨z1, by rw [fin_S9 z2.1]; exact z2⟩
  rcases k_signed p_T13c g9 fS9 with ⟨-, q_r17c, ⟨i_T15c, l_T15c, p_T15c⟩, tf_T15c, mf_T15c⟩ | ⟨z1, -⟩
  rotate_left
  · exact absurd z1 (by decide)
  have r_T15c : T15c.2.2.2.2 = T.2.2.2.2 := (congrArg (fun x => x.2) tf_T15c.2.2.1).trans r_T13c
  have hI_T15c : ∀ m j : Nat, m ≠ 6 → T15c.2.2.1 m j = if m = (s + 2) ∧ j = 0 then r10c else T.2.2.1 m j := fun m j h6 => by rw [tf_T15c.2.2.2 m j h6, hI_T13c m j h6]
  have mm_T15c := MFq.tr mm_T8c mf_T15c
  obtain ⟨-, hg⟩ := oif_some hg
  obtain ⟨T20c, eT20c, hg⟩ := elet_some hg
  have r_T20c : T20c.2.2.2.2 = T.2.2.2.2 := by rw [eT20c]; exact r_T15c
  have hI_T20c : ∀ m j : Nat, m ≠ 6 → T20c.2.2.1 m j = if m = (s + 2) ∧ j = 1 then r17c else if m = (s + 2) ∧ j = 0 then r10c else T.2.2.1 m j := fun m j h6 => by rw [eT20c, ui_get, hI_T15c m j h6]
  have p_T20c := pr_uI (m := (s + 2)) (k := 1) (v := r17c) p_T15c (by omega)
  rw [← eT20c] at p_T20c
  obtain ⟨-, hg⟩ := oif_some hg
  rcases othr_k hg with ⟨r9, g9, z0⟩ | ⟨r24c, T22c, g9, hg⟩
  · rcases k_number p_T20c g9 fS13 with ⟨z, -⟩ | ⟨z1, z2⟩
    · exact absurd z z0
    · exact .inr ⟨z1, by rw [fin_S13 z2.1]; exact z2⟩
  rcases k_number p_T20c g9 fS13 with ⟨-, q_r24c, lo_r24c, hi_r24c, p_T22c, tf_T22c, mf_T22c⟩ | ⟨z1, -⟩
  rotate_left
  · exact absurd z1 (by decide)
  have r_T22c : T22c.2.2.2.2 = T.2.2.2.2 := (congrArg (fun x => x.2) tf_T22c.2.2.1).trans r_T20c
  have hI_T22c : ∀ m j : Nat, m ≠ 6 → T22c.2.2.1 m j = if m = (s + 2) ∧ j = 1 then r17c else if m = (s + 2) ∧ j = 0 then r10c else T.2.2.1 m j := fun m j h6 => by rw [tf_T22c.2.2.2 m j h6, hI_T20c m j h6]
  have mm_T22c := MFq.tr mm_T15c mf_T22c
  obtain ⟨-, hg⟩ := oif_some hg
  obtain ⟨T27c, eT27c, hg⟩ := elet_some hg
  have r_T27c : T27c.2.2.2.2 = T.2.2.2.2 := by rw [eT27c]; exact r_T22c
  have hI_T27c : ∀ m j : Nat, m ≠ 6 → T27c.2.2.1 m j = if m = (s + 2) ∧ j = 2 then r24c else if m = (s + 2) ∧ j = 1 then r17c else if m = (s + 2) ∧ j = 0 then r10c else T.2.2.1 m j := fun m j h6 => by rw [eT27c, ui_get, hI_T22c m j h6]
  have p_T27c := pr_uI (m := (s + 2)) (k := 2) (v := r24c) p_T22c (by omega)
  rw [← eT27c] at p_T27c
  obtain ⟨-, hg⟩ := oif_some hg
  rcases othr_k hg with ⟨r9, g9, z0⟩ | ⟨r31c, T29c, g9, hg⟩
  · rcases k_number p_T27c g9 fS17 with ⟨z, -⟩ | ⟨z1, z2⟩
    · exact absurd z z0
    · exact .inr ⟨z1, by rw [fin_S17 z2.1]; exact z2⟩
  rcases k_number p_T27c g9 fS17 with ⟨-, q_r31c, lo_r31c, hi_r31c, p_T29c, tf_T29c, mf_T29c⟩ | ⟨z1, -⟩
  rotate_left
  · exact absurd z1 (by decide)
  have r_T29c : T29c.2.2.2.2 = T.2.2.2.2 := (congrArg (fun x => x.2) tf_T29c.2.2.1).trans r_T27c
  have hI_T29c : ∀ m j : Nat, m ≠ 6 → T29c.2.2.1 m j = if m = (s + 2) ∧ j = 2 then r24c else if m = (s + 2) ∧ j = 1 then r17c else if m = (s + 2) ∧ j = 0 then r10c else T.2.2.1 m j := fun m j h6 => by rw [tf_T29c.2.2.2 m j h6, hI_T27c m j h6]
  have mm_T29c := MFq.tr mm_T22c mf_T29c
  obtain ⟨-, hg⟩ := oif_some hg
  rcases othr_k hg with ⟨r9, g9, z0⟩ | ⟨r36c, T34c, g9, hg⟩
  · rcases k_number p_T29c g9 fS21 with ⟨z, -⟩ | ⟨z1, z2⟩
    · exact absurd z z0
    · exact .inr ⟨z1, by rw [fin_S21 z2.1]; exact z2⟩
  rcases k_number p_T29c g9 fS21 with ⟨-, q_r36c, lo_r36c, hi_r36c, p_T34c, tf_T34c, mf_T34c⟩ | ⟨z1, -⟩
  rotate_left
  · exact absurd z1 (by decide)
  have r_T34c : T34c.2.2.2.2 = T.2.2.2.2 := (congrArg (fun x => x.2) tf_T34c.2.2.1).trans r_T29c
  have hI_T34c : ∀ m j : Nat, m ≠ 6 → T34c.2.2.1 m j = if m = (s + 2) ∧ j = 2 then r24c else if m = (s + 2) ∧ j = 1 then r17c else if m = (s + 2) ∧ j = 0 then r10c else T.2.2.1 m j := fun m j h6 => by rw [tf_T34c.2.2.2 m j h6, hI_T29c m j h6]
  have mm_T34c := MFq.tr mm_T29c mf_T34c
  obtain ⟨-, hg⟩ := oif_some hg
  obtain ⟨T39c, o39, hg⟩ := obind_some hg
  unfold g_X1_open at o39
  obtain ⟨-, o39⟩ := oif_some o39
  obtain ⟨T3o, eT3o, o39⟩ := elet_some o39
  have r_T3o : T3o.2.2.2.2 = T.2.2.2.2 := by rw [eT3o]; exact r_T34c
  have hI_T3o : ∀ m j : Nat, m ≠ 6 → T3o.2.2.1 m j = if m = (s + 2) ∧ j = 3 then r31c else if m = (s + 2) ∧ j = 2 then r24c else if m = (s + 2) ∧ j = 1 then r17c else if m = (s + 2) ∧ j = 0 then r10c else T.2.2.1 m j := fun m j h6 => by rw [eT3o, ui_get, hI_T34c m j h6]
  have p_T3o := pr_uI (m := (s + 2)) (k := 3) (v := r31c) p_T34c (by omega)
  rw [← eT3o] at p_T3o
  obtain ⟨-, o39⟩ := oif_some o39
  obtain ⟨T5o, eT5o, o39⟩ := elet_some o39
  have r_T5o : T5o.2.2.2.2 = T.2.2.2.2 := by rw [eT5o]; exact r_T3o
  have hI_T5o : ∀ m j : Nat, m ≠ 6 → T5o.2.2.1 m j = if m = (s + 2) ∧ j = 4 then r36c else if m = (s + 2) ∧ j = 3 then r31c else if m = (s + 2) ∧ j = 2 then r24c else if m = (s + 2) ∧ j = 1 then r17c else if m = (s + 2) ∧ j = 0 then r10c else T.2.2.1 m j := fun m j h6 => by rw [eT5o, ui_get, hI_T3o m j h6]
  have p_T5o := pr_uI (m := (s + 2)) (k := 4) (v := r36c) p_T3o (by omega)
  rw [← eT5o] at p_T5o
  obtain ⟨-, o39⟩ := oif_some o39
  obtain ⟨n7o, en7o, o39⟩ := obind_some o39
  rw [r_T5o, F11] at en7o
  cases en7o
  obtain ⟨v8o, ev8o, o39⟩ := elet_some o39
  obtain ⟨-, o39⟩ := oif_some o39
  obtain ⟨-, o39⟩ := oif_some o39
  obtain ⟨T11o, eT11o, o39⟩ := elet_some o39
  rw [show (2 : Int32).toNatClampNeg = 2 from by decide] at eT11o
  have r_T11o : T11o.2.2.2.2 = T.2.2.2.2 := by rw [eT11o]; exact r_T5o
  have hI_T11o : ∀ m j : Nat, m ≠ 6 → T11o.2.2.1 m j = if m = (s + 3) ∧ j = 2 then v8o else if m = (s + 2) ∧ j = 4 then r36c else if m = (s + 2) ∧ j = 3 then r31c else if m = (s + 2) ∧ j = 2 then r24c else if m = (s + 2) ∧ j = 1 then r17c else if m = (s + 2) ∧ j = 0 then r10c else T.2.2.1 m j := fun m j h6 => by rw [eT11o, ui_get, hI_T5o m j h6]
  have p_T11o := pr_uI (m := (s + 3)) (k := 2) (v := v8o) p_T5o (by omega)
  rw [← eT11o] at p_T11o
  obtain ⟨-, o39⟩ := oif_some o39
  obtain ⟨n13o, en13o, o39⟩ := obind_some o39
  rw [r_T11o, F11] at en13o
  cases en13o
  obtain ⟨v14o, ev14o, o39⟩ := elet_some o39
  obtain ⟨-, o39⟩ := oif_some o39
  obtain ⟨-, o39⟩ := oif_some o39
  obtain ⟨T17o, eT17o, o39⟩ := elet_some o39
  rw [show (3 : Int32).toNatClampNeg = 3 from by decide] at eT17o
  have r_T17o : T17o.2.2.2.2 = T.2.2.2.2 := by rw [eT17o]; exact r_T11o
  have hI_T17o : ∀ m j : Nat, m ≠ 6 → T17o.2.2.1 m j = if m = (s + 3) ∧ j = 3 then v14o else if m = (s + 3) ∧ j = 2 then v8o else if m = (s + 2) ∧ j = 4 then r36c else if m = (s + 2) ∧ j = 3 then r31c else if m = (s + 2) ∧ j = 2 then r24c else if m = (s + 2) ∧ j = 1 then r17c else if m = (s + 2) ∧ j = 0 then r10c else T.2.2.1 m j := fun m j h6 => by rw [eT17o, ui_get, hI_T11o m j h6]
  have p_T17o := pr_uI (m := (s + 3)) (k := 3) (v := v14o) p_T11o (by omega)
  rw [← eT17o] at p_T17o
  have o40 := osome1 o39
  rw [← o40] at hg
  have g := osome3 hg
  rw [if_pos (by rw [ev25, p_T17o.2.2.1] <;> decide)] at hf
  obtain ⟨S27, eS27, hf⟩ := elet_some hf
  obtain ⟨S28, eS28, hf⟩ := elet_some hf
  obtain ⟨S29, eS29, hf⟩ := elet_some hf
  obtain ⟨S30, eS30, hf⟩ := elet_some hf
  obtain ⟨S31, eS31, hf⟩ := elet_some hf
  skip
  have hP_S21 : ∀ x : Nat, S21.2.1 11 x = S.2.1 11 x := fun x => by rw [mm_T34c.1]
  have hD_S21 : ∀ x : Nat, S21.2.1 13 x = S.2.1 13 x := fun x => by rw [mm_T34c.1]
  have hP_S27 : ∀ x : Nat, S27.2.1 11 x = if x = 6 then r8 else S.2.1 11 x := fun x => by rw [eS27, mf_at]; show (if x = 6 then r8 else S21.2.1 11 x) = _; rw [hP_S21]
  have hD_S27 : ∀ x : Nat, S27.2.1 13 x = S.2.1 13 x := fun x => by rw [eS27, mf_ne (by decide), hD_S21]
  have hP_S28 : ∀ x : Nat, S28.2.1 11 x = if x = 7 then r12 else if x = 6 then r8 else S.2.1 11 x := fun x => by rw [eS28, mf_at]; show (if x = 7 then r12 else S27.2.1 11 x) = _; rw [hP_S27]
  have hD_S28 : ∀ x : Nat, S28.2.1 13 x = S.2.1 13 x := fun x => by rw [eS28, mf_ne (by decide), hD_S27]
  have hP_S29 : ∀ x : Nat, S29.2.1 11 x = if x = 8 then r16 else if x = 7 then r12 else if x = 6 then r8 else S.2.1 11 x := fun x => by rw [eS29, mf_at]; show (if x = 8 then r16 else S28.2.1 11 x) = _; rw [hP_S28]
  have hD_S29 : ∀ x : Nat, S29.2.1 13 x = S.2.1 13 x := fun x => by rw [eS29, mf_ne (by decide), hD_S28]
  have hP_S30 : ∀ x : Nat, S30.2.1 11 x = if x = 9 then r20 else if x = 8 then r16 else if x = 7 then r12 else if x = 6 then r8 else S.2.1 11 x := fun x => by rw [eS30, mf_at]; show (if x = 9 then r20 else S29.2.1 11 x) = _; rw [hP_S29]
  have hD_S30 : ∀ x : Nat, S30.2.1 13 x = S.2.1 13 x := fun x => by rw [eS30, mf_ne (by decide), hD_S29]
  have hP_S31 : ∀ x : Nat, S31.2.1 11 x = if x = 10 then r24 else if x = 9 then r20 else if x = 8 then r16 else if x = 7 then r12 else if x = 6 then r8 else S.2.1 11 x := fun x => by rw [eS31, mf_at]; show (if x = 10 then r24 else S30.2.1 11 x) = _; rw [hP_S30]
  have hD_S31 : ∀ x : Nat, S31.2.1 13 x = S.2.1 13 x := fun x => by rw [eS31, mf_ne (by decide), hD_S30]
  have p_S27 := pr_mfe p_T17o eS27 (by decide)
  have p_S28 := pr_mfe p_S27 eS28 (by decide)
  have p_S29 := pr_mfe p_S28 eS29 (by decide)
  have p_S30 := pr_mfe p_S29 eS30 (by decide)
  have p_S31 := pr_mfe p_S30 eS31 (by decide)
  have eS := osome1 (show some S31 = some S1 from hf)
  rw [← g.2.2, ← eS]
  exact .inl ⟨g.1.symm, ⟨_, by omega, p_S31⟩, ⟨gH.cg (fun j hj => by rw [hI_T17o _ _ (by omega)]; try simp (disch := omega) only [if_neg, if_pos, and_self, and_true, true_and, and_false, false_and, if_true, if_false]) (fun j hj => by rw [hP_S31]; try simp (disch := omega) only [if_neg, if_pos, and_self, and_true, true_and, and_false, false_and, if_true, if_false]), gM.cg (by rw [hI_T17o _ _ (by omega)]; try simp (disch := omega) only [if_neg, if_pos, and_self, and_true, true_and, and_false, false_and, if_true, if_false]) (fun m k hm hm2 => by rw [hI_T17o _ _ (by omega)]; try simp (disch := omega) only [if_neg, if_pos, and_self, and_true, true_and, and_false, false_and, if_true, if_false]) (fun j hj => by rw [hP_S31]; try simp (disch := omega) only [if_neg, if_pos, and_self, and_true, true_and, and_false, false_and, if_true, if_false]), ⟨(by rw [hI_T17o _ _ (by omega), hP_S31]; (try simp (disch := omega) only [if_neg, if_pos, and_self, and_true, true_and, and_false, false_and, if_true, if_false]); try exact q_r31c.symm), (by rw [hI_T17o _ _ (by omega), hP_S31]; (try simp (disch := omega) only [if_neg, if_pos, and_self, and_true, true_and, and_false, false_and, if_true, if_false]); try exact q_r36c.symm), .inr ⟨(by rw [hP_S31]; (try simp (disch := omega) only [if_neg, if_pos, and_self, and_true, true_and, and_false, false_and, if_true, if_false]); (try rw [q_r24c]); try exact lo_r24c), (by rw [hP_S31]; (try simp (disch := omega) only [if_neg, if_pos, and_self, and_true, true_and, and_false, false_and, if_true, if_false]); (try rw [q_r31c]); try exact lo_r31c), (by rw [hI_T17o _ _ (by omega), hP_S31]; (try simp (disch := omega) only [if_neg, if_pos, and_self, and_true, true_and, and_false, false_and, if_true, if_false]); try exact q_r10c.symm), (by rw [hI_T17o _ _ (by omega), hP_S31]; (try simp (disch := omega) only [if_neg, if_pos, and_self, and_true, true_and, and_false, false_and, if_true, if_false]); try exact q_r17c.symm), (by rw [hI_T17o _ _ (by omega), hP_S31]; (try simp (disch := omega) only [if_neg, if_pos, and_self, and_true, true_and, and_false, false_and, if_true, if_false]); try exact q_r24c.symm), (by rw [hI_T17o _ _ (by omega), hP_S31]; (try simp (disch := omega) only [if_neg, if_pos, and_self, and_true, true_and, and_false, false_and, if_true, if_false]); (try rw [q_r31c]); try exact ev8o), (by rw [hI_T17o _ _ (by omega), hP_S31]; (try simp (disch := omega) only [if_neg, if_pos, and_self, and_true, true_and, and_false, false_and, if_true, if_false]); (try rw [q_r36c]); try exact ev14o)⟩⟩, gS.cg (by rw [hI_T17o _ _ (by omega)]; try simp (disch := omega) only [if_neg, if_pos, and_self, and_true, true_and, and_false, false_and, if_true, if_false]) (fun m k hm hm2 => by rw [hI_T17o _ _ (by omega)]; try simp (disch := omega) only [if_neg, if_pos, and_self, and_true, true_and, and_false, false_and, if_true, if_false]) (fun j hj => by rw [hP_S31]; try simp (disch := omega) only [if_neg, if_pos, and_self, and_true, true_and, and_false, false_and, if_true, if_false]) (fun j hj hj2 => by rw [hD_S31]; try simp (disch := omega) only [if_neg, if_pos, and_self, and_true, true_and, and_false, false_and, if_true, if_false]), gW.cg (by rw [hI_T17o _ _ (by omega)]; try simp (disch := omega) only [if_neg, if_pos, and_self, and_true, true_and, and_false, false_and, if_true, if_false]) (fun k => by rw [hI_T17o _ _ (by omega)]; try simp (disch := omega) only [if_neg, if_pos, and_self, and_true, true_and, and_false, false_and, if_true, if_false]) (fun k => by rw [hI_T17o _ _ (by omega)]; try simp (disch := omega) only [if_neg, if_pos, and_self, and_true, true_and, and_false, false_and, if_true, if_false]) (fun j hj hj2 => by rw [hP_S31]; try simp (disch := omega) only [if_neg, if_pos, and_self, and_true, true_and, and_false, false_and, if_true, if_false]), gF.cg (by rw [hI_T17o _ _ (by omega)]; try simp (disch := omega) only [if_neg, if_pos, and_self, and_true, true_and, and_false, false_and, if_true, if_false]) (by rw [hP_S31]; try simp (disch := omega) only [if_neg, if_pos, and_self, and_true, true_and, and_false, false_and, if_true, if_false]), gT.cg (by rw [hI_T17o _ _ (by omega)]; try simp (disch := omega) only [if_neg, if_pos, and_self, and_true, true_and, and_false, false_and, if_true, if_false]) (fun k => by rw [hI_T17o _ _ (by omega)]; try simp (disch := omega) only [if_neg, if_pos, and_self, and_true, true_and, and_false, false_and, if_true, if_false]) (fun j hj hj2 => by rw [hP_S31]; try simp (disch := omega) only [if_neg, if_pos, and_self, and_true, true_and, and_false, false_and, if_true, if_false]), gZ.cg (by rw [hI_T17o _ _ (by omega)]; try simp (disch := omega) only [if_neg, if_pos, and_self, and_true, true_and, and_false, false_and, if_true, if_false]) (fun m k hm hm2 => by rw [hI_T17o _ _ (by omega)]; try simp (disch := omega) only [if_neg, if_pos, and_self, and_true, true_and, and_false, false_and, if_true, if_false]) (fun j hj hj2 => by rw [hP_S31]; try simp (disch := omega) only [if_neg, if_pos, and_self, and_true, true_and, and_false, false_and, if_true, if_false]), gD.cg (by rw [hI_T17o _ _ (by omega)]; try simp (disch := omega) only [if_neg, if_pos, and_self, and_true, true_and, and_false, false_and, if_true, if_false]) (fun k => by rw [hI_T17o _ _ (by omega)]; try simp (disch := omega) only [if_neg, if_pos, and_self, and_true, true_and, and_false, false_and, if_true, if_false]) (fun j hj hj2 => by rw [hP_S31]; try simp (disch := omega) only [if_neg, if_pos, and_self, and_true, true_and, and_false, false_and, if_true, if_false]), (fun j hj => by rw [hD_S31]; (try simp (disch := omega) only [if_neg, if_pos, and_self, and_true, true_and, and_false, false_and, if_true, if_false]); try exact gX j hj)⟩, r_T17o⟩
