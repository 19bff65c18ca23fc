section
variable {b : Nat → Int32} {n c i k s : Nat} {T T1 : AT} {S S1 : MS} {r : Int32}
/-- only the place of the class and the reference's scalars have moved -/
theorem scn_tf {P D : Nat → Int32} (hs : s = 478 ∨ s = 656) (h : TFq T T1) (q : SCNq s T P D) : SCNq s T1 P D := by
  have e : ∀ m j, m ≠ 6 → T1.2.2.1 m j = T.2.2.1 m j := h.2.2.2
  exact ⟨q.1.cg (fun j _ => e _ _ (by omega)) (fun _ _ => rfl), q.2.1.cg (e _ _ (by omega)) (fun m j _ _ => e _ _ (by omega)) (fun _ _ => rfl), q.2.2.1.cg (fun j _ => e _ _ (by omega)) (fun j => e _ _ (by omega)) (fun _ _ _ => rfl), q.2.2.2.1.cg (e _ _ (by omega)) (fun m j _ _ => e _ _ (by omega)) (fun _ _ => rfl) (fun _ _ _ => rfl), q.2.2.2.2.1.cg (e _ _ (by omega)) (fun j => e _ _ (by omega)) (fun j => e _ _ (by omega)) (fun _ _ _ => rfl), q.2.2.2.2.2.1.cg (e _ _ (by omega)) rfl, q.2.2.2.2.2.2.1.cg (e _ _ (by omega)) (fun j => e _ _ (by omega)) (fun _ _ _ => rfl), q.2.2.2.2.2.2.2.1.cg (e _ _ (by omega)) (fun m j _ _ => e _ _ (by omega)) (fun _ _ _ => rfl), q.2.2.2.2.2.2.2.2.1.cg (e _ _ (by omega)) (fun j => e _ _ (by omega)) (fun _ _ _ => rfl), q.2.2.2.2.2.2.2.2.2⟩
theorem nI_of01 {x : Int32} {a : Nat} (h0 : 0 ≤ x.toInt) (h1 : x.toInt ≤ (a : Int) - 1) (ha : a ≤ 2000) : ∃ m : Nat, m < a ∧ x = nI m := by
  refine ⟨x.toInt.toNat, by omega, Int32.toInt_inj.mp ?_⟩
  have e : (nI x.toInt.toNat).toInt = (x.toInt.toNat : Int) := nI_toInt (by omega)
  rw [e]
  omega
theorem nI_m1 {x : Int32} {a : Nat} (h : x = nI a - 1) (ha : a ≤ 2000) : x.toInt = (a : Int) - 1 := by
  have e : (nI a).toInt = (a : Int) := nI_toInt (by omega)
  have z1 : (1 : Int32).toInt = 1 := by decide
  rw [i_sub h (by omega) (by omega), e, z1]
set_option maxHeartbeats 400000 in
theorem l_clock (h : PRq b n c i T S) (hk : kd b n (pst b n i) = 1) (hs : s = 478 ∨ s = 656) (hF : SRF s T) (hC : SCNq s T (S.2.1 11) (S.2.1 13)) (hg : g_X3_parseClock T 6 s = some (k, r, T1)) (hf : fr_readClock S = some S1) : LNq b n c i s T T1 S1 k := by
  have hsb : 478 ≤ s ∧ s ≤ 656 := by omega
  have z0 : (0 : Int32).toInt = 0 := by decide
  obtain ⟨gH, ⟨mc, b1, b2, b3, b4, b5⟩, gG, gS, gW, gF, gT, gZ, gD, gX⟩ := hC
  unfold fr_readClock at hf
  obtain ⟨S2, fS2, hf⟩ := obind_some hf
  obtain ⟨v5, ev5, hf⟩ := elet_some hf
  obtain ⟨v6, ev6, hf⟩ := elet_some hf
  obtain ⟨r10, S7, fS7, hf⟩ := obind2_some hf
  obtain ⟨v11, ev11, hf⟩ := elet_some hf
  -- a fault stays
  have fin42 : ∀ {U : MS} {l : Int32}, 0 < (U.1 5).toInt → fr_readClock_b42 U l = some S1 → S1 = U := by
    intro U l q hf
    unfold fr_readClock_b42 at hf
    obtain ⟨U2, f2, hf⟩ := obind_some hf
    rw [st_next q f2] at hf
    obtain ⟨w8, U5, f5, hf⟩ := obind2_some hf
    rw [st_number q f5] at hf
    obtain ⟨w9, e9, hf⟩ := elet_some hf
    rw [if_neg (st_ne q e9)] at hf
    exact (osome1 (show some U = some S1 from hf)).symm
  have fin_S7 : 0 < (S7.1 5).toInt → S1 = S7 := fun q => by
    rw [if_neg (st_ne q ev11)] at hf
    exact fin42 q hf
  have fin_S2 : 0 < (S2.1 5).toInt → S1 = S2 := fun q => by
    have e := st_look q fS7
    exact (fin_S7 (by rw [e]; exact q)).trans e
  unfold g_X3_parseClock at hg
  obtain ⟨-, hg⟩ := oif_some hg
  rcases othr_k hg with ⟨r9, g9, z9⟩ | ⟨r5, T3, g9, hg⟩
  · rcases k_line h hk (by decide) g9 (.inl ⟨rfl, rfl⟩) fS2 with ⟨z, -⟩ | ⟨z1, z2⟩
    · exact absurd z z9
    · exact .inr ⟨z1, by rw [fin_S2 z2.1]; exact z2⟩
  rcases k_line h hk (by decide) g9 (.inl ⟨rfl, rfl⟩) fS2 with ⟨-, p3, t3, m2, -⟩ | ⟨z1, -⟩
  rotate_left
  · exact absurd z1 (by decide)
  have P2 : S2.2 = S.2 := m2.1
  obtain ⟨-, hg⟩ := oif_some hg
  obtain ⟨v8, ev8, hg⟩ := elet_some hg
  rw [t3.2.2.2 _ _ (by omega), b2] at ev8
  obtain ⟨v9, ev9, hg⟩ := elet_some hg
  rw [P2, b3] at ev5
  rw [ev5] at ev6
  rw [ev8] at ev9
  have e69 : v6 = v9 := ev6.trans ev9.symm
  have q9 := nI_m1 ev9 (by omega)
  obtain ⟨-, hg⟩ := oif_some hg
  rw [e69] at fS7
  rcases othr_k hg with ⟨r9, g9, z9⟩ | ⟨r13, T11, g9, hg⟩
  · rcases k_look p3 g9 fS7 with ⟨z, -⟩ | ⟨z1, z2⟩
    · exact absurd z z9
    · exact .inr ⟨z1, by rw [fin_S7 z2.1]; exact z2⟩
  rcases k_look p3 g9 fS7 with ⟨-, qr, lo, hi, k2, e11, e7⟩ | ⟨z1, -⟩
  rotate_left
  · exact absurd z1 (by decide)
  rw [e7] at ev11 hf fin_S7
  rw [p3.2.2.1] at ev11
  rw [if_pos ev11] at hf
  obtain ⟨m, hm, em⟩ := nI_of01 (x := r13) (a := mc) (by omega) (by omega) (by omega)
  obtain ⟨v13, ev13, hf⟩ := elet_some hf
  rw [qr, em] at ev13
  have k13 : v13 = nI (83 + m) := ev13.trans (nI_add 83 m)
  obtain ⟨-, hf⟩ := oif_some hf
  obtain ⟨v15, ev15, hf⟩ := elet_some hf
  rw [k13, nI_clamp (by omega), P2] at ev15
  have t11 : TFq T T11 := by rw [e11]; exact t3.tr tf6
  have r11 : T11.2.2.2.2 = T.2.2.2.2 := congrArg (fun x => x.2) t11.2.2.1
  obtain ⟨-, hg⟩ := oif_some hg
  obtain ⟨n16, en16, hg⟩ := obind_some hg
  rw [r11, hF.1] at en16
  cases en16
  obtain ⟨-, hg⟩ := oif_some hg
  obtain ⟨-, hg⟩ := oif_some hg
  obtain ⟨n19, en19, hg⟩ := obind_some hg
  rw [r11, em, nI_clamp (by omega), hF.2.2.2.2.2.2.2.2.1 m (by omega)] at en19
  cases en19
  obtain ⟨-, hg⟩ := oif_some hg
  obtain ⟨v21, ev21, hg⟩ := elet_some hg
  rw [t11.2.2.2 _ _ (by omega), (b4 m hm).2.2.2, ← ev15] at ev21
  by_cases c0 : v15 ≤ 0
  · rw [if_pos c0] at hf
    rw [ev21, if_pos c0] at hg
    unfold fr_readClock_b42 at hf
    obtain ⟨U2, f2, hf⟩ := obind_some hf
    obtain ⟨p11, m11⟩ := pr_adv p3 (by rw [k2]; decide) f2
    rw [← e11] at p11
    obtain ⟨w8, U5, f5, hf⟩ := obind2_some hf
    obtain ⟨w9, e9, hf⟩ := elet_some hf
    unfold g_X3_parseClock_b41 at hg
    obtain ⟨-, hg⟩ := oif_some hg
    obtain ⟨n3, en3, hg⟩ := obind_some hg
    rw [r11, hF.1] at en3
    cases en3
    obtain ⟨-, hg⟩ := oif_some hg
    obtain ⟨-, hg⟩ := oif_some hg
    obtain ⟨n6, en6, hg⟩ := obind_some hg
    rw [r11, em, nI_clamp (by omega), hF.2.2.2.2.2.2.2.2.1 m (by omega)] at en6
    cases en6
    obtain ⟨-, hg⟩ := oif_some hg
    rcases othr_k hg with ⟨r9, g9, z9⟩ | ⟨r10', T8, g9, hg⟩
    · rcases k_number p11 g9 f5 with ⟨z, -⟩ | ⟨z1, z2⟩
      · exact absurd z z9
      · rw [if_neg (st_ne z2.1 e9)] at hf
        have e := osome1 (show some U5 = some S1 from hf)
        exact .inr ⟨z1, by rw [← e]; exact z2⟩
    rcases k_number p11 g9 f5 with ⟨-, q8, -, -, p8, t8, m8⟩ | ⟨z1, -⟩
    rotate_left
    · exact absurd z1 (by decide)
    obtain ⟨-, hg⟩ := oif_some hg
    obtain ⟨T13, e13, hg⟩ := elet_some hg
    rw [if_pos (e9.trans p8.2.2.1)] at hf
    obtain ⟨w11, e11', hf⟩ := elet_some hf
    rw [qr, em] at e11'
    have k11 : w11 = nI (83 + m) := e11'.trans (nI_add 83 m)
    obtain ⟨-, hf⟩ := oif_some hf
    obtain ⟨U13, e13', hf⟩ := elet_some hf
    rw [k11, nI_clamp (by omega)] at e13'
    have eS := osome1 (show some U13 = some S1 from hf)
    have g := osome3 hg
    rw [← g.2.2, ← eS]
    have hI : ∀ m' j : Nat, m' ≠ 6 → T13.2.2.1 m' j = if m' = s + 160 + m ∧ j = 3 then r10' else T.2.2.1 m' j := fun m' j h6 => by rw [e13, ui_get, t8.2.2.2 m' j h6, t11.2.2.2 m' j h6]
    have PU : U5.2 = S.2 := m8.1.trans (m11.1.trans P2)
    have hP : ∀ x : Nat, U13.2.1 11 x = if x = 83 + m then w8 else S.2.1 11 x := fun x => by rw [e13', mf_at]; show (if x = 83 + m then w8 else U5.2.1 11 x) = _; rw [PU]
    have hD : ∀ x : Nat, U13.2.1 13 x = S.2.1 13 x := fun x => by rw [e13', mf_ne (by decide), PU]
    have p13 := pr_uI (m := s + 160 + m) (k := 3) (v := r10') p8 (by omega)
    rw [← e13] at p13
    have p14 := pr_mfe p13 e13' (by decide)
    have r13 : T13.2.2.2.2 = T.2.2.2.2 := by rw [e13]; exact (congrArg (fun x => x.2) t8.2.2.1).trans r11
    refine .inl ⟨g.1.symm, ⟨_, by omega, p14⟩, ⟨gH.cg (fun j hj => by rw [hI _ _ (by omega)]; simp (disch := omega) only [if_neg, if_pos, and_self, and_true, true_and, and_false, false_and, if_true, if_false]) (fun j hj => by rw [hP]; simp (disch := omega) only [if_neg, if_pos, and_self, and_true, true_and, and_false, false_and, if_true, if_false]), ?_, gG.cg (fun k hk => by rw [hI _ _ (by omega)]; simp (disch := omega) only [if_neg, if_pos, and_self, and_true, true_and, and_false, false_and, if_true, if_false]) (fun k => by rw [hI _ _ (by omega)]; simp (disch := omega) only [if_neg, if_pos, and_self, and_true, true_and, and_false, false_and, if_true, if_false]) (fun j hj hj2 => by rw [hP]; simp (disch := omega) only [if_neg, if_pos, and_self, and_true, true_and, and_false, false_and, if_true, if_false]), gS.cg (by rw [hI _ _ (by omega)]; simp (disch := omega) only [if_neg, if_pos, and_self, and_true, true_and, and_false, false_and, if_true, if_false]) (fun m' k hm hm2 => by rw [hI _ _ (by omega)]; simp (disch := omega) only [if_neg, if_pos, and_self, and_true, true_and, and_false, false_and, if_true, if_false]) (fun j hj => by rw [hP]; simp (disch := omega) only [if_neg, if_pos, and_self, and_true, true_and, and_false, false_and, if_true, if_false]) (fun j _ _ => hD j), gW.cg (by rw [hI _ _ (by omega)]; simp (disch := omega) only [if_neg, if_pos, and_self, and_true, true_and, and_false, false_and, if_true, if_false]) (fun k => by rw [hI _ _ (by omega)]; simp (disch := omega) only [if_neg, if_pos, and_self, and_true, true_and, and_false, false_and, if_true, if_false]) (fun k => by rw [hI _ _ (by omega)]; simp (disch := omega) only [if_neg, if_pos, and_self, and_true, true_and, and_false, false_and, if_true, if_false]) (fun j hj hj2 => by rw [hP]; simp (disch := omega) only [if_neg, if_pos, and_self, and_true, true_and, and_false, false_and, if_true, if_false]), gF.cg (by rw [hI _ _ (by omega)]; simp (disch := omega) only [if_neg, if_pos, and_self, and_true, true_and, and_false, false_and, if_true, if_false]) (by rw [hP]; simp (disch := omega) only [if_neg, if_pos, and_self, and_true, true_and, and_false, false_and, if_true, if_false]), gT.cg (by rw [hI _ _ (by omega)]; simp (disch := omega) only [if_neg, if_pos, and_self, and_true, true_and, and_false, false_and, if_true, if_false]) (fun k => by rw [hI _ _ (by omega)]; simp (disch := omega) only [if_neg, if_pos, and_self, and_true, true_and, and_false, false_and, if_true, if_false]) (fun j hj hj2 => by rw [hP]; simp (disch := omega) only [if_neg, if_pos, and_self, and_true, true_and, and_false, false_and, if_true, if_false]), gZ.cg (by rw [hI _ _ (by omega)]; simp (disch := omega) only [if_neg, if_pos, and_self, and_true, true_and, and_false, false_and, if_true, if_false]) (fun m' k hm hm2 => by rw [hI _ _ (by omega)]; simp (disch := omega) only [if_neg, if_pos, and_self, and_true, true_and, and_false, false_and, if_true, if_false]) (fun j hj hj2 => by rw [hP]; simp (disch := omega) only [if_neg, if_pos, and_self, and_true, true_and, and_false, false_and, if_true, if_false]), gD.cg (by rw [hI _ _ (by omega)]; simp (disch := omega) only [if_neg, if_pos, and_self, and_true, true_and, and_false, false_and, if_true, if_false]) (fun k => by rw [hI _ _ (by omega)]; simp (disch := omega) only [if_neg, if_pos, and_self, and_true, true_and, and_false, false_and, if_true, if_false]) (fun j hj hj2 => by rw [hP]; simp (disch := omega) only [if_neg, if_pos, and_self, and_true, true_and, and_false, false_and, if_true, if_false]), fun j hj => (hD j).trans (gX j hj)⟩, r13⟩
    refine ⟨mc, b1, ?_, ?_, fun m' hm' => ?_, fun m' h1 h2 => ?_⟩
    · rw [hI _ _ (by omega)]; simp (disch := omega) only [if_neg, if_pos, and_self, and_true, true_and, and_false, false_and, if_true, if_false]; exact b2
    · rw [hP]; simp (disch := omega) only [if_neg, if_pos, and_self, and_true, true_and, and_false, false_and, if_true, if_false]; exact b3
    · have q := b4 m' hm'
      refine ⟨?_, ?_, ?_, ?_⟩
      · rw [hI _ _ (by omega), hP]; simp (disch := omega) only [if_neg, if_pos, and_self, and_true, true_and, and_false, false_and, if_true, if_false]; exact q.1
      · rw [hI _ _ (by omega), hP]; simp (disch := omega) only [if_neg, if_pos, and_self, and_true, true_and, and_false, false_and, if_true, if_false]; exact q.2.1
      · rw [hI _ _ (by omega), hP]; simp (disch := omega) only [if_neg, if_pos, and_self, and_true, true_and, and_false, false_and, if_true, if_false]; exact q.2.2.1
      · rw [hI _ _ (by omega), hP]
        by_cases e : m' = m
        · rw [if_pos ⟨by omega, rfl⟩, if_pos (by omega)]; exact q8.symm
        · rw [if_neg (by omega), if_neg (by omega)]; exact q.2.2.2
    · rw [hP, if_neg (by omega)]; exact b5 m' h1 h2
  · rw [if_neg c0] at hf
    rw [ev21, if_neg c0] at hg
    obtain ⟨S17, f17, hf⟩ := obind_some hf
    obtain ⟨-, hg⟩ := oif_some hg
    obtain ⟨v24, ev24, hg⟩ := elet_some hg
    rw [e11, ui_at] at ev24
    obtain ⟨v25, ev25, hg⟩ := elet_some hg
    rw [ev24, nI_pred] at ev25
    rw [ev25, e11] at hg
    obtain ⟨-, hg⟩ := oif_some hg
    have fail : ∀ {k' : Nat} {r' : Int32} {T' : AT}, g_X3_failAt (uI T3 6 1 (nI (i + 1 + 1))) 6 (nI (i + 1)) 3 = some (k', r', T') → k' = 3 ∧ ERq T' S17 := by
      intro k' r' T' g
      obtain ⟨⟨h1, h2, h3, ⟨h4, h5, h6, h7, h8, h9⟩, h10, h11⟩, hh⟩ := p3
      have pq : ∀ j, T3.2.2.1 3 j = (uI T3 6 1 (nI (i + 1 + 1))).2.2.1 3 j := fun j => (ui_ne (.inl (by decide))).symm
      have q := r_fault hh.2.1 f17
      have t2 : TXR (uI T3 6 1 (nI (i + 1 + 1))) := h2
      have t4 : (uI T3 6 1 (nI (i + 1 + 1))).2.2.1 1 5 = nI c := (ui_ne (.inl (by decide))).trans h4
      have t7 : ∀ j, j < c → (uI T3 6 1 (nI (i + 1 + 1))).2.2.1 4 j = nI (pst b n j) := fun j hj => (ui_ne (.inl (by decide))).trans (h7 j hj).2.1
      obtain ⟨a1, a2, a3⟩ := k_failT t2 t4 h6 t7 h10 g
      refine ⟨a1, ?_⟩
      rw [q]
      refine ⟨?_, ?_, ?_⟩
      · rw [mi_ne (by decide), mi_at]; decide
      · rw [mi_ne (by decide), mi_at, a2]
      · rw [mi_at, a3]; exact hh.2.2.2.2.1.symm
    rcases othr_k hg with ⟨r9, g9, -⟩ | ⟨r9, T9, g9, -⟩
    · obtain ⟨a1, a2⟩ := fail g9
      exact .inr ⟨a1, by rw [fin42 a2.1 hf]; exact a2⟩
    · exact absurd (fail g9).1 (by decide)
set_option maxHeartbeats 400000 in
theorem l_off (h : PRq b n c i T S) (hk : kd b n (pst b n i) = 1) (hs : s = 478 ∨ s = 656) (hF : SRF s T) (hC : SCNq s T (S.2.1 11) (S.2.1 13)) (hg : g_X3_parseOff T 6 s = some (k, r, T1)) (hf : fr_readOff S = some S1) : LNq b n c i s T T1 S1 k := by
  have hsb : 478 ≤ s ∧ s ≤ 656 := by omega
  have z0 : (0 : Int32).toInt = 0 := by decide
  obtain ⟨gH, gM, gG, ⟨mc, b1, b2, b3, b4⟩, gW, gF, gT, gZ, gD, gX⟩ := hC
  unfold fr_readOff at hf
  obtain ⟨S2, fS2, hf⟩ := obind_some hf
  obtain ⟨v5, ev5, hf⟩ := elet_some hf
  obtain ⟨v6, ev6, hf⟩ := elet_some hf
  obtain ⟨r10, S7, fS7, hf⟩ := obind2_some hf
  obtain ⟨v11, ev11, hf⟩ := elet_some hf
  -- a fault stays
  have fin42 : ∀ {U : MS} {l : Int32}, 0 < (U.1 5).toInt → fr_readOff_b42 U l = some S1 → S1 = U := by
    intro U l q hf
    unfold fr_readOff_b42 at hf
    obtain ⟨U2, f2, hf⟩ := obind_some hf
    rw [st_next q f2] at hf
    obtain ⟨w9, e9, hf⟩ := elet_some hf
    rw [if_neg (st_ne q e9)] at hf
    exact (osome1 (show some U = some S1 from hf)).symm
  have fin_S7 : 0 < (S7.1 5).toInt → S1 = S7 := fun q => by
    rw [if_neg (st_ne q ev11)] at hf
    exact fin42 q hf
  have fin_S2 : 0 < (S2.1 5).toInt → S1 = S2 := fun q => by
    have e := st_look q fS7
    exact (fin_S7 (by rw [e]; exact q)).trans e
  unfold g_X3_parseOff at hg
  obtain ⟨-, hg⟩ := oif_some hg
  rcases othr_k hg with ⟨r9, g9, z9⟩ | ⟨r5, T3, g9, hg⟩
  · rcases k_line h hk (by decide) g9 (.inl ⟨rfl, rfl⟩) fS2 with ⟨z, -⟩ | ⟨z1, z2⟩
    · exact absurd z z9
    · exact .inr ⟨z1, by rw [fin_S2 z2.1]; exact z2⟩
  rcases k_line h hk (by decide) g9 (.inl ⟨rfl, rfl⟩) fS2 with ⟨-, p3, t3, m2, -⟩ | ⟨z1, -⟩
  rotate_left
  · exact absurd z1 (by decide)
  have P2 : S2.2 = S.2 := m2.1
  obtain ⟨-, hg⟩ := oif_some hg
  obtain ⟨v8, ev8, hg⟩ := elet_some hg
  rw [t3.2.2.2 _ _ (by omega), b2] at ev8
  obtain ⟨v9, ev9, hg⟩ := elet_some hg
  rw [P2, b3] at ev5
  rw [ev5] at ev6
  rw [ev8] at ev9
  have e69 : v6 = v9 := ev6.trans ev9.symm
  have q9 := nI_m1 ev9 (by omega)
  obtain ⟨-, hg⟩ := oif_some hg
  rw [e69] at fS7
  rcases othr_k hg with ⟨r9, g9, z9⟩ | ⟨r13, T11, g9, hg⟩
  · rcases k_look p3 g9 fS7 with ⟨z, -⟩ | ⟨z1, z2⟩
    · exact absurd z z9
    · exact .inr ⟨z1, by rw [fin_S7 z2.1]; exact z2⟩
  rcases k_look p3 g9 fS7 with ⟨-, qr, lo, hi, k2, e11, e7⟩ | ⟨z1, -⟩
  rotate_left
  · exact absurd z1 (by decide)
  rw [e7] at ev11 hf fin_S7
  rw [p3.2.2.1] at ev11
  rw [if_pos ev11] at hf
  obtain ⟨m, hm, em⟩ := nI_of01 (x := r13) (a := mc) (by omega) (by omega) (by omega)
  obtain ⟨v13, ev13, hf⟩ := elet_some hf
  rw [qr, em] at ev13
  have k13 : v13 = nI (25 + m) := ev13.trans (nI_add 25 m)
  obtain ⟨-, hf⟩ := oif_some hf
  obtain ⟨v15, ev15, hf⟩ := elet_some hf
  rw [k13, nI_clamp (by omega), P2] at ev15
  have t11 : TFq T T11 := by rw [e11]; exact t3.tr tf6
  have r11 : T11.2.2.2.2 = T.2.2.2.2 := congrArg (fun x => x.2) t11.2.2.1
  obtain ⟨-, hg⟩ := oif_some hg
  obtain ⟨n16, en16, hg⟩ := obind_some hg
  rw [r11, hF.2.2.1] at en16
  cases en16
  obtain ⟨-, hg⟩ := oif_some hg
  obtain ⟨-, hg⟩ := oif_some hg
  obtain ⟨n19, en19, hg⟩ := obind_some hg
  rw [r11, em, nI_clamp (by omega), hF.2.2.2.2.2.2.2.2.2.1 m (by omega)] at en19
  cases en19
  obtain ⟨-, hg⟩ := oif_some hg
  obtain ⟨v21, ev21, hg⟩ := elet_some hg
  rw [t11.2.2.2 _ _ (by omega)] at ev21
  have off := (b4 m hm).2.2.2.2.2.1
  rw [← ev21, ← ev15] at off
  by_cases c0 : v21 = 0
  rotate_left
  · have c15 : v15 = 0 := by
      rcases off with q | q
      · exact absurd q.1 c0
      · exact q.2
    rw [if_pos c15] at hf
    rw [if_neg c0] at hg
    obtain ⟨S17, f17, hf⟩ := obind_some hf
    obtain ⟨-, hg⟩ := oif_some hg
    obtain ⟨v24, ev24, hg⟩ := elet_some hg
    rw [e11, ui_at] at ev24
    obtain ⟨v25, ev25, hg⟩ := elet_some hg
    rw [ev24, nI_pred] at ev25
    rw [ev25, e11] at hg
    obtain ⟨-, hg⟩ := oif_some hg
    have fail : ∀ {k' : Nat} {r' : Int32} {T' : AT}, g_X3_failAt (uI T3 6 1 (nI (i + 1 + 1))) 6 (nI (i + 1)) 3 = some (k', r', T') → k' = 3 ∧ ERq T' S17 := by
      intro k' r' T' g
      obtain ⟨⟨h1, h2, h3, ⟨h4, h5, h6, h7, h8, h9⟩, h10, h11⟩, hh⟩ := p3
      have pq : ∀ j, T3.2.2.1 3 j = (uI T3 6 1 (nI (i + 1 + 1))).2.2.1 3 j := fun j => (ui_ne (.inl (by decide))).symm
      have q := r_fault hh.2.1 f17
      have t2 : TXR (uI T3 6 1 (nI (i + 1 + 1))) := h2
      have t4 : (uI T3 6 1 (nI (i + 1 + 1))).2.2.1 1 5 = nI c := (ui_ne (.inl (by decide))).trans h4
      have t7 : ∀ j, j < c → (uI T3 6 1 (nI (i + 1 + 1))).2.2.1 4 j = nI (pst b n j) := fun j hj => (ui_ne (.inl (by decide))).trans (h7 j hj).2.1
      obtain ⟨a1, a2, a3⟩ := k_failT t2 t4 h6 t7 h10 g
      refine ⟨a1, ?_⟩
      rw [q]
      refine ⟨?_, ?_, ?_⟩
      · rw [mi_ne (by decide), mi_at]; decide
      · rw [mi_ne (by decide), mi_at, a2]
      · rw [mi_at, a3]; exact hh.2.2.2.2.1.symm
    rcases othr_k hg with ⟨r9, g9, -⟩ | ⟨r9, T9, g9, -⟩
    · obtain ⟨a1, a2⟩ := fail g9
      exact .inr ⟨a1, by rw [fin42 a2.1 hf]; exact a2⟩
    · exact absurd (fail g9).1 (by decide)
  · have c15 : ¬ v15 = 0 := by
      rcases off with q | q
      · rw [q.2]; decide
      · rw [c0] at q; exact absurd q.1 (by decide)
    rw [if_neg c15] at hf
    rw [if_pos c0] at hg
    unfold fr_readOff_b42 at hf
    obtain ⟨U2, f2, hf⟩ := obind_some hf
    obtain ⟨p11, m11⟩ := pr_adv p3 (by rw [k2]; decide) f2
    rw [← e11] at p11
    obtain ⟨w9, e9, hf⟩ := elet_some hf
    unfold g_X3_parseOff_b41 at hg
    obtain ⟨-, hg⟩ := oif_some hg
    obtain ⟨n3, en3, hg⟩ := obind_some hg
    rw [r11, hF.2.2.1] at en3
    cases en3
    obtain ⟨-, hg⟩ := oif_some hg
    obtain ⟨-, hg⟩ := oif_some hg
    obtain ⟨n6, en6, hg⟩ := obind_some hg
    rw [r11, em, nI_clamp (by omega), hF.2.2.2.2.2.2.2.2.2.1 m (by omega)] at en6
    cases en6
    obtain ⟨-, hg⟩ := oif_some hg
    obtain ⟨T13, e13, hg⟩ := elet_some hg
    rw [if_pos (e9.trans p11.2.2.1)] at hf
    obtain ⟨w11, e11', hf⟩ := elet_some hf
    rw [qr, em] at e11'
    have k11 : w11 = nI (25 + m) := e11'.trans (nI_add 25 m)
    obtain ⟨-, hf⟩ := oif_some hf
    obtain ⟨U13, e13', hf⟩ := elet_some hf
    rw [k11, nI_clamp (by omega)] at e13'
    have eS := osome1 (show some U13 = some S1 from hf)
    have g := osome3 hg
    rw [← g.2.2, ← eS]
    have hI : ∀ m' j : Nat, m' ≠ 6 → T13.2.2.1 m' j = if m' = s + 172 + m ∧ j = 9 then 1 else T.2.2.1 m' j := fun m' j h6 => by rw [e13, ui_get, t11.2.2.2 m' j h6]
    have PU : U2.2 = S.2 := m11.1.trans P2
    have hP : ∀ x : Nat, U13.2.1 11 x = S.2.1 11 x := fun x => by rw [e13', mf_ne (by decide), PU]
    have hD : ∀ x : Nat, U13.2.1 13 x = if x = 25 + m then 0 else S.2.1 13 x := fun x => by rw [e13', mf_at]; show (if x = 25 + m then 0 else U2.2.1 13 x) = _; rw [PU]
    have p13 := pr_uI (m := s + 172 + m) (k := 9) (v := 1) p11 (by omega)
    rw [← e13] at p13
    have p14 := pr_mfe p13 e13' (by decide)
    have r13 : T13.2.2.2.2 = T.2.2.2.2 := by rw [e13]; exact r11
    have iN : ∀ m' j : Nat, m' ≠ 6 → m' ≠ s + 172 + m ∨ j ≠ 9 → T13.2.2.1 m' j = T.2.2.1 m' j := fun m' j h6 h7 => by rw [hI m' j h6, if_neg (by omega)]
    refine .inl ⟨g.1.symm, ⟨_, by omega, p14⟩, ⟨gH.cg (fun j hj => iN _ _ (by omega) (by omega)) (fun j _ => hP j), gM.cg (iN _ _ (by omega) (by omega)) (fun m' j _ _ => iN _ _ (by omega) (by omega)) (fun j _ => hP j), gG.cg (fun k hk => iN _ _ (by omega) (by omega)) (fun k => iN _ _ (by omega) (by omega)) (fun j _ _ => hP j), ?_, gW.cg (iN _ _ (by omega) (by omega)) (fun k => iN _ _ (by omega) (by omega)) (fun k => iN _ _ (by omega) (by omega)) (fun j _ _ => hP j), gF.cg (iN _ _ (by omega) (by omega)) (hP _), gT.cg (iN _ _ (by omega) (by omega)) (fun k => iN _ _ (by omega) (by omega)) (fun j _ _ => hP j), gZ.cg (iN _ _ (by omega) (by omega)) (fun m' j _ _ => iN _ _ (by omega) (by omega)) (fun j _ _ => hP j), gD.cg (iN _ _ (by omega) (by omega)) (fun k => iN _ _ (by omega) (by omega)) (fun j _ _ => hP j), fun j hj => by rw [hD, if_neg (by omega)]; exact gX j hj⟩, r13⟩
    refine ⟨mc, b1, (iN _ _ (by omega) (by omega)).trans b2, (hP _).trans b3, fun k' hk' => ?_⟩
    have q := b4 k' hk'
    rw [iN (s + 172 + k') 0 (by omega) (by omega), iN (s + 172 + k') 5 (by omega) (by omega), iN (s + 172 + k') 6 (by omega) (by omega), iN (s + 172 + k') 7 (by omega) (by omega), iN (s + 172 + k') 8 (by omega) (by omega), iN (s + 172 + k') 1 (by omega) (by omega), iN (s + 172 + k') 2 (by omega) (by omega), iN (s + 172 + k') 3 (by omega) (by omega), iN (s + 172 + k') 4 (by omega) (by omega), hP, hP, hP, hP, hP, hD (31 + k'), hD (37 + k'), hD (43 + k'), hD (49 + k'), if_neg (show ¬ 31 + k' = 25 + m by omega), if_neg (show ¬ 37 + k' = 25 + m by omega), if_neg (show ¬ 43 + k' = 25 + m by omega), if_neg (show ¬ 49 + k' = 25 + m by omega)]
    refine ⟨q.1, q.2.1, q.2.2.1, q.2.2.2.1, q.2.2.2.2.1, ?_, q.2.2.2.2.2.2⟩
    by_cases e : k' = m
    · subst e
      right
      rw [hI _ _ (by omega), if_pos ⟨rfl, rfl⟩, hD, if_pos rfl]
      exact ⟨rfl, rfl⟩
    · rw [iN _ _ (by omega) (by omega), hD, if_neg (by omega)]
      exact q.2.2.2.2.2.1
end
