section
/-! 20f.more.lean.txt -/
section
variable {b : Nat → Int32} {n c i k s : Nat} {T T1 : AT} {S S1 : MS} {r : Int32}
/-- only the place of the class and the reference's scalars have moved -/
theorem scn_tf {P D : Nat → Int32} (hs : s = 478 ∨ s = 656) (h : TFq T T1) (q : SCNq s T P D) : SCNq s T1 P D := by
  have e : ∀ m j, m ≠ 6 → T1.2.2.1 m j = T.2.2.1 m j := h.2.2.2
  exact ⟨q.1.cg (fun j _ => e _ _ (by omega)) (fun _ _ => rfl), q.2.1.cg (e _ _ (by omega)) (fun m j _ _ => e _ _ (by omega)) (fun _ _ => rfl), q.2.2.1.cg (fun j _ => e _ _ (by omega)) (fun j => e _ _ (by omega)) (fun _ _ _ => rfl), q.2.2.2.1.cg (e _ _ (by omega)) (fun m j _ _ => e _ _ (by omega)) (fun _ _ => rfl) (fun _ _ _ => rfl), q.2.2.2.2.1.cg (e _ _ (by omega)) (fun j => e _ _ (by omega)) (fun j => e _ _ (by omega)) (fun _ _ _ => rfl), q.2.2.2.2.2.1.cg (e _ _ (by omega)) rfl, q.2.2.2.2.2.2.1.cg (e _ _ (by omega)) (fun j => e _ _ (by omega)) (fun _ _ _ => rfl), q.2.2.2.2.2.2.2.1.cg (e _ _ (by omega)) (fun m j _ _ => e _ _ (by omega)) (fun _ _ _ => rfl), q.2.2.2.2.2.2.2.2.1.cg (e _ _ (by omega)) (fun j => e _ _ (by omega)) (fun _ _ _ => rfl), q.2.2.2.2.2.2.2.2.2⟩
theorem nI_of01 {x : Int32} {a : Nat} (h0 : 0 ≤ x.toInt) (h1 : x.toInt ≤ (a : Int) - 1) (ha : a ≤ 2000) : ∃ m : Nat, m < a ∧ x = nI m := by
  refine ⟨x.toInt.toNat, by omega, Int32.toInt_inj.mp ?_⟩
  have e : (nI x.toInt.toNat).toInt = (x.toInt.toNat : Int) := nI_toInt (by omega)
  rw [e]
  omega
theorem nI_m1 {x : Int32} {a : Nat} (h : x = nI a - 1) (ha : a ≤ 2000) : x.toInt = (a : Int) - 1 := by
  have e : (nI a).toInt = (a : Int) := nI_toInt (by omega)
  have z1 : (1 : Int32).toInt = 1 := by decide
  rw [i_sub h (by omega) (by omega), e, z1]
set_option maxHeartbeats 400000 in
theorem l_clock (h : PRq b n c i T S) (hk : kd b n (pst b n i) = 1) (hs : s = 478 ∨ s = 656) (hF : SRF s T) (hC : SCNq s T (S.2.1 11) (S.2.1 13)) (hg : g_X3_parseClock T 6 s = some (k, r, T1)) (hf : fr_readClock S = some S1) : LNq b n c i s T T1 S1 k := by
  have z0 : (0 : Int32).toInt = 0 := by decide
  obtain ⟨gH, ⟨mc, b1, b2, b3, b4, b5⟩, gG, gS, gW, gF, gT, gZ, gD, gX⟩ := hC
  unfold fr_readClock at hf
  obtain ⟨S2, fS2, hf⟩ := obind_some hf
  obtain ⟨v5, ev5, hf⟩ := elet_some hf
  obtain ⟨v6, ev6, hf⟩ := elet_some hf
  obtain ⟨r10, S7, fS7, hf⟩ := obind2_some hf
  obtain ⟨v11, ev11, hf⟩ := elet_some hf
  -- a fault stays
  have fin42 : ∀ {U : MS} {l : Int32}, 0 < (U.1 5).toInt → fr_readClock_b42 U l = some S1 → S1 = U := by
    intro U l q hf
    unfold fr_readClock_b42 at hf
    obtain ⟨U2, f2, hf⟩ := obind_some hf
    rw [st_next q f2] at hf
    obtain ⟨w8, U5, f5, hf⟩ := obind2_some hf
    rw [st_number q f5] at hf
    obtain ⟨w9, e9, hf⟩ := elet_some hf
    rw [if_neg (st_ne q e9)] at hf
    exact (osome1 (show some U = some S1 from hf)).symm
  have fin_S7 : 0 < (S7.1 5).toInt → S1 = S7 := fun q => by
    rw [if_neg (st_ne q ev11)] at hf
    exact fin42 q hf
  have fin_S2 : 0 < (S2.1 5).toInt → S1 = S2 := fun q => by
    have e := st_look q fS7
    exact (fin_S7 (by rw [e]; exact q)).trans e
  unfold g_X3_parseClock at hg
  obtain ⟨-, hg⟩ := oif_some hg
  rcases othr_k hg with ⟨r9, g9, z9⟩ | ⟨r5, T3, g9, hg⟩
  · rcases k_line h hk (by decide) g9 (.inl ⟨rfl, rfl⟩) fS2 with ⟨z, -⟩ | ⟨z1, z2⟩
    · exact absurd z z9
    · exact .inr ⟨z1, by rw [fin_S2 z2.1]; exact z2⟩
  rcases k_line h hk (by decide) g9 (.inl ⟨rfl, rfl⟩) fS2 with ⟨-, p3, t3, m2, -⟩ | ⟨z1, -⟩
  rotate_left
  · exact absurd z1 (by decide)
  have P2 : S2.2 = S.2 := m2.1
  obtain ⟨-, hg⟩ := oif_some hg
  obtain ⟨v8, ev8, hg⟩ := elet_some hg
  rw [t3.2.2.2 _ _ (by omega), b2] at ev8
  obtain ⟨v9, ev9, hg⟩ := elet_some hg
  rw [P2, b3] at ev5
  rw [ev5] at ev6
  rw [ev8] at ev9
  have e69 : v6 = v9 := ev6.trans ev9.symm
  have q9 := nI_m1 ev9 (by omega)
  obtain ⟨-, hg⟩ := oif_some hg
  rw [e69] at fS7
  rcases othr_k hg with ⟨r9, g9, z9⟩ | ⟨r13, T11, g9, hg⟩
  · rcases k_look p3 g9 fS7 with ⟨z, -⟩ | ⟨z1, z2⟩
    · exact absurd z z9
    · exact .inr ⟨z1, by rw [fin_S7 z2.1]; exact z2⟩
  rcases k_look p3 g9 fS7 with ⟨-, qr, lo, hi, k2, e11, e7⟩ | ⟨z1, -⟩
  rotate_left
  · exact absurd z1 (by decide)
  rw [e7] at ev11 hf fin_S7
  rw [p3.2.2.1] at ev11
  rw [if_pos ev11] at hf
  obtain ⟨m, hm, em⟩ := nI_of01 (x := r13) (a := mc) (by omega) (by omega) (by omega)
  obtain ⟨v13, ev13, hf⟩ := elet_some hf
  rw [qr, em] at ev13
  have k13 : v13 = nI (83 + m) := ev13.trans (nI_add 83 m)
  obtain ⟨-, hf⟩ := oif_some hf
  obtain ⟨v15, ev15, hf⟩ := elet_some hf
  rw [k13, nI_clamp (by omega), P2] at ev15
  have t11 : TFq T T11 := by rw [e11]; exact t3.tr tf6
  have r11 : T11.2.2.2.2 = T.2.2.2.2 := congrArg (fun x => x.2) t11.2.2.1
  obtain ⟨-, hg⟩ := oif_some hg
  obtain ⟨n16, en16, hg⟩ := obind_some hg
  rw [r11, hF.1] at en16
  cases en16
  obtain ⟨-, hg⟩ := oif_some hg
  obtain ⟨-, hg⟩ := oif_some hg
  obtain ⟨n19, en19, hg⟩ := obind_some hg
  rw [r11, em, nI_clamp (by omega), hF.2.2.2.2.2.2.2.2.1 m (by omega)] at en19
  cases en19
  obtain ⟨-, hg⟩ := oif_some hg
  obtain ⟨v21, ev21, hg⟩ := elet_some hg
  rw [t11.2.2.2 _ _ (by omega), (b4 m hm).2.2.2, ← ev15] at ev21
  by_cases c0 : v15 ≤ 0
  · rw [if_pos c0] at hf
    rw [ev21, if_pos c0] at hg
    unfold fr_readClock_b42 at hf
    obtain ⟨U2, f2, hf⟩ := obind_some hf
    obtain ⟨p11, m11⟩ := pr_adv p3 (by rw [k2]; decide) f2
    rw [← e11] at p11
    obtain ⟨w8, U5, f5, hf⟩ := obind2_some hf
    obtain ⟨w9, e9, hf⟩ := elet_some hf
    unfold g_X3_parseClock_b41 at hg
    obtain ⟨-, hg⟩ := oif_some hg
    obtain ⟨n3, en3, hg⟩ := obind_some hg
    rw [r11, hF.1] at en3
    cases en3
    obtain ⟨-, hg⟩ := oif_some hg
    obtain ⟨-, hg⟩ := oif_some hg
    obtain ⟨n6, en6, hg⟩ := obind_some hg
    rw [r11, em, nI_clamp (by omega), hF.2.2.2.2.2.2.2.2.1 m (by omega)] at en6
    cases en6
    obtain ⟨-, hg⟩ := oif_some hg
    rcases othr_k hg with ⟨r9, g9, z9⟩ | ⟨r10', T8, g9, hg⟩
    · rcases k_number p11 g9 f5 with ⟨z, -⟩ | ⟨z1, z2⟩
      · exact absurd z z9
      · rw [if_neg (st_ne z2.1 e9)] at hf
        have e := osome1 (show some U5 = some S1 from hf)
        exact .inr ⟨z1, by rw [← e]; exact z2⟩
    rcases k_number p11 g9 f5 with ⟨-, q8, -, -, p8, t8, m8⟩ | ⟨z1, -⟩
    rotate_left
    · exact absurd z1 (by decide)
    obtain ⟨-, hg⟩ := oif_some hg
    obtain ⟨T13, e13, hg⟩ := elet_some hg
    rw [if_pos (e9.trans p8.2.2.1)] at hf
    obtain ⟨w11, e11', hf⟩ := elet_some hf
    rw [qr, em] at e11'
    have k11 : w11 = nI (83 + m) := e11'.trans (nI_add 83 m)
    obtain ⟨-, hf⟩ := oif_some hf
    obtain ⟨U13, e13', hf⟩ := elet_some hf
    rw [k11, nI_clamp (by omega)] at e13'
    have eS := osome1 (show some U13 = some S1 from hf)
    have g := osome3 hg
    rw [← g.2.2, ← eS]
    have hI : ∀ m' j : Nat, m' ≠ 6 → T13.2.2.1 m' j = if m' = s + 160 + m ∧ j = 3 then r10' else T.2.2.1 m' j := fun m' j h6 => by rw [e13, ui_get, t8.2.2.2 m' j h6, t11.2.2.2 m' j h6]
    have PU : U5.2 = S.2 := m8.1.trans (m11.1.trans P2)
    have hP : ∀ x : Nat, U13.2.1 11 x = if x = 83 + m then w8 else S.2.1 11 x := fun x => by rw [e13', mf_at]; show (if x = 83 + m then w8 else U5.2.1 11 x) = _; rw [PU]
    have hD : ∀ x : Nat, U13.2.1 13 x = S.2.1 13 x := fun x => by rw [e13', mf_ne (by decide), PU]
    have p13 := pr_uI (m := s + 160 + m) (k := 3) (v := r10') p8 (by omega)
    rw [← e13] at p13
    have p14 := pr_mfe p13 e13' (by decide)
    have r13 : T13.2.2.2.2 = T.2.2.2.2 := by rw [e13]; exact (congrArg (fun x => x.2) t8.2.2.1).trans r11
    refine .inl ⟨g.1.symm, ⟨_, by omega, p14⟩, ⟨gH.cg (fun j hj => by rw [hI _ _ (by omega)]; simp (disch := omega) only [if_neg, if_pos, and_self, and_true, true_and, and_false, false_and, if_true, if_false]) (fun j hj => by rw [hP]; simp (disch := omega) only [if_neg, if_pos, and_self, and_true, true_and, and_false, false_and, if_true, if_false]), ?_, gG.cg (fun k hk => by rw [hI _ _ (by omega)]; simp (disch := omega) only [if_neg, if_pos, and_self, and_true, true_and, and_false, false_and, if_true, if_false]) (fun k => by rw [hI _ _ (by omega)]; simp (disch := omega) only [if_neg, if_pos, and_self, and_true, true_and, and_false, false_and, if_true, if_false]) (fun j hj hj2 => by rw [hP]; simp (disch := omega) only [if_neg, if_pos, and_self, and_true, true_and, and_false, false_and, if_true, if_false]), gS.cg (by rw [hI _ _ (by omega)]; simp (disch := omega) only [if_neg, if_pos, and_self, and_true, true_and, and_false, false_and, if_true, if_false]) (fun m' k hm hm2 => by rw [hI _ _ (by omega)]; simp (disch := omega) only [if_neg, if_pos, and_self, and_true, true_and, and_false, false_and, if_true, if_false]) (fun j hj => by rw [hP]; simp (disch := omega) only [if_neg, if_pos, and_self, and_true, true_and, and_false, false_and, if_true, if_false]) (fun j _ _ => hD j), gW.cg (by rw [hI _ _ (by omega)]; simp (disch := omega) only [if_neg, if_pos, and_self, and_true, true_and, and_false, false_and, if_true, if_false]) (fun k => by rw [hI _ _ (by omega)]; simp (disch := omega) only [if_neg, if_pos, and_self, and_true, true_and, and_false, false_and, if_true, if_false]) (fun k => by rw [hI _ _ (by omega)]; simp (disch := omega) only [if_neg, if_pos, and_self, and_true, true_and, and_false, false_and, if_true, if_false]) (fun j hj hj2 => by rw [hP]; simp (disch := omega) only [if_neg, if_pos, and_self, and_true, true_and, and_false, false_and, if_true, if_false]), gF.cg (by rw [hI _ _ (by omega)]; simp (disch := omega) only [if_neg, if_pos, and_self, and_true, true_and, and_false, false_and, if_true, if_false]) (by rw [hP]; simp (disch := omega) only [if_neg, if_pos, and_self, and_true, true_and, and_false, false_and, if_true, if_false]), gT.cg (by rw [hI _ _ (by omega)]; simp (disch := omega) only [if_neg, if_pos, and_self, and_true, true_and, and_false, false_and, if_true, if_false]) (fun k => by rw [hI _ _ (by omega)]; simp (disch := omega) only [if_neg, if_pos, and_self, and_true, true_and, and_false, false_and, if_true, if_false]) (fun j hj hj2 => by rw [hP]; simp (disch := omega) only [if_neg, if_pos, and_self, and_true, true_and, and_false, false_and, if_true, if_false]), gZ.cg (by rw [hI _ _ (by omega)]; simp (disch := omega) only [if_neg, if_pos, and_self, and_true, true_and, and_false, false_and, if_true, if_false]) (fun m' k hm hm2 => by rw [hI _ _ (by omega)]; simp (disch := omega) only [if_neg, if_pos, and_self, and_true, true_and, and_false, false_and, if_true, if_false]) (fun j hj hj2 => by rw [hP]; simp (disch := omega) only [if_neg, if_pos, and_self, and_true, true_and, and_false, false_and, if_true, if_false]), gD.cg (by rw [hI _ _ (by omega)]; simp (disch := omega) only [if_neg, if_pos, and_self, and_true, true_and, and_false, false_and, if_true, if_false]) (fun k => by rw [hI _ _ (by omega)]; simp (disch := omega) only [if_neg, if_pos, and_self, and_true, true_and, and_false, false_and, if_true, if_false]) (fun j hj hj2 => by rw [hP]; simp (disch := omega) only [if_neg, if_pos, and_self, and_true, true_and, and_false, false_and, if_true, if_false]), fun j hj => (hD j).trans (gX j hj)⟩, r13⟩
    refine ⟨mc, b1, ?_, ?_, fun m' hm' => ?_, fun m' h1 h2 => ?_⟩
    · rw [hI _ _ (by omega)]; simp (disch := omega) only [if_neg, if_pos, and_self, and_true, true_and, and_false, false_and, if_true, if_false]; exact b2
    · rw [hP]; simp (disch := omega) only [if_neg, if_pos, and_self, and_true, true_and, and_false, false_and, if_true, if_false]; exact b3
    · have q := b4 m' hm'
      refine ⟨?_, ?_, ?_, ?_⟩
      · rw [hI _ _ (by omega), hP]; simp (disch := omega) only [if_neg, if_pos, and_self, and_true, true_and, and_false, false_and, if_true, if_false]; exact q.1
      · rw [hI _ _ (by omega), hP]; simp (disch := omega) only [if_neg, if_pos, and_self, and_true, true_and, and_false, false_and, if_true, if_false]; exact q.2.1
      · rw [hI _ _ (by omega), hP]; simp (disch := omega) only [if_neg, if_pos, and_self, and_true, true_and, and_false, false_and, if_true, if_false]; exact q.2.2.1
      · rw [hI _ _ (by omega), hP]
        by_cases e : m' = m
        · rw [if_pos ⟨by omega, rfl⟩, if_pos (by omega)]; exact q8.symm
        · rw [if_neg (by omega), if_neg (by omega)]; exact q.2.2.2
    · rw [hP, if_neg (by omega)]; exact b5 m' h1 h2
  · rw [if_neg c0] at hf
    rw [ev21, if_neg c0] at hg
    obtain ⟨S17, f17, hf⟩ := obind_some hf
    obtain ⟨-, hg⟩ := oif_some hg
    obtain ⟨v24, ev24, hg⟩ := elet_some hg
    rw [e11, ui_at] at ev24
    obtain ⟨v25, ev25, hg⟩ := elet_some hg
    rw [ev24, nI_pred] at ev25
    rw [ev25, e11] at hg
    obtain ⟨-, hg⟩ := oif_some hg
    have fail : ∀ {k' : Nat} {r' : Int32} {T' : AT}, g_X3_failAt (uI T3 6 1 (nI (i + 1 + 1))) 6 (nI (i + 1)) 3 = some (k', r', T') → k' = 3 ∧ ERq T' S17 := by
      intro k' r' T' g
      obtain ⟨⟨h1, h2, h3, ⟨h4, h5, h6, h7, h8, h9⟩, h10, h11⟩, hh⟩ := p3
      have pq : ∀ j, T3.2.2.1 3 j = (uI T3 6 1 (nI (i + 1 + 1))).2.2.1 3 j := fun j => (ui_ne (.inl (by decide))).symm
      have q := r_fault hh.2.1 f17
      have t2 : TXR (uI T3 6 1 (nI (i + 1 + 1))) := h2
      have t4 : (uI T3 6 1 (nI (i + 1 + 1))).2.2.1 1 5 = nI c := (ui_ne (.inl (by decide))).trans h4
      have t7 : ∀ j, j < c → (uI T3 6 1 (nI (i + 1 + 1))).2.2.1 4 j = nI (pst b n j) := fun j hj => (ui_ne (.inl (by decide))).trans (h7 j hj).2.1
      obtain ⟨a1, a2, a3⟩ := k_failT t2 t4 h6 t7 h10 g
      refine ⟨a1, ?_⟩
      rw [q]
      refine ⟨?_, ?_, ?_⟩
      · rw [mi_ne (by decide), mi_at]; decide
      · rw [mi_ne (by decide), mi_at, a2]
      · rw [mi_at, a3]; exact hh.2.2.2.2.1.symm
    rcases othr_k hg with ⟨r9, g9, -⟩ | ⟨r9, T9, g9, -⟩
    · obtain ⟨a1, a2⟩ := fail g9
      exact .inr ⟨a1, by rw [fin42 a2.1 hf]; exact a2⟩
    · exact absurd (fail g9).1 (by decide)
set_option maxHeartbeats 400000 in
theorem l_off (h : PRq b n c i T S) (hk : kd b n (pst b n i) = 1) (hs : s = 478 ∨ s = 656) (hF : SRF s T) (hC : SCNq s T (S.2.1 11) (S.2.1 13)) (hg : g_X3_parseOff T 6 s = some (k, r, T1)) (hf : fr_readOff S = some S1) : LNq b n c i s T T1 S1 k := by
  have z0 : (0 : Int32).toInt = 0 := by decide
  obtain ⟨gH, gM, gG, ⟨mc, b1, b2, b3, b4⟩, gW, gF, gT, gZ, gD, gX⟩ := hC
  unfold fr_readOff at hf
  obtain ⟨S2, fS2, hf⟩ := obind_some hf
  obtain ⟨v5, ev5, hf⟩ := elet_some hf
  obtain ⟨v6, ev6, hf⟩ := elet_some hf
  obtain ⟨r10, S7, fS7, hf⟩ := obind2_some hf
  obtain ⟨v11, ev11, hf⟩ := elet_some hf
  -- a fault stays
  have fin42 : ∀ {U : MS} {l : Int32}, 0 < (U.1 5).toInt → fr_readOff_b42 U l = some S1 → S1 = U := by
    intro U l q hf
    unfold fr_readOff_b42 at hf
    obtain ⟨U2, f2, hf⟩ := obind_some hf
    rw [st_next q f2] at hf
    obtain ⟨w9, e9, hf⟩ := elet_some hf
    rw [if_neg (st_ne q e9)] at hf
    exact (osome1 (show some U = some S1 from hf)).symm
  have fin_S7 : 0 < (S7.1 5).toInt → S1 = S7 := fun q => by
    rw [if_neg (st_ne q ev11)] at hf
    exact fin42 q hf
  have fin_S2 : 0 < (S2.1 5).toInt → S1 = S2 := fun q => by
    have e := st_look q fS7
    exact (fin_S7 (by rw [e]; exact q)).trans e
  unfold g_X3_parseOff at hg
  obtain ⟨-, hg⟩ := oif_some hg
  rcases othr_k hg with ⟨r9, g9, z9⟩ | ⟨r5, T3, g9, hg⟩
  · rcases k_line h hk (by decide) g9 (.inl ⟨rfl, rfl⟩) fS2 with ⟨z, -⟩ | ⟨z1, z2⟩
    · exact absurd z z9
    · exact .inr ⟨z1, by rw [fin_S2 z2.1]; exact z2⟩
  rcases k_line h hk (by decide) g9 (.inl ⟨rfl, rfl⟩) fS2 with ⟨-, p3, t3, m2, -⟩ | ⟨z1, -⟩
  rotate_left
  · exact absurd z1 (by decide)
  have P2 : S2.2 = S.2 := m2.1
  obtain ⟨-, hg⟩ := oif_some hg
  obtain ⟨v8, ev8, hg⟩ := elet_some hg
  rw [t3.2.2.2 _ _ (by omega), b2] at ev8
  obtain ⟨v9, ev9, hg⟩ := elet_some hg
  rw [P2, b3] at ev5
  rw [ev5] at ev6
  rw [ev8] at ev9
  have e69 : v6 = v9 := ev6.trans ev9.symm
  have q9 := nI_m1 ev9 (by omega)
  obtain ⟨-, hg⟩ := oif_some hg
  rw [e69] at fS7
  rcases othr_k hg with ⟨r9, g9, z9⟩ | ⟨r13, T11, g9, hg⟩
  · rcases k_look p3 g9 fS7 with ⟨z, -⟩ | ⟨z1, z2⟩
    · exact absurd z z9
    · exact .inr ⟨z1, by rw [fin_S7 z2.1]; exact z2⟩
  rcases k_look p3 g9 fS7 with ⟨-, qr, lo, hi, k2, e11, e7⟩ | ⟨z1, -⟩
  rotate_left
  · exact absurd z1 (by decide)
  rw [e7] at ev11 hf fin_S7
  rw [p3.2.2.1] at ev11
  rw [if_pos ev11] at hf
  obtain ⟨m, hm, em⟩ := nI_of01 (x := r13) (a := mc) (by omega) (by omega) (by omega)
  obtain ⟨v13, ev13, hf⟩ := elet_some hf
  rw [qr, em] at ev13
  have k13 : v13 = nI (25 + m) := ev13.trans (nI_add 25 m)
  obtain ⟨-, hf⟩ := oif_some hf
  obtain ⟨v15, ev15, hf⟩ := elet_some hf
  rw [k13, nI_clamp (by omega), P2] at ev15
  have t11 : TFq T T11 := by rw [e11]; exact t3.tr tf6
  have r11 : T11.2.2.2.2 = T.2.2.2.2 := congrArg (fun x => x.2) t11.2.2.1
  obtain ⟨-, hg⟩ := oif_some hg
  obtain ⟨n16, en16, hg⟩ := obind_some hg
  rw [r11, hF.2.2.1] at en16
  cases en16
  obtain ⟨-, hg⟩ := oif_some hg
  obtain ⟨-, hg⟩ := oif_some hg
  obtain ⟨n19, en19, hg⟩ := obind_some hg
  rw [r11, em, nI_clamp (by omega), hF.2.2.2.2.2.2.2.2.2.1 m (by omega)] at en19
  cases en19
  obtain ⟨-, hg⟩ := oif_some hg
  obtain ⟨v21, ev21, hg⟩ := elet_some hg
  rw [t11.2.2.2 _ _ (by omega)] at ev21
  have off := (b4 m hm).2.2.2.2.2.1
  rw [← ev21, ← ev15] at off
  by_cases c0 : v21 = 0
  rotate_left
  · have c15 : v15 = 0 := by
      rcases off with q | q
      · exact absurd q.1 c0
      · exact q.2
    rw [if_pos c15] at hf
    rw [if_neg c0] at hg
    obtain ⟨S17, f17, hf⟩ := obind_some hf
    obtain ⟨-, hg⟩ := oif_some hg
    obtain ⟨v24, ev24, hg⟩ := elet_some hg
    rw [e11, ui_at] at ev24
    obtain ⟨v25, ev25, hg⟩ := elet_some hg
    rw [ev24, nI_pred] at ev25
    rw [ev25, e11] at hg
    obtain ⟨-, hg⟩ := oif_some hg
    have fail : ∀ {k' : Nat} {r' : Int32} {T' : AT}, g_X3_failAt (uI T3 6 1 (nI (i + 1 + 1))) 6 (nI (i + 1)) 3 = some (k', r', T') → k' = 3 ∧ ERq T' S17 := by
      intro k' r' T' g
      obtain ⟨⟨h1, h2, h3, ⟨h4, h5, h6, h7, h8, h9⟩, h10, h11⟩, hh⟩ := p3
      have pq : ∀ j, T3.2.2.1 3 j = (uI T3 6 1 (nI (i + 1 + 1))).2.2.1 3 j := fun j => (ui_ne (.inl (by decide))).symm
      have q := r_fault hh.2.1 f17
      have t2 : TXR (uI T3 6 1 (nI (i + 1 + 1))) := h2
      have t4 : (uI T3 6 1 (nI (i + 1 + 1))).2.2.1 1 5 = nI c := (ui_ne (.inl (by decide))).trans h4
      have t7 : ∀ j, j < c → (uI T3 6 1 (nI (i + 1 + 1))).2.2.1 4 j = nI (pst b n j) := fun j hj => (ui_ne (.inl (by decide))).trans (h7 j hj).2.1
      obtain ⟨a1, a2, a3⟩ := k_failT t2 t4 h6 t7 h10 g
      refine ⟨a1, ?_⟩
      rw [q]
      refine ⟨?_, ?_, ?_⟩
      · rw [mi_ne (by decide), mi_at]; decide
      · rw [mi_ne (by decide), mi_at, a2]
      · rw [mi_at, a3]; exact hh.2.2.2.2.1.symm
    rcases othr_k hg with ⟨r9, g9, -⟩ | ⟨r9, T9, g9, -⟩
    · obtain ⟨a1, a2⟩ := fail g9
      exact .inr ⟨a1, by rw [fin42 a2.1 hf]; exact a2⟩
    · exact absurd (fail g9).1 (by decide)
  · have c15 : ¬ v15 = 0 := by
      rcases off with q | q
      · rw [q.2]; decide
      · rw [c0] at q; exact absurd q.1 (by decide)
    rw [if_neg c15] at hf
    rw [if_pos c0] at hg
    unfold fr_readOff_b42 at hf
    obtain ⟨U2, f2, hf⟩ := obind_some hf
    obtain ⟨p11, m11⟩ := pr_adv p3 (by rw [k2]; decide) f2
    rw [← e11] at p11
    obtain ⟨w9, e9, hf⟩ := elet_some hf
    unfold g_X3_parseOff_b41 at hg
    obtain ⟨-, hg⟩ := oif_some hg
    obtain ⟨n3, en3, hg⟩ := obind_some hg
    rw [r11, hF.2.2.1] at en3
    cases en3
    obtain ⟨-, hg⟩ := oif_some hg
    obtain ⟨-, hg⟩ := oif_some hg
    obtain ⟨n6, en6, hg⟩ := obind_some hg
    rw [r11, em, nI_clamp (by omega), hF.2.2.2.2.2.2.2.2.2.1 m (by omega)] at en6
    cases en6
    obtain ⟨-, hg⟩ := oif_some hg
    obtain ⟨T13, e13, hg⟩ := elet_some hg
    rw [if_pos (e9.trans p11.2.2.1)] at hf
    obtain ⟨w11, e11', hf⟩ := elet_some hf
    rw [qr, em] at e11'
    have k11 : w11 = nI (25 + m) := e11'.trans (nI_add 25 m)
    obtain ⟨-, hf⟩ := oif_some hf
    obtain ⟨U13, e13', hf⟩ := elet_some hf
    rw [k11, nI_clamp (by omega)] at e13'
    have eS := osome1 (show some U13 = some S1 from hf)
    have g := osome3 hg
    rw [← g.2.2, ← eS]
    have hI : ∀ m' j : Nat, m' ≠ 6 → T13.2.2.1 m' j = if m' = s + 172 + m ∧ j = 9 then 1 else T.2.2.1 m' j := fun m' j h6 => by rw [e13, ui_get, t11.2.2.2 m' j h6]
    have PU : U2.2 = S.2 := m11.1.trans P2
    have hP : ∀ x : Nat, U13.2.1 11 x = S.2.1 11 x := fun x => by rw [e13', mf_ne (by decide), PU]
    have hD : ∀ x : Nat, U13.2.1 13 x = if x = 25 + m then 0 else S.2.1 13 x := fun x => by rw [e13', mf_at]; show (if x = 25 + m then 0 else U2.2.1 13 x) = _; rw [PU]
    have p13 := pr_uI (m := s + 172 + m) (k := 9) (v := 1) p11 (by omega)
    rw [← e13] at p13
    have p14 := pr_mfe p13 e13' (by decide)
    have r13 : T13.2.2.2.2 = T.2.2.2.2 := by rw [e13]; exact r11
    have iN : ∀ m' j : Nat, m' ≠ 6 → m' ≠ s + 172 + m ∨ j ≠ 9 → T13.2.2.1 m' j = T.2.2.1 m' j := fun m' j h6 h7 => by rw [hI m' j h6, if_neg (by omega)]
    refine .inl ⟨g.1.symm, ⟨_, by omega, p14⟩, ⟨gH.cg (fun j hj => iN _ _ (by omega) (by omega)) (fun j _ => hP j), gM.cg (iN _ _ (by omega) (by omega)) (fun m' j _ _ => iN _ _ (by omega) (by omega)) (fun j _ => hP j), gG.cg (fun k hk => iN _ _ (by omega) (by omega)) (fun k => iN _ _ (by omega) (by omega)) (fun j _ _ => hP j), ?_, gW.cg (iN _ _ (by omega) (by omega)) (fun k => iN _ _ (by omega) (by omega)) (fun k => iN _ _ (by omega) (by omega)) (fun j _ _ => hP j), gF.cg (iN _ _ (by omega) (by omega)) (hP _), gT.cg (iN _ _ (by omega) (by omega)) (fun k => iN _ _ (by omega) (by omega)) (fun j _ _ => hP j), gZ.cg (iN _ _ (by omega) (by omega)) (fun m' j _ _ => iN _ _ (by omega) (by omega)) (fun j _ _ => hP j), gD.cg (iN _ _ (by omega) (by omega)) (fun k => iN _ _ (by omega) (by omega)) (fun j _ _ => hP j), fun j hj => by rw [hD, if_neg (by omega)]; exact gX j hj⟩, r13⟩
    refine ⟨mc, b1, (iN _ _ (by omega) (by omega)).trans b2, (hP _).trans b3, fun k' hk' => ?_⟩
    have q := b4 k' hk'
    rw [iN (s + 172 + k') 0 (by omega) (by omega), iN (s + 172 + k') 5 (by omega) (by omega), iN (s + 172 + k') 6 (by omega) (by omega), iN (s + 172 + k') 7 (by omega) (by omega), iN (s + 172 + k') 8 (by omega) (by omega), iN (s + 172 + k') 1 (by omega) (by omega), iN (s + 172 + k') 2 (by omega) (by omega), iN (s + 172 + k') 3 (by omega) (by omega), iN (s + 172 + k') 4 (by omega) (by omega), hP, hP, hP, hP, hP, hD (31 + k'), hD (37 + k'), hD (43 + k'), hD (49 + k'), if_neg (show ¬ 31 + k' = 25 + m by omega), if_neg (show ¬ 37 + k' = 25 + m by omega), if_neg (show ¬ 43 + k' = 25 + m by omega), if_neg (show ¬ 49 + k' = 25 + m by omega)]
    refine ⟨q.1, q.2.1, q.2.2.1, q.2.2.2.1, q.2.2.2.2.1, ?_, q.2.2.2.2.2.2⟩
    by_cases e : k' = m
    · subst e
      right
      rw [hI _ _ (by omega), if_pos ⟨rfl, rfl⟩, hD, if_pos rfl]
      exact ⟨rfl, rfl⟩
    · rw [iN _ _ (by omega) (by omega), hD, if_neg (by omega)]
      exact q.2.2.2.2.2.1
end
end
section
/-! 20g.loops.lean.txt -/
section
variable {b : Nat → Int32} {n c i k s : Nat} {T T1 : AT} {S S1 : MS} {r : Int32}
/-- a weight is added on both sides -/
theorem k_shd {a x : Int32} {j : Nat} {w : Nat} {S0 : MS} (hs : s = 478 ∨ s = 656) (hF : SRF s T) (hC : SCNq s T (S.2.1 11) (S.2.1 13)) (hj : S.2.1 11 118 = nI j) (hj2 : j < 12) (ha : g_X6_addShade T s a = some T1) (p : PRq b n c i T S) (e0 : S0 = mf S 11 (upd (S.2.1 11) (119 + j) a)) (e1 : S1 = mf S0 11 (upd (S0.2.1 11) 118 (nI (j + 1)))) : PRq b n c i T1 S1 ∧ SCNq s T1 (S1.2.1 11) (S1.2.1 13) ∧ T1.2.2.2.2 = T.2.2.2.2 ∧ S1.2.1 11 118 = nI (j + 1) := by
  obtain ⟨gH, gM, gG, gS, gW, gF, gT, gZ, ⟨mc, b1, b2, b3, b4⟩, gX⟩ := hC
  have ej : mc = j := by
    rw [hj] at b3
    exact ((nI_eq (by omega) (by omega)).mp b3).symm
  subst ej
  unfold g_X6_addShade at ha
  obtain ⟨-, ha⟩ := oif_some ha
  obtain ⟨v3, e3, ha⟩ := elet_some ha
  rw [b2] at e3
  rw [if_neg (by rw [e3]; intro q; have := (nI_leI (a := 12) (b := mc) (by omega) (by omega)).mp q; omega)] at ha
  obtain ⟨-, ha⟩ := oif_some ha
  obtain ⟨n6, e6, ha⟩ := obind_some ha
  rw [hF.2.2.2.2.2.2.1] at e6
  cases e6
  obtain ⟨-, ha⟩ := oif_some ha
  obtain ⟨v8, e8, ha⟩ := elet_some ha
  rw [b2] at e8
  obtain ⟨-, ha⟩ := oif_some ha
  obtain ⟨-, ha⟩ := oif_some ha
  obtain ⟨T11, e11, ha⟩ := elet_some ha
  rw [e8, nI_clamp (by omega)] at e11
  obtain ⟨-, ha⟩ := oif_some ha
  obtain ⟨v13, e13, ha⟩ := elet_some ha
  rw [e11, ui_ne (by omega), b2] at e13
  obtain ⟨v14, e14, ha⟩ := elet_some ha
  rw [e13, nI_1] at e14
  obtain ⟨-, ha⟩ := oif_some ha
  obtain ⟨T16, e16, ha⟩ := elet_some ha
  have ha := osome1 (show some T16 = some T1 from ha)
  rw [← ha]
  have hI : ∀ m' j : Nat, T16.2.2.1 m' j = if m' = s ∧ j = 16 then nI (mc + 1) else if m' = s + 14 ∧ j = mc then a else T.2.2.1 m' j := fun m' j => by rw [e16, ui_get, e14, e11, ui_get]
  have hP : ∀ x : Nat, S1.2.1 11 x = if x = 118 then nI (mc + 1) else if x = 119 + mc then a else S.2.1 11 x := fun x => by
    rw [e1, mf_at]
    show (if x = 118 then nI (mc + 1) else S0.2.1 11 x) = _
    rw [e0, mf_at]
    rfl
  have hD : ∀ x : Nat, S1.2.1 13 x = S.2.1 13 x := fun x => by rw [e1, mf_ne (by decide), e0, mf_ne (by decide)]
  have iN : ∀ m' j : Nat, (m' ≠ s ∨ j ≠ 16) → m' ≠ s + 14 → T16.2.2.1 m' j = T.2.2.1 m' j := fun m' j h1 h2 => by rw [hI, if_neg (by omega), if_neg (by omega)]
  have pN : ∀ x : Nat, x < 118 → S1.2.1 11 x = S.2.1 11 x := fun x hx => by rw [hP, if_neg (by omega), if_neg (by omega)]
  have p11 := pr_uI (m := s + 14) (k := mc) (v := a) p (by omega)
  rw [← e11] at p11
  have p16 := pr_uI (m := s) (k := 16) (v := v14) p11 (by omega)
  rw [← e16] at p16
  have q0 := pr_mf (a := 11) (f := upd (S.2.1 11) (119 + mc) a) p16 (by decide)
  rw [← e0] at q0
  have q1 := pr_mf (a := 11) (f := upd (S0.2.1 11) 118 (nI (mc + 1))) q0 (by decide)
  rw [← e1] at q1
  refine ⟨q1, ⟨gH.cg (fun j hj => iN _ _ (by omega) (by omega)) (fun j hj => pN _ (by omega)), gM.cg (iN _ _ (by omega) (by omega)) (fun m' j _ _ => iN _ _ (by omega) (by omega)) (fun j hj => pN _ (by omega)), gG.cg (fun k hk => iN _ _ (by omega) (by omega)) (fun k => iN _ _ (by omega) (by omega)) (fun j hj hj2 => pN _ (by omega)), gS.cg (iN _ _ (by omega) (by omega)) (fun m' j _ _ => iN _ _ (by omega) (by omega)) (fun j hj => pN _ (by omega)) (fun j _ _ => hD j), gW.cg (iN _ _ (by omega) (by omega)) (fun k => iN _ _ (by omega) (by omega)) (fun k => iN _ _ (by omega) (by omega)) (fun j hj hj2 => pN _ (by omega)), gF.cg (iN _ _ (by omega) (by omega)) (pN _ (by omega)), gT.cg (iN _ _ (by omega) (by omega)) (fun k => iN _ _ (by omega) (by omega)) (fun j hj hj2 => pN _ (by omega)), gZ.cg (iN _ _ (by omega) (by omega)) (fun m' j _ _ => iN _ _ (by omega) (by omega)) (fun j hj hj2 => pN _ (by omega)), ?_, fun j hj => (hD j).trans (gX j hj)⟩, ?_, ?_⟩
  · refine ⟨mc + 1, by omega, by rw [hI, if_pos ⟨rfl, rfl⟩], by rw [hP, if_pos rfl], fun k hk => ?_⟩
    have hA := hI (s + 14) k
    have hB := hP (119 + k)
    rw [if_neg (by omega)] at hA hB
    rw [hA, hB]
    by_cases e : k = mc
    · rw [if_pos ⟨rfl, e⟩, if_pos (by omega)]
    · rw [if_neg (by omega), if_neg (by omega)]
      exact b4 k (by omega)
  · rw [e16, e11]; rfl
  · rw [hP, if_pos rfl]
theorem k_tap {a : Int32} {j : Nat} {S0 : MS} (hs : s = 478 ∨ s = 656) (hF : SRF s T) (hC : SCNq s T (S.2.1 11) (S.2.1 13)) (hj : S.2.1 11 77 = nI j) (hj2 : j < 5) (ha : g_X6_addTap T s a = some T1) (p : PRq b n c i T S) (e0 : S0 = mf S 11 (upd (S.2.1 11) (78 + j) a)) (e1 : S1 = mf S0 11 (upd (S0.2.1 11) 77 (nI (j + 1)))) : PRq b n c i T1 S1 ∧ SCNq s T1 (S1.2.1 11) (S1.2.1 13) ∧ T1.2.2.2.2 = T.2.2.2.2 ∧ S1.2.1 11 77 = nI (j + 1) := by
  obtain ⟨gH, gM, gG, gS, gW, gF, ⟨mc, b1, b2, b3, b4⟩, gZ, gD, gX⟩ := hC
  have ej : mc = j := by
    rw [hj] at b3
    exact ((nI_eq (by omega) (by omega)).mp b3).symm
  subst ej
  unfold g_X6_addTap at ha
  obtain ⟨-, ha⟩ := oif_some ha
  obtain ⟨v3, e3, ha⟩ := elet_some ha
  rw [b2] at e3
  rw [if_neg (by rw [e3]; intro q; have := (nI_leI (a := 5) (b := mc) (by omega) (by omega)).mp q; omega)] at ha
  obtain ⟨-, ha⟩ := oif_some ha
  obtain ⟨n6, e6, ha⟩ := obind_some ha
  rw [hF.2.2.2.2.2.1] at e6
  cases e6
  obtain ⟨-, ha⟩ := oif_some ha
  obtain ⟨v8, e8, ha⟩ := elet_some ha
  rw [b2] at e8
  obtain ⟨-, ha⟩ := oif_some ha
  obtain ⟨-, ha⟩ := oif_some ha
  obtain ⟨T11, e11, ha⟩ := elet_some ha
  rw [e8, nI_clamp (by omega)] at e11
  obtain ⟨-, ha⟩ := oif_some ha
  obtain ⟨v13, e13, ha⟩ := elet_some ha
  rw [e11, ui_ne (by omega), b2] at e13
  obtain ⟨v14, e14, ha⟩ := elet_some ha
  rw [e13, nI_1] at e14
  obtain ⟨-, ha⟩ := oif_some ha
  obtain ⟨T16, e16, ha⟩ := elet_some ha
  have ha := osome1 (show some T16 = some T1 from ha)
  rw [← ha]
  have hI : ∀ m' j : Nat, T16.2.2.1 m' j = if m' = s ∧ j = 14 then nI (mc + 1) else if m' = s + 13 ∧ j = mc then a else T.2.2.1 m' j := fun m' j => by rw [e16, ui_get, e14, e11, ui_get]
  have hP : ∀ x : Nat, S1.2.1 11 x = if x = 77 then nI (mc + 1) else if x = 78 + mc then a else S.2.1 11 x := fun x => by
    rw [e1, mf_at]
    show (if x = 77 then nI (mc + 1) else S0.2.1 11 x) = _
    rw [e0, mf_at]
    rfl
  have hD : ∀ x : Nat, S1.2.1 13 x = S.2.1 13 x := fun x => by rw [e1, mf_ne (by decide), e0, mf_ne (by decide)]
  have iN : ∀ m' j : Nat, (m' ≠ s ∨ j ≠ 14) → m' ≠ s + 13 → T16.2.2.1 m' j = T.2.2.1 m' j := fun m' j h1 h2 => by rw [hI, if_neg (by omega), if_neg (by omega)]
  have pN : ∀ x : Nat, x < 77 ∨ 83 ≤ x → S1.2.1 11 x = S.2.1 11 x := fun x hx => by rw [hP, if_neg (by omega), if_neg (by omega)]
  have p11 := pr_uI (m := s + 13) (k := mc) (v := a) p (by omega)
  rw [← e11] at p11
  have p16 := pr_uI (m := s) (k := 14) (v := v14) p11 (by omega)
  rw [← e16] at p16
  have q0 := pr_mf (a := 11) (f := upd (S.2.1 11) (78 + mc) a) p16 (by decide)
  rw [← e0] at q0
  have q1 := pr_mf (a := 11) (f := upd (S0.2.1 11) 77 (nI (mc + 1))) q0 (by decide)
  rw [← e1] at q1
  refine ⟨q1, ⟨gH.cg (fun j hj => iN _ _ (by omega) (by omega)) (fun j hj => pN _ (by omega)), gM.cg (iN _ _ (by omega) (by omega)) (fun m' j _ _ => iN _ _ (by omega) (by omega)) (fun j hj => pN _ (by omega)), gG.cg (fun k hk => iN _ _ (by omega) (by omega)) (fun k => iN _ _ (by omega) (by omega)) (fun j hj hj2 => pN _ (by omega)), gS.cg (iN _ _ (by omega) (by omega)) (fun m' j _ _ => iN _ _ (by omega) (by omega)) (fun j hj => pN _ (by omega)) (fun j _ _ => hD j), gW.cg (iN _ _ (by omega) (by omega)) (fun k => iN _ _ (by omega) (by omega)) (fun k => iN _ _ (by omega) (by omega)) (fun j hj hj2 => pN _ (by omega)), gF.cg (iN _ _ (by omega) (by omega)) (pN _ (by omega)), ?_, gZ.cg (iN _ _ (by omega) (by omega)) (fun m' j _ _ => iN _ _ (by omega) (by omega)) (fun j hj hj2 => pN _ (by omega)), gD.cg (iN _ _ (by omega) (by omega)) (fun k => iN _ _ (by omega) (by omega)) (fun j hj hj2 => pN _ (by omega)), fun j hj => (hD j).trans (gX j hj)⟩, ?_, ?_⟩
  · refine ⟨mc + 1, by omega, by rw [hI, if_pos ⟨rfl, rfl⟩], by rw [hP, if_pos rfl], fun k hk => ?_⟩
    have hA := hI (s + 13) k
    have hB := hP (78 + k)
    rw [if_neg (by omega)] at hA hB
    rw [hA, hB]
    by_cases e : k = mc
    · rw [if_pos ⟨rfl, e⟩, if_pos (by omega)]
    · rw [if_neg (by omega), if_neg (by omega)]
      exact b4 k (by omega)
  · rw [e16, e11]; rfl
  · rw [hP, if_pos rfl]
/-- more than fit: the number is out of its bounds, or there are too many -/
theorem k_many {a : Int32} {S2 S3 : MS} (ha : a = 9) (p : PRq b n c i T S) (hg : g_X3_failAsTooMany T 6 a = some (k, r, T1)) (h2 : kd b n (pst b n i) = 2 ∧ (∃ w, fr_look S 0 9 = some (w, S2)) ∨ kd b n (pst b n i) ≠ 2 ∧ S2 = S) (h3 : fr_faults S2 4 = some S3) : k = 3 ∧ ERq T1 S3 := by
  subst ha
  have h11 := p.1.2.2.2.2.2
  have h10 := p.1.2.2.2.2.1
  have q5 := p.2.2.1
  have qt := p.2.2.2.2.2.2.2
  unfold g_X3_failAsTooMany at hg
  obtain ⟨-, hg⟩ := oif_some hg
  obtain ⟨v3, e3, hg⟩ := elet_some hg
  rw [h11] at e3
  obtain ⟨-, hg⟩ := oif_some hg
  obtain ⟨r7, T5, e7, hg⟩ := obind2_some hg
  obtain ⟨k1, k2⟩ := k_kind p e7
  rw [k2] at hg
  have b26 : ∀ {e : Int32} {Sx : MS}, 0 < e.toInt → fr_faults S e = some Sx → g_X3_failAsTooMany_b26 T e v3 6 = some (k, r, T1) → k = 3 ∧ ERq T1 Sx := by
    intro e Sx he hf hg
    unfold g_X3_failAsTooMany_b26 at hg
    obtain ⟨-, hg⟩ := oif_some hg
    rw [e3] at hg
    rcases othr_k hg with ⟨r9, g9, -⟩ | ⟨r9, T9, g9, -⟩
    · exact k_err p h10 rfl he g9 hf
    · exact absurd (k_err p h10 rfl he g9 hf).1 (by decide)
  rcases h2 with ⟨ck, w, hl⟩ | ⟨ck, e⟩
  · rw [if_pos (k1.trans ck)] at hg
    obtain ⟨-, hg⟩ := oif_some hg
    obtain ⟨r13, T11, e13, hg⟩ := obind2_some hg
    obtain ⟨k3, k4⟩ := k_value p e13
    rw [k4] at hg
    unfold fr_look at hl
    obtain ⟨w2, d2, hl⟩ := elet_some hl
    rw [if_pos (by rw [d2, q5]; decide)] at hl
    obtain ⟨w4, d4, hl⟩ := elet_some hl
    rw [if_pos (d4.trans ((tk_num qt).mpr ck))] at hl
    obtain ⟨w6, d6, hl⟩ := elet_some hl
    rw [(qt.2.2.1 ck).2, ← k3] at d6
    obtain ⟨w7, d7, hl⟩ := obind_some hl
    rw [d6] at d7
    have v0 : 0 ≤ r13 := by rw [k3]; exact vf_pos p ck
    rcases tin2 d7 with ⟨c7, c8, c9⟩ | ⟨c7, c8⟩
    · rw [if_pos c9] at hg
      rw [if_neg (by rw [c7]; decide)] at hl
      unfold fr_look_b42 at hl
      obtain ⟨w8, d8, hl⟩ := elet_some hl
      rw [if_pos (by rw [d8, q5]; decide)] at hl
      obtain ⟨w9, d9, hl⟩ := elet_some hl
      have g5 := osome2 (show some (w9, S) = some (w, S2) from hl)
      rw [← g5.2] at h3
      exact b26 (by decide) h3 hg
    · rw [if_neg (fun q => c8 ⟨v0, q⟩)] at hg
      rw [if_pos c7] at hl
      obtain ⟨S10, f10, hl⟩ := obind_some hl
      obtain ⟨a1, a2⟩ := b26 (by decide) f10 hg
      unfold fr_look_b42 at hl
      obtain ⟨w8, d8, hl⟩ := elet_some hl
      rw [if_neg (st_le a2.1 d8)] at hl
      have g5 := osome2 (show some ((0 : Int32), S10) = some (w, S2) from hl)
      rw [← g5.2] at h3
      rw [st_faults a2.1 h3]
      exact ⟨a1, a2⟩
  · rw [if_neg (fun q => ck (k1.symm.trans q))] at hg
    rw [e] at h3
    exact b26 (by decide) h3 hg
theorem st_shade {U : MS} {l : Int32} {kk : MS → Option MS} (q : 0 < (U.1 5).toInt) (hf : fr_readShade_b44 kk U l = some S1) : S1 = U := by
  unfold fr_readShade_b44 at hf
  obtain ⟨U2, f2, hf⟩ := obind_some hf
  rw [st_next q f2] at hf
  obtain ⟨v5, e5, hf⟩ := elet_some hf
  rw [if_neg (st_le q e5)] at hf
  exact (osome1 hf).symm
theorem st_filt {U : MS} {kk : MS → Option MS} (q : 0 < (U.1 5).toInt) (hf : fr_readFilter_b65 kk U = some S1) : S1 = U := by
  unfold fr_readFilter_b65 at hf
  obtain ⟨w5, U2, f2, hf⟩ := obind2_some hf
  rw [st_signed q f2] at hf
  obtain ⟨v5, e5, hf⟩ := elet_some hf
  rw [if_neg (st_le q e5)] at hf
  exact (osome1 hf).symm
/-- the weights behind the first one -/
theorem k_shl (hs : s = 478 ∨ s = 656) : ∀ (f f2 : Nat) {i j k : Nat} {r : Int32} {T T1 : AT} {S S1 : MS}, PRq b n c i T S → SRF s T → SCNq s T (S.2.1 11) (S.2.1 13) → S.2.1 11 118 = nI j → 1 ≤ j → j ≤ 12 → g_X3_parseShade_b30 f T 6 s (nI j) = some (k, r, T1) → (elet (S.1 7) fun v14 => if v14 = 3 then (fr_readShade_b19 f2 S) else (some S)) = some S1 → (k = 0 ∧ (∃ j, i ≤ j ∧ PRq b n c j T1 S1) ∧ SCNq s T1 (S1.2.1 11) (S1.2.1 13) ∧ T1.2.2.2.2 = T.2.2.2.2) ∨ (k = 3 ∧ ERq T1 S1) := by
  intro f
  induction f with
  | zero => intro f2 i j k r T T1 S S1 p hF hC hj h1 h12 hg hf; cases hg
  | succ f ih =>
    intro f2 i j k r T T1 S S1 p hF hC hj h1 h12 hg hf
    have qt := p.2.2.2.2.2.2.2
    unfold g_X3_parseShade_b30 at hg
    rw [if_neg (by intro q; have := (nI_ltI (a := 12) (b := j) (by omega) (by omega)).mp q; omega)] at hg
    obtain ⟨-, hg⟩ := oif_some hg
    obtain ⟨r6, T4, e6, hg⟩ := obind2_some hg
    obtain ⟨k1, k2⟩ := k_kind p e6
    rw [k2] at hg
    obtain ⟨v14, e14, hf⟩ := elet_some hf
    by_cases ck : kd b n (pst b n i) = 2
    · rw [if_pos (k1.trans ck)] at hg
      rw [if_pos (e14.trans ((tk_num qt).mpr ck))] at hf
      cases f2 with
      | zero => cases hf
      | succ f2 =>
        unfold fr_readShade_b19 at hf
        obtain ⟨r5, S2, fS2, hf⟩ := obind2_some hf
        obtain ⟨v6, e6', hf⟩ := elet_some hf
        by_cases c12 : j = 12
        · rw [if_pos (by rw [c12]; rfl)] at hg
          obtain ⟨-, hg⟩ := oif_some hg
          have p118 : S2.2.1 11 118 = S.2.1 11 118 := by
            have := (w_fr_look fS2).2 11 (by decide)
            rw [this]
          rw [if_pos (by rw [e6', p118, hj, c12]; rfl)] at hf
          obtain ⟨S8, f8, hf⟩ := obind_some hf
          right
          rcases othr_k hg with ⟨r9, g9, -⟩ | ⟨r9, T9, g9, -⟩
          · obtain ⟨a1, a2⟩ := k_many rfl p g9 (.inl ⟨ck, r5, fS2⟩) f8
            rw [st_shade a2.1 hf]
            exact ⟨a1, a2⟩
          · exact absurd (k_many rfl p g9 (.inl ⟨ck, r5, fS2⟩) f8).1 (by decide)
        · rw [if_neg (by intro q; exact c12 ((nI_eq (a := j) (b := 12) (by omega) (by decide)).mp q))] at hg
          unfold g_X3_parseShade_b56 at hg
          obtain ⟨-, hg⟩ := oif_some hg
          have p118 : S2.2.1 11 118 = S.2.1 11 118 := by
            have := (w_fr_look fS2).2 11 (by decide)
            rw [this]
          rw [if_neg (by rw [e6', p118, hj]; intro q; exact c12 ((nI_eq (a := j) (b := 12) (by omega) (by decide)).mp q))] at hf
          rcases othr_k hg with ⟨r9, g9, z9⟩ | ⟨r5', T3, g9, hg⟩
          · rcases k_look p g9 fS2 with ⟨z, -⟩ | ⟨z1, z2⟩
            · exact absurd z z9
            · exact .inr ⟨z1, by rw [st_shade z2.1 hf]; exact z2⟩
          rcases k_look p g9 fS2 with ⟨-, qr, -, -, -, e3, e2⟩ | ⟨z1, -⟩
          rotate_left
          · exact absurd z1 (by decide)
          rw [e2] at hf
          unfold fr_readShade_b44 at hf
          obtain ⟨U2, fU2, hf⟩ := obind_some hf
          obtain ⟨p3, m3⟩ := pr_adv p (by rw [ck]; decide) fU2
          rw [← e3] at p3
          obtain ⟨v5, e5, hf⟩ := elet_some hf
          rw [if_pos (by rw [e5, p3.2.2.1]; decide)] at hf
          obtain ⟨v7, e7, hf⟩ := elet_some hf
          rw [m3.1, hj] at e7
          obtain ⟨v8, e8, hf⟩ := elet_some hf
          have k8 : v8 = nI (119 + j) := by rw [e8, e7]; exact nI_add 119 j
          obtain ⟨-, hf⟩ := oif_some hf
          obtain ⟨S10, e10, hf⟩ := elet_some hf
          rw [k8, nI_clamp (by omega), qr] at e10
          obtain ⟨v11, e11, hf⟩ := elet_some hf
          rw [e10, mf_at] at e11
          have e11 : v11 = nI j := by
            rw [e11]
            show (if 118 = 119 + j then r5' else U2.2.1 11 118) = _
            rw [if_neg (by omega), m3.1, hj]
          obtain ⟨v12, e12, hf⟩ := elet_some hf
          rw [e11, nI_1] at e12
          obtain ⟨S13, e13, hf⟩ := elet_some hf
          rw [e12] at e13
          obtain ⟨-, hg⟩ := oif_some hg
          obtain ⟨T8, e8', hg⟩ := obind_some hg
          obtain ⟨v10, e10', hg⟩ := elet_some hg
          have e10' : v10 = nI (j + 1) := e10'.trans (nI_1 j)
          rw [e10'] at hg
          have t3 : TFq T T3 := by rw [e3]; exact tf6
          have r3 : T3.2.2.2.2 = T.2.2.2.2 := congrArg (fun x => x.2) t3.2.2.1
          obtain ⟨a1, a2, a3, a4⟩ := k_shd (w := 0) (x := 0) hs (hF.sub r3) (by rw [m3.1]; exact scn_tf hs t3 hC) (by rw [m3.1]; exact hj) (by omega) e8' p3 e10 e13
          rcases ih f2 a1 (hF.sub (a3.trans r3)) a2 a4 (by omega) (by omega) hg hf with ⟨y1, ⟨j2, y2, y3⟩, y4, y5⟩ | y
          · exact .inl ⟨y1, ⟨j2, by omega, y3⟩, y4, y5.trans (a3.trans r3)⟩
          · exact .inr y
    · rw [if_neg (fun q => ck (k1.symm.trans q))] at hg
      rw [if_neg (fun q => ck ((tk_num qt).mp (e14.symm.trans q)))] at hf
      have g := osome3 (show some ((0 : Nat), (0 : Int32), T) = some (k, r, T1) from hg)
      have ff := osome1 hf
      rw [← ff, ← g.2.2]
      exact .inl ⟨g.1.symm, ⟨i, Nat.le_refl _, p⟩, hC, rfl⟩
set_option maxHeartbeats 400000 in
theorem l_shade (h : PRq b n c i T S) (hk : kd b n (pst b n i) = 1) (hs : s = 478 ∨ s = 656) (hF : SRF s T) (hC : SCNq s T (S.2.1 11) (S.2.1 13)) (hg : g_X3_parseShade T 6 s = some (k, r, T1)) (hf : fr_readShade S = some S1) : LNq b n c i s T T1 S1 k := by
  obtain ⟨mc, b1, b2, b3, b4⟩ := hC.2.2.2.2.2.2.2.2.1
  have z0 : (0 : Int32).toInt = 0 := by decide
  have qm : (nI mc).toInt = (mc : Int) := nI_toInt (by omega)
  unfold g_X3_parseShade at hg
  obtain ⟨-, hg⟩ := oif_some hg
  obtain ⟨v3, ev3, hg⟩ := elet_some hg
  rw [b2] at ev3
  unfold fr_readShade at hf
  obtain ⟨v2, ev2, hf⟩ := elet_some hf
  rw [b3] at ev2
  have key : ∃ (a0 : Int32) (Sa : MS), g_X3_parseShade_b13 T a0 6 6 s = some (k, r, T1) ∧ fr_readShade_b15 Sa = some S1 ∧ ((a0 = 0 ∧ Sa = S) ∨ (a0 ≠ 0 ∧ fr_faults S 3 = some Sa)) ∧ (a0 = 0 → mc = 0) := by
    by_cases cm : nI mc ≤ 0
    · rw [ev3, if_pos cm] at hg
      rw [ev2, if_pos cm] at hf
      have := i_le cm
      exact ⟨0, S, hg, hf, .inl ⟨rfl, rfl⟩, fun _ => by omega⟩
    · rw [ev3, if_neg cm] at hg
      rw [ev2, if_neg cm] at hf
      obtain ⟨S4, f4, hf⟩ := obind_some hf
      exact ⟨1, S4, hg, hf, .inr ⟨by decide, f4⟩, fun q => absurd q (by decide)⟩
  obtain ⟨a0, Sa, hg, hf, hcase, hmc⟩ := key
  unfold fr_readShade_b15 at hf
  obtain ⟨S2, fS2, hf⟩ := obind_some hf
  have fin19 : ∀ (f : Nat) {U : MS}, 0 < (U.1 5).toInt → fr_readShade_b19 f U = some S1 → S1 = U := by
    intro f U q hf
    cases f with
    | zero => cases hf
    | succ f =>
      unfold fr_readShade_b19 at hf
      obtain ⟨w5, U2, f2, hf⟩ := obind2_some hf
      rw [st_look q f2] at hf
      obtain ⟨v6, e6, hf⟩ := elet_some hf
      by_cases cc : v6 = 12
      · rw [if_pos cc] at hf
        obtain ⟨U8, f8, hf⟩ := obind_some hf
        rw [st_faults q f8] at hf
        exact st_shade q hf
      · rw [if_neg cc] at hf
        exact st_shade q hf
  unfold g_X3_parseShade_b13 at hg
  obtain ⟨-, hg⟩ := oif_some hg
  rcases othr_k hg with ⟨r9, g9, z9⟩ | ⟨r5, T3, g9, hg⟩
  · rcases k_line h hk (by decide) g9 hcase fS2 with ⟨z, -⟩ | ⟨z1, z2⟩
    · exact absurd z z9
    · exact .inr ⟨z1, by rw [fin19 _ z2.1 hf]; exact z2⟩
  rcases k_line h hk (by decide) g9 hcase fS2 with ⟨-, p3, t3, m2, za⟩ | ⟨z1, -⟩
  rotate_left
  · exact absurd z1 (by decide)
  have e0 := hmc za
  subst e0
  obtain ⟨-, hg⟩ := oif_some hg
  have hf : fr_readShade_b19 (16383 + 1) S2 = some S1 := hf
  unfold fr_readShade_b19 at hf
  obtain ⟨w5, S3, f3, hf⟩ := obind2_some hf
  obtain ⟨v6, e6, hf⟩ := elet_some hf
  have p118 : S3.2.1 11 118 = nI 0 := by
    have := (w_fr_look f3).2 11 (by decide)
    rw [this, m2.1, b3]
  rw [if_neg (by rw [e6, p118]; decide)] at hf
  rcases othr_k hg with ⟨r9, g9, z9⟩ | ⟨r10, T8, g9, hg⟩
  · rcases k_look p3 g9 f3 with ⟨z, -⟩ | ⟨z1, z2⟩
    · exact absurd z z9
    · exact .inr ⟨z1, by rw [st_shade z2.1 hf]; exact z2⟩
  rcases k_look p3 g9 f3 with ⟨-, qr, -, -, ck, e8, e3⟩ | ⟨z1, -⟩
  rotate_left
  · exact absurd z1 (by decide)
  rw [e3] at hf
  unfold fr_readShade_b44 at hf
  obtain ⟨U2, fU2, hf⟩ := obind_some hf
  obtain ⟨p8, m8⟩ := pr_adv p3 (by rw [ck]; decide) fU2
  rw [← e8] at p8
  have PU : U2.2 = S.2 := m8.1.trans m2.1
  obtain ⟨v5, e5, hf⟩ := elet_some hf
  rw [if_pos (by rw [e5, p8.2.2.1]; decide)] at hf
  obtain ⟨v7, e7, hf⟩ := elet_some hf
  rw [PU, b3] at e7
  obtain ⟨v8, e8', hf⟩ := elet_some hf
  have k8 : v8 = nI (119 + 0) := by rw [e8', e7]; exact nI_add 119 0
  obtain ⟨-, hf⟩ := oif_some hf
  obtain ⟨S10, e10, hf⟩ := elet_some hf
  rw [k8, nI_clamp (by omega), qr] at e10
  obtain ⟨v11, e11, hf⟩ := elet_some hf
  rw [e10, mf_at] at e11
  have e11 : v11 = nI 0 := by
    rw [e11]
    show (if 118 = 119 + 0 then r10 else U2.2.1 11 118) = _
    rw [if_neg (by omega), PU, b3]
  obtain ⟨v12, e12, hf⟩ := elet_some hf
  rw [e11, nI_1] at e12
  obtain ⟨S13, e13, hf⟩ := elet_some hf
  rw [e12] at e13
  obtain ⟨-, hg⟩ := oif_some hg
  obtain ⟨T13, e13', hg⟩ := obind_some hg
  have t8 : TFq T T8 := by rw [e8]; exact t3.tr tf6
  have r8 : T8.2.2.2.2 = T.2.2.2.2 := congrArg (fun x => x.2) t8.2.2.1
  obtain ⟨a1, a2, a3, a4⟩ := k_shd (w := 0) (x := 0) hs (hF.sub r8) (by rw [PU]; exact scn_tf hs t8 hC) (by rw [PU]; exact b3) (by omega) e13' p8 e10 e13
  rcases k_shl hs 16384 16383 a1 (hF.sub (a3.trans r8)) a2 a4 (by omega) (by omega) hg hf with ⟨y1, ⟨j2, y2, y3⟩, y4, y5⟩ | y
  · exact .inl ⟨y1, ⟨j2, by omega, y3⟩, y4, y5.trans (a3.trans r8)⟩
  · exact .inr y
end
end
section
/-! 20h.filt.lean.txt -/
section
variable {b : Nat → Int32} {n c i k s : Nat} {T T1 : AT} {S S1 : MS} {r : Int32}
/-- the taps behind the first one -/
theorem k_fll (hs : s = 478 ∨ s = 656) : ∀ (f f2 : Nat) {i j k : Nat} {r : Int32} {T T1 : AT} {S S1 : MS}, PRq b n c i T S → SRF s T → SCNq s T (S.2.1 11) (S.2.1 13) → S.2.1 11 77 = nI j → 1 ≤ j → j ≤ 5 → g_X3_parseFilter_b31 f T 6 s (nI j) = some (k, r, T1) → (elet (S.1 7) fun v15 => if v15 = 3 then (fr_readFilter_b19 f2 S) else (obind2 (fr_isSignHere S 45) fun r20 S17 => if r20 = 0 then (some S17) else (fr_readFilter_b19 f2 S17))) = some S1 → (k = 0 ∧ (∃ j, i ≤ j ∧ PRq b n c j T1 S1) ∧ SCNq s T1 (S1.2.1 11) (S1.2.1 13) ∧ T1.2.2.2.2 = T.2.2.2.2) ∨ (k = 3 ∧ ERq T1 S1) := by
  intro f
  induction f with
  | zero => intro f2 i j k r T T1 S S1 p hF hC hj h1 h12 hg hf; cases hg
  | succ f ih =>
    intro f2 i j k r T T1 S S1 p hF hC hj h1 h12 hg hf
    have qt := p.2.2.2.2.2.2.2
    -- one more
    have go : (kd b n (pst b n i) = 2 ∨ kd b n (pst b n i) = 3) → g_X3_parseFilter_b52 (g_X3_parseFilter_b31 f) T 6 s (nI j) = some (k, r, T1) → fr_readFilter_b19 f2 S = some S1 → (k = 0 ∧ (∃ j, i ≤ j ∧ PRq b n c j T1 S1) ∧ SCNq s T1 (S1.2.1 11) (S1.2.1 13) ∧ T1.2.2.2.2 = T.2.2.2.2) ∨ (k = 3 ∧ ERq T1 S1) := by
      intro hk hg hf
      cases f2 with
      | zero => cases hf
      | succ f2 =>
        unfold fr_readFilter_b19 at hf
        obtain ⟨v2, e2, hf⟩ := elet_some hf
        rw [hj] at e2
        unfold g_X3_parseFilter_b52 at hg
        by_cases c5 : j = 5
        · rw [if_pos (by rw [c5]; rfl)] at hg
          obtain ⟨-, hg⟩ := oif_some hg
          rw [if_pos (by rw [e2, c5]; rfl)] at hf
          unfold fr_readFilter_b35 at hf
          rw [if_neg (by decide)] at hf
          obtain ⟨v3, e3, hf⟩ := elet_some hf
          have key : ∃ S2 S3, (kd b n (pst b n i) = 2 ∧ (∃ w, fr_look S 0 9 = some (w, S2)) ∨ kd b n (pst b n i) ≠ 2 ∧ S2 = S) ∧ fr_faults S2 4 = some S3 ∧ fr_readFilter_b65 (fr_readFilter_b19 f2) S3 = some S1 := by
            by_cases ck : kd b n (pst b n i) = 2
            · rw [if_pos (e3.trans ((tk_num qt).mpr ck))] at hf
              obtain ⟨r8, S5, f5, hf⟩ := obind2_some hf
              unfold fr_readFilter_b56 at hf
              rw [if_neg (by decide)] at hf
              obtain ⟨S3, f3, hf⟩ := obind_some hf
              exact ⟨S5, S3, .inl ⟨ck, r8, f5⟩, f3, hf⟩
            · rw [if_neg (fun q => ck ((tk_num qt).mp (e3.symm.trans q)))] at hf
              unfold fr_readFilter_b56 at hf
              rw [if_neg (by decide)] at hf
              obtain ⟨S3, f3, hf⟩ := obind_some hf
              exact ⟨S, S3, .inr ⟨ck, rfl⟩, f3, hf⟩
          obtain ⟨S2, S3, a1, a2, a3⟩ := key
          right
          rcases othr_k hg with ⟨r9, g9, -⟩ | ⟨r9, T9, g9, -⟩
          · obtain ⟨y1, y2⟩ := k_many rfl p g9 a1 a2
            rw [st_filt y2.1 a3]
            exact ⟨y1, y2⟩
          · exact absurd (k_many rfl p g9 a1 a2).1 (by decide)
        · rw [if_neg (by intro q; exact c5 ((nI_eq (a := j) (b := 5) (by omega) (by decide)).mp q))] at hg
          rw [if_neg (by rw [e2]; intro q; exact c5 ((nI_eq (a := j) (b := 5) (by omega) (by decide)).mp q))] at hf
          unfold fr_readFilter_b35 at hf
          rw [if_pos rfl] at hf
          unfold fr_readFilter_b56 at hf
          rw [if_pos rfl] at hf
          unfold fr_readFilter_b65 at hf
          obtain ⟨r5, S2, f5, hf⟩ := obind2_some hf
          obtain ⟨v6, e6, hf⟩ := elet_some hf
          unfold g_X3_parseFilter_b63 at hg
          obtain ⟨-, hg⟩ := oif_some hg
          rcases othr_k hg with ⟨r9, g9, z9⟩ | ⟨r5', T3, g9, hg⟩
          · rcases k_signed p g9 f5 with ⟨z, -⟩ | ⟨z1, z2⟩
            · exact absurd z z9
            · rw [if_neg (st_le z2.1 e6)] at hf
              exact .inr ⟨z1, by rw [← osome1 hf]; exact z2⟩
          rcases k_signed p g9 f5 with ⟨-, qr, ⟨i3, l3, p3⟩, t3, m3⟩ | ⟨z1, -⟩
          rotate_left
          · exact absurd z1 (by decide)
          rw [if_pos (by rw [e6, p3.2.2.1]; decide)] at hf
          obtain ⟨v8, e8, hf⟩ := elet_some hf
          rw [m3.1, hj] at e8
          obtain ⟨v9, e9, hf⟩ := elet_some hf
          have k9 : v9 = nI (78 + j) := by rw [e9, e8]; exact nI_add 78 j
          obtain ⟨-, hf⟩ := oif_some hf
          obtain ⟨S11, e11, hf⟩ := elet_some hf
          rw [k9, nI_clamp (by omega), qr] at e11
          obtain ⟨v12, e12, hf⟩ := elet_some hf
          rw [e11, mf_at] at e12
          have e12 : v12 = nI j := by
            rw [e12]
            show (if 77 = 78 + j then r5' else S2.2.1 11 77) = _
            rw [if_neg (by omega), m3.1, hj]
          obtain ⟨v13, e13, hf⟩ := elet_some hf
          rw [e12, nI_1] at e13
          obtain ⟨S14, e14, hf⟩ := elet_some hf
          rw [e13] at e14
          obtain ⟨-, hg⟩ := oif_some hg
          obtain ⟨T8, e8', hg⟩ := obind_some hg
          obtain ⟨v10, e10', hg⟩ := elet_some hg
          have e10' : v10 = nI (j + 1) := e10'.trans (nI_1 j)
          rw [e10'] at hg
          have r3 : T3.2.2.2.2 = T.2.2.2.2 := congrArg (fun x => x.2) t3.2.2.1
          obtain ⟨a1, a2, a3, a4⟩ := k_tap hs (hF.sub r3) (by rw [m3.1]; exact scn_tf hs t3 hC) (by rw [m3.1]; exact hj) (by omega) e8' p3 e11 e14
          rcases ih f2 a1 (hF.sub (a3.trans r3)) a2 a4 (by omega) (by omega) hg hf with ⟨y1, ⟨j2, y2, y3⟩, y4, y5⟩ | y
          · exact .inl ⟨y1, ⟨j2, by omega, y3⟩, y4, y5.trans (a3.trans r3)⟩
          · exact .inr y
    unfold g_X3_parseFilter_b31 at hg
    rw [if_neg (by intro q; have := (nI_ltI (a := 5) (b := j) (by omega) (by omega)).mp q; omega)] at hg
    obtain ⟨-, hg⟩ := oif_some hg
    obtain ⟨r6, T4, e6, hg⟩ := obind2_some hg
    obtain ⟨k1, k2⟩ := k_kind p e6
    rw [k2] at hg
    obtain ⟨v15, e15, hf⟩ := elet_some hf
    by_cases ck : kd b n (pst b n i) = 2
    · rw [if_pos (k1.trans ck)] at hg
      rw [if_pos (e15.trans ((tk_num qt).mpr ck))] at hf
      exact go (.inl ck) hg hf
    · rw [if_neg (fun q => ck (k1.symm.trans q))] at hg
      rw [if_neg (fun q => ck ((tk_num qt).mp (e15.symm.trans q)))] at hf
      obtain ⟨-, hg⟩ := oif_some hg
      obtain ⟨r12, T10, e12, hg⟩ := obind2_some hg
      obtain ⟨k3, k4⟩ := k_kind p e12
      rw [k4] at hg
      obtain ⟨r20, S17, f20, hf⟩ := obind2_some hf
      obtain ⟨g1, g2⟩ := k_here p (.inl rfl) f20
      rw [if_pos rfl] at g2
      rw [g1] at hf
      rcases g2 with ⟨w1, cm⟩ | ⟨w1, cm⟩
      · rw [if_pos (k3.trans cm)] at hg
        rw [if_neg (by rw [w1]; decide)] at hf
        exact go (.inr cm) hg hf
      · rw [if_neg (fun q => cm (k3.symm.trans q))] at hg
        rw [if_pos w1] at hf
        have g := osome3 (show some ((0 : Nat), (0 : Int32), T) = some (k, r, T1) from hg)
        have ff := osome1 hf
        rw [← ff, ← g.2.2]
        exact .inl ⟨g.1.symm, ⟨i, Nat.le_refl _, p⟩, hC, rfl⟩
set_option maxHeartbeats 400000 in
theorem l_filter (h : PRq b n c i T S) (hk : kd b n (pst b n i) = 1) (hs : s = 478 ∨ s = 656) (hF : SRF s T) (hC : SCNq s T (S.2.1 11) (S.2.1 13)) (hg : g_X3_parseFilter T 6 s = some (k, r, T1)) (hf : fr_readFilter S = some S1) : LNq b n c i s T T1 S1 k := by
  obtain ⟨mc, b1, b2, b3, b4⟩ := hC.2.2.2.2.2.2.1
  have z0 : (0 : Int32).toInt = 0 := by decide
  have qm : (nI mc).toInt = (mc : Int) := nI_toInt (by omega)
  unfold g_X3_parseFilter at hg
  obtain ⟨-, hg⟩ := oif_some hg
  obtain ⟨v3, ev3, hg⟩ := elet_some hg
  rw [b2] at ev3
  unfold fr_readFilter at hf
  obtain ⟨v2, ev2, hf⟩ := elet_some hf
  rw [b3] at ev2
  have key : ∃ (a0 : Int32) (Sa : MS), g_X3_parseFilter_b13 T a0 6 6 s = some (k, r, T1) ∧ fr_readFilter_b15 Sa = some S1 ∧ ((a0 = 0 ∧ Sa = S) ∨ (a0 ≠ 0 ∧ fr_faults S 3 = some Sa)) ∧ (a0 = 0 → mc = 0) := by
    by_cases cm : nI mc ≤ 0
    · rw [ev3, if_pos cm] at hg
      rw [ev2, if_pos cm] at hf
      have := i_le cm
      exact ⟨0, S, hg, hf, .inl ⟨rfl, rfl⟩, fun _ => by omega⟩
    · rw [ev3, if_neg cm] at hg
      rw [ev2, if_neg cm] at hf
      obtain ⟨S4, f4, hf⟩ := obind_some hf
      exact ⟨1, S4, hg, hf, .inr ⟨by decide, f4⟩, fun q => absurd q (by decide)⟩
  obtain ⟨a0, Sa, hg, hf, hcase, hmc⟩ := key
  unfold fr_readFilter_b15 at hf
  obtain ⟨S2, fS2, hf⟩ := obind_some hf
  have fin56 : ∀ (f : Nat) {U : MS} {l : Int32}, 0 < (U.1 5).toInt → fr_readFilter_b56 (fr_readFilter_b19 f) U l = some S1 → S1 = U := by
    intro f U l q hf
    unfold fr_readFilter_b56 at hf
    by_cases cc : l = 0
    · rw [if_pos cc] at hf
      exact st_filt q hf
    · rw [if_neg cc] at hf
      obtain ⟨U3, f3, hf⟩ := obind_some hf
      rw [st_faults q f3] at hf
      exact st_filt q hf
  have fin35 : ∀ (f : Nat) {U : MS} {l : Int32}, 0 < (U.1 5).toInt → fr_readFilter_b35 (fr_readFilter_b19 f) U l = some S1 → S1 = U := by
    intro f U l q hf
    unfold fr_readFilter_b35 at hf
    by_cases cc : l = 0
    · rw [if_pos cc] at hf
      exact fin56 f q hf
    · rw [if_neg cc] at hf
      obtain ⟨v3, e3, hf⟩ := elet_some hf
      by_cases c3 : v3 = 3
      · rw [if_pos c3] at hf
        obtain ⟨r8, U5, f5, hf⟩ := obind2_some hf
        rw [st_look q f5] at hf
        exact fin56 f q hf
      · rw [if_neg c3] at hf
        exact fin56 f q hf
  have fin19 : ∀ (f : Nat) {U : MS}, 0 < (U.1 5).toInt → fr_readFilter_b19 f U = some S1 → S1 = U := by
    intro f U q hf
    cases f with
    | zero => cases hf
    | succ f =>
      unfold fr_readFilter_b19 at hf
      obtain ⟨v6, e6, hf⟩ := elet_some hf
      by_cases cc : v6 = 5
      · rw [if_pos cc] at hf
        exact fin35 f q hf
      · rw [if_neg cc] at hf
        exact fin35 f q hf
  unfold g_X3_parseFilter_b13 at hg
  obtain ⟨-, hg⟩ := oif_some hg
  rcases othr_k hg with ⟨r9, g9, z9⟩ | ⟨r5, T3, g9, hg⟩
  · rcases k_line h hk (by decide) g9 hcase fS2 with ⟨z, -⟩ | ⟨z1, z2⟩
    · exact absurd z z9
    · exact .inr ⟨z1, by rw [fin19 _ z2.1 hf]; exact z2⟩
  rcases k_line h hk (by decide) g9 hcase fS2 with ⟨-, p3, t3, m2, za⟩ | ⟨z1, -⟩
  rotate_left
  · exact absurd z1 (by decide)
  have e0 := hmc za
  subst e0
  obtain ⟨-, hg⟩ := oif_some hg
  have hf : fr_readFilter_b19 (16383 + 1) S2 = some S1 := hf
  unfold fr_readFilter_b19 at hf
  obtain ⟨v6, e6, hf⟩ := elet_some hf
  rw [m2.1, b3] at e6
  rw [if_neg (by rw [e6]; decide)] at hf
  unfold fr_readFilter_b35 at hf
  rw [if_pos rfl] at hf
  unfold fr_readFilter_b56 at hf
  rw [if_pos rfl] at hf
  unfold fr_readFilter_b65 at hf
  obtain ⟨w5, S5, f5, hf⟩ := obind2_some hf
  obtain ⟨v7, e7, hf⟩ := elet_some hf
  rcases othr_k hg with ⟨r9, g9, z9⟩ | ⟨r10, T8, g9, hg⟩
  · rcases k_signed p3 g9 f5 with ⟨z, -⟩ | ⟨z1, z2⟩
    · exact absurd z z9
    · rw [if_neg (st_le z2.1 e7)] at hf
      exact .inr ⟨z1, by rw [← osome1 hf]; exact z2⟩
  rcases k_signed p3 g9 f5 with ⟨-, qr, ⟨i8, l8, p8⟩, t8, m8⟩ | ⟨z1, -⟩
  rotate_left
  · exact absurd z1 (by decide)
  rw [if_pos (by rw [e7, p8.2.2.1]; decide)] at hf
  have PU : S5.2 = S.2 := m8.1.trans m2.1
  obtain ⟨v8, e8, hf⟩ := elet_some hf
  rw [PU, b3] at e8
  obtain ⟨v9, e9, hf⟩ := elet_some hf
  have k9 : v9 = nI (78 + 0) := by rw [e9, e8]; exact nI_add 78 0
  obtain ⟨-, hf⟩ := oif_some hf
  obtain ⟨S11, e11, hf⟩ := elet_some hf
  rw [k9, nI_clamp (by omega), qr] at e11
  obtain ⟨v12, e12, hf⟩ := elet_some hf
  rw [e11, mf_at] at e12
  have e12 : v12 = nI 0 := by
    rw [e12]
    show (if 77 = 78 + 0 then r10 else S5.2.1 11 77) = _
    rw [if_neg (by omega), PU, b3]
  obtain ⟨v13, e13, hf⟩ := elet_some hf
  rw [e12, nI_1] at e13
  obtain ⟨S14, e14, hf⟩ := elet_some hf
  rw [e13] at e14
  obtain ⟨-, hg⟩ := oif_some hg
  obtain ⟨T13, e13', hg⟩ := obind_some hg
  have t38 : TFq T T8 := t3.tr t8
  have r8 : T8.2.2.2.2 = T.2.2.2.2 := congrArg (fun x => x.2) t38.2.2.1
  obtain ⟨a1, a2, a3, a4⟩ := k_tap hs (hF.sub r8) (by rw [PU]; exact scn_tf hs t38 hC) (by rw [PU]; exact b3) (by omega) e13' p8 e11 e14
  rcases k_fll hs 16384 16383 a1 (hF.sub (a3.trans r8)) a2 a4 (by omega) (by omega) hg hf with ⟨y1, ⟨j2, y2, y3⟩, y4, y5⟩ | y
  · exact .inl ⟨y1, ⟨j2, by omega, y3⟩, y4, y5.trans (a3.trans r8)⟩
  · exact .inr y
end
end
section
/-! 20i.text.lean.txt -/
section
variable {b : Nat → Int32} {n c i k s : Nat} {T T1 : AT} {S S1 : MS} {r : Int32}
theorem wl15 : ["camera", "distance", "step", "samples", "limit", "mic", "map", "source", "wall", "fade", "filter", "clock", "zone", "shade", "off"].all (fun w => Nat.ble (sTx w).1 8) = true := by decide +kernel
theorem wl_of {w : String} (h : w ∈ ["camera", "distance", "step", "samples", "limit", "mic", "map", "source", "wall", "fade", "filter", "clock", "zone", "shade", "off"]) : (sTx w).1 ≤ 8 := Nat.le_of_ble_eq_true (List.all_eq_true.mp wl15 w h)
theorem er_st (h : ERq T S) (e : S1.1 = S.1) : ERq T S1 := by
  unfold ERq at h ⊢
  rw [e]
  exact h
/-- a keyword and its number -/
theorem k_gauge {tx : Nat × (Nat → Int32)} {a0 a1 r2 : Int32} (ht : tx.1 ≤ 8) (h : PRq b n c i T S) (hf : fr_gauge S tx a0 a1 = some (r2, S1)) : (∀ (k : Nat) (r : Int32) (Ta : AT), g_X3_takeWord T tx 6 = some (k, r, Ta) → (k = 3 ∧ ERq Ta S1) ∨ (k = 0 ∧ ∀ (k' : Nat) (r' : Int32) (Tb : AT), g_X3_number Ta 6 a0 a1 = some (k', r', Tb) → (k' = 3 ∧ ERq Tb S1) ∨ (k' = 0 ∧ r2 = r' ∧ (∃ j, i < j ∧ PRq b n c j Tb S1) ∧ TFq T Tb ∧ MFq S S1))) := by
  intro k r Ta hg
  unfold fr_gauge at hf
  obtain ⟨S2, f2, hf⟩ := obind_some hf
  obtain ⟨r8, S5, f5, hf⟩ := obind2_some hf
  have ff := osome2 hf
  rw [← ff.2]
  rcases k_take ht h hg f2 with ⟨k0, ⟨j, hj, p⟩, t, m⟩ | ⟨k3, e⟩
  · refine .inr ⟨k0, fun k' r' Tb hg2 => ?_⟩
    rcases k_number p hg2 f5 with ⟨y1, y2, -, -, y3, y4, y5⟩ | ⟨y1, y2⟩
    · exact .inr ⟨y1, ff.1.symm.trans y2, ⟨j + 1, by omega, y3⟩, t.tr y4, m.tr y5⟩
    · exact .inl ⟨y1, y2⟩
  · exact .inl ⟨k3, by rw [st_number e.1 f5]; exact e⟩
theorem scn0_uI {P D : Nat → Int32} {j : Nat} {v : Int32} (hs : s = 478 ∨ s = 656) (hj : j < 4) (q : SCN0 s T P D) (P1 : Nat → Int32) (hP : ∀ x, 4 ≤ x → P1 x = P x) : SCN0 s (uI T s j v) P1 D := by
  have e : ∀ m x, m ≠ s ∨ 4 ≤ x → (uI T s j v).2.2.1 m x = T.2.2.1 m x := fun m x h => ui_ne (by omega)
  exact ⟨q.1.cg (e _ _ (by omega)) (fun m j _ _ => e _ _ (by omega)) (fun x _ => hP x (by omega)), q.2.1.cg (fun j _ => e _ _ (by omega)) (fun j => e _ _ (by omega)) (fun x _ _ => hP x (by omega)), q.2.2.1.cg (e _ _ (by omega)) (fun m j _ _ => e _ _ (by omega)) (fun x _ => hP x (by omega)) (fun _ _ _ => rfl), q.2.2.2.1.cg (e _ _ (by omega)) (fun j => e _ _ (by omega)) (fun j => e _ _ (by omega)) (fun x _ _ => hP x (by omega)), q.2.2.2.2.1.cg (e _ _ (by omega)) (hP _ (by omega)), q.2.2.2.2.2.1.cg (e _ _ (by omega)) (fun j => e _ _ (by omega)) (fun x _ _ => hP x (by omega)), q.2.2.2.2.2.2.1.cg (e _ _ (by omega)) (fun m j _ _ => e _ _ (by omega)) (fun x _ _ => hP x (by omega)), q.2.2.2.2.2.2.2.1.cg (e _ _ (by omega)) (fun j => e _ _ (by omega)) (fun x _ _ => hP x (by omega)), q.2.2.2.2.2.2.2.2⟩
theorem scn0_tf {P D : Nat → Int32} (hs : s = 478 ∨ s = 656) (h : TFq T T1) (q : SCN0 s T P D) : SCN0 s T1 P D := by
  have e : ∀ m j, m ≠ 6 → T1.2.2.1 m j = T.2.2.1 m j := h.2.2.2
  exact ⟨q.1.cg (e _ _ (by omega)) (fun m j _ _ => e _ _ (by omega)) (fun _ _ => rfl), q.2.1.cg (fun j _ => e _ _ (by omega)) (fun j => e _ _ (by omega)) (fun _ _ _ => rfl), q.2.2.1.cg (e _ _ (by omega)) (fun m j _ _ => e _ _ (by omega)) (fun _ _ => rfl) (fun _ _ _ => rfl), q.2.2.2.1.cg (e _ _ (by omega)) (fun j => e _ _ (by omega)) (fun j => e _ _ (by omega)) (fun _ _ _ => rfl), q.2.2.2.2.1.cg (e _ _ (by omega)) rfl, q.2.2.2.2.2.1.cg (e _ _ (by omega)) (fun j => e _ _ (by omega)) (fun _ _ _ => rfl), q.2.2.2.2.2.2.1.cg (e _ _ (by omega)) (fun m j _ _ => e _ _ (by omega)) (fun _ _ _ => rfl), q.2.2.2.2.2.2.2.1.cg (e _ _ (by omega)) (fun j => e _ _ (by omega)) (fun _ _ _ => rfl), q.2.2.2.2.2.2.2.2⟩
/-- the word, the number, what is written: one of the four of the first line -/
theorem k_head {tx : Nat × (Nat → Int32)} {a0 a1 r2 : Int32} {x : Nat} {S2 : MS} (hs : s = 478 ∨ s = 656) (hx : x < 4) (ht : tx.1 ≤ 8) (h : PRq b n c i T S) (hC : SCN0 s T (S.2.1 11) (S.2.1 13)) (hf : fr_gauge S tx a0 a1 = some (r2, S1)) (e2 : S2 = mf S1 11 (upd (S1.2.1 11) x r2)) : (∀ (k : Nat) (r : Int32) (Ta : AT), g_X3_takeWord T tx 6 = some (k, r, Ta) → (k = 3 ∧ ERq Ta S2) ∨ (k = 0 ∧ ∀ (k' : Nat) (r' : Int32) (Tb : AT), g_X3_number Ta 6 a0 a1 = some (k', r', Tb) → (k' = 3 ∧ ERq Tb S2) ∨ (k' = 0 ∧ ∀ (Tc : AT), Tc = uI Tb s x r' → (∃ j, i < j ∧ PRq b n c j Tc S2) ∧ SCN0 s Tc (S2.2.1 11) (S2.2.1 13) ∧ Tc.2.2.2.2 = T.2.2.2.2 ∧ Tc.2.2.1 s x = S2.2.1 11 x ∧ (∀ y, y ≠ x → Tc.2.2.1 s y = T.2.2.1 s y) ∧ ∀ y, y ≠ x → S2.2.1 11 y = S.2.1 11 y))) := by
  intro k r Ta hg
  have s2 : S2.1 = S1.1 := by rw [e2]; rfl
  rcases k_gauge ht h hf _ _ _ hg with ⟨k3, e⟩ | ⟨k0, kk⟩
  · exact .inl ⟨k3, er_st e s2⟩
  refine .inr ⟨k0, fun k' r' Tb hg2 => ?_⟩
  rcases kk _ _ _ hg2 with ⟨k3, e⟩ | ⟨k0', er, ⟨j, hj, p⟩, t, m⟩
  · exact .inl ⟨k3, er_st e s2⟩
  refine .inr ⟨k0', fun Tc ec => ?_⟩
  have pc := pr_uI (m := s) (k := x) (v := r') p (by omega)
  rw [← ec] at pc
  have pd := pr_mf (a := 11) (f := upd (S1.2.1 11) x r2) pc (by decide)
  rw [← e2] at pd
  have hP : ∀ y, S2.2.1 11 y = if y = x then r2 else S.2.1 11 y := fun y => by
    rw [e2, mf_at]
    show (if y = x then r2 else S1.2.1 11 y) = _
    rw [m.1]
  have hD : S2.2.1 13 = S.2.1 13 := by rw [e2, mf_ne (by decide), m.1]
  refine ⟨⟨j, hj, pd⟩, ?_, ?_, ?_, fun y hy => ?_, fun y hy => ?_⟩
  · rw [ec, hD]
    exact scn0_uI hs hx (scn0_tf hs t hC) _ (fun y hy => by rw [hP, if_neg (by omega)])
  · rw [ec]; exact congrArg (fun x => x.2) t.2.2.1
  · rw [ec, ui_at, hP, if_pos rfl, er]
  · rw [ec, ui_ne (.inr hy)]; exact t.2.2.2 _ _ (by omega)
  · rw [hP, if_neg hy]
theorem st_g {tx : Nat × (Nat → Int32)} {a0 a1 r2 : Int32} {x : Nat} {S2 : MS} (q : 0 < (S.1 5).toInt) (hf : fr_gauge S tx a0 a1 = some (r2, S1)) (e2 : S2 = mf S1 11 (upd (S1.2.1 11) x r2)) : S2.1 = S.1 := by
  rw [e2, st_gauge q hf]
  rfl
set_option maxHeartbeats 400000 in
theorem l_head (h : PRq b n c i T S) (hs : s = 478 ∨ s = 656) (hC : SCN0 s T (S.2.1 11) (S.2.1 13)) (hg : g_X3_parseHead T 6 s = some (k, r, T1)) (hf : fr_readFirst S = some S1) : LNq b n c i s T T1 S1 k := by
  unfold fr_readFirst at hf
  obtain ⟨S3, f3, hf⟩ := obind_some hf
  obtain ⟨r10, S7, f7, hf⟩ := obind2_some hf
  obtain ⟨S11, e11, hf⟩ := elet_some hf
  obtain ⟨r16, S13, f13, hf⟩ := obind2_some hf
  obtain ⟨S17, e17, hf⟩ := elet_some hf
  obtain ⟨r22, S19, f19, hf⟩ := obind2_some hf
  obtain ⟨S23, e23, hf⟩ := elet_some hf
  obtain ⟨r28, S25, f25, hf⟩ := obind2_some hf
  obtain ⟨S29, e29, hf⟩ := elet_some hf
  rw [← osome1 hf]
  have n23 : 0 < (S23.1 5).toInt → S29.1 = S23.1 := fun q => st_g q f25 e29
  have n17 : 0 < (S17.1 5).toInt → S29.1 = S17.1 := fun q => by
    have e := st_g q f19 e23
    exact (n23 (by rw [e]; exact q)).trans e
  have n11 : 0 < (S11.1 5).toInt → S29.1 = S11.1 := fun q => by
    have e := st_g q f13 e17
    exact (n17 (by rw [e]; exact q)).trans e
  have n3 : 0 < (S3.1 5).toInt → S29.1 = S3.1 := fun q => by
    have e := st_g q f7 e11
    exact (n11 (by rw [e]; exact q)).trans e
  unfold g_X3_parseHead at hg
  obtain ⟨-, hg⟩ := oif_some hg
  rcases othr_k hg with ⟨r9, g9, z9⟩ | ⟨r6, T4, g9, hg⟩
  · rcases k_take (wl_of (by decide)) h g9 f3 with ⟨z, -⟩ | ⟨z1, z2⟩
    · exact absurd z z9
    · exact .inr ⟨z1, er_st z2 (n3 z2.1)⟩
  rcases k_take (wl_of (by decide)) h g9 f3 with ⟨-, ⟨i4, l4, p4⟩, t4, m4⟩ | ⟨z1, -⟩
  rotate_left
  · exact absurd z1 (by decide)
  have C4 : SCN0 s T4 (S3.2.1 11) (S3.2.1 13) := by rw [m4.1]; exact scn0_tf hs t4 hC
  have R4 : T4.2.2.2.2 = T.2.2.2.2 := congrArg (fun x => x.2) t4.2.2.1
  obtain ⟨-, hg⟩ := oif_some hg
  have H1 := k_head hs (x := 0) (by decide) (wl_of (by decide)) p4 C4 f7 e11
  rcases othr_k hg with ⟨r9, g9, z9⟩ | ⟨r12, T10, g9, hg⟩
  · rcases H1 _ _ _ g9 with ⟨z1, z2⟩ | ⟨z, -⟩
    · exact .inr ⟨z1, er_st z2 (n11 z2.1)⟩
    · exact absurd z z9
  rcases H1 _ _ _ g9 with ⟨z1, -⟩ | ⟨-, H1⟩
  · exact absurd z1 (by decide)
  obtain ⟨-, hg⟩ := oif_some hg
  rcases othr_k hg with ⟨r9, g9, z9⟩ | ⟨r17, T15, g9, hg⟩
  · rcases H1 _ _ _ g9 with ⟨z1, z2⟩ | ⟨z, -⟩
    · exact .inr ⟨z1, er_st z2 (n11 z2.1)⟩
    · exact absurd z z9
  rcases H1 _ _ _ g9 with ⟨z1, -⟩ | ⟨-, H1⟩
  · exact absurd z1 (by decide)
  obtain ⟨-, hg⟩ := oif_some hg
  obtain ⟨T20, e20, hg⟩ := elet_some hg
  obtain ⟨⟨i5, l5, p5⟩, C5, R5, v5, o5, w5⟩ := H1 _ e20
  obtain ⟨-, hg⟩ := oif_some hg
  have H2 := k_head hs (x := 1) (by decide) (wl_of (by decide)) p5 C5 f13 e17
  rcases othr_k hg with ⟨r9, g9, z9⟩ | ⟨r25, T23, g9, hg⟩
  · rcases H2 _ _ _ g9 with ⟨z1, z2⟩ | ⟨z, -⟩
    · exact .inr ⟨z1, er_st z2 (n17 z2.1)⟩
    · exact absurd z z9
  rcases H2 _ _ _ g9 with ⟨z1, -⟩ | ⟨-, H2⟩
  · exact absurd z1 (by decide)
  obtain ⟨-, hg⟩ := oif_some hg
  rcases othr_k hg with ⟨r9, g9, z9⟩ | ⟨r30, T28, g9, hg⟩
  · rcases H2 _ _ _ g9 with ⟨z1, z2⟩ | ⟨z, -⟩
    · exact .inr ⟨z1, er_st z2 (n17 z2.1)⟩
    · exact absurd z z9
  rcases H2 _ _ _ g9 with ⟨z1, -⟩ | ⟨-, H2⟩
  · exact absurd z1 (by decide)
  obtain ⟨-, hg⟩ := oif_some hg
  obtain ⟨T33, e33, hg⟩ := elet_some hg
  obtain ⟨⟨i6, l6, p6⟩, C6, R6, v6, o6, w6⟩ := H2 _ e33
  obtain ⟨-, hg⟩ := oif_some hg
  have H3 := k_head hs (x := 2) (by decide) (wl_of (by decide)) p6 C6 f19 e23
  rcases othr_k hg with ⟨r9, g9, z9⟩ | ⟨r38, T36, g9, hg⟩
  · rcases H3 _ _ _ g9 with ⟨z1, z2⟩ | ⟨z, -⟩
    · exact .inr ⟨z1, er_st z2 (n23 z2.1)⟩
    · exact absurd z z9
  rcases H3 _ _ _ g9 with ⟨z1, -⟩ | ⟨-, H3⟩
  · exact absurd z1 (by decide)
  obtain ⟨-, hg⟩ := oif_some hg
  rcases othr_k hg with ⟨r9, g9, z9⟩ | ⟨r43, T41, g9, hg⟩
  · rcases H3 _ _ _ g9 with ⟨z1, z2⟩ | ⟨z, -⟩
    · exact .inr ⟨z1, er_st z2 (n23 z2.1)⟩
    · exact absurd z z9
  rcases H3 _ _ _ g9 with ⟨z1, -⟩ | ⟨-, H3⟩
  · exact absurd z1 (by decide)
  obtain ⟨-, hg⟩ := oif_some hg
  obtain ⟨T46, e46, hg⟩ := elet_some hg
  obtain ⟨⟨i7, l7, p7⟩, C7, R7, v7, o7, w7⟩ := H3 _ e46
  obtain ⟨-, hg⟩ := oif_some hg
  have H4 := k_head hs (x := 3) (by decide) (wl_of (by decide)) p7 C7 f25 e29
  rcases othr_k hg with ⟨r9, g9, z9⟩ | ⟨r51, T49, g9, hg⟩
  · rcases H4 _ _ _ g9 with ⟨z1, z2⟩ | ⟨z, -⟩
    · exact .inr ⟨z1, z2⟩
    · exact absurd z z9
  rcases H4 _ _ _ g9 with ⟨z1, -⟩ | ⟨-, H4⟩
  · exact absurd z1 (by decide)
  obtain ⟨-, hg⟩ := oif_some hg
  rcases othr_k hg with ⟨r9, g9, z9⟩ | ⟨r56, T54, g9, hg⟩
  · rcases H4 _ _ _ g9 with ⟨z1, z2⟩ | ⟨z, -⟩
    · exact .inr ⟨z1, z2⟩
    · exact absurd z z9
  rcases H4 _ _ _ g9 with ⟨z1, -⟩ | ⟨-, H4⟩
  · exact absurd z1 (by decide)
  obtain ⟨-, hg⟩ := oif_some hg
  obtain ⟨T59, e59, hg⟩ := elet_some hg
  obtain ⟨⟨i8, l8, p8⟩, C8, R8, v8, o8, w8⟩ := H4 _ e59
  have g := osome3 hg
  rw [← g.2.2]
  refine .inl ⟨g.1.symm, ⟨i8, by omega, p8⟩, ⟨⟨?_, ?_, ?_, v8⟩, C8⟩, R8.trans (R7.trans (R6.trans (R5.trans R4)))⟩
  · rw [o8 0 (by decide), o7 0 (by decide), o6 0 (by decide), v5, w8 0 (by decide), w7 0 (by decide), w6 0 (by decide)]
  · rw [o8 1 (by decide), o7 1 (by decide), v6, w8 1 (by decide), w7 1 (by decide)]
  · rw [o8 2 (by decide), v7, w8 2 (by decide)]
end
end
section
/-! 20j.line.lean.txt -/
section
variable {b : Nat → Int32} {n c i k s : Nat} {T T1 : AT} {S S1 : MS} {r : Int32}
theorem wq10 : [("mic", "map"), ("mic", "source"), ("mic", "wall"), ("mic", "fade"), ("mic", "filter"), ("mic", "clock"), ("mic", "zone"), ("mic", "shade"), ("mic", "off"), ("map", "source"), ("map", "wall"), ("map", "fade"), ("map", "filter"), ("map", "clock"), ("map", "zone"), ("map", "shade"), ("map", "off"), ("source", "wall"), ("source", "fade"), ("source", "filter"), ("source", "clock"), ("source", "zone"), ("source", "shade"), ("source", "off"), ("wall", "fade"), ("wall", "filter"), ("wall", "clock"), ("wall", "zone"), ("wall", "shade"), ("wall", "off"), ("fade", "filter"), ("fade", "clock"), ("fade", "zone"), ("fade", "shade"), ("fade", "off"), ("filter", "clock"), ("filter", "zone"), ("filter", "shade"), ("filter", "off"), ("clock", "zone"), ("clock", "shade"), ("clock", "off"), ("zone", "shade"), ("zone", "off"), ("shade", "off"), ("map", "mic"), ("source", "mic"), ("wall", "mic"), ("fade", "mic"), ("filter", "mic"), ("clock", "mic"), ("zone", "mic"), ("shade", "mic"), ("off", "mic"), ("source", "map"), ("wall", "map"), ("fade", "map"), ("filter", "map"), ("clock", "map"), ("zone", "map"), ("shade", "map"), ("off", "map"), ("wall", "source"), ("fade", "source"), ("filter", "source"), ("clock", "source"), ("zone", "source"), ("shade", "source"), ("off", "source"), ("fade", "wall"), ("filter", "wall"), ("clock", "wall"), ("zone", "wall"), ("shade", "wall"), ("off", "wall"), ("filter", "fade"), ("clock", "fade"), ("zone", "fade"), ("shade", "fade"), ("off", "fade"), ("clock", "filter"), ("zone", "filter"), ("shade", "filter"), ("off", "filter"), ("zone", "clock"), ("shade", "clock"), ("off", "clock"), ("shade", "zone"), ("off", "zone"), ("off", "shade")].all (fun p => wxq (sTx p.1) (sTx p.2)) = true := by decide +kernel
theorem wx10 {u v : String} {p : Nat} (h : (u, v) ∈ [("mic", "map"), ("mic", "source"), ("mic", "wall"), ("mic", "fade"), ("mic", "filter"), ("mic", "clock"), ("mic", "zone"), ("mic", "shade"), ("mic", "off"), ("map", "source"), ("map", "wall"), ("map", "fade"), ("map", "filter"), ("map", "clock"), ("map", "zone"), ("map", "shade"), ("map", "off"), ("source", "wall"), ("source", "fade"), ("source", "filter"), ("source", "clock"), ("source", "zone"), ("source", "shade"), ("source", "off"), ("wall", "fade"), ("wall", "filter"), ("wall", "clock"), ("wall", "zone"), ("wall", "shade"), ("wall", "off"), ("fade", "filter"), ("fade", "clock"), ("fade", "zone"), ("fade", "shade"), ("fade", "off"), ("filter", "clock"), ("filter", "zone"), ("filter", "shade"), ("filter", "off"), ("clock", "zone"), ("clock", "shade"), ("clock", "off"), ("zone", "shade"), ("zone", "off"), ("shade", "off"), ("map", "mic"), ("source", "mic"), ("wall", "mic"), ("fade", "mic"), ("filter", "mic"), ("clock", "mic"), ("zone", "mic"), ("shade", "mic"), ("off", "mic"), ("source", "map"), ("wall", "map"), ("fade", "map"), ("filter", "map"), ("clock", "map"), ("zone", "map"), ("shade", "map"), ("off", "map"), ("wall", "source"), ("fade", "source"), ("filter", "source"), ("clock", "source"), ("zone", "source"), ("shade", "source"), ("off", "source"), ("fade", "wall"), ("filter", "wall"), ("clock", "wall"), ("zone", "wall"), ("shade", "wall"), ("off", "wall"), ("filter", "fade"), ("clock", "fade"), ("zone", "fade"), ("shade", "fade"), ("off", "fade"), ("clock", "filter"), ("zone", "filter"), ("shade", "filter"), ("off", "filter"), ("zone", "clock"), ("shade", "clock"), ("off", "clock"), ("shade", "zone"), ("off", "zone"), ("off", "shade")]) (a : WD b n p (sTx u)) : ¬ WD b n p (sTx v) := wx (List.all_eq_true.mp wq10 _ h) a
theorem thr_end {T1 : AT} {x : Option (Nat × Int32 × AT)} (h : othr x 0 (fun _ U => g_X3_parseLine_b209 U) = some (k, r, T1)) : ∃ r9, x = some (k, r9, T1) := by
  rcases othr_k h with ⟨r9, g, -⟩ | ⟨r9, U, g, h⟩
  · exact ⟨r9, g⟩
  · have q := osome3 (show some ((0 : Nat), (0 : Int32), U) = some (k, r, T1) from h)
    rw [← q.1, ← q.2.2]
    exact ⟨r9, g⟩
set_option maxHeartbeats 400000 in
theorem c_line (h : PRq b n c i T S) (hF : SRF s T) (hg : g_X3_parseLine T 6 s = some (k, r, T1)) : (WD b n (pst b n i) (sTx "mic") ∧ ∃ r9, g_X3_parseMic T 6 s = some (k, r9, T1)) ∨ (WD b n (pst b n i) (sTx "map") ∧ ∃ r9, g_X3_parseMap T 6 (s + 2) = some (k, r9, T1)) ∨ (WD b n (pst b n i) (sTx "source") ∧ ∃ r9, g_X3_parseSource T 6 s = some (k, r9, T1)) ∨ (WD b n (pst b n i) (sTx "wall") ∧ ∃ r9, g_X3_parseWall T 6 s = some (k, r9, T1)) ∨ (WD b n (pst b n i) (sTx "fade") ∧ ∃ r9, (elet (T.2.2.1 s 12) fun v107 => if v107 ≤ 0 then (g_X3_parseLine_b93 T 0 6 6 s) else (g_X3_parseLine_b93 T 1 6 6 s)) = some (k, r9, T1)) ∨ (WD b n (pst b n i) (sTx "filter") ∧ ∃ r9, g_X3_parseFilter T 6 s = some (k, r9, T1)) ∨ (WD b n (pst b n i) (sTx "clock") ∧ ∃ r9, g_X3_parseClock T 6 s = some (k, r9, T1)) ∨ (WD b n (pst b n i) (sTx "zone") ∧ ∃ r9, g_X3_parseZone T 6 (s + 2) = some (k, r9, T1)) ∨ (WD b n (pst b n i) (sTx "shade") ∧ ∃ r9, g_X3_parseShade T 6 s = some (k, r9, T1)) ∨ (WD b n (pst b n i) (sTx "off") ∧ ∃ r9, g_X3_parseOff T 6 s = some (k, r9, T1)) ∨ ((¬ WD b n (pst b n i) (sTx "mic") ∧ ¬ WD b n (pst b n i) (sTx "map") ∧ ¬ WD b n (pst b n i) (sTx "source") ∧ ¬ WD b n (pst b n i) (sTx "wall") ∧ ¬ WD b n (pst b n i) (sTx "fade") ∧ ¬ WD b n (pst b n i) (sTx "filter") ∧ ¬ WD b n (pst b n i) (sTx "clock") ∧ ¬ WD b n (pst b n i) (sTx "zone") ∧ ¬ WD b n (pst b n i) (sTx "shade") ∧ ¬ WD b n (pst b n i) (sTx "off")) ∧ ∃ r9, g_X3_failAt T 6 (nI i) 1 = some (k, r9, T1)) := by
  unfold g_X3_parseLine at hg
  obtain ⟨-, hg⟩ := oif_some hg
  obtain ⟨r0, U0, e0, hg⟩ := obind2_some hg
  obtain ⟨t0, d0⟩ := kc_word (wl_of (by decide)) h e0
  rw [t0] at hg
  rcases d0 with ⟨z, d0⟩ | ⟨z, d0⟩
  · rw [if_neg (by rw [z]; decide)] at hg
    obtain ⟨-, hg⟩ := oif_some hg
    obtain ⟨r9, hg⟩ := thr_end hg
    exact .inl ⟨d0, r9, hg⟩
  rw [if_pos z] at hg
  obtain ⟨-, hg⟩ := oif_some hg
  obtain ⟨r1, U1, e1, hg⟩ := obind2_some hg
  obtain ⟨t1, d1⟩ := kc_word (wl_of (by decide)) h e1
  rw [t1] at hg
  rcases d1 with ⟨z, d1⟩ | ⟨z, d1⟩
  · rw [if_neg (by rw [z]; decide)] at hg
    obtain ⟨-, hg⟩ := oif_some hg
    obtain ⟨n9, e9, hg⟩ := obind_some hg
    rw [hF.2.1] at e9
    cases e9
    obtain ⟨-, hg⟩ := oif_some hg
    obtain ⟨r9, hg⟩ := thr_end hg
    exact .inr (.inl ⟨d1, r9, hg⟩)
  rw [if_pos z] at hg
  obtain ⟨-, hg⟩ := oif_some hg
  obtain ⟨r2, U2, e2, hg⟩ := obind2_some hg
  obtain ⟨t2, d2⟩ := kc_word (wl_of (by decide)) h e2
  rw [t2] at hg
  rcases d2 with ⟨z, d2⟩ | ⟨z, d2⟩
  · rw [if_neg (by rw [z]; decide)] at hg
    obtain ⟨-, hg⟩ := oif_some hg
    obtain ⟨r9, hg⟩ := thr_end hg
    exact .inr (.inr (.inl ⟨d2, r9, hg⟩))
  rw [if_pos z] at hg
  obtain ⟨-, hg⟩ := oif_some hg
  obtain ⟨r3, U3, e3, hg⟩ := obind2_some hg
  obtain ⟨t3, d3⟩ := kc_word (wl_of (by decide)) h e3
  rw [t3] at hg
  rcases d3 with ⟨z, d3⟩ | ⟨z, d3⟩
  · rw [if_neg (by rw [z]; decide)] at hg
    obtain ⟨-, hg⟩ := oif_some hg
    obtain ⟨r9, hg⟩ := thr_end hg
    exact .inr (.inr (.inr (.inl ⟨d3, r9, hg⟩)))
  rw [if_pos z] at hg
  obtain ⟨-, hg⟩ := oif_some hg
  obtain ⟨r4, U4, e4, hg⟩ := obind2_some hg
  obtain ⟨t4, d4⟩ := kc_word (wl_of (by decide)) h e4
  rw [t4] at hg
  rcases d4 with ⟨z, d4⟩ | ⟨z, d4⟩
  · rw [if_neg (by rw [z]; decide)] at hg
    obtain ⟨-, hg⟩ := oif_some hg
    exact .inr (.inr (.inr (.inr (.inl ⟨d4, r, hg⟩))))
  rw [if_pos z] at hg
  obtain ⟨-, hg⟩ := oif_some hg
  obtain ⟨r5, U5, e5, hg⟩ := obind2_some hg
  obtain ⟨t5, d5⟩ := kc_word (wl_of (by decide)) h e5
  rw [t5] at hg
  rcases d5 with ⟨z, d5⟩ | ⟨z, d5⟩
  · rw [if_neg (by rw [z]; decide)] at hg
    obtain ⟨-, hg⟩ := oif_some hg
    obtain ⟨r9, hg⟩ := thr_end hg
    exact .inr (.inr (.inr (.inr (.inr (.inl ⟨d5, r9, hg⟩)))))
  rw [if_pos z] at hg
  obtain ⟨-, hg⟩ := oif_some hg
  obtain ⟨r6, U6, e6, hg⟩ := obind2_some hg
  obtain ⟨t6, d6⟩ := kc_word (wl_of (by decide)) h e6
  rw [t6] at hg
  rcases d6 with ⟨z, d6⟩ | ⟨z, d6⟩
  · rw [if_neg (by rw [z]; decide)] at hg
    obtain ⟨-, hg⟩ := oif_some hg
    obtain ⟨r9, hg⟩ := thr_end hg
    exact .inr (.inr (.inr (.inr (.inr (.inr (.inl ⟨d6, r9, hg⟩))))))
  rw [if_pos z] at hg
  obtain ⟨-, hg⟩ := oif_some hg
  obtain ⟨r7, U7, e7, hg⟩ := obind2_some hg
  obtain ⟨t7, d7⟩ := kc_word (wl_of (by decide)) h e7
  rw [t7] at hg
  rcases d7 with ⟨z, d7⟩ | ⟨z, d7⟩
  · rw [if_neg (by rw [z]; decide)] at hg
    obtain ⟨-, hg⟩ := oif_some hg
    obtain ⟨n9, e9, hg⟩ := obind_some hg
    rw [hF.2.1] at e9
    cases e9
    obtain ⟨-, hg⟩ := oif_some hg
    obtain ⟨r9, hg⟩ := thr_end hg
    exact .inr (.inr (.inr (.inr (.inr (.inr (.inr (.inl ⟨d7, r9, hg⟩)))))))
  rw [if_pos z] at hg
  obtain ⟨-, hg⟩ := oif_some hg
  obtain ⟨r8, U8, e8, hg⟩ := obind2_some hg
  obtain ⟨t8, d8⟩ := kc_word (wl_of (by decide)) h e8
  rw [t8] at hg
  rcases d8 with ⟨z, d8⟩ | ⟨z, d8⟩
  · rw [if_neg (by rw [z]; decide)] at hg
    obtain ⟨-, hg⟩ := oif_some hg
    obtain ⟨r9, hg⟩ := thr_end hg
    exact .inr (.inr (.inr (.inr (.inr (.inr (.inr (.inr (.inl ⟨d8, r9, hg⟩))))))))
  rw [if_pos z] at hg
  obtain ⟨-, hg⟩ := oif_some hg
  obtain ⟨r9, U9, e9, hg⟩ := obind2_some hg
  obtain ⟨t9, d9⟩ := kc_word (wl_of (by decide)) h e9
  rw [t9] at hg
  rcases d9 with ⟨z, d9⟩ | ⟨z, d9⟩
  · rw [if_neg (by rw [z]; decide)] at hg
    obtain ⟨-, hg⟩ := oif_some hg
    obtain ⟨r9, hg⟩ := thr_end hg
    exact .inr (.inr (.inr (.inr (.inr (.inr (.inr (.inr (.inr (.inl ⟨d9, r9, hg⟩)))))))))
  rw [if_pos z] at hg
  obtain ⟨-, hg⟩ := oif_some hg
  obtain ⟨v73, e73, hg⟩ := elet_some hg
  rw [h.1.2.2.2.2.2] at e73
  rw [e73] at hg
  obtain ⟨-, hg⟩ := oif_some hg
  obtain ⟨r9, hg⟩ := thr_end hg
  exact .inr (.inr (.inr (.inr (.inr (.inr (.inr (.inr (.inr (.inr (⟨⟨d0, d1, d2, d3, d4, d5, d6, d7, d8, d9⟩, r9, hg⟩))))))))))
set_option maxHeartbeats 400000 in
theorem r_line (h : PRq b n c i T S) (hf : fr_readLine S = some S1) : (WD b n (pst b n i) (sTx "wall") ∧ fr_readWall S = some S1) ∨ (WD b n (pst b n i) (sTx "fade") ∧ fr_readFade S = some S1) ∨ (WD b n (pst b n i) (sTx "filter") ∧ fr_readFilter S = some S1) ∨ (WD b n (pst b n i) (sTx "clock") ∧ fr_readClock S = some S1) ∨ (WD b n (pst b n i) (sTx "zone") ∧ fr_readZone S = some S1) ∨ (WD b n (pst b n i) (sTx "shade") ∧ fr_readShade S = some S1) ∨ (WD b n (pst b n i) (sTx "off") ∧ fr_readOff S = some S1) ∨ (WD b n (pst b n i) (sTx "mic") ∧ fr_readMic S = some S1) ∨ (WD b n (pst b n i) (sTx "map") ∧ fr_readMap S = some S1) ∨ (WD b n (pst b n i) (sTx "source") ∧ fr_readSource S = some S1) ∨ ((¬ WD b n (pst b n i) (sTx "wall") ∧ ¬ WD b n (pst b n i) (sTx "fade") ∧ ¬ WD b n (pst b n i) (sTx "filter") ∧ ¬ WD b n (pst b n i) (sTx "clock") ∧ ¬ WD b n (pst b n i) (sTx "zone") ∧ ¬ WD b n (pst b n i) (sTx "shade") ∧ ¬ WD b n (pst b n i) (sTx "off") ∧ ¬ WD b n (pst b n i) (sTx "mic") ∧ ¬ WD b n (pst b n i) (sTx "map") ∧ ¬ WD b n (pst b n i) (sTx "source")) ∧ fr_faults S 1 = some S1) := by
  unfold fr_readLine at hf
  obtain ⟨r0, U0, e0, hf⟩ := obind2_some hf
  obtain ⟨t0, d0⟩ := kr_word (wl_of (by decide)) h e0
  rw [t0] at hf
  rcases d0 with ⟨z, d0⟩ | ⟨z, d0⟩
  · rw [if_neg (by rw [z]; decide)] at hf
    obtain ⟨V, f9, hf⟩ := obind_some hf
    have q := osome1 (show some V = some S1 from hf)
    rw [q] at f9
    exact .inl ⟨d0, f9⟩
  rw [if_pos z] at hf
  obtain ⟨r1, U1, e1, hf⟩ := obind2_some hf
  obtain ⟨t1, d1⟩ := kr_word (wl_of (by decide)) h e1
  rw [t1] at hf
  rcases d1 with ⟨z, d1⟩ | ⟨z, d1⟩
  · rw [if_neg (by rw [z]; decide)] at hf
    obtain ⟨V, f9, hf⟩ := obind_some hf
    have q := osome1 (show some V = some S1 from hf)
    rw [q] at f9
    exact .inr (.inl ⟨d1, f9⟩)
  rw [if_pos z] at hf
  obtain ⟨r2, U2, e2, hf⟩ := obind2_some hf
  obtain ⟨t2, d2⟩ := kr_word (wl_of (by decide)) h e2
  rw [t2] at hf
  rcases d2 with ⟨z, d2⟩ | ⟨z, d2⟩
  · rw [if_neg (by rw [z]; decide)] at hf
    obtain ⟨V, f9, hf⟩ := obind_some hf
    have q := osome1 (show some V = some S1 from hf)
    rw [q] at f9
    exact .inr (.inr (.inl ⟨d2, f9⟩))
  rw [if_pos z] at hf
  obtain ⟨r3, U3, e3, hf⟩ := obind2_some hf
  obtain ⟨t3, d3⟩ := kr_word (wl_of (by decide)) h e3
  rw [t3] at hf
  rcases d3 with ⟨z, d3⟩ | ⟨z, d3⟩
  · rw [if_neg (by rw [z]; decide)] at hf
    obtain ⟨V, f9, hf⟩ := obind_some hf
    have q := osome1 (show some V = some S1 from hf)
    rw [q] at f9
    exact .inr (.inr (.inr (.inl ⟨d3, f9⟩)))
  rw [if_pos z] at hf
  obtain ⟨r4, U4, e4, hf⟩ := obind2_some hf
  obtain ⟨t4, d4⟩ := kr_word (wl_of (by decide)) h e4
  rw [t4] at hf
  rcases d4 with ⟨z, d4⟩ | ⟨z, d4⟩
  · rw [if_neg (by rw [z]; decide)] at hf
    obtain ⟨V, f9, hf⟩ := obind_some hf
    have q := osome1 (show some V = some S1 from hf)
    rw [q] at f9
    exact .inr (.inr (.inr (.inr (.inl ⟨d4, f9⟩))))
  rw [if_pos z] at hf
  obtain ⟨r5, U5, e5, hf⟩ := obind2_some hf
  obtain ⟨t5, d5⟩ := kr_word (wl_of (by decide)) h e5
  rw [t5] at hf
  rcases d5 with ⟨z, d5⟩ | ⟨z, d5⟩
  · rw [if_neg (by rw [z]; decide)] at hf
    obtain ⟨V, f9, hf⟩ := obind_some hf
    have q := osome1 (show some V = some S1 from hf)
    rw [q] at f9
    exact .inr (.inr (.inr (.inr (.inr (.inl ⟨d5, f9⟩)))))
  rw [if_pos z] at hf
  obtain ⟨r6, U6, e6, hf⟩ := obind2_some hf
  obtain ⟨t6, d6⟩ := kr_word (wl_of (by decide)) h e6
  rw [t6] at hf
  rcases d6 with ⟨z, d6⟩ | ⟨z, d6⟩
  · rw [if_neg (by rw [z]; decide)] at hf
    obtain ⟨V, f9, hf⟩ := obind_some hf
    have q := osome1 (show some V = some S1 from hf)
    rw [q] at f9
    exact .inr (.inr (.inr (.inr (.inr (.inr (.inl ⟨d6, f9⟩))))))
  rw [if_pos z] at hf
  obtain ⟨r7, U7, e7, hf⟩ := obind2_some hf
  obtain ⟨t7, d7⟩ := kr_word (wl_of (by decide)) h e7
  rw [t7] at hf
  rcases d7 with ⟨z, d7⟩ | ⟨z, d7⟩
  · rw [if_neg (by rw [z]; decide)] at hf
    obtain ⟨V, f9, hf⟩ := obind_some hf
    have q := osome1 (show some V = some S1 from hf)
    rw [q] at f9
    exact .inr (.inr (.inr (.inr (.inr (.inr (.inr (.inl ⟨d7, f9⟩)))))))
  rw [if_pos z] at hf
  obtain ⟨r8, U8, e8, hf⟩ := obind2_some hf
  obtain ⟨t8, d8⟩ := kr_word (wl_of (by decide)) h e8
  rw [t8] at hf
  rcases d8 with ⟨z, d8⟩ | ⟨z, d8⟩
  · rw [if_neg (by rw [z]; decide)] at hf
    obtain ⟨V, f9, hf⟩ := obind_some hf
    have q := osome1 (show some V = some S1 from hf)
    rw [q] at f9
    exact .inr (.inr (.inr (.inr (.inr (.inr (.inr (.inr (.inl ⟨d8, f9⟩))))))))
  rw [if_pos z] at hf
  obtain ⟨r9, U9, e9, hf⟩ := obind2_some hf
  obtain ⟨t9, d9⟩ := kr_word (wl_of (by decide)) h e9
  rw [t9] at hf
  rcases d9 with ⟨z, d9⟩ | ⟨z, d9⟩
  · rw [if_neg (by rw [z]; decide)] at hf
    obtain ⟨V, f9, hf⟩ := obind_some hf
    have q := osome1 (show some V = some S1 from hf)
    rw [q] at f9
    exact .inr (.inr (.inr (.inr (.inr (.inr (.inr (.inr (.inr (.inl ⟨d9, f9⟩)))))))))
  rw [if_pos z] at hf
  obtain ⟨V, f9, hf⟩ := obind_some hf
  have q := osome1 (show some V = some S1 from hf)
  rw [q] at f9
  exact .inr (.inr (.inr (.inr (.inr (.inr (.inr (.inr (.inr (.inr (⟨⟨d0, d1, d2, d3, d4, d5, d6, d7, d8, d9⟩, f9⟩))))))))))
set_option maxHeartbeats 400000 in
theorem l_line (h : PRq b n c i T S) (hs : s = 478 ∨ s = 656) (hF : SRF s T) (hC : SCNq s T (S.2.1 11) (S.2.1 13)) (hg : g_X3_parseLine T 6 s = some (k, r, T1)) (hf : fr_readLine S = some S1) : LNq b n c i s T T1 S1 k := by
  have cl := c_line h hF hg
  have rl := r_line h hf
  have e_mic : WD b n (pst b n i) (sTx "mic") → fr_readMic S = some S1 := fun d => by
    rcases rl with ⟨f, q⟩ | ⟨f, q⟩ | ⟨f, q⟩ | ⟨f, q⟩ | ⟨f, q⟩ | ⟨f, q⟩ | ⟨f, q⟩ | ⟨f, q⟩ | ⟨f, q⟩ | ⟨f, q⟩ | ⟨f, -⟩
    · exact absurd f (wx10 (by decide) d)
    · exact absurd f (wx10 (by decide) d)
    · exact absurd f (wx10 (by decide) d)
    · exact absurd f (wx10 (by decide) d)
    · exact absurd f (wx10 (by decide) d)
    · exact absurd f (wx10 (by decide) d)
    · exact absurd f (wx10 (by decide) d)
    · exact q
    · exact absurd f (wx10 (by decide) d)
    · exact absurd f (wx10 (by decide) d)
    · exact absurd d f.2.2.2.2.2.2.2.1
  have e_map : WD b n (pst b n i) (sTx "map") → fr_readMap S = some S1 := fun d => by
    rcases rl with ⟨f, q⟩ | ⟨f, q⟩ | ⟨f, q⟩ | ⟨f, q⟩ | ⟨f, q⟩ | ⟨f, q⟩ | ⟨f, q⟩ | ⟨f, q⟩ | ⟨f, q⟩ | ⟨f, q⟩ | ⟨f, -⟩
    · exact absurd f (wx10 (by decide) d)
    · exact absurd f (wx10 (by decide) d)
    · exact absurd f (wx10 (by decide) d)
    · exact absurd f (wx10 (by decide) d)
    · exact absurd f (wx10 (by decide) d)
    · exact absurd f (wx10 (by decide) d)
    · exact absurd f (wx10 (by decide) d)
    · exact absurd f (wx10 (by decide) d)
    · exact q
    · exact absurd f (wx10 (by decide) d)
    · exact absurd d f.2.2.2.2.2.2.2.2.1
  have e_source : WD b n (pst b n i) (sTx "source") → fr_readSource S = some S1 := fun d => by
    rcases rl with ⟨f, q⟩ | ⟨f, q⟩ | ⟨f, q⟩ | ⟨f, q⟩ | ⟨f, q⟩ | ⟨f, q⟩ | ⟨f, q⟩ | ⟨f, q⟩ | ⟨f, q⟩ | ⟨f, q⟩ | ⟨f, -⟩
    · exact absurd f (wx10 (by decide) d)
    · exact absurd f (wx10 (by decide) d)
    · exact absurd f (wx10 (by decide) d)
    · exact absurd f (wx10 (by decide) d)
    · exact absurd f (wx10 (by decide) d)
    · exact absurd f (wx10 (by decide) d)
    · exact absurd f (wx10 (by decide) d)
    · exact absurd f (wx10 (by decide) d)
    · exact absurd f (wx10 (by decide) d)
    · exact q
    · exact absurd d f.2.2.2.2.2.2.2.2.2
  have e_wall : WD b n (pst b n i) (sTx "wall") → fr_readWall S = some S1 := fun d => by
    rcases rl with ⟨f, q⟩ | ⟨f, q⟩ | ⟨f, q⟩ | ⟨f, q⟩ | ⟨f, q⟩ | ⟨f, q⟩ | ⟨f, q⟩ | ⟨f, q⟩ | ⟨f, q⟩ | ⟨f, q⟩ | ⟨f, -⟩
    · exact q
    · exact absurd f (wx10 (by decide) d)
    · exact absurd f (wx10 (by decide) d)
    · exact absurd f (wx10 (by decide) d)
    · exact absurd f (wx10 (by decide) d)
    · exact absurd f (wx10 (by decide) d)
    · exact absurd f (wx10 (by decide) d)
    · exact absurd f (wx10 (by decide) d)
    · exact absurd f (wx10 (by decide) d)
    · exact absurd f (wx10 (by decide) d)
    · exact absurd d f.1
  have e_fade : WD b n (pst b n i) (sTx "fade") → fr_readFade S = some S1 := fun d => by
    rcases rl with ⟨f, q⟩ | ⟨f, q⟩ | ⟨f, q⟩ | ⟨f, q⟩ | ⟨f, q⟩ | ⟨f, q⟩ | ⟨f, q⟩ | ⟨f, q⟩ | ⟨f, q⟩ | ⟨f, q⟩ | ⟨f, -⟩
    · exact absurd f (wx10 (by decide) d)
    · exact q
    · exact absurd f (wx10 (by decide) d)
    · exact absurd f (wx10 (by decide) d)
    · exact absurd f (wx10 (by decide) d)
    · exact absurd f (wx10 (by decide) d)
    · exact absurd f (wx10 (by decide) d)
    · exact absurd f (wx10 (by decide) d)
    · exact absurd f (wx10 (by decide) d)
    · exact absurd f (wx10 (by decide) d)
    · exact absurd d f.2.1
  have e_filter : WD b n (pst b n i) (sTx "filter") → fr_readFilter S = some S1 := fun d => by
    rcases rl with ⟨f, q⟩ | ⟨f, q⟩ | ⟨f, q⟩ | ⟨f, q⟩ | ⟨f, q⟩ | ⟨f, q⟩ | ⟨f, q⟩ | ⟨f, q⟩ | ⟨f, q⟩ | ⟨f, q⟩ | ⟨f, -⟩
    · exact absurd f (wx10 (by decide) d)
    · exact absurd f (wx10 (by decide) d)
    · exact q
    · exact absurd f (wx10 (by decide) d)
    · exact absurd f (wx10 (by decide) d)
    · exact absurd f (wx10 (by decide) d)
    · exact absurd f (wx10 (by decide) d)
    · exact absurd f (wx10 (by decide) d)
    · exact absurd f (wx10 (by decide) d)
    · exact absurd f (wx10 (by decide) d)
    · exact absurd d f.2.2.1
  have e_clock : WD b n (pst b n i) (sTx "clock") → fr_readClock S = some S1 := fun d => by
    rcases rl with ⟨f, q⟩ | ⟨f, q⟩ | ⟨f, q⟩ | ⟨f, q⟩ | ⟨f, q⟩ | ⟨f, q⟩ | ⟨f, q⟩ | ⟨f, q⟩ | ⟨f, q⟩ | ⟨f, q⟩ | ⟨f, -⟩
    · exact absurd f (wx10 (by decide) d)
    · exact absurd f (wx10 (by decide) d)
    · exact absurd f (wx10 (by decide) d)
    · exact q
    · exact absurd f (wx10 (by decide) d)
    · exact absurd f (wx10 (by decide) d)
    · exact absurd f (wx10 (by decide) d)
    · exact absurd f (wx10 (by decide) d)
    · exact absurd f (wx10 (by decide) d)
    · exact absurd f (wx10 (by decide) d)
    · exact absurd d f.2.2.2.1
  have e_zone : WD b n (pst b n i) (sTx "zone") → fr_readZone S = some S1 := fun d => by
    rcases rl with ⟨f, q⟩ | ⟨f, q⟩ | ⟨f, q⟩ | ⟨f, q⟩ | ⟨f, q⟩ | ⟨f, q⟩ | ⟨f, q⟩ | ⟨f, q⟩ | ⟨f, q⟩ | ⟨f, q⟩ | ⟨f, -⟩
    · exact absurd f (wx10 (by decide) d)
    · exact absurd f (wx10 (by decide) d)
    · exact absurd f (wx10 (by decide) d)
    · exact absurd f (wx10 (by decide) d)
    · exact q
    · exact absurd f (wx10 (by decide) d)
    · exact absurd f (wx10 (by decide) d)
    · exact absurd f (wx10 (by decide) d)
    · exact absurd f (wx10 (by decide) d)
    · exact absurd f (wx10 (by decide) d)
    · exact absurd d f.2.2.2.2.1
  have e_shade : WD b n (pst b n i) (sTx "shade") → fr_readShade S = some S1 := fun d => by
    rcases rl with ⟨f, q⟩ | ⟨f, q⟩ | ⟨f, q⟩ | ⟨f, q⟩ | ⟨f, q⟩ | ⟨f, q⟩ | ⟨f, q⟩ | ⟨f, q⟩ | ⟨f, q⟩ | ⟨f, q⟩ | ⟨f, -⟩
    · exact absurd f (wx10 (by decide) d)
    · exact absurd f (wx10 (by decide) d)
    · exact absurd f (wx10 (by decide) d)
    · exact absurd f (wx10 (by decide) d)
    · exact absurd f (wx10 (by decide) d)
    · exact q
    · exact absurd f (wx10 (by decide) d)
    · exact absurd f (wx10 (by decide) d)
    · exact absurd f (wx10 (by decide) d)
    · exact absurd f (wx10 (by decide) d)
    · exact absurd d f.2.2.2.2.2.1
  have e_off : WD b n (pst b n i) (sTx "off") → fr_readOff S = some S1 := fun d => by
    rcases rl with ⟨f, q⟩ | ⟨f, q⟩ | ⟨f, q⟩ | ⟨f, q⟩ | ⟨f, q⟩ | ⟨f, q⟩ | ⟨f, q⟩ | ⟨f, q⟩ | ⟨f, q⟩ | ⟨f, q⟩ | ⟨f, -⟩
    · exact absurd f (wx10 (by decide) d)
    · exact absurd f (wx10 (by decide) d)
    · exact absurd f (wx10 (by decide) d)
    · exact absurd f (wx10 (by decide) d)
    · exact absurd f (wx10 (by decide) d)
    · exact absurd f (wx10 (by decide) d)
    · exact q
    · exact absurd f (wx10 (by decide) d)
    · exact absurd f (wx10 (by decide) d)
    · exact absurd f (wx10 (by decide) d)
    · exact absurd d f.2.2.2.2.2.2.1
  rcases cl with ⟨d, r9, hg⟩ | ⟨d, r9, hg⟩ | ⟨d, r9, hg⟩ | ⟨d, r9, hg⟩ | ⟨d, r9, hg⟩ | ⟨d, r9, hg⟩ | ⟨d, r9, hg⟩ | ⟨d, r9, hg⟩ | ⟨d, r9, hg⟩ | ⟨d, r9, hg⟩ | ⟨d, r9, hg⟩
  · exact l_mic h d.1 hs hF hC hg (e_mic d)
  · exact l_map h d.1 hs hF hC hg (e_map d)
  · exact l_source h d.1 hs hF hC hg (e_source d)
  · exact l_wall h d.1 hs hF hC hg (e_wall d)
  · exact l_fade h d.1 hs hF hC hg (e_fade d)
  · exact l_filter h d.1 hs hF hC hg (e_filter d)
  · exact l_clock h d.1 hs hF hC hg (e_clock d)
  · exact l_zone h d.1 hs hF hC hg (e_zone d)
  · exact l_shade h d.1 hs hF hC hg (e_shade d)
  · exact l_off h d.1 hs hF hC hg (e_off d)
  · rcases rl with ⟨f, -⟩ | ⟨f, -⟩ | ⟨f, -⟩ | ⟨f, -⟩ | ⟨f, -⟩ | ⟨f, -⟩ | ⟨f, -⟩ | ⟨f, -⟩ | ⟨f, -⟩ | ⟨f, -⟩ | ⟨-, f⟩
    · exact absurd f d.2.2.2.1
    · exact absurd f d.2.2.2.2.1
    · exact absurd f d.2.2.2.2.2.1
    · exact absurd f d.2.2.2.2.2.2.1
    · exact absurd f d.2.2.2.2.2.2.2.1
    · exact absurd f d.2.2.2.2.2.2.2.2.1
    · exact absurd f d.2.2.2.2.2.2.2.2.2
    · exact absurd f d.1
    · exact absurd f d.2.1
    · exact absurd f d.2.2.1
    · exact .inr (k_err h h.1.2.2.2.2.1 rfl (by decide) hg f)
end
end
section
/-! 20k.parse.lean.txt -/
section
variable {b : Nat → Int32} {n c i k s : Nat} {T T1 : AT} {S S1 : MS} {r : Int32}
/-- the outcome of a text -/
def TXq (s : Nat) (T T1 : AT) (S1 : MS) (k : Nat) : Prop := (k = 0 ∧ SCNq s T1 (S1.2.1 11) (S1.2.1 13) ∧ T1.2.2.2.2 = T.2.2.2.2 ∧ T1.2.2.1 6 2 = 0 ∧ T1.2.2.1 6 3 = -1 ∧ S1.1 5 = 0 ∧ S1.1 6 = -1 ∧ S1.2.1 11 4 ≠ 0 ∧ S1.2.1 11 8 ≠ 0) ∨ (k = 3 ∧ ERq T1 S1)
theorem st_b92 (q : 0 < (S.1 5).toInt) (hf : fr_readText_b92 S = some S1) : S1 = S := by
  have fin : fr_readText_b111 S = some S1 → S1 = S := fun hf => by
    unfold fr_readText_b111 at hf
    obtain ⟨S2, f2, hf⟩ := obind_some hf
    rw [st_faults q f2] at hf
    exact (osome1 (show some S = some S1 from hf)).symm
  unfold fr_readText_b92 at hf
  obtain ⟨v2, e2, hf⟩ := elet_some hf
  by_cases c1 : v2 = 0
  · rw [if_pos c1] at hf
    exact fin hf
  · rw [if_neg c1] at hf
    obtain ⟨v4, e4, hf⟩ := elet_some hf
    by_cases c2 : v4 = 0
    · rw [if_pos c2] at hf
      exact fin hf
    · rw [if_neg c2] at hf
      exact (osome1 (show some S = some S1 from hf)).symm
theorem st_b52 : ∀ f : Nat, 0 < (S.1 5).toInt → fr_readText_b52 f S = some S1 → S1 = S := by
  intro f q hf
  cases f with
  | zero => cases hf
  | succ f =>
    unfold fr_readText_b52 at hf
    obtain ⟨r5, S2, f5, hf⟩ := obind2_some hf
    obtain ⟨k1, k2⟩ := st_here q f5
    rw [if_pos k1, k2] at hf
    obtain ⟨v7, e7, hf⟩ := elet_some hf
    rw [if_neg (st_ne q e7)] at hf
    exact st_b92 q hf
/-- the end of a text: a camera must have microphones and a map -/
theorem k_end (h : PRq b n c i T S) (hs : s = 478 ∨ s = 656) (hF : SRF s T) (hC : SCNq s T (S.2.1 11) (S.2.1 13)) (hg : g_X3_parse_b81 T 6 s = some (k, r, T1)) (hf : fr_readText_b92 S = some S1) : TXq s T T1 S1 k := by
  have h11 := h.1.2.2.2.2.2
  have h10 := h.1.2.2.2.2.1
  have hC2 := hC
  obtain ⟨gH, ⟨mc, b1, b2, b3, b4, b5⟩, gG, -⟩ := hC
  have fail : g_X3_parse_b98 T 6 = some (k, r, T1) → fr_readText_b111 S = some S1 → TXq s T T1 S1 k := by
    intro hg hf
    unfold g_X3_parse_b98 at hg
    obtain ⟨-, hg⟩ := oif_some hg
    obtain ⟨v3, e3, hg⟩ := elet_some hg
    rw [h11] at e3
    rw [e3] at hg
    obtain ⟨-, hg⟩ := oif_some hg
    unfold fr_readText_b111 at hf
    obtain ⟨S2, f2, hf⟩ := obind_some hf
    rw [← osome1 (show some S2 = some S1 from hf)]
    right
    rcases othr_k hg with ⟨r9, g9, -⟩ | ⟨r9, T9, g9, -⟩
    · exact k_err h h10 rfl (by decide) g9 f2
    · exact absurd (k_err h h10 rfl (by decide) g9 f2).1 (by decide)
  unfold g_X3_parse_b81 at hg
  obtain ⟨-, hg⟩ := oif_some hg
  obtain ⟨v3, e3, hg⟩ := elet_some hg
  rw [b2, ← b3] at e3
  unfold fr_readText_b92 at hf
  obtain ⟨v2, e2, hf⟩ := elet_some hf
  rw [← e3] at e2
  by_cases c1 : v3 = 0
  · rw [if_pos c1] at hg
    rw [if_pos (e2.trans c1)] at hf
    exact fail hg hf
  rw [if_neg c1] at hg
  rw [if_neg (fun q => c1 (e2.symm.trans q))] at hf
  obtain ⟨-, hg⟩ := oif_some hg
  obtain ⟨n6, e6, hg⟩ := obind_some hg
  rw [hF.2.1] at e6
  cases e6
  obtain ⟨-, hg⟩ := oif_some hg
  obtain ⟨v8, e8, hg⟩ := elet_some hg
  rw [gG.1] at e8
  obtain ⟨v4, e4, hf⟩ := elet_some hf
  by_cases c2 : v8 = 0
  · rw [if_pos c2] at hg
    have c4 : v4 = 0 := by
      rw [e4]
      rcases gG.2.2 with ⟨y, -, -⟩ | ⟨-, y, -⟩
      · exact y
      · rw [← e8, c2] at y; exact absurd y (by decide)
    rw [if_pos c4] at hf
    exact fail hg hf
  · rw [if_neg c2] at hg
    have c4 : ¬ v4 = 0 := by
      rw [e4]
      rcases gG.2.2 with ⟨-, y, -⟩ | ⟨y, -, -⟩
      · rw [y] at e8; exact absurd e8 c2
      · intro q; rw [q] at y; exact absurd y (by decide)
    rw [if_neg c4] at hf
    have ff := osome1 (show some S = some S1 from hf)
    unfold g_X3_parse_b107 at hg
    obtain ⟨-, hg⟩ := oif_some hg
    obtain ⟨T3, e3', hg⟩ := elet_some hg
    obtain ⟨-, hg⟩ := oif_some hg
    obtain ⟨T5, e5, hg⟩ := elet_some hg
    have g := osome3 hg
    have t : TFq T T5 := by rw [e5, e3']; exact tf6.tr tf6
    rw [← g.2.2, ← ff]
    refine .inl ⟨g.1.symm, scn_tf hs t hC2, congrArg (fun x => x.2) t.2.2.1, ?_, ?_, h.2.2.1, h.2.2.2.1, ?_, ?_⟩
    · rw [e5, ui_ne (.inr (by decide)), e3', ui_at]
    · rw [e5, ui_at]
    · rw [← e3]; exact c1
    · rw [← e4]; exact c4
theorem k_textl (hs : s = 478 ∨ s = 656) : ∀ (f f2 : Nat) {i l k : Nat} {r : Int32} {T T1 : AT} {S S1 : MS}, PRq b n c i T S → SRF s T → SCNq s T (S.2.1 11) (S.2.1 13) → l ≤ i → g_X3_parse_b24 f T 6 s (nI l) = some (k, r, T1) → fr_readText_b52 f2 S = some S1 → TXq s T T1 S1 k := by
  intro f
  induction f with
  | zero => intro f2 i l k r T T1 S S1 p hF hC hl hg hf; cases hg
  | succ f ih =>
    intro f2 i l k r T T1 S S1 p hF hC hl hg hf
    cases f2 with
    | zero => cases hf
    | succ f2 =>
      have qt := p.2.2.2.2.2.2.2
      have h10 := p.1.2.2.2.2.1
      have h11 := p.1.2.2.2.2.2
      have hc := p.1.2.2.2.1.2.2.1
      unfold g_X3_parse_b24 at hg
      obtain ⟨-, hg⟩ := oif_some hg
      obtain ⟨n3, e3, hg⟩ := obind_some hg
      rw [p.1.2.1.2.2.2.2.1] at e3
      cases e3
      obtain ⟨-, hg⟩ := oif_some hg
      obtain ⟨v5, e5, hg⟩ := elet_some hg
      rw [p.1.2.2.2.1.1] at e5
      rw [if_neg (by rw [e5]; intro q; have := (nI_leI (by omega) (by omega)).mp q; omega)] at hg
      obtain ⟨-, hg⟩ := oif_some hg
      obtain ⟨r10, T8, e8, hg⟩ := obind2_some hg
      obtain ⟨k1, k2⟩ := k_kind p e8
      rw [k2] at hg
      unfold fr_readText_b52 at hf
      obtain ⟨r5, S2, f5, hf⟩ := obind2_some hf
      obtain ⟨g1, g2⟩ := k_here p (.inr rfl) f5
      rw [if_neg (by decide)] at g2
      rw [g1] at hf
      by_cases k5 : kd b n (pst b n i) = 5
      · rw [if_pos (k1.trans k5)] at hg
        have w1 : r5 = 0 := by
          rcases g2 with ⟨-, q⟩ | ⟨q, -⟩
          · rw [k5] at q; exact absurd q (by decide)
          · exact q
        rw [if_pos w1] at hf
        obtain ⟨v7, e7, hf⟩ := elet_some hf
        rw [if_pos (e7.trans p.2.2.1)] at hf
        obtain ⟨v9, e9, hf⟩ := elet_some hf
        rw [if_pos (e9.trans ((tk_end qt).mpr k5))] at hf
        exact k_end p hs hF hC hg hf
      rw [if_neg (fun q => k5 (k1.symm.trans q))] at hg
      obtain ⟨-, hg⟩ := oif_some hg
      obtain ⟨r16, T14, e14, hg⟩ := obind2_some hg
      obtain ⟨k3, k4⟩ := k_kind p e14
      rw [k4] at hg
      rcases g2 with ⟨w1, km⟩ | ⟨w1, km⟩
      · rw [if_pos (k3.trans km)] at hg
        rw [if_neg (by rw [w1]; decide)] at hf
        obtain ⟨S14, f14, hf⟩ := obind_some hf
        obtain ⟨S17, f17, hf⟩ := obind_some hf
        unfold g_X3_parse_b60 at hg
        obtain ⟨-, hg⟩ := oif_some hg
        obtain ⟨v3, e3, hg⟩ := elet_some hg
        rw [h11] at e3
        obtain ⟨v4, e4, hg⟩ := elet_some hg
        rw [e3, nI_1] at e4
        obtain ⟨-, hg⟩ := oif_some hg
        obtain ⟨T6, e6, hg⟩ := elet_some hg
        obtain ⟨p6, m6⟩ := pr_adv p k5 f14
        rw [← e4, ← e6] at p6
        have t6 : TFq T T6 := by rw [e6]; exact tf6
        have r6 : T6.2.2.2.2 = T.2.2.2.2 := congrArg (fun x => x.2) t6.2.2.1
        have C6 : SCNq s T6 (S14.2.1 11) (S14.2.1 13) := by rw [m6.1]; exact scn_tf hs t6 hC
        obtain ⟨-, hg⟩ := oif_some hg
        rcases othr_k hg with ⟨r9, g9, z9⟩ | ⟨r9, T9, g9, hg⟩
        · rcases l_line p6 hs (hF.sub r6) C6 g9 f17 with ⟨z, -⟩ | ⟨z1, z2⟩
          · exact absurd z z9
          · exact .inr ⟨z1, by rw [st_b52 _ z2.1 hf]; exact z2⟩
        rcases l_line p6 hs (hF.sub r6) C6 g9 f17 with ⟨-, ⟨j, hj, p9⟩, C9, r9'⟩ | ⟨z1, -⟩
        rotate_left
        · exact absurd z1 (by decide)
        obtain ⟨v12, e12, hg⟩ := elet_some hg
        have e12 : v12 = nI (l + 1) := e12.trans (nI_1 l)
        rw [e12] at hg
        rcases ih f2 p9 (hF.sub (r9'.trans r6)) C9 (by omega) hg hf with ⟨y1, y2, y3, y4⟩ | y
        · exact .inl ⟨y1, y2, y3.trans (r9'.trans r6), y4⟩
        · exact .inr y
      · rw [if_neg (fun q => km (k3.symm.trans q))] at hg
        rw [if_pos w1] at hf
        obtain ⟨v7, e7, hf⟩ := elet_some hf
        rw [if_pos (e7.trans p.2.2.1)] at hf
        obtain ⟨v9, e9, hf⟩ := elet_some hf
        rw [if_neg (fun q => k5 ((tk_end qt).mp (e9.symm.trans q)))] at hf
        obtain ⟨S11, f11, hf⟩ := obind_some hf
        obtain ⟨-, hg⟩ := oif_some hg
        obtain ⟨v20, e20, hg⟩ := elet_some hg
        rw [h11] at e20
        rw [e20] at hg
        obtain ⟨-, hg⟩ := oif_some hg
        right
        rcases othr_k hg with ⟨r9, g9, -⟩ | ⟨r9, T9, g9, -⟩
        · obtain ⟨a1, a2⟩ := k_err p h10 rfl (by decide) g9 f11
          rw [st_b92 a2.1 hf]
          exact ⟨a1, a2⟩
        · exact absurd (k_err p h10 rfl (by decide) g9 f11).1 (by decide)
/-- the reference's plan and draft are made zero -/
theorem r_zero2 : ∀ (f : Nat) {l : Nat} {S : MS}, l ≤ 2455 → (∀ x, x < l → S.2.1 13 x = 0) → fr_readText_b24 f S (nI l) = some S1 → ∃ U V W, U.1 = S.1 ∧ (∀ a, a ≠ 13 → U.2.1 a = S.2.1 a) ∧ (∀ x, x < 2455 → U.2.1 13 x = 0) ∧ fr_nextToken U = some V ∧ fr_readFirst V = some W ∧ fr_readText_b52 16384 W = some S1 := by
  intro f
  induction f with
  | zero => intro l S hl hz hf; cases hf
  | succ f ih =>
    intro l S hl hz hf
    unfold fr_readText_b24 at hf
    by_cases c1 : (2455 : Int32) ≤ nI l
    · rw [if_pos c1] at hf
      have := (nI_leI (a := 2455) (b := l) (by omega) (by omega)).mp c1
      obtain ⟨V, f3, hf⟩ := obind_some hf
      obtain ⟨W, f6, hf⟩ := obind_some hf
      exact ⟨S, V, W, rfl, fun _ _ => rfl, fun x hx => hz x (by omega), f3, f6, hf⟩
    · rw [if_neg c1] at hf
      have c1 : l < 2455 := Nat.lt_of_not_le (fun q => c1 ((nI_leI (a := 2455) (b := l) (by omega) (by omega)).mpr q))
      obtain ⟨-, hf⟩ := oif_some hf
      obtain ⟨S10, e10, hf⟩ := elet_some hf
      rw [nI_clamp (by omega)] at e10
      obtain ⟨v11, e11, hf⟩ := elet_some hf
      have e11 : v11 = nI (l + 1) := e11.trans (nI_1 l)
      rw [e11] at hf
      obtain ⟨U, V, W, a1, a2, a3⟩ := ih (S := S10) (by omega) (fun x hx => by
        rw [e10, mf_at]
        show (if x = l then (0 : Int32) else S.2.1 13 x) = 0
        by_cases e : x = l
        · rw [if_pos e]
        · rw [if_neg e]; exact hz x (by omega)) hf
      exact ⟨U, V, W, a1.trans (by rw [e10]; rfl), fun a ha => (a2 a ha).trans (by rw [e10, mf_ne ha]), a3⟩
theorem r_zero1 : ∀ (f : Nat) {l : Nat} {S : MS}, l ≤ 131 → (∀ x, x < l → S.2.1 11 x = 0) → fr_readText_b2 f S (nI l) = some S1 → ∃ U V W, U.1 = S.1 ∧ (∀ a, a ≠ 13 → a ≠ 11 → U.2.1 a = S.2.1 a) ∧ (∀ x, x < 131 → U.2.1 11 x = 0) ∧ (∀ x, x < 2455 → U.2.1 13 x = 0) ∧ fr_nextToken U = some V ∧ fr_readFirst V = some W ∧ fr_readText_b52 16384 W = some S1 := by
  intro f
  induction f with
  | zero => intro l S hl hz hf; cases hf
  | succ f ih =>
    intro l S hl hz hf
    unfold fr_readText_b2 at hf
    by_cases c1 : (131 : Int32) ≤ nI l
    · rw [if_pos c1] at hf
      have := (nI_leI (a := 131) (b := l) (by omega) (by omega)).mp c1
      obtain ⟨U, V, W, a1, a2, a3, a4⟩ := r_zero2 16384 (l := 0) (by omega) (fun x hx => absurd hx (Nat.not_lt_zero x)) hf
      exact ⟨U, V, W, a1, fun a h1 h2 => a2 a h1, fun x hx => by rw [a2 11 (by decide)]; exact hz x (by omega), a3, a4⟩
    · rw [if_neg c1] at hf
      have c1 : l < 131 := Nat.lt_of_not_le (fun q => c1 ((nI_leI (a := 131) (b := l) (by omega) (by omega)).mpr q))
      obtain ⟨-, hf⟩ := oif_some hf
      obtain ⟨S4, e4, hf⟩ := elet_some hf
      rw [nI_clamp (by omega)] at e4
      obtain ⟨v5, e5, hf⟩ := elet_some hf
      have e5 : v5 = nI (l + 1) := e5.trans (nI_1 l)
      rw [e5] at hf
      obtain ⟨U, V, W, a1, a2, a3⟩ := ih (S := S4) (by omega) (fun x hx => by
        rw [e4, mf_at]
        show (if x = l then (0 : Int32) else S.2.1 11 x) = 0
        by_cases e : x = l
        · rw [if_pos e]
        · rw [if_neg e]; exact hz x (by omega)) hf
      exact ⟨U, V, W, a1.trans (by rw [e4]; rfl), fun a h1 h2 => (a2 a h1 h2).trans (by rw [e4, mf_ne h2]), a3⟩
set_option maxHeartbeats 400000 in
theorem l_parse (hs : s = 478 ∨ s = 656) (hR : TXR T) (hF : SRF s T) (hB : BYq b T) (hn : n ≤ 1000) (hb : S.2.1 1 = b) (h3 : S.1 3 = nI n) (h4 : S.1 4 = 0) (h5 : S.1 5 = 0) (h6 : S.1 6 = -1) (hg : g_X3_parse T 6 (nI n) s = some (k, r, T1)) (hf : fr_readText S = some S1) : TXq s T T1 S1 k := by
  unfold fr_readText at hf
  obtain ⟨U, V, W, u1, u2, uP, uD, fV, fW, hf⟩ := r_zero1 16384 (l := 0) (by omega) (fun x hx => absurd hx (Nat.not_lt_zero x)) hf
  unfold g_X3_parse at hg
  obtain ⟨-, hg⟩ := oif_some hg
  obtain ⟨n3, e3, hg⟩ := obind_some hg
  rw [hR.2.2.2.2.1] at e3
  cases e3
  obtain ⟨-, hg⟩ := oif_some hg
  obtain ⟨T5, e5, hg⟩ := obind_some hg
  obtain ⟨kp, c, tk⟩ := q_cut hR hB hn e5
  obtain ⟨-, hg⟩ := oif_some hg
  obtain ⟨T8, e8, hg⟩ := elet_some hg
  obtain ⟨-, hg⟩ := oif_some hg
  obtain ⟨T10, e10, hg⟩ := obind_some hg
  obtain ⟨-, hg⟩ := oif_some hg
  have R5 : T5.2.2.2.2 = T.2.2.2.2 := congrArg (fun x => x.2) kp.2.2.1
  have R8 : T8.2.2.2.2 = T.2.2.2.2 := by rw [e8]; exact R5
  -- clear
  unfold g_X6_clear at e10
  obtain ⟨-, e10⟩ := oif_some e10
  obtain ⟨n3, en3, e10⟩ := obind_some e10
  rw [R8, hF.2.1] at en3
  cases en3
  obtain ⟨-, e10⟩ := oif_some e10
  obtain ⟨A5, a5, e10⟩ := obind_some e10
  unfold g_X1_clear at a5
  obtain ⟨-, a5⟩ := oif_some a5
  obtain ⟨B3, b3, a5⟩ := elet_some a5
  obtain ⟨-, a5⟩ := oif_some a5
  obtain ⟨B5, b5, a5⟩ := elet_some a5
  obtain ⟨-, a5⟩ := oif_some a5
  obtain ⟨B7, b7, a5⟩ := elet_some a5
  have a5 := osome1 a5
  rw [← a5] at e10
  obtain ⟨-, e10⟩ := oif_some e10
  obtain ⟨C8, c8, e10⟩ := elet_some e10
  obtain ⟨-, e10⟩ := oif_some e10
  obtain ⟨C10, c10, e10⟩ := elet_some e10
  obtain ⟨-, e10⟩ := oif_some e10
  obtain ⟨C12, c12, e10⟩ := elet_some e10
  obtain ⟨-, e10⟩ := oif_some e10
  obtain ⟨C14, c14, e10⟩ := elet_some e10
  obtain ⟨-, e10⟩ := oif_some e10
  obtain ⟨C16, c16, e10⟩ := elet_some e10
  obtain ⟨-, e10⟩ := oif_some e10
  obtain ⟨C18, c18, e10⟩ := elet_some e10
  have e10 := osome1 e10
  rw [← e10] at hg
  have hI : ∀ m j : Nat, C18.2.2.1 m j = if m = s ∧ j = 16 then 0 else if m = s ∧ j = 14 then 0 else if m = s ∧ j = 12 then 0 else if m = s ∧ j = 11 then 0 else if m = s ∧ j = 8 then 0 else if m = s ∧ j = 5 then 0 else if m = s + 2 ∧ j = 7 then 0 else if m = s + 2 ∧ j = 4 then 0 else if m = s + 2 ∧ j = 3 then 0 else if m = 6 ∧ j = 1 then 0 else T5.2.2.1 m j := fun m j => by
    rw [c18, ui_get, c16, ui_get, c14, ui_get, c12, ui_get, c10, ui_get, c8, ui_get, b7, ui_get, b5, ui_get, b3, ui_get, e8, ui_get]
  have hlow : ∀ m j : Nat, m < 6 → C18.2.2.1 m j = T5.2.2.1 m j := fun m j hm => by
    rw [hI]
    simp (disch := omega) only [if_neg, if_pos, and_self, and_true, true_and, and_false, false_and, if_true, if_false]
  have R18 : C18.2.2.2.2 = T.2.2.2.2 := by rw [c18, c16, c14, c12, c10, c8, b7, b5, b3]; exact R8
  have S18 : C18.2.1 = T.2.1 := by rw [c18, c16, c14, c12, c10, c8, b7, b5, b3, e8]; exact kp.2.1
  have hR18 : TXR C18 := by
    unfold TXR at hR ⊢
    rw [R18, S18]
    exact hR
  obtain ⟨k1, k2, k3, k4, k5, k6⟩ := tk
  have tk18 : TKS b n C18 c := ⟨(hlow 1 5 (by decide)).trans k1, k2, k3, fun i hi => by rw [hlow 3 i (by decide), hlow 4 i (by decide), hlow 5 i (by decide)]; exact k4 i hi, k5, k6⟩
  obtain ⟨m, a8, a4, at_⟩ := r_next (b := b) (n := n) (p := 0) ((u2 1 (by decide) (by decide)).trans hb) (by rw [u1]; exact h3) (by rw [u1]; exact h4) (Nat.zero_le _) hn (by rw [u1]; exact h5) fV
  have p0 : PRq b n c 0 C18 V := by
    refine ⟨⟨hn, hR18, fun j hj => (hlow 2 j (by decide)).trans ((kp.by hB) j hj), tk18, by omega, ?_⟩, ?_, ?_, ?_, ?_, a8, a4, at_⟩
    · rw [hI]
      simp (disch := omega) only [if_neg, if_pos, and_self, and_true, true_and, and_false, false_and, if_true, if_false]
      rfl
    · rw [m.1]; exact (u2 1 (by decide) (by decide)).trans hb
    · rw [m.2 5 (by decide) (by decide) (by decide) (by decide), u1]; exact h5
    · rw [m.2 6 (by decide) (by decide) (by decide) (by decide), u1]; exact h6
    · rw [m.2 3 (by decide) (by decide) (by decide) (by decide), u1]; exact h3
  have z : ∀ x, x < 131 → V.2.1 11 x = 0 := fun x hx => by rw [m.1]; exact uP x hx
  have zD : ∀ x, x < 2455 → V.2.1 13 x = 0 := fun x hx => by rw [m.1]; exact uD x hx
  have f16 : ∀ j, j = 5 ∨ j = 8 ∨ j = 11 ∨ j = 12 ∨ j = 14 ∨ j = 16 → C18.2.2.1 s j = 0 := fun j hj => by
    rw [hI]
    rcases hj with e | e | e | e | e | e <;> subst e <;> simp (disch := omega) only [if_neg, if_pos, and_self, and_true, true_and, and_false, false_and, if_true, if_false]
  have g3 : C18.2.2.1 (s + 2) 3 = 0 := by rw [hI]; simp (disch := omega) only [if_neg, if_pos, and_self, and_true, true_and, and_false, false_and, if_true, if_false]
  have g4 : C18.2.2.1 (s + 2) 4 = 0 := by rw [hI]; simp (disch := omega) only [if_neg, if_pos, and_self, and_true, true_and, and_false, false_and, if_true, if_false]
  have g7 : C18.2.2.1 (s + 2) 7 = 0 := by rw [hI]; simp (disch := omega) only [if_neg, if_pos, and_self, and_true, true_and, and_false, false_and, if_true, if_false]
  have C0 : SCN0 s C18 (V.2.1 11) (V.2.1 13) := by
    refine ⟨⟨0, by omega, f16 5 (by omega), z 4 (by omega), fun m hm => absurd hm (Nat.not_lt_zero m), fun m _ hm => z _ (by omega)⟩, ⟨g3.trans (z 9 (by omega)).symm, g4.trans (z 10 (by omega)).symm, .inl ⟨z 8 (by omega), z 9 (by omega), z 10 (by omega)⟩⟩, ⟨0, by omega, f16 8 (by omega), z 5 (by omega), fun k hk => absurd hk (Nat.not_lt_zero k)⟩, ⟨0, by omega, f16 11 (by omega), z 71 (by omega), fun k hk => absurd hk (Nat.not_lt_zero k)⟩, (f16 12 (by omega)).trans (z 76 (by omega)).symm, ⟨0, by omega, f16 14 (by omega), z 77 (by omega), fun k hk => absurd hk (Nat.not_lt_zero k)⟩, ⟨0, by omega, g7, z 101 (by omega), fun k hk => absurd hk (Nat.not_lt_zero k)⟩, ⟨0, by omega, f16 16 (by omega), z 118 (by omega), fun k hk => absurd hk (Nat.not_lt_zero k)⟩, fun j hj => zD j (by omega)⟩
  rcases othr_k hg with ⟨r9, g9, z9⟩ | ⟨r15, T13, g9, hg⟩
  · rcases l_head p0 hs C0 g9 fW with ⟨y, -⟩ | ⟨y1, y2⟩
    · exact absurd y z9
    · exact .inr ⟨y1, by rw [st_b52 _ y2.1 hf]; exact y2⟩
  rcases l_head p0 hs C0 g9 fW with ⟨-, ⟨j, hj, p13⟩, C13, R13⟩ | ⟨y, -⟩
  rotate_left
  · exact absurd y (by decide)
  rcases k_textl hs 16384 16384 (l := 0) p13 (hF.sub (R13.trans R18)) C13 (Nat.zero_le _) hg hf with ⟨y1, y2, y3, y4⟩ | y
  · exact .inl ⟨y1, y2, y3.trans (R13.trans R18), y4⟩
  · exact .inr y
end
end
section
/-! 21a.rel1.lean.txt -/
/-! what class and reference hold alike between calls, as far as a loaded text goes -/
section
variable {T T1 : AT} {S S1 : MS} {P P1 : Nat → Int32} {s : Nat}
def SRP (s : Nat) (T : AT) (P : Nat → Int32) : Prop := ∃ c : Nat, c ≤ 6 ∧ T.2.2.1 s 8 = nI c ∧ P 5 = nI c ∧ ∀ k, k < c → T.2.2.1 (s + 172 + k) 0 = P (47 + k) ∧ T.2.2.1 (s + 172 + k) 5 = P (53 + k) ∧ T.2.2.1 (s + 172 + k) 6 = P (59 + k) ∧ T.2.2.1 (s + 172 + k) 7 = P (65 + k) ∧ T.2.2.1 (s + 172 + k) 8 = P (95 + k)
def SCE (s : Nat) (T : AT) (P : Nat → Int32) : Prop := HDg s T P ∧ MICg s T P ∧ GRDg s T P ∧ SRP s T P ∧ WALg s T P ∧ FADg s T P ∧ TAPg s T P ∧ ZONg s T P ∧ SHDg s T P
theorem sce_of {D : Nat → Int32} (h : SCNq s T P D) : SCE s T P := by
  obtain ⟨gH, gM, gG, ⟨c, b1, b2, b3, b4⟩, gW, gF, gT, gZ, gD, -⟩ := h
  exact ⟨gH, gM, gG, ⟨c, b1, b2, b3, fun k hk => ⟨(b4 k hk).1, (b4 k hk).2.1, (b4 k hk).2.2.1, (b4 k hk).2.2.2.1, (b4 k hk).2.2.2.2.1⟩⟩, gW, gF, gT, gZ, gD⟩
/-- the cells of a scene are the same -/
def SEQ (s : Nat) (T T1 : AT) : Prop := (∀ j, j < 18 → T1.2.2.1 s j = T.2.2.1 s j) ∧ (∀ j, j < 8 → T1.2.2.1 (s + 2) j = T.2.2.1 (s + 2) j) ∧ (∀ j, T1.2.2.1 (s + 3) j = T.2.2.1 (s + 3) j) ∧ (∀ m j, s + 5 ≤ m → m < s + 9 → T1.2.2.1 m j = T.2.2.1 m j) ∧ (∀ m j, s + 11 ≤ m → m < s + 15 → T1.2.2.1 m j = T.2.2.1 m j) ∧ (∀ m j, s + 160 ≤ m → m < s + 172 → j < 4 → T1.2.2.1 m j = T.2.2.1 m j) ∧ ∀ m j, s + 172 ≤ m → m < s + 178 → j < 10 → T1.2.2.1 m j = T.2.2.1 m j
theorem sce_eq (h : SCE s T P) (q : SEQ s T T1) (hP : ∀ x, x < 131 → P1 x = P x) : SCE s T1 P1 := by
  obtain ⟨gH, ⟨mc, m1, m2, m3, m4, m5⟩, gG, ⟨c, b1, b2, b3, b4⟩, gW, gF, gT, gZ, gD⟩ := h
  obtain ⟨q1, q2, q3, q4, q5, q6, q7⟩ := q
  refine ⟨gH.cg (fun j _ => q1 j (by omega)) (fun j _ => hP j (by omega)), ⟨mc, m1, (q1 5 (by decide)).trans m2, (hP 4 (by decide)).trans m3, fun m hm => ?_, fun m h1 h2 => (hP _ (by omega)).trans (m5 m h1 h2)⟩, gG.cg (fun k _ => q2 k (by omega)) q3 (fun j _ _ => hP j (by omega)), ⟨c, b1, (q1 8 (by decide)).trans b2, (hP 5 (by decide)).trans b3, fun k hk => ?_⟩, gW.cg (q1 11 (by decide)) (fun k => q5 _ _ (by omega) (by omega)) (fun k => q5 _ _ (by omega) (by omega)) (fun j _ _ => hP j (by omega)), gF.cg (q1 12 (by decide)) (hP _ (by decide)), gT.cg (q1 14 (by decide)) (fun k => q5 _ _ (by omega) (by omega)) (fun j _ _ => hP j (by omega)), gZ.cg (q2 7 (by decide)) (fun m j a b => q4 m j a b) (fun j _ _ => hP j (by omega)), gD.cg (q1 16 (by decide)) (fun k => q5 _ _ (by omega) (by omega)) (fun j _ _ => hP j (by omega))⟩
  · rw [q6 _ 0 (by omega) (by omega) (by decide), q6 _ 1 (by omega) (by omega) (by decide), q6 _ 2 (by omega) (by omega) (by decide), q6 _ 3 (by omega) (by omega) (by decide), hP (11 + m) (by omega), hP (23 + m) (by omega), hP (35 + m) (by omega), hP (83 + m) (by omega)]
    exact m4 m hm
  · rw [q7 _ 0 (by omega) (by omega) (by decide), q7 _ 5 (by omega) (by omega) (by decide), q7 _ 6 (by omega) (by omega) (by decide), q7 _ 7 (by omega) (by omega) (by decide), q7 _ 8 (by omega) (by omega) (by decide), hP (47 + k) (by omega), hP (53 + k) (by omega), hP (59 + k) (by omega), hP (65 + k) (by omega), hP (95 + k) (by omega)]
    exact b4 k hk
def scodes : List Nat := (List.range 18).map (192 + ·) ++ (List.range 8).map (32 + ·) ++ (List.range 4).map (64 + ·) ++ (List.range 10).map (224 + ·) ++ [1888, 1760, 1792, 1824, 1856]
set_option maxRecDepth 100000 in
theorem srole : [478, 656].all (fun s => Nat.beq (aR0 s) 6 && Nat.beq (aR0 (s + 2)) 1 && Nat.beq (aR0 (s + 3)) 59 && (List.range 4).all (fun k => Nat.beq (aR0 (s + 5 + k)) 59) && Nat.beq (aR0 (s + 11)) 55 && Nat.beq (aR0 (s + 12)) 56 && Nat.beq (aR0 (s + 13)) 57 && Nat.beq (aR0 (s + 14)) 58 && (List.range 12).all (fun k => Nat.beq (aR0 (s + 160 + k)) 2) && (List.range 6).all (fun k => Nat.beq (aR0 (s + 172 + k)) 7)) = true := by decide +kernel
theorem sro (hs : s = 478 ∨ s = 656) : aR0 s = 6 ∧ aR0 (s + 2) = 1 ∧ aR0 (s + 3) = 59 ∧ (∀ k, k < 4 → aR0 (s + 5 + k) = 59) ∧ aR0 (s + 11) = 55 ∧ aR0 (s + 12) = 56 ∧ aR0 (s + 13) = 57 ∧ aR0 (s + 14) = 58 ∧ (∀ k, k < 12 → aR0 (s + 160 + k) = 2) ∧ ∀ k, k < 6 → aR0 (s + 172 + k) = 7 := by
  have h := List.all_eq_true.mp srole s (by rcases hs with e | e <;> rw [e] <;> decide)
  simp only [Bool.and_eq_true] at h
  obtain ⟨⟨⟨⟨⟨⟨⟨⟨⟨h0, h1⟩, h2⟩, h3⟩, h4⟩, h5⟩, h6⟩, h7⟩, h8⟩, h9⟩ := h
  exact ⟨Nat.eq_of_beq_eq_true h0, Nat.eq_of_beq_eq_true h1, Nat.eq_of_beq_eq_true h2, fun k hk => Nat.eq_of_beq_eq_true (a_fin (p := fun k => Nat.beq (aR0 (s + 5 + k)) 59) h3 hk), Nat.eq_of_beq_eq_true h4, Nat.eq_of_beq_eq_true h5, Nat.eq_of_beq_eq_true h6, Nat.eq_of_beq_eq_true h7, fun k hk => Nat.eq_of_beq_eq_true (a_fin (p := fun k => Nat.beq (aR0 (s + 160 + k)) 2) h8 hk), fun k hk => Nat.eq_of_beq_eq_true (a_fin (p := fun k => Nat.beq (aR0 (s + 172 + k)) 7) h9 hk)⟩
theorem sc_in {W : List Nat} (c : scodes.all (fun x => !(W.contains x)) = true) {x : Nat} (hx : x ∈ scodes) : W.contains x = false := by
  have h := List.all_eq_true.mp c x hx
  cases e : W.contains x with
  | false => rfl
  | true => rw [e] at h; cases h
theorem fw_seq {W : List Nat} (h : FW aR0 W T T1) (c : scodes.all (fun x => !(W.contains x)) = true) (hs : s = 478 ∨ s = 656) : SEQ s T T1 := by
  obtain ⟨r0, r1, r2, r3, r4, r5, r6, r7, r8, r9⟩ := sro hs
  have k0 : ∀ j, j < 18 → 192 + j ∈ scodes := fun j hj => List.mem_append_left _ (List.mem_append_left _ (List.mem_append_left _ (List.mem_append_left _ (List.mem_map.mpr ⟨j, List.mem_range.mpr hj, rfl⟩))))
  have k1 : ∀ j, j < 8 → 32 + j ∈ scodes := fun j hj => List.mem_append_left _ (List.mem_append_left _ (List.mem_append_left _ (List.mem_append_right _ (List.mem_map.mpr ⟨j, List.mem_range.mpr hj, rfl⟩))))
  have k2 : ∀ j, j < 4 → 64 + j ∈ scodes := fun j hj => List.mem_append_left _ (List.mem_append_left _ (List.mem_append_right _ (List.mem_map.mpr ⟨j, List.mem_range.mpr hj, rfl⟩)))
  have k7 : ∀ j, j < 10 → 224 + j ∈ scodes := fun j hj => List.mem_append_left _ (List.mem_append_right _ (List.mem_map.mpr ⟨j, List.mem_range.mpr hj, rfl⟩))
  have ka : ∀ x, x ∈ [1888, 1760, 1792, 1824, 1856] → x ∈ scodes := fun x hx => List.mem_append_right _ hx
  refine ⟨fun j hj => h _ _ ?_, fun j hj => h _ _ ?_, fun j => h _ _ ?_, fun m j a b => h _ _ ?_, fun m j a b => h _ _ ?_, fun m j a b d => h _ _ ?_, fun m j a b d => h _ _ ?_⟩
  · rw [r0]; exact sc_in c (k0 j hj)
  · rw [r1]; exact sc_in c (k1 j hj)
  · rw [r2]; exact sc_in c (ka 1888 (by decide))
  · have q := r3 (m - (s + 5)) (by omega)
    rw [show s + 5 + (m - (s + 5)) = m from by omega] at q
    rw [q]; exact sc_in c (ka 1888 (by decide))
  · rcases (show m = s + 11 ∨ m = s + 12 ∨ m = s + 13 ∨ m = s + 14 by omega) with e | e | e | e <;> rw [e]
    · rw [r4]; exact sc_in c (ka 1760 (by decide))
    · rw [r5]; exact sc_in c (ka 1792 (by decide))
    · rw [r6]; exact sc_in c (ka 1824 (by decide))
    · rw [r7]; exact sc_in c (ka 1856 (by decide))
  · have q := r8 (m - (s + 160)) (by omega)
    rw [show s + 160 + (m - (s + 160)) = m from by omega] at q
    rw [q]; exact sc_in c (k2 j d)
  · have q := r9 (m - (s + 172)) (by omega)
    rw [show s + 172 + (m - (s + 172)) = m from by omega] at q
    rw [q]; exact sc_in c (k7 j d)
/-- where the references lead: all but rows of Wides lead where they led at first; scene and spare may have changed places -/
def CRF (T : AT) : Prop := (∀ n, n ≠ 0 → sta aR0 1586 n → isRW (aR0 n) = false → ∀ k, T.2.2.2.2 n k = (arf n).getD k none) ∧ (∀ k, k ≠ 14 → k ≠ 15 → T.2.2.2.2 0 k = (arf 0).getD k none) ∧ (T.2.2.2.2 0 14 = some 478 ∧ T.2.2.2.2 0 15 = some 656 ∨ T.2.2.2.2 0 14 = some 656 ∧ T.2.2.2.2 0 15 = some 478)
def okc (n : Nat) : Bool := Nat.blt 0 n && Nat.blt n 1586 && !(Nat.beq (aR0 n) 99) && !(Nat.beq (aR0 n) 30) && !(isRW (aR0 n))
theorem CRF.at (h : CRF T) (n : Nat) (d : okc n = true) (k : Nat) : T.2.2.2.2 n k = (arf n).getD k none := by
  unfold okc at d
  simp only [Bool.and_eq_true] at d
  obtain ⟨⟨⟨⟨d0, d1⟩, d2⟩, d3⟩, d4⟩ := d
  refine h.1 n (fun e => by rw [e] at d0; cases d0) ⟨Nat.le_of_ble_eq_true d1, (fun e => by rw [e] at d2; cases d2), (fun e => by rw [e] at d3; cases d3)⟩ ?_ k
  cases e : isRW (aR0 n) with
  | false => rfl
  | true => rw [e] at d4; cases d4
set_option maxRecDepth 100000 in
theorem srf_dec : [478, 656].all (fun s => [s, s + 1, s + 2, s + 4, s + 10, s + 15].all okc && decide ((arf s).getD 4 none = some (s + 1)) && decide ((arf s).getD 6 none = some (s + 2)) && decide ((arf s).getD 7 none = some (s + 10)) && decide ((arf s).getD 9 none = some (s + 11)) && decide ((arf s).getD 10 none = some (s + 12)) && decide ((arf s).getD 13 none = some (s + 13)) && decide ((arf s).getD 15 none = some (s + 14)) && decide ((arf s).getD 17 none = some (s + 15)) && (List.range 12).all (fun i => decide ((arf (s + 1)).getD i none = some (s + 160 + i))) && (List.range 6).all (fun i => decide ((arf (s + 10)).getD i none = some (s + 172 + i))) && decide ((arf (s + 2)).getD 5 none = some (s + 3)) && decide ((arf (s + 2)).getD 6 none = some (s + 4)) && (List.range 4).all (fun i => decide ((arf (s + 4)).getD i none = some (s + 5 + i))) && decide ((arf (s + 2)).getD 8 none = some (s + 9)) && (List.range 144).all (fun c => decide ((arf (s + 15)).getD c none = some (s + 16 + c)))) = true := by decide +kernel
theorem CRF.srf (h : CRF T) (hs : s = 478 ∨ s = 656) : SRF s T := by
  have d := List.all_eq_true.mp srf_dec s (by rcases hs with e | e <;> rw [e] <;> decide)
  simp only [Bool.and_eq_true, decide_eq_true_eq] at d
  obtain ⟨⟨⟨⟨⟨⟨⟨⟨⟨⟨⟨⟨⟨⟨⟨d0, d1⟩, d2⟩, d3⟩, d4⟩, d5⟩, d6⟩, d7⟩, d8⟩, d9⟩, d10⟩, d11⟩, d12⟩, d13⟩, d14⟩, d15⟩ := d
  have o := fun n (hn : n ∈ [s, s + 1, s + 2, s + 4, s + 10, s + 15]) => h.at n (List.all_eq_true.mp d0 n hn)
  have o0 := o s (by simp)
  have o1 := o (s + 1) (by simp)
  have o2 := o (s + 2) (by simp)
  have o4 := o (s + 4) (by simp)
  have o10 := o (s + 10) (by simp)
  have o15 := o (s + 15) (by simp)
  unfold SRF
  exact ⟨(o0 _).trans d1, (o0 _).trans d2, (o0 _).trans d3, (o0 _).trans d4, (o0 _).trans d5, (o0 _).trans d6, (o0 _).trans d7, (o0 _).trans d8, fun i hi => (o1 i).trans (of_decide_eq_true (a_fin (p := fun i => decide ((arf (s + 1)).getD i none = some (s + 160 + i))) d9 hi)), fun i hi => (o10 i).trans (of_decide_eq_true (a_fin (p := fun i => decide ((arf (s + 10)).getD i none = some (s + 172 + i))) d10 hi)), (o2 _).trans d11, (o2 _).trans d12, fun i hi => (o4 i).trans (of_decide_eq_true (a_fin (p := fun i => decide ((arf (s + 4)).getD i none = some (s + 5 + i))) d13 hi)), (o2 _).trans d14, fun i hi => (o15 i).trans (of_decide_eq_true (a_fin (p := fun i => decide ((arf (s + 15)).getD i none = some (s + 16 + i))) d15 hi))⟩
set_option maxRecDepth 100000 in
theorem txr_dec : okc 1 = true ∧ okc 6 = true ∧ (arf 1).getD 0 none = some 2 ∧ (arf 1).getD 2 none = some 3 ∧ (arf 1).getD 3 none = some 4 ∧ (arf 1).getD 4 none = some 5 ∧ (arf 6).getD 0 none = some 1 ∧ (arf 0).getD 0 none = some 1 ∧ (arf 0).getD 1 none = some 6 ∧ aR0 3 = 42 := by decide +kernel
theorem CRF.txr (h : CRF T) (hV : IV aR0 1586 aK1 aK2 T) : TXR T := by
  obtain ⟨a1, a6, b1, b2, b3, b4, b5, -, -, b8⟩ := txr_dec
  exact ⟨(h.at 1 a1 _).trans b1, (h.at 1 a1 _).trans b2, (h.at 1 a1 _).trans b3, (h.at 1 a1 _).trans b4, (h.at 6 a6 _).trans b5, (hV.2.1 3 (iv_sta hV b8 (by decide) (by decide))).trans (by rw [b8]; rfl)⟩
set_option maxRecDepth 100000 in
theorem sh107 : (List.range 1586).all (fun n => isRW (aR0 n) || !(Nat.beq (shp (aR0 n)).1 107)) = true := by decide +kernel
theorem crf_gr (h : CRF T) (hV : IV aR0 1586 aK1 aK2 T) (hg : GR T T1) : CRF T1 := by
  have st : ∀ n, sta aR0 1586 n → isRW (aR0 n) = false → ∀ k, T1.2.2.2.2 n k = T.2.2.2.2 n k := fun n hs hr k => by
    refine hg.2 n k (Nat.lt_of_lt_of_le hs.1 hV.1.2.2) ?_
    have d := a_fin sh107 hs.1
    rw [hr, Bool.false_or] at d
    rw [hV.2.1 n hs]
    intro e
    rw [e] at d
    cases d
  obtain ⟨-, -, -, r0⟩ := (show aR0 1 = 9 ∧ aR0 2 = 41 ∧ aR0 6 = 3 ∧ aR0 0 = 11 from by decide +kernel)
  have e0 : ∀ k, T1.2.2.2.2 0 k = T.2.2.2.2 0 k := st 0 (iv_sta hV r0 (by decide) (by decide)) (by rw [r0]; rfl)
  refine ⟨fun n hn hs hr k => (st n hs hr k).trans (h.1 n hn hs hr k), fun k a b => (e0 k).trans (h.2.1 k a b), ?_⟩
  rw [e0 14, e0 15]
  exact h.2.2
def RSq (T : AT) (S : MS) : Prop := ∃ s, (s = 478 ∨ s = 656) ∧ T.2.2.2.2 0 14 = some s ∧ (S.1 20 = 1 ∧ SCE s T (S.2.1 10) ∧ S.2.1 10 4 ≠ 0 ∧ S.2.1 10 8 ≠ 0 ∨ S.1 20 = 0 ∧ T.2.2.1 s 2 = 0 ∧ T.2.2.1 s 5 = 0 ∧ T.2.2.1 s 8 = 0 ∧ T.2.2.1 (s + 2) 3 = 0 ∧ T.2.2.1 (s + 2) 4 = 0 ∧ T.2.2.1 (s + 2) 7 = 0)
def BYr (T : AT) (S : MS) : Prop := T.2.2.1 1 1 = S.1 2 ∧ ∀ k, k < 1000 → T.2.2.1 2 k = S.2.1 1 k
def R1 (T : AT) (S : MS) : Prop := CRF T ∧ BYr T S ∧ T.2.2.1 6 2 = S.1 5 ∧ T.2.2.1 6 3 = S.1 6 ∧ RSq T S
theorem rrole : aR0 1 = 9 ∧ aR0 2 = 41 ∧ aR0 6 = 3 ∧ aR0 0 = 11 := by decide +kernel
def FKq (S S1 : MS) : Prop := S1.1 2 = S.1 2 ∧ S1.1 5 = S.1 5 ∧ S1.1 6 = S.1 6 ∧ S1.1 20 = S.1 20 ∧ S1.2.1 1 = S.2.1 1 ∧ S1.2.1 10 = S.2.1 10
def okW (W : List Nat) : Bool := scodes.all (fun x => !(W.contains x)) && !(W.contains 289) && !(W.contains 1312) && !(W.contains 98) && !(W.contains 99)
theorem con_f {W : List Nat} {x : Nat} (h : (!(W.contains x)) = true) : W.contains x = false := by
  cases e : W.contains x with
  | false => rfl
  | true => rw [e] at h; cases h
theorem rs_eq (hs : s = 478 ∨ s = 656) (q : SEQ s T T1) (hP : ∀ x, x < 131 → S1.2.1 10 x = S.2.1 10 x) (h20 : S1.1 20 = S.1 20) (h14 : T1.2.2.2.2 0 14 = some s) (h : S.1 20 = 1 ∧ SCE s T (S.2.1 10) ∧ S.2.1 10 4 ≠ 0 ∧ S.2.1 10 8 ≠ 0 ∨ S.1 20 = 0 ∧ T.2.2.1 s 2 = 0 ∧ T.2.2.1 s 5 = 0 ∧ T.2.2.1 s 8 = 0 ∧ T.2.2.1 (s + 2) 3 = 0 ∧ T.2.2.1 (s + 2) 4 = 0 ∧ T.2.2.1 (s + 2) 7 = 0) : RSq T1 S1 := by
  refine ⟨s, hs, h14, ?_⟩
  rcases h with ⟨a, b, c, d⟩ | ⟨a, b2, b5, b8, g3, g4, g7⟩
  · exact .inl ⟨h20.trans a, sce_eq b q hP, by rw [hP 4 (by decide)]; exact c, by rw [hP 8 (by decide)]; exact d⟩
  · exact .inr ⟨h20.trans a, (q.1 2 (by decide)).trans b2, (q.1 5 (by decide)).trans b5, (q.1 8 (by decide)).trans b8, (q.2.1 3 (by decide)).trans g3, (q.2.1 4 (by decide)).trans g4, (q.2.1 7 (by decide)).trans g7⟩
theorem r1_keep {W : List Nat} (h : R1 T S) (hV : IV aR0 1586 aK1 aK2 T) (hw : FW aR0 W T T1) (c : okW W = true) (hg : GR T T1) (hf : FKq S S1) : R1 T1 S1 := by
  obtain ⟨hc, ⟨hl, hb⟩, h5, h6, s, hs, h14, hr⟩ := h
  unfold okW at c
  simp only [Bool.and_eq_true] at c
  obtain ⟨⟨⟨⟨c0, c1⟩, c2⟩, c3⟩, c4⟩ := c
  obtain ⟨r1, r2, r6, r0⟩ := rrole
  have e14 : T1.2.2.2.2 0 14 = T.2.2.2.2 0 14 := by
    refine hg.2 0 14 (Nat.lt_of_lt_of_le (by decide) hV.1.2.2) ?_
    rw [hV.2.1 0 (iv_sta hV r0 (by decide) (by decide)), r0]
    decide
  refine ⟨crf_gr hc hV hg, ⟨?_, fun k hk => ?_⟩, ?_, ?_, rs_eq hs (fw_seq hw c0 hs) (fun x _ => by rw [hf.2.2.2.2.2]) hf.2.2.2.1 (e14.trans h14) hr⟩
  · rw [hw 1 1 (by rw [r1]; exact con_f c1), hf.1]; exact hl
  · rw [hw 2 k (by rw [r2]; exact con_f c2), hf.2.2.2.2.1]; exact hb k hk
  · rw [hw 6 2 (by rw [r6]; exact con_f c3), hf.2.1]; exact h5
  · rw [hw 6 3 (by rw [r6]; exact con_f c4), hf.2.2.1]; exact h6
end
end
section
/-! 21b.load.lean.txt -/
/-! append and load keep what class and reference hold alike -/
section
variable {T T1 : AT} {S S1 : MS} {s : Nat}
theorem sh_bv (x : BitVec 32) (m : Nat) (hm : m ≤ 24) : (x >>> m) &&& 255#32 = (x.sshiftRight m) &&& 255#32 := by
  refine BitVec.eq_of_getLsbD_eq (fun i hi => ?_)
  rw [BitVec.getLsbD_and, BitVec.getLsbD_and, BitVec.getLsbD_ushiftRight, BitVec.getLsbD_sshiftRight]
  by_cases h : i < 8
  · rw [if_pos (by omega), show decide (32 ≤ i) = false from decide_eq_false (by omega)]
    rfl
  · have e : (255#32).getLsbD i = false := (show ∀ i, i < 32 → 8 ≤ i → (255#32).getLsbD i = false by decide) i hi (by omega)
    rw [e, Bool.and_false, Bool.and_false]
theorem sh_eq (w l : Int32) (h : l = 24 ∨ l = 16 ∨ l = 8 ∨ l = 0) : ((w.toUInt32 >>> (l.toUInt32 &&& Int32.toUInt32 31)).toInt32) &&& 255 = (w >>> (l &&& 31)) &&& 255 := by
  rcases h with e | e | e | e <;> subst e
  · exact Int32.toBitVec_inj.mp (sh_bv w.toBitVec 24 (by decide))
  · exact Int32.toBitVec_inj.mp (sh_bv w.toBitVec 16 (by decide))
  · exact Int32.toBitVec_inj.mp (sh_bv w.toBitVec 8 (by decide))
  · exact Int32.toBitVec_inj.mp (sh_bv w.toBitVec 0 (by decide))
theorem k_four1 : ∀ (j f f2 : Nat) {T T1 : AT} {S S1 : MS} {w l : Int32}, j ≤ 4 → l.toInt = 8 * (j : Int) - 8 → T.2.2.2.2 1 0 = some 2 → BYr T S → g_X9_addWord_b3 f T 1 w l = some T1 → fr_four_b3 f2 S w l = some S1 → BYr T1 S1 ∧ T1.2.2.2.2 = T.2.2.2.2 := by
  have z0 : (0 : Int32).toInt = 0 := by decide
  have z8 : (Int32.ofInt (-8) : Int32).toInt = -8 := by decide
  intro j
  induction j with
  | zero =>
    intro f f2 T T1 S S1 w l hj hl hR hB hg hf
    have c : l < 0 := Int32.lt_iff_toInt_lt.mpr (by omega)
    cases f with
    | zero => cases hg
    | succ f =>
      cases f2 with
      | zero => cases hf
      | succ f2 =>
        unfold g_X9_addWord_b3 at hg
        unfold fr_four_b3 at hf
        rw [if_pos c] at hg hf
        rw [← osome1 hg, ← osome1 hf]
        exact ⟨hB, rfl⟩
  | succ j ih =>
    intro f f2 T T1 S S1 w l hj hl hR hB hg hf
    have c : ¬ l < 0 := fun q => by have := i_lt q; omega
    cases f with
    | zero => cases hg
    | succ f =>
      cases f2 with
      | zero => cases hf
      | succ f2 =>
        unfold g_X9_addWord_b3 at hg
        unfold fr_four_b3 at hf
        rw [if_neg c] at hg hf
        obtain ⟨v3, e3, hf⟩ := elet_some hf
        obtain ⟨v4, e4, hf⟩ := elet_some hf
        obtain ⟨v5, e5, hf⟩ := elet_some hf
        obtain ⟨i3, hf⟩ := oif_some hf
        obtain ⟨k3, k4⟩ := inb_k i3
        obtain ⟨S7, e7, hf⟩ := elet_some hf
        obtain ⟨v8, e8, hf⟩ := elet_some hf
        obtain ⟨v9, e9, hf⟩ := elet_some hf
        obtain ⟨S10, e10, hf⟩ := elet_some hf
        obtain ⟨v11, e11, hf⟩ := elet_some hf
        obtain ⟨-, hg⟩ := oif_some hg
        obtain ⟨u4, d4, hg⟩ := elet_some hg
        have d4' : u4 = v3 := d4.trans (hB.1.trans e3.symm)
        rw [if_neg (by rw [d4', k3]; intro q; have := (nI_leI (a := 1000) (by omega) (by omega)).mp q; omega)] at hg
        obtain ⟨-, hg⟩ := oif_some hg
        obtain ⟨n7, en7, hg⟩ := obind_some hg
        rw [hR] at en7
        cases en7
        obtain ⟨-, hg⟩ := oif_some hg
        obtain ⟨u9, d9, hg⟩ := elet_some hg
        have d9' : u9 = v3 := d9.trans (hB.1.trans e3.symm)
        obtain ⟨u10, d10, hg⟩ := elet_some hg
        obtain ⟨u11, d11, hg⟩ := elet_some hg
        obtain ⟨-, hg⟩ := oif_some hg
        obtain ⟨-, hg⟩ := oif_some hg
        obtain ⟨T14, d14, hg⟩ := elet_some hg
        obtain ⟨-, hg⟩ := oif_some hg
        obtain ⟨u16, d16, hg⟩ := elet_some hg
        obtain ⟨u17, d17, hg⟩ := elet_some hg
        obtain ⟨-, hg⟩ := oif_some hg
        obtain ⟨T19, d19, hg⟩ := elet_some hg
        unfold g_X9_addWord_b43 at hg
        obtain ⟨u2, d2, hg⟩ := elet_some hg
        have el : u2 = v11 := d2.trans e11.symm
        rw [← el] at hf
        have sh : u11 = v5 := by
          rw [d11, d10, e5, e4]
          refine sh_eq w l ?_
          rcases (show j = 0 ∨ j = 1 ∨ j = 2 ∨ j = 3 by omega) with q | q | q | q <;> subst q
          · exact .inr (.inr (.inr (Int32.toInt_inj.mp (by omega))))
          · exact .inr (.inr (.inl (Int32.toInt_inj.mp (by have : (8 : Int32).toInt = 8 := by decide
                                                           omega))))
          · exact .inr (.inl (Int32.toInt_inj.mp (by have : (16 : Int32).toInt = 16 := by decide
                                                     omega)))
          · exact .inl (Int32.toInt_inj.mp (by have : (24 : Int32).toInt = 24 := by decide
                                               omega))
        have q2 : u2.toInt = 8 * (j : Int) - 8 := by
          rw [d2]
          exact (i_add rfl (by omega) (by omega)).trans (by omega)
        have hB19 : BYr T19 S10 := by
          refine ⟨?_, fun k hk => ?_⟩
          · rw [d19, ui_at, d17, d16, d14, ui_ne (.inl (by decide)), hB.1, e10, mi_at, e9, e8, e7]
            rfl
          · rw [d19, ui_ne (.inl (by decide)), d14, ui_get, e10, e7]
            show _ = (mf S 1 (upd (S.2.1 1) v3.toNatClampNeg v5)).2.1 1 k
            rw [mf_at]
            show _ = if k = v3.toNatClampNeg then v5 else S.2.1 1 k
            rw [d9', sh]
            by_cases e : k = v3.toNatClampNeg
            · rw [if_pos ⟨rfl, e⟩, if_pos e]
            · rw [if_neg (fun q => e q.2), if_neg e]
              exact hB.2 k hk
        have r19 : T19.2.2.2.2 = T.2.2.2.2 := by rw [d19, d14]; rfl
        obtain ⟨a1, a2⟩ := ih f f2 (by omega) q2 (by rw [r19]; exact hR) hB19 hg hf
        exact ⟨a1, a2.trans r19⟩
theorem k_four {w : Int32} (hR : T.2.2.2.2 1 0 = some 2) (hB : BYr T S) (hg : g_X9_addWord T 1 w = some T1) (hf : fr_four S w = some S1) : BYr T1 S1 ∧ T1.2.2.2.2 = T.2.2.2.2 := k_four1 4 16384 16384 (by decide) (by decide) hR hB hg hf
theorem by_mi {k : Nat} {v : Int32} (h : BYr T S) (hk : k ≠ 2) : BYr T (mi S k v) := ⟨h.1.trans (mi_ne (Ne.symm hk)).symm, h.2⟩
theorem k_append {a0 a1 a2 a3 a4 r1 r2 : Int32} (h0 : T.2.2.2.2 0 0 = some 1) (hR : T.2.2.2.2 1 0 = some 2) (hB : BYr T S) (hg : g_X11_append T 0 a0 a1 a2 a3 a4 = some (r1, T1)) (hf : fr_append S a0 a1 a2 a3 a4 = some (r2, S1)) : r1 = r2 ∧ BYr T1 S1 ∧ T1.2.2.2.2 = T.2.2.2.2 := by
  unfold g_X11_append at hg
  obtain ⟨-, hg⟩ := oif_some hg
  obtain ⟨n3, e3, hg⟩ := obind_some hg
  rw [h0] at e3
  cases e3
  obtain ⟨-, hg⟩ := oif_some hg
  obtain ⟨v5, e5, hg⟩ := elet_some hg
  obtain ⟨v6, e6, hg⟩ := elet_some hg
  unfold fr_append at hf
  obtain ⟨S2, f2, hf⟩ := elet_some hf
  obtain ⟨w3, d3, hf⟩ := elet_some hf
  obtain ⟨w4, d4, hf⟩ := elet_some hf
  have hB2 : BYr T S2 := by rw [f2]; exact by_mi hB (by decide)
  have e64 : v6 = w4 := by rw [e6, d4, e5, d3, hB2.1]
  rw [← e64] at hf
  by_cases c : v6 ≤ 1000
  · rw [if_pos c] at hg hf
    obtain ⟨S6, f6, hf⟩ := obind_some hf
    obtain ⟨S9, f9, hf⟩ := obind_some hf
    obtain ⟨S12, f12, hf⟩ := obind_some hf
    obtain ⟨S15, f15, hf⟩ := obind_some hf
    obtain ⟨S18, f18, hf⟩ := obind_some hf
    obtain ⟨w21, d21, hf⟩ := elet_some hf
    obtain ⟨-, hg⟩ := oif_some hg
    obtain ⟨n9, e9, hg⟩ := obind_some hg
    rw [h0] at e9
    cases e9
    obtain ⟨-, hg⟩ := oif_some hg
    obtain ⟨T11, g11, hg⟩ := obind_some hg
    obtain ⟨b11, r11⟩ := k_four hR hB2 g11 f6
    obtain ⟨-, hg⟩ := oif_some hg
    obtain ⟨n14, e14, hg⟩ := obind_some hg
    rw [r11, h0] at e14
    cases e14
    obtain ⟨-, hg⟩ := oif_some hg
    obtain ⟨T16, g16, hg⟩ := obind_some hg
    obtain ⟨b16, r16⟩ := k_four (by rw [r11]; exact hR) b11 g16 f9
    have r16 := r16.trans r11
    obtain ⟨-, hg⟩ := oif_some hg
    obtain ⟨n19, e19, hg⟩ := obind_some hg
    rw [r16, h0] at e19
    cases e19
    obtain ⟨-, hg⟩ := oif_some hg
    obtain ⟨T21, g21, hg⟩ := obind_some hg
    obtain ⟨b21, r21⟩ := k_four (by rw [r16]; exact hR) b16 g21 f12
    have r21 := r21.trans r16
    obtain ⟨-, hg⟩ := oif_some hg
    obtain ⟨n24, e24, hg⟩ := obind_some hg
    rw [r21, h0] at e24
    cases e24
    obtain ⟨-, hg⟩ := oif_some hg
    obtain ⟨T26, g26, hg⟩ := obind_some hg
    obtain ⟨b26, r26⟩ := k_four (by rw [r21]; exact hR) b21 g26 f15
    have r26 := r26.trans r21
    obtain ⟨-, hg⟩ := oif_some hg
    obtain ⟨n29, e29, hg⟩ := obind_some hg
    rw [r26, h0] at e29
    cases e29
    obtain ⟨-, hg⟩ := oif_some hg
    obtain ⟨T31, g31, hg⟩ := obind_some hg
    obtain ⟨b31, r31⟩ := k_four (by rw [r26]; exact hR) b26 g31 f18
    have r31 := r31.trans r26
    obtain ⟨-, hg⟩ := oif_some hg
    obtain ⟨n34, e34, hg⟩ := obind_some hg
    rw [r31, h0] at e34
    cases e34
    obtain ⟨-, hg⟩ := oif_some hg
    obtain ⟨v36, e36, hg⟩ := elet_some hg
    have g := osome2 hg
    have ff := osome2 hf
    rw [← g.1, ← g.2, ← ff.1, ← ff.2]
    exact ⟨by rw [e36, d21, b31.1], b31, r31⟩
  · rw [if_neg c] at hg hf
    have g := osome2 hg
    have ff := osome2 hf
    rw [← g.1, ← g.2, ← ff.1, ← ff.2]
    exact ⟨rfl, hB2, rfl⟩
/-- a part of the cells alone: the rest is of no known role -/
theorem iv_sub {R Rp : Nat → Nat} {B K1 K2 : Nat} (h : IV R B K1 K2 T) (hR : ∀ n, Rp n = R n ∨ Rp n = 30) (hcl : ∀ n k, Rp n ≠ 30 → rtg (Rp n) k ≠ 99 → ∀ q, T.2.2.2.2 n k = some q → Rp q = R q) : IV Rp B (T.1 + zt Rp T w1 B) (sg T + zt Rp T wC B) T := by
  have e : ∀ n, Rp n ≠ 30 → Rp n = R n := fun n q => (hR n).resolve_right q
  have st : ∀ n, sta Rp B n → sta R B n ∧ Rp n = R n := fun n q => by
    have a := e n q.2.2
    exact ⟨⟨q.1, by rw [← a]; exact q.2.1, by rw [← a]; exact q.2.2⟩, a⟩
  refine ⟨⟨fun n a d => h.1.1 n (by rw [← e n d]; exact a) (by rw [← e n d]; exact d), ⟨fun n a m d => ?_, fun n hn => ?_⟩, h.1.2.2⟩, fun n hs => ?_, fun n k hs hk => ?_, fun n k hs => ?_, fun n hs hW q hq p hp => ?_, fun n p r hs hW hr => ?_, rfl, rfl⟩
  · exact h.1.2.1.1 n (by rw [← e n (by rw [a]; decide)]; exact a) m (by rw [← e m (by rw [d]; decide)]; exact d)
  · rcases hR n with q | q
    · rw [q]; exact h.1.2.1.2 n hn
    · exact q
  · rw [(st n hs).2]; exact h.2.1 n (st n hs).1
  · have a := (st n hs).2
    obtain ⟨q, e1, e2, e3⟩ := h.2.2.1 n k (st n hs).1 (by rw [← a]; exact hk)
    exact ⟨q, e1, e2, by rw [hcl n k hs.2.2 hk q e1, e3, a]⟩
  · rw [(st n hs).2]; exact h.2.2.2.1 n k (st n hs).1
  · have a := (st n hs).2
    rw [a] at hW ⊢
    exact h.2.2.2.2.1 n (st n hs).1 hW q hq p hp
  · have a := (st n hs).2
    rw [a] at hW ⊢
    exact h.2.2.2.2.2.1 n p r (st n hs).1 hW hr
def pR (s n : Nat) : Nat := bif Nat.blt 0 n && Nat.blt n 7 then aR0 n else bif Nat.ble s n && Nat.blt n (s + 178) then aR0 n else 30
theorem pR_or (s n : Nat) : pR s n = aR0 n ∨ pR s n = 30 := by
  unfold pR
  cases Nat.blt 0 n && Nat.blt n 7 with
  | true => exact .inl rfl
  | false =>
    cases Nat.ble s n && Nat.blt n (s + 178) with
    | true => exact .inl rfl
    | false => exact .inr rfl
set_option maxRecDepth 100000 in
set_option maxHeartbeats 4000000 in
theorem pR_cl : [478, 656].all (fun s => ((List.range 6).map (· + 1) ++ (List.range 178).map (s + ·)).all (fun n => Nat.beq (aR0 n) 30 || (okc n && (List.range 150).all (fun k => Nat.beq (rtg (aR0 n) k) 99 || (match (arf n).getD k none with | some q => decide (pR s q = aR0 q) | none => true))))) = true := by decide +kernel
theorem iv_pR (h : CRF T) (hV : IV aR0 1586 aK1 aK2 T) (hs : s = 478 ∨ s = 656) : IV (pR s) 1586 (T.1 + zt (pR s) T w1 1586) (sg T + zt (pR s) T wC 1586) T := by
  refine iv_sub hV (pR_or s) (fun n k hn hk q hq => ?_)
  have d := List.all_eq_true.mp pR_cl s (by rcases hs with e | e <;> rw [e] <;> decide)
  have hm : n ∈ (List.range 6).map (· + 1) ++ (List.range 178).map (s + ·) := by
    unfold pR at hn
    cases c1 : Nat.blt 0 n && Nat.blt n 7 with
    | true =>
      obtain ⟨a, b⟩ := (Bool.and_eq_true _ _).mp c1
      have a := Nat.le_of_ble_eq_true a
      have b := Nat.le_of_ble_eq_true b
      exact List.mem_append_left _ (List.mem_map.mpr ⟨n - 1, List.mem_range.mpr (by omega), by omega⟩)
    | false =>
      rw [c1] at hn
      cases c2 : Nat.ble s n && Nat.blt n (s + 178) with
      | true =>
        obtain ⟨a, b⟩ := (Bool.and_eq_true _ _).mp c2
        have a := Nat.le_of_ble_eq_true a
        have b := Nat.le_of_ble_eq_true b
        exact List.mem_append_right _ (List.mem_map.mpr ⟨n - s, List.mem_range.mpr (by omega), by omega⟩)
      | false => rw [c2] at hn; exact absurd rfl hn
  have d := List.all_eq_true.mp d n hm
  have en : pR s n = aR0 n := (pR_or s n).resolve_right hn
  rw [en] at hn hk
  have d : (Nat.beq (aR0 n) 30 || (okc n && (List.range 150).all (fun k => Nat.beq (rtg (aR0 n) k) 99 || (match (arf n).getD k none with | some q => decide (pR s q = aR0 q) | none => true)))) = true := d
  rw [nbeq hn, Bool.false_or] at d
  obtain ⟨d1, d2⟩ := (Bool.and_eq_true _ _).mp d
  by_cases h150 : k < 150
  · have d3 := a_fin (p := fun k => Nat.beq (rtg (aR0 n) k) 99 || (match (arf n).getD k none with | some q => decide (pR s q = aR0 q) | none => true)) d2 h150
    have d3 : (Nat.beq (rtg (aR0 n) k) 99 || (match (arf n).getD k none with | some q => decide (pR s q = aR0 q) | none => true)) = true := d3
    rw [nbeq hk, Bool.false_or, ← h.at n d1 k, hq] at d3
    exact of_decide_eq_true d3
  · exact absurd (rtg_hi (Nat.not_lt.mp h150)) hk
/-- outside of its scene the parser writes nothing but the text's tokens and its own fields -/
theorem parse_out {n : Int32} {k : Nat} {r : Int32} (h : CRF T) (hV : IV aR0 1586 aK1 aK2 T) (hs : s = 478 ∨ s = 656) (h0 : 0 ≤ n.toInt) (h1 : n.toInt ≤ 1000) (hg : g_X3_parse T 6 n s = some (k, r, T1)) : (∀ m j, 7 ≤ m → (m < s ∨ s + 178 ≤ m) → T1.2.2.1 m j = T.2.2.1 m j) ∧ (∀ j, T1.2.2.1 2 j = T.2.2.1 2 j) ∧ T1.2.2.1 1 1 = T.2.2.1 1 1 ∧ IV aR0 1586 aK1 aK2 T1 := by
  obtain ⟨e1, e2, e6, e0⟩ := rrole
  have rs := (sro hs).1
  have p6 : pR s 6 = 3 := by rw [show pR s 6 = aR0 6 from rfl]; exact e6
  have ps : pR s s = 6 := by
    rw [show pR s s = aR0 s from by rcases hs with e | e <;> rw [e] <;> rfl]
    exact rs
  have c := tgo (cs_X3_parse (R := pR s) T 6 n s (iv_pR h hV hs) p6 ps ⟨h0, h1⟩) hg
  have c0 := tgo (cs_X3_parse T 6 n s hV e6 rs ⟨h0, h1⟩) hg
  have f := c.1.2
  refine ⟨fun m j hm ho => f m j ?_, fun j => f 2 j ?_, f 1 1 ?_, c0.1.1⟩
  · have q : pR s m = 30 := by
      unfold pR
      have a : (Nat.blt 0 m && Nat.blt m 7) = false := by
        cases e : Nat.blt m 7 with
        | false => exact Bool.and_false _
        | true => have := Nat.le_of_ble_eq_true e; omega
      have b : (Nat.ble s m && Nat.blt m (s + 178)) = false := by
        cases e : Nat.ble s m with
        | false => rfl
        | true =>
          cases e2 : Nat.blt m (s + 178) with
          | false => rfl
          | true =>
            have := Nat.le_of_ble_eq_true e
            have := Nat.le_of_ble_eq_true e2
            omega
      rw [a, b]
      rfl
    rw [q]
    rfl
  · rw [show pR s 2 = aR0 2 from rfl, e2]; rfl
  · rw [show pR s 1 = aR0 1 from rfl, e1]; rfl
/-! what the reference does behind its parser -/
theorem r_cp : ∀ (f : Nat) {l : Nat} {r : Int32} {S : MS}, l ≤ 131 → (∀ x, x < l → S.2.1 10 x = S.2.1 11 x) → fr_load_b67 f S (nI l) = some (r, S1) → ∃ U V, U.1 = S.1 ∧ (∀ a, a ≠ 10 → U.2.1 a = S.2.1 a) ∧ (∀ x, x < 131 → U.2.1 10 x = S.2.1 11 x) ∧ fr_copy_13_12 U 0 0 = some V ∧ fr_load_b107 16384 V 0 = some (r, S1) := by
  intro f
  induction f with
  | zero => intro l r S hl hz hf; cases hf
  | succ f ih =>
    intro l r S hl hz hf
    unfold fr_load_b67 at hf
    by_cases c1 : (131 : Int32) ≤ nI l
    · rw [if_pos c1] at hf
      have := (nI_leI (a := 131) (b := l) (by omega) (by omega)).mp c1
      obtain ⟨V, f3, hf⟩ := obind_some hf
      exact ⟨S, V, rfl, fun _ _ => rfl, fun x hx => hz x (by omega), f3, hf⟩
    · rw [if_neg c1] at hf
      have c1 : l < 131 := Nat.lt_of_not_le (fun q => c1 ((nI_leI (a := 131) (b := l) (by omega) (by omega)).mpr q))
      obtain ⟨-, hf⟩ := oif_some hf
      obtain ⟨v7, e7, hf⟩ := elet_some hf
      rw [nI_clamp (by omega)] at e7
      obtain ⟨-, hf⟩ := oif_some hf
      obtain ⟨S9, e9, hf⟩ := elet_some hf
      rw [nI_clamp (by omega)] at e9
      obtain ⟨v10, e10, hf⟩ := elet_some hf
      have e10 : v10 = nI (l + 1) := e10.trans (nI_1 l)
      rw [e10] at hf
      have n11 : S9.2.1 11 = S.2.1 11 := by rw [e9, mf_ne (by decide)]
      obtain ⟨U, V, a1, a2, a3, a4⟩ := ih (S := S9) (by omega) (fun x hx => by
        rw [n11, e9, mf_at]
        show (if x = l then v7 else S.2.1 10 x) = _
        by_cases e : x = l
        · rw [if_pos e, e7, e]
        · rw [if_neg e]; exact hz x (by omega)) hf
      exact ⟨U, V, a1.trans (by rw [e9]; rfl), fun a ha => (a2 a ha).trans (by rw [e9, mf_ne ha]), fun x hx => (a3 x hx).trans (by rw [n11]), a4⟩
def ZQ (r : Int32) (S1 : MS) : Prop := r = S1.2.1 10 9 * S1.2.1 10 10 ∧ S1.1 20 = 1
theorem z_168 {r : Int32} {k : MS → Int32 → Option (Int32 × MS)} (hk : ∀ S l, k S l = some (r, S1) → ZQ r S1) : ∀ (f : Nat) {S : MS} {l2 l3 : Int32}, fr_load_b168 k f S l2 l3 = some (r, S1) → ZQ r S1 := by
  intro f
  induction f with
  | zero => intro S l2 l3 hf; cases hf
  | succ f ih =>
    intro S l2 l3 hf
    unfold fr_load_b168 at hf
    obtain ⟨v2, e2, hf⟩ := elet_some hf
    by_cases c : v2 ≤ l3
    · rw [if_pos c] at hf
      obtain ⟨v4, e4, hf⟩ := elet_some hf
      exact hk _ _ hf
    · rw [if_neg c] at hf
      obtain ⟨v5, e5, hf⟩ := elet_some hf
      obtain ⟨v6, e6, hf⟩ := elet_some hf
      obtain ⟨r10, S7, f7, hf⟩ := obind2_some hf
      obtain ⟨r14, S11, f11, hf⟩ := obind2_some hf
      obtain ⟨r18, S15, f15, hf⟩ := obind2_some hf
      obtain ⟨-, hf⟩ := oif_some hf
      obtain ⟨S20, e20, hf⟩ := elet_some hf
      obtain ⟨v21, e21, hf⟩ := elet_some hf
      exact ih hf
theorem z_158 {r : Int32} : ∀ (f : Nat) {S : MS} {l : Int32}, fr_load_b158 f S l = some (r, S1) → ZQ r S1 := by
  intro f
  induction f with
  | zero => intro S l hf; cases hf
  | succ f ih =>
    intro S l hf
    unfold fr_load_b158 at hf
    obtain ⟨r5, S2, f2, hf⟩ := obind2_some hf
    by_cases c : r5 ≤ l
    · rw [if_pos c] at hf
      obtain ⟨S7, f7, hf⟩ := obind_some hf
      obtain ⟨S10, e10, hf⟩ := elet_some hf
      obtain ⟨S11, e11, hf⟩ := elet_some hf
      obtain ⟨S12, e12, hf⟩ := elet_some hf
      obtain ⟨S13, e13, hf⟩ := elet_some hf
      obtain ⟨r17, S14, f14, hf⟩ := obind2_some hf
      have ff := osome2 hf
      unfold fr_cellCount at f14
      obtain ⟨v2, d2, f14⟩ := elet_some f14
      obtain ⟨v3, d3, f14⟩ := elet_some f14
      obtain ⟨v4, d4, f14⟩ := elet_some f14
      have g := osome2 f14
      rw [← ff.1, ← ff.2, ← g.1, ← g.2]
      exact ⟨by rw [d4, d2, d3], by rw [e13, mi_ne (by decide), e12, e11]; show S10.1 20 = 1; rw [e10, mi_at]⟩
    · rw [if_neg c] at hf
      exact z_168 (fun S l h => ih h) 16384 hf
theorem z_107 {r : Int32} : ∀ (f : Nat) {S : MS} {l : Int32}, fr_load_b107 f S l = some (r, S1) → ZQ r S1 := by
  intro f
  induction f with
  | zero => intro S l hf; cases hf
  | succ f ih =>
    intro S l hf
    have h149 : ∀ {U : MS} {a b c : Int32}, fr_load_b149 (fr_load_b107 f) U a b c = some (r, S1) → ZQ r S1 := by
      intro U a b c hf
      unfold fr_load_b149 at hf
      obtain ⟨-, hf⟩ := oif_some hf
      obtain ⟨S3, e3, hf⟩ := elet_some hf
      obtain ⟨v4, e4, hf⟩ := elet_some hf
      exact ih hf
    unfold fr_load_b107 at hf
    obtain ⟨v2, e2, hf⟩ := elet_some hf
    by_cases c : v2 ≤ l
    · rw [if_pos c] at hf
      exact z_158 16384 hf
    · rw [if_neg c] at hf
      obtain ⟨v4, e4, hf⟩ := elet_some hf
      obtain ⟨v5, e5, hf⟩ := elet_some hf
      by_cases c2 : v5 ≤ l
      · rw [if_pos c2] at hf
        exact h149 hf
      · rw [if_neg c2] at hf
        obtain ⟨v7, e7, hf⟩ := elet_some hf
        obtain ⟨-, hf⟩ := oif_some hf
        obtain ⟨v9, e9, hf⟩ := elet_some hf
        exact h149 hf
end
set_option maxHeartbeats 1000000 in
theorem w3_fr_load_b168 {k158 : MS → Int32 → Option (Int32 × MS)} {r1 : Int32} {S1 : MS} (hk158 : ∀ (x0 : MS) (x1 : Int32), k158 x0 x1 = some (r1, S1) → FK [19, 20] [12, 17, 18, 23] x0 S1) : ∀ n : Nat, ∀ (S : MS) (y1 : Int32) (y2 : Int32), fr_load_b168 k158 n S y1 y2 = some (r1, S1) → FK [19, 20] [12, 17, 18, 23] S S1 := by
  intro n
  induction n with
  | zero =>
    intro S y1 y2 h
    have h : (none : Option (Int32 × MS)) = some (r1, S1) := h
    cases h
  | succ n ih =>
    intro S l2 l3 h
    have p0 : FK [19, 20] [12, 17, 18, 23] S S := FK.rf
    unfold fr_load_b168 at h
    obtain ⟨v2, ev2, h⟩ := elet_some h
    rcases oif_or h with ⟨-, h⟩ | ⟨-, h⟩
    · have h := h
      obtain ⟨v4, ev4, h⟩ := elet_some h
      exact p0.tr (hk158 _ _ h)
    · have h := h
      obtain ⟨v5, ev5, h⟩ := elet_some h
      obtain ⟨v6, ev6, h⟩ := elet_some h
      obtain ⟨r10, S7, eS7, h⟩ := obind2_some h
      have p1 : FK [19, 20] [12, 17, 18, 23] S S7 := p0.tr ((w_fr_centre eS7).w (by decide))
      obtain ⟨r14, S11, eS11, h⟩ := obind2_some h
      have p2 : FK [19, 20] [12, 17, 18, 23] S S11 := p1.tr ((w_fr_centre eS11).w (by decide))
      obtain ⟨r18, S15, eS15, h⟩ := obind2_some h
      have p3 : FK [19, 20] [12, 17, 18, 23] S S15 := p2.tr ((w_fr_delayFrom eS15).w (by decide))
      have h := (oif_some h).2
      obtain ⟨S20, eS20, h⟩ := elet_some h
      have p4 : FK [19, 20] [12, 17, 18, 23] S S20 := p3.tr (by rw [eS20]; exact fw_mf (by decide))
      obtain ⟨v21, ev21, h⟩ := elet_some h
      exact p4.tr (ih _ _ _ h)
set_option maxHeartbeats 1000000 in
theorem w3_fr_load_b158 {r1 : Int32} {S1 : MS} : ∀ n : Nat, ∀ (S : MS) (y1 : Int32), fr_load_b158 n S y1 = some (r1, S1) → FK [19, 20] [12, 17, 18, 23] S S1 := by
  intro n
  induction n with
  | zero =>
    intro S y1 h
    have h : (none : Option (Int32 × MS)) = some (r1, S1) := h
    cases h
  | succ n ih =>
    intro S l2 h
    have p0 : FK [19, 20] [12, 17, 18, 23] S S := FK.rf
    unfold fr_load_b158 at h
    obtain ⟨r5, S2, eS2, h⟩ := obind2_some h
    have p1 : FK [19, 20] [12, 17, 18, 23] S S2 := p0.tr ((w_fr_cellCount eS2).w (by decide))
    rcases oif_or h with ⟨-, h⟩ | ⟨-, h⟩
    · have h := h
      obtain ⟨S7, eS7, h⟩ := obind_some h
      have p2 : FK [19, 20] [12, 17, 18, 23] S S7 := p1.tr ((w_fr_records_12 eS7).w (by decide))
      obtain ⟨S10, eS10, h⟩ := elet_some h
      have p3 : FK [19, 20] [12, 17, 18, 23] S S10 := p2.tr (by rw [eS10]; exact fw_mi (by decide))
      obtain ⟨S11, eS11, h⟩ := elet_some h
      have p4 : FK [19, 20] [12, 17, 18, 23] S S11 := p3.tr (by rw [eS11]; exact fw_mf (by decide))
      obtain ⟨S12, eS12, h⟩ := elet_some h
      have p5 : FK [19, 20] [12, 17, 18, 23] S S12 := p4.tr (by rw [eS12]; exact fw_mf (by decide))
      obtain ⟨S13, eS13, h⟩ := elet_some h
      have p6 : FK [19, 20] [12, 17, 18, 23] S S13 := p5.tr (by rw [eS13]; exact fw_mi (by decide))
      obtain ⟨r17, S14, eS14, h⟩ := obind2_some h
      have p7 : FK [19, 20] [12, 17, 18, 23] S S14 := p6.tr ((w_fr_cellCount eS14).w (by decide))
      rw [← (osome2 h).2]
      exact p7
    · have h := h
      exact p1.tr (w3_fr_load_b168 ih _ _ _ _ h)
set_option maxHeartbeats 1000000 in
theorem w3_fr_load_b149 {k107 : MS → Int32 → Option (Int32 × MS)} {s0 : Int32} {s1 : Int32} {l2 : Int32} {S : MS} {r1 : Int32} {S1 : MS} (hk107 : ∀ (x0 : MS) (x1 : Int32), k107 x0 x1 = some (r1, S1) → FK [19, 20] [12, 17, 18, 23] x0 S1) (h : fr_load_b149 k107 S s0 s1 l2 = some (r1, S1)) : FK [19, 20] [12, 17, 18, 23] S S1 := by
  have p0 : FK [19, 20] [12, 17, 18, 23] S S := FK.rf
  unfold fr_load_b149 at h
  have h := (oif_some h).2
  obtain ⟨S3, eS3, h⟩ := elet_some h
  have p1 : FK [19, 20] [12, 17, 18, 23] S S3 := p0.tr (by rw [eS3]; exact fw_mf (by decide))
  obtain ⟨v4, ev4, h⟩ := elet_some h
  exact p1.tr (hk107 _ _ h)
set_option maxHeartbeats 1000000 in
theorem w3_fr_load_b107 {r1 : Int32} {S1 : MS} : ∀ n : Nat, ∀ (S : MS) (y1 : Int32), fr_load_b107 n S y1 = some (r1, S1) → FK [19, 20] [12, 17, 18, 23] S S1 := by
  intro n
  induction n with
  | zero =>
    intro S y1 h
    have h : (none : Option (Int32 × MS)) = some (r1, S1) := h
    cases h
  | succ n ih =>
    intro S l2 h
    have p0 : FK [19, 20] [12, 17, 18, 23] S S := FK.rf
    unfold fr_load_b107 at h
    obtain ⟨v2, ev2, h⟩ := elet_some h
    rcases oif_or h with ⟨-, h⟩ | ⟨-, h⟩
    · have h := h
      exact p0.tr (w3_fr_load_b158  _ _ _ h)
    · have h := h
      obtain ⟨v4, ev4, h⟩ := elet_some h
      obtain ⟨v5, ev5, h⟩ := elet_some h
      rcases oif_or h with ⟨-, h⟩ | ⟨-, h⟩
      · have h := h
        exact p0.tr (w3_fr_load_b149 ih h)
      · have h := h
        obtain ⟨v7, ev7, h⟩ := elet_some h
        have h := (oif_some h).2
        obtain ⟨v9, ev9, h⟩ := elet_some h
        exact p0.tr (w3_fr_load_b149 ih h)
end
section
/-! 21c.rload.lean.txt -/
section
variable {T T1 : AT} {S S1 : MS} {s : Nat}
theorem crf_eq (h : CRF T) (e : T1.2.2.2.2 = T.2.2.2.2) : CRF T1 := by
  unfold CRF at h ⊢
  rw [e]
  exact h
theorem rsrole (hs : s = 478 ∨ s = 656) : aR0 s = 6 := (sro hs).1
theorem seq_of (h : ∀ m j, s ≤ m → m < s + 178 → T1.2.2.1 m j = T.2.2.1 m j) : SEQ s T T1 := ⟨fun j _ => h _ _ (by omega) (by omega), fun j _ => h _ _ (by omega) (by omega), fun j => h _ _ (by omega) (by omega), fun m j a b => h _ _ (by omega) (by omega), fun m j a b => h _ _ (by omega) (by omega), fun m j a b _ => h _ _ (by omega) (by omega), fun m j a b _ => h _ _ (by omega) (by omega)⟩
set_option maxHeartbeats 400000 in
theorem r1_load {a0 r1 r2 : Int32} {k1 : Nat} (hV : IV aR0 1586 aK1 aK2 T) (hJ : JJ S) (h : R1 T S) (hg : g_X11_load T 0 a0 = some (k1, r1, T1)) (hf : fr_load S a0 = some (r2, S1)) : R1 T1 S1 ∧ (k1 = 0 ∧ S1.1 0 = 0 ∧ r1 = r2 ∨ k1 = 2 ∧ S1.1 0 = 1 ∨ k1 = 3 ∧ S1.1 0 = 2) := by
  have z0 : (0 : Int32).toInt = 0 := by decide
  obtain ⟨hc, hB, h5, h6, w0, hw0, h14, hr⟩ := h
  obtain ⟨d1, d2, d6, d0⟩ := rrole
  obtain ⟨-, -, -, -, -, -, -, t8, t9, -⟩ := txr_dec
  have c00 : T.2.2.2.2 0 0 = some 1 := (hc.2.1 0 (by decide) (by decide)).trans t8
  have c01 : T.2.2.2.2 0 1 = some 6 := (hc.2.1 1 (by decide) (by decide)).trans t9
  have h1000 : (S.1 2).toInt ≤ 1000 := (jj_ib hJ).1.1.2
  unfold fr_load at hf
  obtain ⟨S2, e2, hf⟩ := elet_some hf
  obtain ⟨v3, e3, hf⟩ := elet_some hf
  have e3 : v3 = S.1 2 := by rw [e3, e2]; rfl
  obtain ⟨r4, f4, hf⟩ := obind_some hf
  have out : g_X11_load_b15 T = some (k1, r1, T1) → (∃ r10 S7, fr_throwsAt S2 1 = some (r10, S7) ∧ S1 = S7) → R1 T1 S1 ∧ (k1 = 0 ∧ S1.1 0 = 0 ∧ r1 = r2 ∨ k1 = 2 ∧ S1.1 0 = 1 ∨ k1 = 3 ∧ S1.1 0 = 2) := by
    intro hg q
    obtain ⟨r10, S7, f7, e7⟩ := q
    unfold g_X11_load_b15 at hg
    have g := osome3 hg
    unfold fr_throwsAt at f7
    obtain ⟨U, eU, f7⟩ := elet_some f7
    have g7 := (osome2 f7).2
    rw [← g.2.2, e7, ← g7, eU, e2]
    refine ⟨r1_keep (W := []) (T := T) (S := S) ⟨hc, hB, h5, h6, w0, hw0, h14, hr⟩ hV FW.rf (by decide +kernel) (GR.rf T) ⟨rfl, rfl, rfl, rfl, rfl, rfl⟩, .inr (.inl ⟨g.1.symm, rfl⟩)⟩
  rcases tin2 f4 with ⟨c4, c0, c1⟩ | ⟨c4, cn⟩
  rotate_left
  · rw [if_pos c4] at hf
    obtain ⟨r10, S7, f7, hf⟩ := obind2_some hf
    refine out ?_ ⟨r10, S7, f7, (osome2 hf).2.symm⟩
    unfold g_X11_load at hg
    by_cases b0 : a0 < 0
    · rw [if_pos b0] at hg; exact hg
    · rw [if_neg b0] at hg
      obtain ⟨-, hg⟩ := oif_some hg
      obtain ⟨n4, e4, hg⟩ := obind_some hg
      rw [c00] at e4
      cases e4
      obtain ⟨-, hg⟩ := oif_some hg
      obtain ⟨v6, e6, hg⟩ := elet_some hg
      rw [if_neg (fun q => cn ⟨Int32.not_lt.mp b0, by rw [e3, ← hB.1, ← e6]; exact q⟩)] at hg
      exact hg
  rw [if_neg (by rw [c4]; decide)] at hf
  rw [e3] at c1
  have q0 := i_le c0
  have q1 := i_le c1
  obtain ⟨n, hn, en⟩ := nI_of01 (x := a0) (a := 1001) (by omega) (by omega) (by omega)
  obtain ⟨S11, e11, hf⟩ := elet_some hf
  obtain ⟨S12, e12, hf⟩ := elet_some hf
  obtain ⟨S13, e13, hf⟩ := elet_some hf
  obtain ⟨S14, e14, hf⟩ := elet_some hf
  obtain ⟨S15, e15, hf⟩ := elet_some hf
  obtain ⟨S16, f16, hf⟩ := obind_some hf
  obtain ⟨v19, e19, hf⟩ := elet_some hf
  have s15 : S15 = mi (mi (mi (mi (mi (mi S 0 0) 3 a0) 2 0) 4 0) 5 0) 6 (-1) := by rw [e15, e14, e13, e12, e11, e2]
  have k16 := w_fr_readText f16
  have j16 : ∀ k, k = 0 ∨ k = 2 ∨ k = 20 → S16.1 k = S15.1 k := fun k hk => by rcases hk with e | e | e <;> rw [e] <;> exact k16.1 _ (by decide)
  unfold g_X11_load at hg
  rw [if_neg (Int32.not_lt.mpr c0)] at hg
  obtain ⟨-, hg⟩ := oif_some hg
  obtain ⟨n4, en4, hg⟩ := obind_some hg
  rw [c00] at en4
  cases en4
  obtain ⟨-, hg⟩ := oif_some hg
  obtain ⟨v6, e6, hg⟩ := elet_some hg
  rw [if_pos (by rw [e6, hB.1]; exact c1)] at hg
  obtain ⟨-, hg⟩ := oif_some hg
  obtain ⟨n9, en9, hg⟩ := obind_some hg
  rw [c00] at en9
  cases en9
  obtain ⟨-, hg⟩ := oif_some hg
  obtain ⟨T11, e11', hg⟩ := elet_some hg
  have R11 : T11.2.2.2.2 = T.2.2.2.2 := by rw [e11']; rfl
  have hc11 := crf_eq hc R11
  have hV11 : IV aR0 1586 aK1 aK2 T11 := by
    rw [e11']
    exact iv_uI hV d1 (by decide) (by decide) (rfl : iR 9 1 = (0, 1000)) (by decide) (.inl rfl)
  obtain ⟨u, w, hu, hw, huw, e15u, e14w⟩ : ∃ u w, (u = 478 ∨ u = 656) ∧ (w = 478 ∨ w = 656) ∧ u ≠ w ∧ T.2.2.2.2 0 15 = some u ∧ T.2.2.2.2 0 14 = some w := by
    rcases hc.2.2 with ⟨a, b⟩ | ⟨a, b⟩
    · exact ⟨656, 478, .inr rfl, .inl rfl, by decide, b, a⟩
    · exact ⟨478, 656, .inl rfl, .inr rfl, by decide, b, a⟩
  have ew : w0 = w := by
    rw [h14] at e14w
    exact Option.some.inj e14w
  subst ew
  obtain ⟨-, hg⟩ := oif_some hg
  obtain ⟨n13, en13, hg⟩ := obind_some hg
  rw [R11, c01] at en13
  cases en13
  obtain ⟨-, hg⟩ := oif_some hg
  obtain ⟨n15, en15, hg⟩ := obind_some hg
  rw [R11, e15u] at en15
  cases en15
  obtain ⟨-, hg⟩ := oif_some hg
  have lp : ∀ {k : Nat} {r : Int32} {U : AT}, g_X3_parse T11 6 a0 u = some (k, r, U) → TXq u T11 U S16 k := fun {k r U} g => by
    rw [en] at g
    exact l_parse (b := S.2.1 1) hu (hc11.txr hV11) (hc11.srf hu) (fun j hj => by rw [e11', ui_ne (.inl (by decide))]; exact hB.2 j hj) (by omega) (by rw [s15]; rfl) (by rw [s15]; exact en) (by rw [s15]; rfl) (by rw [s15]; rfl) (by rw [s15]; rfl) g f16
  have po := fun {k : Nat} {r : Int32} {U : AT} (g : g_X3_parse T11 6 a0 u = some (k, r, U)) => parse_out hc11 hV11 hu (by omega) (by omega) g
  have seqw : ∀ {k : Nat} {r : Int32} {U : AT}, g_X3_parse T11 6 a0 u = some (k, r, U) → SEQ w0 T U := fun {k r U} g => seq_of (fun m j a b => by
    rw [(po g).1 m j (by omega) (by omega), e11', ui_ne (.inl (by omega))])
  have l11 : T11.2.2.1 1 1 = 0 := by rw [e11', ui_at]
  have b11 : ∀ j, T11.2.2.1 2 j = T.2.2.1 2 j := fun j => by rw [e11', ui_ne (.inl (by decide))]
  have s2 : S15.1 2 = 0 := by rw [s15]; rfl
  have s00 : S15.1 0 = 0 := by rw [s15]; rfl
  have s20 : S15.1 20 = S.1 20 := by rw [s15]; rfl
  have sA : S15.2 = S.2 := by rw [s15]; rfl
  rcases othr_k hg with ⟨r9, g9, z9⟩ | ⟨r19, T17, g9, hg⟩
  · rcases lp g9 with ⟨z, -⟩ | ⟨z1, z2⟩
    · exact absurd z z9
    rw [if_neg (st_le z2.1 e19)] at hf
    obtain ⟨r24, S21, f21, hf⟩ := obind2_some hf
    unfold fr_throwsAt at f21
    obtain ⟨U, eU, f21⟩ := elet_some f21
    have g21 := (osome2 f21).2
    have ff := (osome2 hf).2
    have eS : S1 = mi S16 0 2 := by rw [← ff, ← g21, eU]
    have p := po g9
    have R1' : T1.2.2.2.2 = T.2.2.2.2 := (s_X3_parse g9).2.2.trans R11
    refine ⟨⟨crf_eq hc R1', ⟨?_, fun k hk => ?_⟩, ?_, ?_, rs_eq hw0 (seqw g9) (fun x _ => ?_) ?_ (by rw [R1']; exact h14) hr⟩, .inr (.inr ⟨z1, ?_⟩)⟩
    · rw [p.2.2.1, l11, eS, mi_ne (by decide), j16 2 (by omega), s2]
    · rw [p.2.1, b11, hB.2 k hk, eS]
      show _ = S16.2.1 1 k
      rw [k16.2 1 (by decide), sA]
    · rw [eS, mi_ne (by decide)]; exact z2.2.1
    · rw [eS, mi_ne (by decide)]; exact z2.2.2
    · rw [eS]
      show S16.2.1 10 x = _
      rw [k16.2 10 (by decide), sA]
    · rw [eS, mi_ne (by decide), j16 20 (by omega), s20]
    · rw [eS, mi_at]
  · rcases lp g9 with ⟨-, C17, R17, p2, p3, u5, u6, u4, u8⟩ | ⟨z, -⟩
    rotate_left
    · exact absurd z (by decide)
    have p := po g9
    have R17 := R17.trans R11
    rw [if_pos (by rw [e19, u5]; decide)] at hf
    obtain ⟨U, V, a1, a2, a3, fV, hf⟩ := r_cp 16384 (l := 0) (by omega) (fun x hx => absurd hx (Nat.not_lt_zero x)) hf
    have kV := w_fr_copy_13_12 fV
    have k1' := w3_fr_load_b107 _ _ _ hf
    have zq := z_107 _ hf
    have sc : ∀ k, k = 0 ∨ k = 2 ∨ k = 5 ∨ k = 6 → S1.1 k = S16.1 k := fun k hk => by
      rw [← a1]
      rcases hk with e | e | e | e <;> rw [e] <;> exact (k1'.1 _ (by decide)).trans (kV.1 _ (by decide))
    have sp : ∀ x, x < 131 → S1.2.1 10 x = S16.2.1 11 x := fun x hx => by
      rw [k1'.2 10 (by decide), kV.2 10 (by decide)]
      exact a3 x hx
    have sb : S1.2.1 1 = S.2.1 1 := by
      rw [k1'.2 1 (by decide), kV.2 1 (by decide), a2 1 (by decide), k16.2 1 (by decide), sA]
    obtain ⟨-, hg⟩ := oif_some hg
    obtain ⟨n22, en22, hg⟩ := obind_some hg
    rw [R17, h14] at en22
    cases en22
    obtain ⟨-, hg⟩ := oif_some hg
    obtain ⟨n24, en24, hg⟩ := obind_some hg
    rw [R17, e15u] at en24
    cases en24
    obtain ⟨-, hg⟩ := oif_some hg
    obtain ⟨-, hg⟩ := oif_some hg
    obtain ⟨T27, e27, hg⟩ := elet_some hg
    obtain ⟨-, hg⟩ := oif_some hg
    obtain ⟨-, hg⟩ := oif_some hg
    obtain ⟨T30, e30, hg⟩ := elet_some hg
    obtain ⟨-, hg⟩ := oif_some hg
    obtain ⟨T32, g32, hg⟩ := obind_some hg
    have hV27 : IV aR0 1586 aK1 aK2 T27 := by
      rw [e27]
      exact iv_uR p.2.2.2 d0 (by decide) (by decide) rfl rfl (rsrole hu) ⟨by decide, by decide⟩
    have hV30 : IV aR0 1586 aK1 aK2 T30 := by
      rw [e30]
      exact iv_uR hV27 d0 (by decide) (by decide) rfl rfl (rsrole hw0) ⟨by decide, by decide⟩
    have i30 : T30.2.2.1 = T17.2.2.1 := by rw [e30, e27]; rfl
    have r30 : ∀ n k, n ≠ 0 → T30.2.2.2.2 n k = T.2.2.2.2 n k := fun n k hn => by
      rw [e30]
      show va_up T27.2.2.2.2 0 _ n k = _
      rw [va_up_ne _ _ hn, e27]
      show va_up T17.2.2.2.2 0 _ n k = _
      rw [va_up_ne _ _ hn, R17]
    have r30' : ∀ k, T30.2.2.2.2 0 k = if k = 15 then some w0 else if k = 14 then some u else T.2.2.2.2 0 k := fun k => by
      rw [e30]
      show va_up T27.2.2.2.2 0 (va_up (T27.2.2.2.2 0) 15 (some w0)) 0 k = _
      rw [va_up_self, e27]
      show (if k = 15 then some w0 else va_up T17.2.2.2.2 0 (va_up (T17.2.2.2.2 0) 14 (some u)) 0 k) = _
      rw [va_up_self, R17]
      rfl
    have hc30 : CRF T30 := by
      refine ⟨fun n hn hs hr k => (r30 n k hn).trans (hc.1 n hn hs hr k), fun k b14 b15 => by rw [r30', if_neg b15, if_neg b14]; exact hc.2.1 k b14 b15, ?_⟩
      rw [r30', r30', if_neg (by decide), if_pos rfl, if_pos rfl]
      rcases hu with e | e <;> rcases hw0 with e' | e' <;> subst e <;> subst e'
      · exact absurd rfl huw
      · exact .inl ⟨rfl, rfl⟩
      · exact .inr ⟨rfl, rfl⟩
      · exact absurd rfl huw
    have cb := tgo (cs_X11_begin T30 0 hV30 d0) g32
    have gb := sr_X11_begin g32
    have hc32 : CRF T32 := crf_gr hc30 hV30 gb
    have e14' : T32.2.2.2.2 0 14 = some u := by
      have q : T32.2.2.2.2 0 14 = T30.2.2.2.2 0 14 := by
        refine gb.2 0 14 (Nat.lt_of_lt_of_le (by decide) hV30.1.2.2) ?_
        rw [hV30.2.1 0 (iv_sta hV30 d0 (by decide) (by decide)), d0]
        decide
      rw [q, r30', if_neg (by decide), if_pos rfl]
    have sq : SEQ u T17 T32 := by
      have q := fw_seq (s := u) cb.2 (by decide +kernel) hu
      unfold SEQ at q ⊢
      rw [i30] at q
      exact q
    have sce : SCE u T32 (S1.2.1 10) := sce_eq (sce_of C17) sq sp
    unfold g_X11_load_b65 at hg
    obtain ⟨-, hg⟩ := oif_some hg
    obtain ⟨n3, en3, hg⟩ := obind_some hg
    rw [e14'] at en3
    cases en3
    obtain ⟨-, hg⟩ := oif_some hg
    obtain ⟨n5, en5, hg⟩ := obind_some hg
    rw [(hc32.srf hu).2.1] at en5
    cases en5
    obtain ⟨-, hg⟩ := oif_some hg
    obtain ⟨r9', T7, g7, hg⟩ := obind2_some hg
    unfold g_X1_cells at g7
    obtain ⟨-, g7⟩ := oif_some g7
    obtain ⟨x3, y3, g7⟩ := elet_some g7
    obtain ⟨-, g7⟩ := oif_some g7
    obtain ⟨x5, y5, g7⟩ := elet_some g7
    obtain ⟨x6, y6, g7⟩ := elet_some g7
    have gg := osome2 g7
    have g := osome3 hg
    rw [← g.2.2, ← gg.2]
    refine ⟨⟨hc32, ⟨?_, fun k hk => ?_⟩, ?_, ?_, u, hu, e14', .inl ⟨zq.2, sce, by rw [sp 4 (by decide)]; exact u4, by rw [sp 8 (by decide)]; exact u8⟩⟩, .inl ⟨g.1.symm, ?_, ?_⟩⟩
    · rw [cb.2 1 1 (by rw [d1]; rfl), i30, p.2.2.1, l11, sc 2 (by omega), j16 2 (by omega), s2]
    · rw [cb.2 2 k (by rw [d2]; rfl), i30, p.2.1, b11, hB.2 k hk, sb]
    · rw [cb.2 6 2 (by rw [d6]; rfl), i30, p2, sc 5 (by omega), u5]
    · rw [cb.2 6 3 (by rw [d6]; rfl), i30, p3, sc 6 (by omega), u6]
    · rw [sc 0 (by omega), j16 0 (by omega), s00]
    · rw [← g.2.1, ← gg.1, y6, y3, y5, sce.2.2.1.1, sce.2.2.1.2.1]
      exact zq.1.symm
end
end
section
/-! 21c2.point.lean.txt -/
section
variable {T T1 : AT} {S S1 : MS} {s : Nat}
/-- the cells of the Sources of both scenes -/
def P7 (m : Nat) : Prop := 650 ≤ m ∧ m < 656 ∨ 828 ≤ m ∧ m < 834
def C7 (m : Nat) (T : AT) : Prop := m < T.1 ∧ T.2.1 m = (7, 0)
theorem QF.app (h : QF T T1) {m : Nat} (c : C7 m T) : C7 m T1 ∧ ∀ j, T1.2.2.1 m j = T.2.2.1 m j := ⟨⟨Nat.lt_of_lt_of_le c.1 h.1.1, (h.1.2.1 m c.1).trans c.2⟩, fun j => h.2 m j c.1 c.2⟩
theorem p7_dec : (List.range 1586).all (fun m => !((Nat.ble 650 m && Nat.blt m 656) || (Nat.ble 828 m && Nat.blt m 834)) || Nat.beq (aR0 m) 7) = true := by decide +kernel
theorem c7_of (hV : IV aR0 1586 aK1 aK2 T) {m : Nat} (hm : P7 m) : C7 m T := by
  have h15 : m < 1586 := by unfold P7 at hm; omega
  have r : aR0 m = 7 := by
    have d := a_fin p7_dec h15
    rcases hm with ⟨a, b⟩ | ⟨a, b⟩
    · rw [show Nat.ble 650 m = true from Nat.ble_eq_true_of_le a, show Nat.blt m 656 = true from Nat.ble_eq_true_of_le b] at d
      exact Nat.eq_of_beq_eq_true (by simpa using d)
    · rw [show Nat.ble 828 m = true from Nat.ble_eq_true_of_le a, show Nat.blt m 834 = true from Nat.ble_eq_true_of_le b] at d
      exact Nat.eq_of_beq_eq_true (by simpa using d)
  have st := iv_sta hV r (by decide) (by decide)
  exact ⟨iv_lt hV st, by rw [hV.2.1 m st, r]; rfl⟩
set_option maxRecDepth 100000 in
theorem pt_dec : okc 7 = true ∧ (arf 7).getD 1 none = some 21 ∧ (arf 0).getD 2 none = some 7 := by decide +kernel
theorem q_rp {a b : Nat} {c d : Int32} (h21 : T.2.2.2.2 7 1 = some 21) (hg : g_X5_recordPoint T 7 a b c d = some T1) {m : Nat} (hm : P7 m) (cm : C7 m T) : C7 m T1 ∧ ∀ j, T1.2.2.1 m j = T.2.2.1 m j := by
  have m21 : m ≠ 21 := by unfold P7 at hm; omega
  have up : ∀ {U : AT} {k : Nat} {v : Int32}, C7 m U → C7 m (uI U 21 k v) ∧ ∀ j, (uI U 21 k v).2.2.1 m j = U.2.2.1 m j := fun c => ⟨c, fun j => ui_ne (.inl m21)⟩
  unfold g_X5_recordPoint at hg
  obtain ⟨-, hg⟩ := oif_some hg
  obtain ⟨T3, g3, hg⟩ := obind_some hg
  obtain ⟨c3, e3⟩ := (sq_X5_silence g3).app cm
  have r3 : T3.2.2.2.2 = T.2.2.2.2 := (s_X5_silence g3).2.2
  obtain ⟨-, hg⟩ := oif_some hg
  obtain ⟨n6, en6, hg⟩ := obind_some hg
  rw [r3, h21] at en6
  cases en6
  obtain ⟨-, hg⟩ := oif_some hg
  obtain ⟨T8, e8, hg⟩ := elet_some hg
  obtain ⟨c8, f8⟩ := up (k := 0) (v := 0) c3
  rw [← e8] at c8 f8
  have r8 : T8.2.2.2.2 = T.2.2.2.2 := by rw [e8]; exact r3
  obtain ⟨-, hg⟩ := oif_some hg
  obtain ⟨n10, en10, hg⟩ := obind_some hg
  rw [r8, h21] at en10
  cases en10
  obtain ⟨-, hg⟩ := oif_some hg
  obtain ⟨T12, e12, hg⟩ := elet_some hg
  obtain ⟨c12, f12⟩ := up (k := 5) (v := 100) c8
  rw [← e12] at c12 f12
  have r12 : T12.2.2.2.2 = T.2.2.2.2 := by rw [e12]; exact r8
  obtain ⟨-, hg⟩ := oif_some hg
  obtain ⟨n14, en14, hg⟩ := obind_some hg
  rw [r12, h21] at en14
  cases en14
  obtain ⟨-, hg⟩ := oif_some hg
  obtain ⟨T16, e16, hg⟩ := elet_some hg
  obtain ⟨c16, f16⟩ := up (k := 6) (v := d) c12
  rw [← e16] at c16 f16
  obtain ⟨-, hg⟩ := oif_some hg
  obtain ⟨n18, -, hg⟩ := obind_some hg
  obtain ⟨-, hg⟩ := oif_some hg
  obtain ⟨r22, T20, g20, hg⟩ := obind2_some hg
  obtain ⟨c20, f20⟩ := (sq_X1_centreX g20).app c16
  obtain ⟨-, hg⟩ := oif_some hg
  obtain ⟨n25, -, hg⟩ := obind_some hg
  obtain ⟨-, hg⟩ := oif_some hg
  obtain ⟨r29, T27, g27, hg⟩ := obind2_some hg
  obtain ⟨c27, f27⟩ := (sq_X1_centreY g27).app c20
  obtain ⟨c1, f1⟩ := (sq_X5_recordPoint_b53 _ _ _ _ _ _ _ _ hg).app c27
  exact ⟨c1, fun j => by rw [f1, f27, f20, f16, f12, f8, e3]⟩
theorem q_point {a0 a1 : Int32} (hV : IV aR0 1586 aK1 aK2 T) (hc : CRF T) (hg : g_X11_recordPoint T 0 a0 a1 = some T1) {m : Nat} (hm : P7 m) (cm : C7 m T) : C7 m T1 ∧ ∀ j, T1.2.2.1 m j = T.2.2.1 m j := by
  obtain ⟨o7, a7, a2⟩ := pt_dec
  unfold g_X11_recordPoint at hg
  obtain ⟨-, hg⟩ := oif_some hg
  obtain ⟨n3, en3, hg⟩ := obind_some hg
  obtain ⟨-, hg⟩ := oif_some hg
  obtain ⟨n5, en5, hg⟩ := obind_some hg
  obtain ⟨-, hg⟩ := oif_some hg
  obtain ⟨T7, g7, hg⟩ := obind_some hg
  obtain ⟨c7, f7⟩ := (sq_X8_copyFrom g7).app cm
  have hc7 : CRF T7 := crf_gr hc hV (sr_X8_copyFrom g7)
  unfold g_X11_recordPoint_b11 at hg
  obtain ⟨-, hg⟩ := oif_some hg
  obtain ⟨m3, em3, hg⟩ := obind_some hg
  rw [(hc7.2.1 2 (by decide) (by decide)).trans a2] at em3
  cases em3
  obtain ⟨-, hg⟩ := oif_some hg
  obtain ⟨m5, em5, hg⟩ := obind_some hg
  obtain ⟨-, hg⟩ := oif_some hg
  obtain ⟨m7, em7, hg⟩ := obind_some hg
  obtain ⟨-, hg⟩ := oif_some hg
  obtain ⟨T9, g9, hg⟩ := obind_some hg
  obtain ⟨c9, f9⟩ := q_rp ((hc7.at 7 o7 1).trans a7) g9 hm c7
  rw [← osome1 (show some T9 = some T1 from hg)]
  exact ⟨c9, fun j => (f9 j).trans (f7 j)⟩
theorem need_same {k : Nat} {r : Int32} : (∀ {o : Nat}, g_X11_needCamera T o = some (k, r, T1) → T1 = T) ∧ (∀ {o : Nat} {a : Int32}, g_X11_needCell T o a = some (k, r, T1) → T1 = T) ∧ (∀ {a b c : Int32}, g_X11_needRange T a b c = some (k, r, T1) → T1 = T) := by
  have idx : ∀ {U U1 : AT} {k : Nat} {r a b : Int32}, g_X11_needIndex U a b = some (k, r, U1) → U1 = U := by
    intro U U1 k r a b hg
    unfold g_X11_needIndex at hg
    by_cases c0 : a < 0
    · rw [if_pos c0] at hg
      exact (osome3 (show some ((2 : Nat), (0 : Int32), U) = some (k, r, U1) from hg)).2.2.symm
    · rw [if_neg c0] at hg
      by_cases c1 : a < b
      · rw [if_pos c1] at hg
        exact (osome3 hg).2.2.symm
      · rw [if_neg c1] at hg
        exact (osome3 (show some ((2 : Nat), (0 : Int32), U) = some (k, r, U1) from hg)).2.2.symm
  refine ⟨fun {o} hg => ?_, fun {o a} hg => ?_, fun {a b c} hg => ?_⟩
  · unfold g_X11_needCamera at hg
    obtain ⟨-, hg⟩ := oif_some hg
    obtain ⟨n3, e3, hg⟩ := obind_some hg
    obtain ⟨-, hg⟩ := oif_some hg
    obtain ⟨v5, e5, hg⟩ := elet_some hg
    by_cases c : v5 = 0
    · rw [if_pos c] at hg; exact (osome3 hg).2.2.symm
    · rw [if_neg c] at hg; exact (osome3 hg).2.2.symm
  · unfold g_X11_needCell at hg
    obtain ⟨-, hg⟩ := oif_some hg
    obtain ⟨n3, e3, hg⟩ := obind_some hg
    obtain ⟨-, hg⟩ := oif_some hg
    obtain ⟨n5, e5, hg⟩ := obind_some hg
    obtain ⟨-, hg⟩ := oif_some hg
    obtain ⟨r9, T7, g7, hg⟩ := obind2_some hg
    have e7 : T7 = T := by
      unfold g_X1_cells at g7
      obtain ⟨-, g7⟩ := oif_some g7
      obtain ⟨x3, y3, g7⟩ := elet_some g7
      obtain ⟨-, g7⟩ := oif_some g7
      obtain ⟨x5, y5, g7⟩ := elet_some g7
      obtain ⟨x6, y6, g7⟩ := elet_some g7
      exact (osome2 g7).2.symm
    rcases othr_k hg with ⟨r9', g9, -⟩ | ⟨r9', T9, g9, hg⟩
    · exact (idx g9).trans e7
    · have g := osome3 hg
      exact g.2.2.symm.trans ((idx g9).trans e7)
  · unfold g_X11_needRange at hg
    by_cases c0 : a < b
    · rw [if_pos c0] at hg
      exact (osome3 (show some ((3 : Nat), (0 : Int32), T) = some (k, r, T1) from hg)).2.2.symm
    · rw [if_neg c0] at hg
      by_cases c1 : a ≤ c
      · rw [if_pos c1] at hg
        exact (osome3 hg).2.2.symm
      · rw [if_neg c1] at hg
        exact (osome3 (show some ((3 : Nat), (0 : Int32), T) = some (k, r, T1) from hg)).2.2.symm
theorem q_pointBest {a0 a1 r : Int32} {k : Nat} (hV : IV aR0 1586 aK1 aK2 T) (hc : CRF T) (hg : g_X11_pointBest T 0 a0 a1 = some (k, r, T1)) {m : Nat} (hm : P7 m) : ∀ j, T1.2.2.1 m j = T.2.2.1 m j := by
  have cm := c7_of hV hm
  unfold g_X11_pointBest at hg
  obtain ⟨-, hg⟩ := oif_some hg
  rcases othr_k hg with ⟨r9, g9, -⟩ | ⟨r5, T3, g9, hg⟩
  · rw [need_same.1 g9]; exact fun _ => rfl
  rw [need_same.1 g9] at hg
  obtain ⟨-, hg⟩ := oif_some hg
  rcases othr_k hg with ⟨r9, g9, -⟩ | ⟨r10, T8, g9, hg⟩
  · rw [need_same.2.1 g9]; exact fun _ => rfl
  rw [need_same.2.1 g9] at hg
  rcases othr_k hg with ⟨r9, g9, -⟩ | ⟨r14, T12, g9, hg⟩
  · rw [need_same.2.2 g9]; exact fun _ => rfl
  rw [need_same.2.2 g9] at hg
  obtain ⟨-, hg⟩ := oif_some hg
  obtain ⟨T17, g17, hg⟩ := obind_some hg
  obtain ⟨c17, f17⟩ := q_point hV hc g17 hm cm
  unfold g_X11_pointBest_b22 at hg
  obtain ⟨-, hg⟩ := oif_some hg
  obtain ⟨r4, U, gU, hg⟩ := obind2_some hg
  obtain ⟨-, fU⟩ := (sq_X11_trialBest gU).app c17
  have g := osome3 (show some ((0 : Nat), r4, U) = some (k, r, T1) from hg)
  rw [← g.2.2]
  exact fun j => (fU j).trans (f17 j)
theorem q_pointPower {a0 a1 a2 : Int32} {r : Int64} {k : Nat} (hV : IV aR0 1586 aK1 aK2 T) (hc : CRF T) (hg : g_X11_pointPower T 0 a0 a1 a2 = some (k, r, T1)) {m : Nat} (hm : P7 m) : ∀ j, T1.2.2.1 m j = T.2.2.1 m j := by
  have cm := c7_of hV hm
  unfold g_X11_pointPower at hg
  obtain ⟨-, hg⟩ := oif_some hg
  rcases othr_k hg with ⟨r9, g9, -⟩ | ⟨r5, T3, g9, hg⟩
  · rw [need_same.1 g9]; exact fun _ => rfl
  rw [need_same.1 g9] at hg
  obtain ⟨-, hg⟩ := oif_some hg
  rcases othr_k hg with ⟨r9, g9, -⟩ | ⟨r10, T8, g9, hg⟩
  · rw [need_same.2.1 g9]; exact fun _ => rfl
  rw [need_same.2.1 g9] at hg
  obtain ⟨-, hg⟩ := oif_some hg
  rcases othr_k hg with ⟨r9, g9, -⟩ | ⟨r15, T13, g9, hg⟩
  · rw [need_same.2.1 g9]; exact fun _ => rfl
  rw [need_same.2.1 g9] at hg
  rcases othr_k hg with ⟨r9, g9, -⟩ | ⟨r19, T17, g9, hg⟩
  · rw [need_same.2.2 g9]; exact fun _ => rfl
  rw [need_same.2.2 g9] at hg
  obtain ⟨-, hg⟩ := oif_some hg
  obtain ⟨T22, g22, hg⟩ := obind_some hg
  obtain ⟨c22, f22⟩ := q_point hV hc g22 hm cm
  unfold g_X11_pointPower_b27 at hg
  obtain ⟨-, hg⟩ := oif_some hg
  obtain ⟨n3, -, hg⟩ := obind_some hg
  obtain ⟨-, hg⟩ := oif_some hg
  obtain ⟨n5, -, hg⟩ := obind_some hg
  obtain ⟨-, hg⟩ := oif_some hg
  obtain ⟨n7, -, hg⟩ := obind_some hg
  obtain ⟨-, hg⟩ := oif_some hg
  obtain ⟨-, hg⟩ := oif_some hg
  obtain ⟨n10, -, hg⟩ := obind_some hg
  obtain ⟨-, hg⟩ := oif_some hg
  obtain ⟨n12, -, hg⟩ := obind_some hg
  obtain ⟨-, hg⟩ := oif_some hg
  obtain ⟨T14, g14, hg⟩ := obind_some hg
  obtain ⟨c14, f14⟩ := (sq_X8_powerOf g14).app c22
  obtain ⟨-, fz⟩ := (sq_X11_pointPower_b48 _ _ hg).app c14
  exact fun j => (fz j).trans ((f14 j).trans (f22 j))
/-- as r1_keep, where a Source's fields may change elsewhere -/
def scodes7 : List Nat := (List.range 18).map (192 + ·) ++ (List.range 8).map (32 + ·) ++ (List.range 4).map (64 + ·) ++ [1888, 1760, 1792, 1824, 1856]
def okW7 (W : List Nat) : Bool := scodes7.all (fun x => !(W.contains x)) && !(W.contains 289) && !(W.contains 1312) && !(W.contains 98) && !(W.contains 99)
theorem fw_seq7 {W : List Nat} (h : FW aR0 W T T1) (c : scodes7.all (fun x => !(W.contains x)) = true) (hs : s = 478 ∨ s = 656) (h7 : ∀ m, P7 m → ∀ j, T1.2.2.1 m j = T.2.2.1 m j) : SEQ s T T1 := by
  obtain ⟨r0, r1, r2, r3, r4, r5, r6, r7, r8, r9⟩ := sro hs
  have sc : ∀ {x : Nat}, x ∈ scodes7 → W.contains x = false := fun {x} hx => con_f (List.all_eq_true.mp c x hx)
  have k0 : ∀ j, j < 18 → 192 + j ∈ scodes7 := fun j hj => List.mem_append_left _ (List.mem_append_left _ (List.mem_append_left _ (List.mem_map.mpr ⟨j, List.mem_range.mpr hj, rfl⟩)))
  have k1 : ∀ j, j < 8 → 32 + j ∈ scodes7 := fun j hj => List.mem_append_left _ (List.mem_append_left _ (List.mem_append_right _ (List.mem_map.mpr ⟨j, List.mem_range.mpr hj, rfl⟩)))
  have k2 : ∀ j, j < 4 → 64 + j ∈ scodes7 := fun j hj => List.mem_append_left _ (List.mem_append_right _ (List.mem_map.mpr ⟨j, List.mem_range.mpr hj, rfl⟩))
  have ka : ∀ x, x ∈ [1888, 1760, 1792, 1824, 1856] → x ∈ scodes7 := fun x hx => List.mem_append_right _ hx
  refine ⟨fun j hj => h _ _ ?_, fun j hj => h _ _ ?_, fun j => h _ _ ?_, fun m j a b => h _ _ ?_, fun m j a b => h _ _ ?_, fun m j a b d => h _ _ ?_, fun m j a b d => h7 m (by unfold P7; omega) j⟩
  · rw [r0]; exact sc (k0 j hj)
  · rw [r1]; exact sc (k1 j hj)
  · rw [r2]; exact sc (ka 1888 (by decide))
  · have q := r3 (m - (s + 5)) (by omega)
    rw [show s + 5 + (m - (s + 5)) = m from by omega] at q
    rw [q]; exact sc (ka 1888 (by decide))
  · rcases (show m = s + 11 ∨ m = s + 12 ∨ m = s + 13 ∨ m = s + 14 by omega) with e | e | e | e <;> rw [e]
    · rw [r4]; exact sc (ka 1760 (by decide))
    · rw [r5]; exact sc (ka 1792 (by decide))
    · rw [r6]; exact sc (ka 1824 (by decide))
    · rw [r7]; exact sc (ka 1856 (by decide))
  · have q := r8 (m - (s + 160)) (by omega)
    rw [show s + 160 + (m - (s + 160)) = m from by omega] at q
    rw [q]; exact sc (k2 j d)
theorem r1_keep7 {W : List Nat} (h : R1 T S) (hV : IV aR0 1586 aK1 aK2 T) (hw : FW aR0 W T T1) (c : okW7 W = true) (hc1 : CRF T1) (e14 : T1.2.2.2.2 0 14 = T.2.2.2.2 0 14) (hf : FKq S S1) (h7 : ∀ m, P7 m → ∀ j, T1.2.2.1 m j = T.2.2.1 m j) : R1 T1 S1 := by
  obtain ⟨hc, ⟨hl, hb⟩, h5, h6, s, hs, h14, hr⟩ := h
  unfold okW7 at c
  simp only [Bool.and_eq_true] at c
  obtain ⟨⟨⟨⟨c0, c1⟩, c2⟩, c3⟩, c4⟩ := c
  obtain ⟨r1, r2, r6, r0⟩ := rrole
  refine ⟨hc1, ⟨?_, fun k hk => ?_⟩, ?_, ?_, rs_eq hs (fw_seq7 hw c0 hs h7) (fun x _ => by rw [hf.2.2.2.2.2]) hf.2.2.2.1 (e14.trans h14) hr⟩
  · rw [hw 1 1 (by rw [r1]; exact con_f c1), hf.1]; exact hl
  · rw [hw 2 k (by rw [r2]; exact con_f c2), hf.2.2.2.2.1]; exact hb k hk
  · rw [hw 6 2 (by rw [r6]; exact con_f c3), hf.2.1]; exact h5
  · rw [hw 6 3 (by rw [r6]; exact con_f c4), hf.2.2.1]; exact h6
theorem e14_gr (hV : IV aR0 1586 aK1 aK2 T) (hg : GR T T1) : T1.2.2.2.2 0 14 = T.2.2.2.2 0 14 := by
  refine hg.2 0 14 (Nat.lt_of_lt_of_le (by decide) hV.1.2.2) ?_
  rw [hV.2.1 0 (iv_sta hV rrole.2.2.2 (by decide) (by decide)), rrole.2.2.2]
  decide
end
end
section
/-! 21d.keep.lean.txt -/
set_option maxRecDepth 100000 in
theorem r1_0 : R1 aT0 mS0 := by
  refine ⟨⟨fun n _ _ _ k => rfl, fun k _ _ => rfl, .inl ⟨by decide +kernel, by decide +kernel⟩⟩, ⟨by decide +kernel, fun k _ => ?_⟩, by decide +kernel, by decide +kernel, 478, .inl rfl, by decide +kernel, .inr ⟨by decide +kernel, by decide +kernel, by decide +kernel, by decide +kernel, by decide +kernel, by decide +kernel, by decide +kernel⟩⟩
  show fviR (aR0 2) k = 0
  rw [rrole.2.1]
  rfl
theorem r1_append {T : AT} {S : MS} {a0 a1 a2 a3 a4 r1 r2 : Int32} {T1 : AT} {S1 : MS} (hV : IV aR0 1586 aK1 aK2 T) (hJ : JJ S) (h : R1 T S) (hg : g_X11_append T 0 a0 a1 a2 a3 a4 = some (r1, T1)) (hf : fr_append S a0 a1 a2 a3 a4 = some (r2, S1)) : R1 T1 S1 := by
  obtain ⟨hc, hB, h5, h6, s, hs, h14, hr⟩ := h
  obtain ⟨d1, d2, d6, d0⟩ := rrole
  obtain ⟨a1', -, b1, -, -, -, -, t8, -, -⟩ := txr_dec
  have q := k_append ((hc.2.1 0 (by decide) (by decide)).trans t8) ((hc.at 1 a1' 0).trans b1) hB hg hf
  have c := tgo (cs_X11_append T 0 a0 a1 a2 a3 a4 hV d0) hg
  have f := w_fr_append hf
  refine ⟨crf_eq hc q.2.2, q.2.1, ?_, ?_, rs_eq hs (fw_seq c.1.2 (by decide +kernel) hs) (fun x _ => by rw [f.2 10 (by decide)]) (f.1 20 (by decide)) (by rw [q.2.2]; exact h14) hr⟩
  · rw [c.1.2 6 2 (by rw [d6]; rfl), f.1 5 (by decide)]; exact h5
  · rw [c.1.2 6 3 (by rw [d6]; rfl), f.1 6 (by decide)]; exact h6
theorem r1_parseError {T : AT} {S : MS} {r1 : Int32} {r2 : Int32} {T1 : AT} {S1 : MS} (hV : IV aR0 1586 aK1 aK2 T) (hJ : JJ S) (h : R1 T S) (hg : g_X11_parseError T 0 = some (r1, T1)) (hf : fr_parseError S = some (r2, S1)) : R1 T1 S1 := by
  have c := tgo (cs_X11_parseError T 0  hV rrole.2.2.2) hg
  have f := w_fr_parseError hf
  exact r1_keep (W := []) h hV (by rw [show T1 = T from c.1]; exact FW.rf) (by decide +kernel) (by rw [show T1 = T from c.1]; exact GR.rf T) ⟨f.1 2 (by decide), f.1 5 (by decide), f.1 6 (by decide), f.1 20 (by decide), f.2 1 (by decide), f.2 10 (by decide)⟩
theorem r1_errorPosition {T : AT} {S : MS} {r1 : Int32} {r2 : Int32} {T1 : AT} {S1 : MS} (hV : IV aR0 1586 aK1 aK2 T) (hJ : JJ S) (h : R1 T S) (hg : g_X11_errorPosition T 0 = some (r1, T1)) (hf : fr_errorPosition S = some (r2, S1)) : R1 T1 S1 := by
  have c := tgo (cs_X11_errorPosition T 0  hV rrole.2.2.2) hg
  have f := w_fr_errorPosition hf
  exact r1_keep (W := []) h hV (by rw [show T1 = T from c.1]; exact FW.rf) (by decide +kernel) (by rw [show T1 = T from c.1]; exact GR.rf T) ⟨f.1 2 (by decide), f.1 5 (by decide), f.1 6 (by decide), f.1 20 (by decide), f.2 1 (by decide), f.2 10 (by decide)⟩
theorem r1_buffered {T : AT} {S : MS} {r1 : Int32} {r2 : Int32} {T1 : AT} {S1 : MS} (hV : IV aR0 1586 aK1 aK2 T) (hJ : JJ S) (h : R1 T S) (hg : g_X11_buffered T 0 = some (r1, T1)) (hf : fr_buffered S = some (r2, S1)) : R1 T1 S1 := by
  have c := tgo (cs_X11_buffered T 0  hV rrole.2.2.2) hg
  have f := w_fr_buffered hf
  exact r1_keep (W := []) h hV (by rw [show T1 = T from c.1]; exact FW.rf) (by decide +kernel) (by rw [show T1 = T from c.1]; exact GR.rf T) ⟨f.1 2 (by decide), f.1 5 (by decide), f.1 6 (by decide), f.1 20 (by decide), f.2 1 (by decide), f.2 10 (by decide)⟩
theorem r1_mics {T : AT} {S : MS} {r1 : Int32} {r2 : Int32} {T1 : AT} {S1 : MS} (hV : IV aR0 1586 aK1 aK2 T) (hJ : JJ S) (h : R1 T S) (hg : g_X11_mics T 0 = some (r1, T1)) (hf : fr_mics S = some (r2, S1)) : R1 T1 S1 := by
  have c := tgo (cs_X11_mics T 0  hV rrole.2.2.2) hg
  have f := w_fr_mics hf
  exact r1_keep (W := []) h hV (by rw [show T1 = T from c.1]; exact FW.rf) (by decide +kernel) (by rw [show T1 = T from c.1]; exact GR.rf T) ⟨f.1 2 (by decide), f.1 5 (by decide), f.1 6 (by decide), f.1 20 (by decide), f.2 1 (by decide), f.2 10 (by decide)⟩
theorem r1_micAt {T : AT} {S : MS} {a0 a1 : Int32} {r1 : Int32} {r2 : Int32} {k1 : Nat} {T1 : AT} {S1 : MS} (hV : IV aR0 1586 aK1 aK2 T) (hJ : JJ S) (h : R1 T S) (hg : g_X11_micAt T 0 a0 a1 = some (k1, r1, T1)) (hf : fr_micAt S a0 a1 = some (r2, S1)) : R1 T1 S1 := by
  have c := tgo (cs_X11_micAt T 0 a0 a1 hV rrole.2.2.2) hg
  have f := w_fr_micAt hf
  exact r1_keep (W := []) h hV (by rw [show T1 = T from c.1]; exact FW.rf) (by decide +kernel) (by rw [show T1 = T from c.1]; exact GR.rf T) ⟨f.1 2 (by decide), f.1 5 (by decide), f.1 6 (by decide), f.1 20 (by decide), f.2 1 (by decide), f.2 10 (by decide)⟩
theorem r1_isMuted {T : AT} {S : MS} {a0 : Int32} {r1 : Int32} {r2 : Int32} {k1 : Nat} {T1 : AT} {S1 : MS} (hV : IV aR0 1586 aK1 aK2 T) (hJ : JJ S) (h : R1 T S) (hg : g_X11_isMuted T 0 a0 = some (k1, r1, T1)) (hf : fr_isMuted S a0 = some (r2, S1)) : R1 T1 S1 := by
  have c := tgo (cs_X11_isMuted T 0 a0 hV rrole.2.2.2) hg
  have f := w_fr_isMuted hf
  exact r1_keep (W := []) h hV (by rw [show T1 = T from c.1]; exact FW.rf) (by decide +kernel) (by rw [show T1 = T from c.1]; exact GR.rf T) ⟨f.1 2 (by decide), f.1 5 (by decide), f.1 6 (by decide), f.1 20 (by decide), f.2 1 (by decide), f.2 10 (by decide)⟩
theorem r1_columns {T : AT} {S : MS} {r1 : Int32} {r2 : Int32} {T1 : AT} {S1 : MS} (hV : IV aR0 1586 aK1 aK2 T) (hJ : JJ S) (h : R1 T S) (hg : g_X11_columns T 0 = some (r1, T1)) (hf : fr_columns S = some (r2, S1)) : R1 T1 S1 := by
  have c := tgo (cs_X11_columns T 0  hV rrole.2.2.2) hg
  have f := w_fr_columns hf
  exact r1_keep (W := []) h hV (by rw [show T1 = T from c.1]; exact FW.rf) (by decide +kernel) (by rw [show T1 = T from c.1]; exact GR.rf T) ⟨f.1 2 (by decide), f.1 5 (by decide), f.1 6 (by decide), f.1 20 (by decide), f.2 1 (by decide), f.2 10 (by decide)⟩
theorem r1_rows {T : AT} {S : MS} {r1 : Int32} {r2 : Int32} {T1 : AT} {S1 : MS} (hV : IV aR0 1586 aK1 aK2 T) (hJ : JJ S) (h : R1 T S) (hg : g_X11_rows T 0 = some (r1, T1)) (hf : fr_rows S = some (r2, S1)) : R1 T1 S1 := by
  have c := tgo (cs_X11_rows T 0  hV rrole.2.2.2) hg
  have f := w_fr_rows hf
  exact r1_keep (W := []) h hV (by rw [show T1 = T from c.1]; exact FW.rf) (by decide +kernel) (by rw [show T1 = T from c.1]; exact GR.rf T) ⟨f.1 2 (by decide), f.1 5 (by decide), f.1 6 (by decide), f.1 20 (by decide), f.2 1 (by decide), f.2 10 (by decide)⟩
theorem r1_cellAt {T : AT} {S : MS} {a0 a1 : Int32} {r1 : Int32} {r2 : Int32} {k1 : Nat} {T1 : AT} {S1 : MS} (hV : IV aR0 1586 aK1 aK2 T) (hJ : JJ S) (h : R1 T S) (hg : g_X11_cellAt T 0 a0 a1 = some (k1, r1, T1)) (hf : fr_cellAt S a0 a1 = some (r2, S1)) : R1 T1 S1 := by
  have c := tgo (cs_X11_cellAt T 0 a0 a1 hV rrole.2.2.2) hg
  have f := w_fr_cellAt hf
  exact r1_keep (W := []) h hV (by rw [show T1 = T from c.1]; exact FW.rf) (by decide +kernel) (by rw [show T1 = T from c.1]; exact GR.rf T) ⟨f.1 2 (by decide), f.1 5 (by decide), f.1 6 (by decide), f.1 20 (by decide), f.2 1 (by decide), f.2 10 (by decide)⟩
theorem r1_sources {T : AT} {S : MS} {r1 : Int32} {r2 : Int32} {T1 : AT} {S1 : MS} (hV : IV aR0 1586 aK1 aK2 T) (hJ : JJ S) (h : R1 T S) (hg : g_X11_sources T 0 = some (r1, T1)) (hf : fr_sources S = some (r2, S1)) : R1 T1 S1 := by
  have c := tgo (cs_X11_sources T 0  hV rrole.2.2.2) hg
  have f := w_fr_sources hf
  exact r1_keep (W := []) h hV (by rw [show T1 = T from c.1]; exact FW.rf) (by decide +kernel) (by rw [show T1 = T from c.1]; exact GR.rf T) ⟨f.1 2 (by decide), f.1 5 (by decide), f.1 6 (by decide), f.1 20 (by decide), f.2 1 (by decide), f.2 10 (by decide)⟩
theorem r1_sourceAt {T : AT} {S : MS} {a0 a1 a2 : Int32} {r1 : Int32} {r2 : Int32} {k1 : Nat} {T1 : AT} {S1 : MS} (hV : IV aR0 1586 aK1 aK2 T) (hJ : JJ S) (h : R1 T S) (hg : g_X11_sourceAt T 0 a0 a1 a2 = some (k1, r1, T1)) (hf : fr_sourceAt S a0 a1 a2 = some (r2, S1)) : R1 T1 S1 := by
  have c := tgo (cs_X11_sourceAt T 0 a0 a1 a2 hV rrole.2.2.2) hg
  have f := w_fr_sourceAt hf
  exact r1_keep (W := []) h hV (by rw [show T1 = T from c.1]; exact FW.rf) (by decide +kernel) (by rw [show T1 = T from c.1]; exact GR.rf T) ⟨f.1 2 (by decide), f.1 5 (by decide), f.1 6 (by decide), f.1 20 (by decide), f.2 1 (by decide), f.2 10 (by decide)⟩
theorem r1_isOn {T : AT} {S : MS} {a0 : Int32} {r1 : Int32} {r2 : Int32} {k1 : Nat} {T1 : AT} {S1 : MS} (hV : IV aR0 1586 aK1 aK2 T) (hJ : JJ S) (h : R1 T S) (hg : g_X11_isOn T 0 a0 = some (k1, r1, T1)) (hf : fr_isOn S a0 = some (r2, S1)) : R1 T1 S1 := by
  have c := tgo (cs_X11_isOn T 0 a0 hV rrole.2.2.2) hg
  have f := w_fr_isOn hf
  exact r1_keep (W := []) h hV (by rw [show T1 = T from c.1]; exact FW.rf) (by decide +kernel) (by rw [show T1 = T from c.1]; exact GR.rf T) ⟨f.1 2 (by decide), f.1 5 (by decide), f.1 6 (by decide), f.1 20 (by decide), f.2 1 (by decide), f.2 10 (by decide)⟩
theorem r1_waveAt {T : AT} {S : MS} {a0 a1 : Int32} {r1 : Int32} {r2 : Int32} {k1 : Nat} {T1 : AT} {S1 : MS} (hV : IV aR0 1586 aK1 aK2 T) (hJ : JJ S) (h : R1 T S) (hg : g_X11_waveAt T 0 a0 a1 = some (k1, r1, T1)) (hf : fr_waveAt S a0 a1 = some (r2, S1)) : R1 T1 S1 := by
  have c := tgo (cs_X11_waveAt T 0 a0 a1 hV rrole.2.2.2) hg
  have f := w_fr_waveAt hf
  exact r1_keep (W := []) h hV (by rw [show T1 = T from c.1]; exact FW.rf) (by decide +kernel) (by rw [show T1 = T from c.1]; exact GR.rf T) ⟨f.1 2 (by decide), f.1 5 (by decide), f.1 6 (by decide), f.1 20 (by decide), f.2 1 (by decide), f.2 10 (by decide)⟩
theorem r1_samples {T : AT} {S : MS} {r1 : Int32} {r2 : Int32} {T1 : AT} {S1 : MS} (hV : IV aR0 1586 aK1 aK2 T) (hJ : JJ S) (h : R1 T S) (hg : g_X11_samples T 0 = some (r1, T1)) (hf : fr_samples S = some (r2, S1)) : R1 T1 S1 := by
  have c := tgo (cs_X11_samples T 0  hV rrole.2.2.2) hg
  have f := w_fr_samples hf
  exact r1_keep (W := []) h hV (by rw [show T1 = T from c.1]; exact FW.rf) (by decide +kernel) (by rw [show T1 = T from c.1]; exact GR.rf T) ⟨f.1 2 (by decide), f.1 5 (by decide), f.1 6 (by decide), f.1 20 (by decide), f.2 1 (by decide), f.2 10 (by decide)⟩
theorem r1_delay {T : AT} {S : MS} {a0 a1 : Int32} {r1 : Int32} {r2 : Int32} {k1 : Nat} {T1 : AT} {S1 : MS} (hV : IV aR0 1586 aK1 aK2 T) (hJ : JJ S) (h : R1 T S) (hg : g_X11_delay T 0 a0 a1 = some (k1, r1, T1)) (hf : fr_delay S a0 a1 = some (r2, S1)) : R1 T1 S1 := by
  have c := tgo (cs_X11_delay T 0 a0 a1 hV rrole.2.2.2) hg
  have f := w_fr_delay hf
  exact r1_keep (W := []) h hV (by rw [show T1 = T from c.1]; exact FW.rf) (by decide +kernel) (by rw [show T1 = T from c.1]; exact GR.rf T) ⟨f.1 2 (by decide), f.1 5 (by decide), f.1 6 (by decide), f.1 20 (by decide), f.2 1 (by decide), f.2 10 (by decide)⟩
theorem r1_delayTo {T : AT} {S : MS} {a0 a1 a2 : Int32} {r1 : Int32} {r2 : Int32} {k1 : Nat} {T1 : AT} {S1 : MS} (hV : IV aR0 1586 aK1 aK2 T) (hJ : JJ S) (h : R1 T S) (hg : g_X11_delayTo T 0 a0 a1 a2 = some (k1, r1, T1)) (hf : fr_delayTo S a0 a1 a2 = some (r2, S1)) : R1 T1 S1 := by
  have c := tgo (cs_X11_delayTo T 0 a0 a1 a2 hV rrole.2.2.2) hg
  have f := w_fr_delayTo hf
  exact r1_keep (W := []) h hV (by rw [show T1 = T from c.1]; exact FW.rf) (by decide +kernel) (by rw [show T1 = T from c.1]; exact GR.rf T) ⟨f.1 2 (by decide), f.1 5 (by decide), f.1 6 (by decide), f.1 20 (by decide), f.2 1 (by decide), f.2 10 (by decide)⟩
theorem r1_spread {T : AT} {S : MS} {a0 : Int32} {r1 : Int32} {r2 : Int32} {k1 : Nat} {T1 : AT} {S1 : MS} (hV : IV aR0 1586 aK1 aK2 T) (hJ : JJ S) (h : R1 T S) (hg : g_X11_spread T 0 a0 = some (k1, r1, T1)) (hf : fr_spread S a0 = some (r2, S1)) : R1 T1 S1 := by
  have c := tgo (cs_X11_spread T 0 a0 hV rrole.2.2.2) hg
  have f := w_fr_spread hf
  exact r1_keep (W := []) h hV (by rw [show T1 = T from c.1]; exact FW.rf) (by decide +kernel) (by rw [show T1 = T from c.1]; exact GR.rf T) ⟨f.1 2 (by decide), f.1 5 (by decide), f.1 6 (by decide), f.1 20 (by decide), f.2 1 (by decide), f.2 10 (by decide)⟩
theorem r1_window {T : AT} {S : MS} {a0 : Int32} {r1 : Int32} {r2 : Int32} {k1 : Nat} {T1 : AT} {S1 : MS} (hV : IV aR0 1586 aK1 aK2 T) (hJ : JJ S) (h : R1 T S) (hg : g_X11_window T 0 a0 = some (k1, r1, T1)) (hf : fr_window S a0 = some (r2, S1)) : R1 T1 S1 := by
  have c := tgo (cs_X11_window T 0 a0 hV rrole.2.2.2) hg
  have f := w_fr_window hf
  exact r1_keep (W := []) h hV (by rw [show T1 = T from c.1]; exact FW.rf) (by decide +kernel) (by rw [show T1 = T from c.1]; exact GR.rf T) ⟨f.1 2 (by decide), f.1 5 (by decide), f.1 6 (by decide), f.1 20 (by decide), f.2 1 (by decide), f.2 10 (by decide)⟩
theorem r1_sample {T : AT} {S : MS} {a0 a1 : Int32} {r1 : Int32} {r2 : Int32} {k1 : Nat} {T1 : AT} {S1 : MS} (hV : IV aR0 1586 aK1 aK2 T) (hJ : JJ S) (h : R1 T S) (hg : g_X11_sample T 0 a0 a1 = some (k1, r1, T1)) (hf : fr_sample S a0 a1 = some (r2, S1)) : R1 T1 S1 := by
  have c := tgo (cs_X11_sample T 0 a0 a1 hV rrole.2.2.2) hg
  have f := w_fr_sample hf
  exact r1_keep (W := []) h hV (by rw [show T1 = T from c.1]; exact FW.rf) (by decide +kernel) (by rw [show T1 = T from c.1]; exact GR.rf T) ⟨f.1 2 (by decide), f.1 5 (by decide), f.1 6 (by decide), f.1 20 (by decide), f.2 1 (by decide), f.2 10 (by decide)⟩
theorem r1_beam {T : AT} {S : MS} {a0 a1 : Int32} {r1 : Int32} {r2 : Int32} {k1 : Nat} {T1 : AT} {S1 : MS} (hV : IV aR0 1586 aK1 aK2 T) (hJ : JJ S) (h : R1 T S) (hg : g_X11_beam T 0 a0 a1 = some (k1, r1, T1)) (hf : fr_beam S a0 a1 = some (r2, S1)) : R1 T1 S1 := by
  have c := tgo (cs_X11_beam T 0 a0 a1 hV rrole.2.2.2) hg
  have f := w_fr_beam hf
  exact r1_keep h hV (T1 := T1) c.1.2 (by decide +kernel) (sr_X11_beam hg) ⟨f.1 2 (by decide), f.1 5 (by decide), f.1 6 (by decide), f.1 20 (by decide), f.2 1 (by decide), f.2 10 (by decide)⟩
theorem r1_power {T : AT} {S : MS} {a0 : Int32} {r1 : Int64} {r2 : Int64} {k1 : Nat} {T1 : AT} {S1 : MS} (hV : IV aR0 1586 aK1 aK2 T) (hJ : JJ S) (h : R1 T S) (hg : g_X11_power T 0 a0 = some (k1, r1, T1)) (hf : fr_power S a0 = some (r2, S1)) : R1 T1 S1 := by
  have c := tgo (cs_X11_power T 0 a0 hV rrole.2.2.2) hg
  have f := w_fr_power hf
  exact r1_keep h hV (T1 := T1) c.1.2 (by decide +kernel) (sr_X11_power hg) ⟨f.1 2 (by decide), f.1 5 (by decide), f.1 6 (by decide), f.1 20 (by decide), f.2 1 (by decide), f.2 10 (by decide)⟩
theorem r1_powerAt {T : AT} {S : MS} {a0 a1 : Int32} {r1 : Int64} {r2 : Int64} {k1 : Nat} {T1 : AT} {S1 : MS} (hV : IV aR0 1586 aK1 aK2 T) (hJ : JJ S) (h : R1 T S) (hg : g_X11_powerAt T 0 a0 a1 = some (k1, r1, T1)) (hf : fr_powerAt S a0 a1 = some (r2, S1)) : R1 T1 S1 := by
  have c := tgo (cs_X11_powerAt T 0 a0 a1 hV rrole.2.2.2) hg
  have f := w_fr_powerAt hf
  exact r1_keep h hV (T1 := T1) c.1.2 (by decide +kernel) (sr_X11_powerAt hg) ⟨f.1 2 (by decide), f.1 5 (by decide), f.1 6 (by decide), f.1 20 (by decide), f.2 1 (by decide), f.2 10 (by decide)⟩
theorem r1_best {T : AT} {S : MS} {r1 : Int32} {r2 : Int32} {k1 : Nat} {T1 : AT} {S1 : MS} (hV : IV aR0 1586 aK1 aK2 T) (hJ : JJ S) (h : R1 T S) (hg : g_X11_best T 0 = some (k1, r1, T1)) (hf : fr_best S = some (r2, S1)) : R1 T1 S1 := by
  have c := tgo (cs_X11_best T 0  hV rrole.2.2.2) hg
  have f := w_fr_best hf
  exact r1_keep h hV (T1 := T1) c.1.2 (by decide +kernel) (sr_X11_best hg) ⟨f.1 2 (by decide), f.1 5 (by decide), f.1 6 (by decide), f.1 20 (by decide), f.2 1 (by decide), f.2 10 (by decide)⟩
theorem r1_bestPower {T : AT} {S : MS} {r1 : Int64} {r2 : Int64} {k1 : Nat} {T1 : AT} {S1 : MS} (hV : IV aR0 1586 aK1 aK2 T) (hJ : JJ S) (h : R1 T S) (hg : g_X11_bestPower T 0 = some (k1, r1, T1)) (hf : fr_bestPower S = some (r2, S1)) : R1 T1 S1 := by
  have c := tgo (cs_X11_bestPower T 0  hV rrole.2.2.2) hg
  have f := w_fr_bestPower hf
  exact r1_keep h hV (T1 := T1) c.1.2 (by decide +kernel) (sr_X11_bestPower hg) ⟨f.1 2 (by decide), f.1 5 (by decide), f.1 6 (by decide), f.1 20 (by decide), f.2 1 (by decide), f.2 10 (by decide)⟩
theorem r1_meanPower {T : AT} {S : MS} {r1 : Int64} {r2 : Int64} {k1 : Nat} {T1 : AT} {S1 : MS} (hV : IV aR0 1586 aK1 aK2 T) (hJ : JJ S) (h : R1 T S) (hg : g_X11_meanPower T 0 = some (k1, r1, T1)) (hf : fr_meanPower S = some (r2, S1)) : R1 T1 S1 := by
  have c := tgo (cs_X11_meanPower T 0  hV rrole.2.2.2) hg
  have f := w_fr_meanPower hf
  exact r1_keep h hV (T1 := T1) c.1.2 (by decide +kernel) (sr_X11_meanPower hg) ⟨f.1 2 (by decide), f.1 5 (by decide), f.1 6 (by decide), f.1 20 (by decide), f.2 1 (by decide), f.2 10 (by decide)⟩
theorem r1_peaks {T : AT} {S : MS} {r1 : Int32} {r2 : Int32} {k1 : Nat} {T1 : AT} {S1 : MS} (hV : IV aR0 1586 aK1 aK2 T) (hJ : JJ S) (h : R1 T S) (hg : g_X11_peaks T 0 = some (k1, r1, T1)) (hf : fr_peaks S = some (r2, S1)) : R1 T1 S1 := by
  have c := tgo (cs_X11_peaks T 0  hV rrole.2.2.2) hg
  have f := w_fr_peaks hf
  exact r1_keep h hV (T1 := T1) c.1.2 (by decide +kernel) (sr_X11_peaks hg) ⟨f.1 2 (by decide), f.1 5 (by decide), f.1 6 (by decide), f.1 20 (by decide), f.2 1 (by decide), f.2 10 (by decide)⟩
theorem r1_peakAt {T : AT} {S : MS} {a0 : Int32} {r1 : Int32} {r2 : Int32} {k1 : Nat} {T1 : AT} {S1 : MS} (hV : IV aR0 1586 aK1 aK2 T) (hJ : JJ S) (h : R1 T S) (hg : g_X11_peakAt T 0 a0 = some (k1, r1, T1)) (hf : fr_peakAt S a0 = some (r2, S1)) : R1 T1 S1 := by
  have c := tgo (cs_X11_peakAt T 0 a0 hV rrole.2.2.2) hg
  have f := w_fr_peakAt hf
  exact r1_keep h hV (T1 := T1) c.1.2 (by decide +kernel) (sr_X11_peakAt hg) ⟨f.1 2 (by decide), f.1 5 (by decide), f.1 6 (by decide), f.1 20 (by decide), f.2 1 (by decide), f.2 10 (by decide)⟩
theorem r1_isPeak {T : AT} {S : MS} {a0 : Int32} {r1 : Int32} {r2 : Int32} {k1 : Nat} {T1 : AT} {S1 : MS} (hV : IV aR0 1586 aK1 aK2 T) (hJ : JJ S) (h : R1 T S) (hg : g_X11_isPeak T 0 a0 = some (k1, r1, T1)) (hf : fr_isPeak S a0 = some (r2, S1)) : R1 T1 S1 := by
  have c := tgo (cs_X11_isPeak T 0 a0 hV rrole.2.2.2) hg
  have f := w_fr_isPeak hf
  exact r1_keep h hV (T1 := T1) c.1.2 (by decide +kernel) (sr_X11_isPeak hg) ⟨f.1 2 (by decide), f.1 5 (by decide), f.1 6 (by decide), f.1 20 (by decide), f.2 1 (by decide), f.2 10 (by decide)⟩
theorem r1_zonePower {T : AT} {S : MS} {a0 : Int32} {r1 : Int64} {r2 : Int64} {k1 : Nat} {T1 : AT} {S1 : MS} (hV : IV aR0 1586 aK1 aK2 T) (hJ : JJ S) (h : R1 T S) (hg : g_X11_zonePower T 0 a0 = some (k1, r1, T1)) (hf : fr_zonePower S a0 = some (r2, S1)) : R1 T1 S1 := by
  have c := tgo (cs_X11_zonePower T 0 a0 hV rrole.2.2.2) hg
  have f := w_fr_zonePower hf
  exact r1_keep h hV (T1 := T1) c.1.2 (by decide +kernel) (sr_X11_zonePower hg) ⟨f.1 2 (by decide), f.1 5 (by decide), f.1 6 (by decide), f.1 20 (by decide), f.2 1 (by decide), f.2 10 (by decide)⟩
theorem r1_zoneBest {T : AT} {S : MS} {a0 : Int32} {r1 : Int32} {r2 : Int32} {k1 : Nat} {T1 : AT} {S1 : MS} (hV : IV aR0 1586 aK1 aK2 T) (hJ : JJ S) (h : R1 T S) (hg : g_X11_zoneBest T 0 a0 = some (k1, r1, T1)) (hf : fr_zoneBest S a0 = some (r2, S1)) : R1 T1 S1 := by
  have c := tgo (cs_X11_zoneBest T 0 a0 hV rrole.2.2.2) hg
  have f := w_fr_zoneBest hf
  exact r1_keep h hV (T1 := T1) c.1.2 (by decide +kernel) (sr_X11_zoneBest hg) ⟨f.1 2 (by decide), f.1 5 (by decide), f.1 6 (by decide), f.1 20 (by decide), f.2 1 (by decide), f.2 10 (by decide)⟩
theorem r1_contrast {T : AT} {S : MS} {r1 : UInt32} {r2 : UInt32} {k1 : Nat} {T1 : AT} {S1 : MS} (hV : IV aR0 1586 aK1 aK2 T) (hJ : JJ S) (h : R1 T S) (hg : g_X11_contrast T 0 = some (k1, r1, T1)) (hf : fr_contrast S = some (r2, S1)) : R1 T1 S1 := by
  have c := tgo (cs_X11_contrast T 0  hV rrole.2.2.2) hg
  have f := w_fr_contrast hf
  exact r1_keep h hV (T1 := T1) c.1.2 (by decide +kernel) (sr_X11_contrast hg) ⟨f.1 2 (by decide), f.1 5 (by decide), f.1 6 (by decide), f.1 20 (by decide), f.2 1 (by decide), f.2 10 (by decide)⟩
theorem r1_alias {T : AT} {S : MS} {a0 a1 a2 : Int32} {r1 : Int32} {r2 : Int32} {k1 : Nat} {T1 : AT} {S1 : MS} (hV : IV aR0 1586 aK1 aK2 T) (hJ : JJ S) (h : R1 T S) (hg : g_X11_alias T 0 a0 a1 a2 = some (k1, r1, T1)) (hf : fr_alias S a0 a1 a2 = some (r2, S1)) : R1 T1 S1 := by
  have c := tgo (cs_X11_alias T 0 a0 a1 a2 hV rrole.2.2.2) hg
  have f := w_fr_alias hf
  exact r1_keep (W := []) h hV (by rw [show T1 = T from c.1]; exact FW.rf) (by decide +kernel) (by rw [show T1 = T from c.1]; exact GR.rf T) ⟨f.1 2 (by decide), f.1 5 (by decide), f.1 6 (by decide), f.1 20 (by decide), f.2 1 (by decide), f.2 10 (by decide)⟩
theorem r1_isAlias {T : AT} {S : MS} {a0 a1 a2 : Int32} {r1 : Int32} {r2 : Int32} {k1 : Nat} {T1 : AT} {S1 : MS} (hV : IV aR0 1586 aK1 aK2 T) (hJ : JJ S) (h : R1 T S) (hg : g_X11_isAlias T 0 a0 a1 a2 = some (k1, r1, T1)) (hf : fr_isAlias S a0 a1 a2 = some (r2, S1)) : R1 T1 S1 := by
  have c := tgo (cs_X11_isAlias T 0 a0 a1 a2 hV rrole.2.2.2) hg
  have f := w_fr_isAlias hf
  exact r1_keep h hV (T1 := T1) c.1.2 (by decide +kernel) (sr_X11_isAlias hg) ⟨f.1 2 (by decide), f.1 5 (by decide), f.1 6 (by decide), f.1 20 (by decide), f.2 1 (by decide), f.2 10 (by decide)⟩
theorem r1_aliases {T : AT} {S : MS} {a0 a1 : Int32} {r1 : Int32} {r2 : Int32} {k1 : Nat} {T1 : AT} {S1 : MS} (hV : IV aR0 1586 aK1 aK2 T) (hJ : JJ S) (h : R1 T S) (hg : g_X11_aliases T 0 a0 a1 = some (k1, r1, T1)) (hf : fr_aliases S a0 a1 = some (r2, S1)) : R1 T1 S1 := by
  have c := tgo (cs_X11_aliases T 0 a0 a1 hV rrole.2.2.2) hg
  have f := w_fr_aliases hf
  exact r1_keep h hV (T1 := T1) c.1.2 (by decide +kernel) (sr_X11_aliases hg) ⟨f.1 2 (by decide), f.1 5 (by decide), f.1 6 (by decide), f.1 20 (by decide), f.2 1 (by decide), f.2 10 (by decide)⟩
theorem r1_blockPower {T : AT} {S : MS} {a0 a1 a2 : Int32} {r1 : Int64} {r2 : Int64} {k1 : Nat} {T1 : AT} {S1 : MS} (hV : IV aR0 1586 aK1 aK2 T) (hJ : JJ S) (h : R1 T S) (hg : g_X11_blockPower T 0 a0 a1 a2 = some (k1, r1, T1)) (hf : fr_blockPower S a0 a1 a2 = some (r2, S1)) : R1 T1 S1 := by
  have c := tgo (cs_X11_blockPower T 0 a0 a1 a2 hV rrole.2.2.2) hg
  have f := w_fr_blockPower hf
  exact r1_keep h hV (T1 := T1) c.1.2 (by decide +kernel) (sr_X11_blockPower hg) ⟨f.1 2 (by decide), f.1 5 (by decide), f.1 6 (by decide), f.1 20 (by decide), f.2 1 (by decide), f.2 10 (by decide)⟩
theorem r1_blockBest {T : AT} {S : MS} {a0 a1 : Int32} {r1 : Int32} {r2 : Int32} {k1 : Nat} {T1 : AT} {S1 : MS} (hV : IV aR0 1586 aK1 aK2 T) (hJ : JJ S) (h : R1 T S) (hg : g_X11_blockBest T 0 a0 a1 = some (k1, r1, T1)) (hf : fr_blockBest S a0 a1 = some (r2, S1)) : R1 T1 S1 := by
  have c := tgo (cs_X11_blockBest T 0 a0 a1 hV rrole.2.2.2) hg
  have f := w_fr_blockBest hf
  exact r1_keep h hV (T1 := T1) c.1.2 (by decide +kernel) (sr_X11_blockBest hg) ⟨f.1 2 (by decide), f.1 5 (by decide), f.1 6 (by decide), f.1 20 (by decide), f.2 1 (by decide), f.2 10 (by decide)⟩
theorem r1_path {T : AT} {S : MS} {a0 : Int32} {r1 : Int32} {r2 : Int32} {k1 : Nat} {T1 : AT} {S1 : MS} (hV : IV aR0 1586 aK1 aK2 T) (hJ : JJ S) (h : R1 T S) (hg : g_X11_path T 0 a0 = some (k1, r1, T1)) (hf : fr_path S a0 = some (r2, S1)) : R1 T1 S1 := by
  have c := tgo (cs_X11_path T 0 a0 hV rrole.2.2.2) hg
  have f := w_fr_path hf
  exact r1_keep h hV (T1 := T1) c.1.2 (by decide +kernel) (sr_X11_path hg) ⟨f.1 2 (by decide), f.1 5 (by decide), f.1 6 (by decide), f.1 20 (by decide), f.2 1 (by decide), f.2 10 (by decide)⟩
theorem r1_trackScore {T : AT} {S : MS} {a0 : Int32} {r1 : Int64} {r2 : Int64} {k1 : Nat} {T1 : AT} {S1 : MS} (hV : IV aR0 1586 aK1 aK2 T) (hJ : JJ S) (h : R1 T S) (hg : g_X11_trackScore T 0 a0 = some (k1, r1, T1)) (hf : fr_trackScore S a0 = some (r2, S1)) : R1 T1 S1 := by
  have c := tgo (cs_X11_trackScore T 0 a0 hV rrole.2.2.2) hg
  have f := w_fr_trackScore hf
  exact r1_keep h hV (T1 := T1) c.1.2 (by decide +kernel) (sr_X11_trackScore hg) ⟨f.1 2 (by decide), f.1 5 (by decide), f.1 6 (by decide), f.1 20 (by decide), f.2 1 (by decide), f.2 10 (by decide)⟩
theorem r1_trackCell {T : AT} {S : MS} {a0 a1 : Int32} {r1 : Int32} {r2 : Int32} {k1 : Nat} {T1 : AT} {S1 : MS} (hV : IV aR0 1586 aK1 aK2 T) (hJ : JJ S) (h : R1 T S) (hg : g_X11_trackCell T 0 a0 a1 = some (k1, r1, T1)) (hf : fr_trackCell S a0 a1 = some (r2, S1)) : R1 T1 S1 := by
  have c := tgo (cs_X11_trackCell T 0 a0 a1 hV rrole.2.2.2) hg
  have f := w_fr_trackCell hf
  exact r1_keep h hV (T1 := T1) c.1.2 (by decide +kernel) (sr_X11_trackCell hg) ⟨f.1 2 (by decide), f.1 5 (by decide), f.1 6 (by decide), f.1 20 (by decide), f.2 1 (by decide), f.2 10 (by decide)⟩
theorem r1_movingPower {T : AT} {S : MS} {a0 a1 a2 : Int32} {r1 : Int64} {r2 : Int64} {k1 : Nat} {T1 : AT} {S1 : MS} (hV : IV aR0 1586 aK1 aK2 T) (hJ : JJ S) (h : R1 T S) (hg : g_X11_movingPower T 0 a0 a1 a2 = some (k1, r1, T1)) (hf : fr_movingPower S a0 a1 a2 = some (r2, S1)) : R1 T1 S1 := by
  have c := tgo (cs_X11_movingPower T 0 a0 a1 a2 hV rrole.2.2.2) hg
  have f := w_fr_movingPower hf
  exact r1_keep h hV (T1 := T1) c.1.2 (by decide +kernel) (sr_X11_movingPower hg) ⟨f.1 2 (by decide), f.1 5 (by decide), f.1 6 (by decide), f.1 20 (by decide), f.2 1 (by decide), f.2 10 (by decide)⟩
theorem r1_bestVelocity {T : AT} {S : MS} {a0 a1 a2 : Int32} {r1 : Int32} {r2 : Int32} {k1 : Nat} {T1 : AT} {S1 : MS} (hV : IV aR0 1586 aK1 aK2 T) (hJ : JJ S) (h : R1 T S) (hg : g_X11_bestVelocity T 0 a0 a1 a2 = some (k1, r1, T1)) (hf : fr_bestVelocity S a0 a1 a2 = some (r2, S1)) : R1 T1 S1 := by
  have c := tgo (cs_X11_bestVelocity T 0 a0 a1 a2 hV rrole.2.2.2) hg
  have f := w_fr_bestVelocity hf
  exact r1_keep h hV (T1 := T1) c.1.2 (by decide +kernel) (sr_X11_bestVelocity hg) ⟨f.1 2 (by decide), f.1 5 (by decide), f.1 6 (by decide), f.1 20 (by decide), f.2 1 (by decide), f.2 10 (by decide)⟩
theorem r1_correlation {T : AT} {S : MS} {a0 a1 a2 : Int32} {r1 : Int64} {r2 : Int64} {k1 : Nat} {T1 : AT} {S1 : MS} (hV : IV aR0 1586 aK1 aK2 T) (hJ : JJ S) (h : R1 T S) (hg : g_X11_correlation T 0 a0 a1 a2 = some (k1, r1, T1)) (hf : fr_correlation S a0 a1 a2 = some (r2, S1)) : R1 T1 S1 := by
  have c := tgo (cs_X11_correlation T 0 a0 a1 a2 hV rrole.2.2.2) hg
  have f := w_fr_correlation hf
  exact r1_keep h hV (T1 := T1) c.1.2 (by decide +kernel) (sr_X11_correlation hg) ⟨f.1 2 (by decide), f.1 5 (by decide), f.1 6 (by decide), f.1 20 (by decide), f.2 1 (by decide), f.2 10 (by decide)⟩
theorem r1_bestLag {T : AT} {S : MS} {a0 a1 a2 : Int32} {r1 : Int32} {r2 : Int32} {k1 : Nat} {T1 : AT} {S1 : MS} (hV : IV aR0 1586 aK1 aK2 T) (hJ : JJ S) (h : R1 T S) (hg : g_X11_bestLag T 0 a0 a1 a2 = some (k1, r1, T1)) (hf : fr_bestLag S a0 a1 a2 = some (r2, S1)) : R1 T1 S1 := by
  have c := tgo (cs_X11_bestLag T 0 a0 a1 a2 hV rrole.2.2.2) hg
  have f := w_fr_bestLag hf
  exact r1_keep h hV (T1 := T1) c.1.2 (by decide +kernel) (sr_X11_bestLag hg) ⟨f.1 2 (by decide), f.1 5 (by decide), f.1 6 (by decide), f.1 20 (by decide), f.2 1 (by decide), f.2 10 (by decide)⟩
theorem r1_level {T : AT} {S : MS} {a0 : Int32} {r1 : Int64} {r2 : Int64} {k1 : Nat} {T1 : AT} {S1 : MS} (hV : IV aR0 1586 aK1 aK2 T) (hJ : JJ S) (h : R1 T S) (hg : g_X11_level T 0 a0 = some (k1, r1, T1)) (hf : fr_level S a0 = some (r2, S1)) : R1 T1 S1 := by
  have c := tgo (cs_X11_level T 0 a0 hV rrole.2.2.2) hg
  have f := w_fr_level hf
  exact r1_keep h hV (T1 := T1) c.1.2 (by decide +kernel) (sr_X11_level hg) ⟨f.1 2 (by decide), f.1 5 (by decide), f.1 6 (by decide), f.1 20 (by decide), f.2 1 (by decide), f.2 10 (by decide)⟩
theorem r1_loudest {T : AT} {S : MS} {a0 : Int32} {r1 : Int32} {r2 : Int32} {k1 : Nat} {T1 : AT} {S1 : MS} (hV : IV aR0 1586 aK1 aK2 T) (hJ : JJ S) (h : R1 T S) (hg : g_X11_loudest T 0 a0 = some (k1, r1, T1)) (hf : fr_loudest S a0 = some (r2, S1)) : R1 T1 S1 := by
  have c := tgo (cs_X11_loudest T 0 a0 hV rrole.2.2.2) hg
  have f := w_fr_loudest hf
  exact r1_keep h hV (T1 := T1) c.1.2 (by decide +kernel) (sr_X11_loudest hg) ⟨f.1 2 (by decide), f.1 5 (by decide), f.1 6 (by decide), f.1 20 (by decide), f.2 1 (by decide), f.2 10 (by decide)⟩
theorem r1_writeMap {T : AT} {S : MS} {r1 : Int32} {r2 : Int32} {k1 : Nat} {T1 : AT} {S1 : MS} (hV : IV aR0 1586 aK1 aK2 T) (hJ : JJ S) (h : R1 T S) (hg : g_X11_writeMap T 0 = some (k1, r1, T1)) (hf : fr_writeMap S = some (r2, S1)) : R1 T1 S1 := by
  have c := tgo (cs_X11_writeMap T 0  hV rrole.2.2.2) hg
  have f := w_fr_writeMap hf
  exact r1_keep h hV (T1 := T1) c.1.2 (by decide +kernel) (sr_X11_writeMap hg) ⟨f.1 2 (by decide), f.1 5 (by decide), f.1 6 (by decide), f.1 20 (by decide), f.2 1 (by decide), f.2 10 (by decide)⟩
theorem r1_mapByte {T : AT} {S : MS} {a0 : Int32} {r1 : Int32} {r2 : Int32} {k1 : Nat} {T1 : AT} {S1 : MS} (hV : IV aR0 1586 aK1 aK2 T) (hJ : JJ S) (h : R1 T S) (hg : g_X11_mapByte T 0 a0 = some (k1, r1, T1)) (hf : fr_mapByte S a0 = some (r2, S1)) : R1 T1 S1 := by
  have c := tgo (cs_X11_mapByte T 0 a0 hV rrole.2.2.2) hg
  have f := w_fr_mapByte hf
  exact r1_keep (W := []) h hV (by rw [show T1 = T from c.1]; exact FW.rf) (by decide +kernel) (by rw [show T1 = T from c.1]; exact GR.rf T) ⟨f.1 2 (by decide), f.1 5 (by decide), f.1 6 (by decide), f.1 20 (by decide), f.2 1 (by decide), f.2 10 (by decide)⟩
theorem r1_pointBest {T : AT} {S : MS} {a0 a1 : Int32} {r1 : Int32} {r2 : Int32} {k1 : Nat} {T1 : AT} {S1 : MS} (hV : IV aR0 1586 aK1 aK2 T) (hJ : JJ S) (h : R1 T S) (hg : g_X11_pointBest T 0 a0 a1 = some (k1, r1, T1)) (hf : fr_pointBest S a0 a1 = some (r2, S1)) : R1 T1 S1 := by
  have c := tgo (cs_X11_pointBest T 0 a0 a1 hV rrole.2.2.2) hg
  have f := w_fr_pointBest hf
  exact r1_keep7 h hV (T1 := T1) c.1.2 (by decide +kernel) (crf_gr h.1 hV (sr_X11_pointBest hg)) (e14_gr hV (sr_X11_pointBest hg)) ⟨f.1 2 (by decide), f.1 5 (by decide), f.1 6 (by decide), f.1 20 (by decide), f.2 1 (by decide), f.2 10 (by decide)⟩ (fun m hm => q_pointBest hV h.1 hg hm)
theorem r1_pointPower {T : AT} {S : MS} {a0 a1 a2 : Int32} {r1 : Int64} {r2 : Int64} {k1 : Nat} {T1 : AT} {S1 : MS} (hV : IV aR0 1586 aK1 aK2 T) (hJ : JJ S) (h : R1 T S) (hg : g_X11_pointPower T 0 a0 a1 a2 = some (k1, r1, T1)) (hf : fr_pointPower S a0 a1 a2 = some (r2, S1)) : R1 T1 S1 := by
  have c := tgo (cs_X11_pointPower T 0 a0 a1 a2 hV rrole.2.2.2) hg
  have f := w_fr_pointPower hf
  exact r1_keep7 h hV (T1 := T1) c.1.2 (by decide +kernel) (crf_gr h.1 hV (sr_X11_pointPower hg)) (e14_gr hV (sr_X11_pointPower hg)) ⟨f.1 2 (by decide), f.1 5 (by decide), f.1 6 (by decide), f.1 20 (by decide), f.2 1 (by decide), f.2 10 (by decide)⟩ (fun m hm => q_pointPower hV h.1 hg hm)
theorem r1_bestWithout {T : AT} {S : MS} {a0 : Int32} {r1 : Int32} {r2 : Int32} {k1 : Nat} {T1 : AT} {S1 : MS} (hV : IV aR0 1586 aK1 aK2 T) (hJ : JJ S) (h : R1 T S) (hg : g_X11_bestWithout T 0 a0 = some (k1, r1, T1)) (hf : fr_bestWithout S a0 = some (r2, S1)) : R1 T1 S1 := by
  have c := tgo (cs_X11_bestWithout T 0 a0 hV rrole.2.2.2) hg
  have f := w_fr_bestWithout hf
  exact r1_keep h hV (T1 := T1) c.1.2 (by decide +kernel) (sr_X11_bestWithout hg) ⟨f.1 2 (by decide), f.1 5 (by decide), f.1 6 (by decide), f.1 20 (by decide), f.2 1 (by decide), f.2 10 (by decide)⟩
theorem r1_bestIfOff {T : AT} {S : MS} {a0 : Int32} {r1 : Int32} {r2 : Int32} {k1 : Nat} {T1 : AT} {S1 : MS} (hV : IV aR0 1586 aK1 aK2 T) (hJ : JJ S) (h : R1 T S) (hg : g_X11_bestIfOff T 0 a0 = some (k1, r1, T1)) (hf : fr_bestIfOff S a0 = some (r2, S1)) : R1 T1 S1 := by
  have c := tgo (cs_X11_bestIfOff T 0 a0 hV rrole.2.2.2) hg
  have f := w_fr_bestIfOff hf
  exact r1_keep h hV (T1 := T1) c.1.2 (by decide +kernel) (sr_X11_bestIfOff hg) ⟨f.1 2 (by decide), f.1 5 (by decide), f.1 6 (by decide), f.1 20 (by decide), f.2 1 (by decide), f.2 10 (by decide)⟩
theorem r1_mute {T : AT} {S : MS} {a0 a1 : Int32} {r1 : Int32} {r2 : Int32} {k1 : Nat} {T1 : AT} {S1 : MS} (hV : IV aR0 1586 aK1 aK2 T) (hJ : JJ S) (hb : 0 ≤ a1.toInt ∧ a1.toInt ≤ 1) (h : R1 T S) (hg : g_X11_mute T 0 a0 a1 = some (k1, r1, T1)) (hf : fr_mute S a0 a1 = some (r2, S1)) : R1 T1 S1 := by
  have c := tgo (cs_X11_mute T 0 a0 a1 hV rrole.2.2.2 hb) hg
  have f := w_fr_mute hf
  exact r1_keep h hV (T1 := T1) c.1.2 (by decide +kernel) (sr_X11_mute hg) ⟨f.1 2 (by decide), f.1 5 (by decide), f.1 6 (by decide), f.1 20 (by decide), f.2 1 (by decide), f.2 10 (by decide)⟩
theorem r1_setWeight {T : AT} {S : MS} {a0 a1 : Int32} {r1 : Int32} {r2 : Int32} {k1 : Nat} {T1 : AT} {S1 : MS} (hV : IV aR0 1586 aK1 aK2 T) (hJ : JJ S) (h : R1 T S) (hg : g_X11_setWeight T 0 a0 a1 = some (k1, r1, T1)) (hf : fr_setWeight S a0 a1 = some (r2, S1)) : R1 T1 S1 := by
  have c := tgo (cs_X11_setWeight T 0 a0 a1 hV rrole.2.2.2) hg
  have f := w_fr_setWeight hf
  exact r1_keep h hV (T1 := T1) c.1.2 (by decide +kernel) (sr_X11_setWeight hg) ⟨f.1 2 (by decide), f.1 5 (by decide), f.1 6 (by decide), f.1 20 (by decide), f.2 1 (by decide), f.2 10 (by decide)⟩
theorem r1_setOn {T : AT} {S : MS} {a0 a1 : Int32} {r1 : Int32} {r2 : Int32} {k1 : Nat} {T1 : AT} {S1 : MS} (hV : IV aR0 1586 aK1 aK2 T) (hJ : JJ S) (hb : 0 ≤ a1.toInt ∧ a1.toInt ≤ 1) (h : R1 T S) (hg : g_X11_setOn T 0 a0 a1 = some (k1, r1, T1)) (hf : fr_setOn S a0 a1 = some (r2, S1)) : R1 T1 S1 := by
  have c := tgo (cs_X11_setOn T 0 a0 a1 hV rrole.2.2.2 hb) hg
  have f := w_fr_setOn hf
  exact r1_keep h hV (T1 := T1) c.1.2 (by decide +kernel) (sr_X11_setOn hg) ⟨f.1 2 (by decide), f.1 5 (by decide), f.1 6 (by decide), f.1 20 (by decide), f.2 1 (by decide), f.2 10 (by decide)⟩
theorem r1_moveSource {T : AT} {S : MS} {a0 a1 a2 : Int32} {r1 : Int32} {r2 : Int32} {k1 : Nat} {T1 : AT} {S1 : MS} (hV : IV aR0 1586 aK1 aK2 T) (hJ : JJ S) (h : R1 T S) (hg : g_X11_moveSource T 0 a0 a1 a2 = some (k1, r1, T1)) (hf : fr_moveSource S a0 a1 a2 = some (r2, S1)) : R1 T1 S1 := by
  have c := tgo (cs_X11_moveSource T 0 a0 a1 a2 hV rrole.2.2.2) hg
  have f := w_fr_moveSource hf
  exact r1_keep h hV (T1 := T1) c.1.2 (by decide +kernel) (sr_X11_moveSource hg) ⟨f.1 2 (by decide), f.1 5 (by decide), f.1 6 (by decide), f.1 20 (by decide), f.2 1 (by decide), f.2 10 (by decide)⟩
theorem r1_setVelocity {T : AT} {S : MS} {a0 a1 a2 : Int32} {r1 : Int32} {r2 : Int32} {k1 : Nat} {T1 : AT} {S1 : MS} (hV : IV aR0 1586 aK1 aK2 T) (hJ : JJ S) (h : R1 T S) (hg : g_X11_setVelocity T 0 a0 a1 a2 = some (k1, r1, T1)) (hf : fr_setVelocity S a0 a1 a2 = some (r2, S1)) : R1 T1 S1 := by
  have c := tgo (cs_X11_setVelocity T 0 a0 a1 a2 hV rrole.2.2.2) hg
  have f := w_fr_setVelocity hf
  exact r1_keep h hV (T1 := T1) c.1.2 (by decide +kernel) (sr_X11_setVelocity hg) ⟨f.1 2 (by decide), f.1 5 (by decide), f.1 6 (by decide), f.1 20 (by decide), f.2 1 (by decide), f.2 10 (by decide)⟩
theorem r1_clean {T : AT} {S : MS} {a0 : Int32} {r1 : Int32} {r2 : Int32} {k1 : Nat} {T1 : AT} {S1 : MS} (hV : IV aR0 1586 aK1 aK2 T) (hJ : JJ S) (h : R1 T S) (hg : g_X11_clean T 0 a0 = some (k1, r1, T1)) (hf : fr_clean S a0 = some (r2, S1)) : R1 T1 S1 := by
  have c := tgo (cs_X11_clean T 0 a0 hV rrole.2.2.2) hg
  have f := w_fr_clean hf
  exact r1_keep h hV (T1 := T1) c.1.2 (by decide +kernel) (sr_X11_clean hg) ⟨f.1 2 (by decide), f.1 5 (by decide), f.1 6 (by decide), f.1 20 (by decide), f.2 1 (by decide), f.2 10 (by decide)⟩
theorem r1_cleaned {T : AT} {S : MS} {r1 : Int32} {r2 : Int32} {k1 : Nat} {T1 : AT} {S1 : MS} (hV : IV aR0 1586 aK1 aK2 T) (hJ : JJ S) (h : R1 T S) (hg : g_X11_cleaned T 0 = some (k1, r1, T1)) (hf : fr_cleaned S = some (r2, S1)) : R1 T1 S1 := by
  have c := tgo (cs_X11_cleaned T 0  hV rrole.2.2.2) hg
  have f := w_fr_cleaned hf
  exact r1_keep (W := []) h hV (by rw [show T1 = T from c.1]; exact FW.rf) (by decide +kernel) (by rw [show T1 = T from c.1]; exact GR.rf T) ⟨f.1 2 (by decide), f.1 5 (by decide), f.1 6 (by decide), f.1 20 (by decide), f.2 1 (by decide), f.2 10 (by decide)⟩
theorem r1_undo {T : AT} {S : MS} {r1 : Int32} {r2 : Int32} {k1 : Nat} {T1 : AT} {S1 : MS} (hV : IV aR0 1586 aK1 aK2 T) (hJ : JJ S) (h : R1 T S) (hg : g_X11_undo T 0 = some (k1, r1, T1)) (hf : fr_undo S = some (r2, S1)) : R1 T1 S1 := by
  have c := tgo (cs_X11_undo T 0  hV rrole.2.2.2) hg
  have f := w_fr_undo hf
  exact r1_keep h hV (T1 := T1) c.1.2 (by decide +kernel) (sr_X11_undo hg) ⟨f.1 2 (by decide), f.1 5 (by decide), f.1 6 (by decide), f.1 20 (by decide), f.2 1 (by decide), f.2 10 (by decide)⟩
theorem r1_undoable {T : AT} {S : MS} {r1 : Int32} {r2 : Int32} {T1 : AT} {S1 : MS} (hV : IV aR0 1586 aK1 aK2 T) (hJ : JJ S) (h : R1 T S) (hg : g_X11_undoable T 0 = some (r1, T1)) (hf : fr_undoable S = some (r2, S1)) : R1 T1 S1 := by
  have c := tgo (cs_X11_undoable T 0  hV rrole.2.2.2) hg
  have f := w_fr_undoable hf
  exact r1_keep (W := []) h hV (by rw [show T1 = T from c.1]; exact FW.rf) (by decide +kernel) (by rw [show T1 = T from c.1]; exact GR.rf T) ⟨f.1 2 (by decide), f.1 5 (by decide), f.1 6 (by decide), f.1 20 (by decide), f.2 1 (by decide), f.2 10 (by decide)⟩
theorem r1_save {T : AT} {S : MS} {a0 : Int32} {r1 : Int32} {r2 : Int32} {k1 : Nat} {T1 : AT} {S1 : MS} (hV : IV aR0 1586 aK1 aK2 T) (hJ : JJ S) (h : R1 T S) (hg : g_X11_save T 0 a0 = some (k1, r1, T1)) (hf : fr_save S a0 = some (r2, S1)) : R1 T1 S1 := by
  have c := tgo (cs_X11_save T 0 a0 hV rrole.2.2.2) hg
  have f := w_fr_save hf
  exact r1_keep h hV (T1 := T1) c.1.2 (by decide +kernel) (sr_X11_save hg) ⟨f.1 2 (by decide), f.1 5 (by decide), f.1 6 (by decide), f.1 20 (by decide), f.2 1 (by decide), f.2 10 (by decide)⟩
theorem r1_restore {T : AT} {S : MS} {a0 : Int32} {r1 : Int32} {r2 : Int32} {k1 : Nat} {T1 : AT} {S1 : MS} (hV : IV aR0 1586 aK1 aK2 T) (hJ : JJ S) (h : R1 T S) (hg : g_X11_restore T 0 a0 = some (k1, r1, T1)) (hf : fr_restore S a0 = some (r2, S1)) : R1 T1 S1 := by
  have c := tgo (cs_X11_restore T 0 a0 hV rrole.2.2.2) hg
  have f := w_fr_restore hf
  exact r1_keep h hV (T1 := T1) c.1.2 (by decide +kernel) (sr_X11_restore hg) ⟨f.1 2 (by decide), f.1 5 (by decide), f.1 6 (by decide), f.1 20 (by decide), f.2 1 (by decide), f.2 10 (by decide)⟩
theorem r1k_load {T : AT} {S : MS} {a0 r1 r2 : Int32} {k1 : Nat} {T1 : AT} {S1 : MS} (hV : IV aR0 1586 aK1 aK2 T) (hJ : JJ S) (h : R1 T S) (hg : g_X11_load T 0 a0 = some (k1, r1, T1)) (hf : fr_load S a0 = some (r2, S1)) : R1 T1 S1 := (r1_load hV hJ h hg hf).1
end
section
/-! 22a.ask.lean.txt -/
/-! who may ask: the class throws what the reference tells -/
section
variable {T T1 : AT} {S S1 : MS} {s k : Nat} {r : Int32}
theorem c_idx {a0 a1 : Int32} (hg : g_X11_needIndex T a0 a1 = some (k, r, T1)) : T1 = T ∧ (k = 0 ∧ 0 ≤ a0.toInt ∧ a0.toInt < a1.toInt ∨ k = 2 ∧ ¬ (0 ≤ a0.toInt ∧ a0.toInt < a1.toInt)) := by
  have z0 : (0 : Int32).toInt = 0 := by decide
  unfold g_X11_needIndex at hg
  by_cases c0 : a0 < 0
  · rw [if_pos c0] at hg
    have c0 := i_lt c0
    have g := osome3 (show some ((2 : Nat), (0 : Int32), T) = some (k, r, T1) from hg)
    exact ⟨g.2.2.symm, .inr ⟨g.1.symm, fun q => by omega⟩⟩
  · rw [if_neg c0] at hg
    have c0 := i_nlt c0
    by_cases c1 : a0 < a1
    · rw [if_pos c1] at hg
      have c1 := i_lt c1
      have g := osome3 hg
      exact ⟨g.2.2.symm, .inl ⟨g.1.symm, by omega, c1⟩⟩
    · rw [if_neg c1] at hg
      have c1 := i_nlt c1
      have g := osome3 (show some ((2 : Nat), (0 : Int32), T) = some (k, r, T1) from hg)
      exact ⟨g.2.2.symm, .inr ⟨g.1.symm, fun q => by omega⟩⟩
theorem c_rng {a0 a1 a2 : Int32} (hg : g_X11_needRange T a0 a1 a2 = some (k, r, T1)) : T1 = T ∧ (k = 0 ∧ a1.toInt ≤ a0.toInt ∧ a0.toInt ≤ a2.toInt ∨ k = 3 ∧ ¬ (a1.toInt ≤ a0.toInt ∧ a0.toInt ≤ a2.toInt)) := by
  unfold g_X11_needRange at hg
  by_cases c0 : a0 < a1
  · rw [if_pos c0] at hg
    have c0 := i_lt c0
    have g := osome3 (show some ((3 : Nat), (0 : Int32), T) = some (k, r, T1) from hg)
    exact ⟨g.2.2.symm, .inr ⟨g.1.symm, fun q => by omega⟩⟩
  · rw [if_neg c0] at hg
    have c0 := i_nlt c0
    by_cases c1 : a0 ≤ a2
    · rw [if_pos c1] at hg
      have c1 := i_le c1
      have g := osome3 hg
      exact ⟨g.2.2.symm, .inl ⟨g.1.symm, c0, c1⟩⟩
    · rw [if_neg c1] at hg
      have c1 := i_nle c1
      have g := osome3 (show some ((3 : Nat), (0 : Int32), T) = some (k, r, T1) from hg)
      exact ⟨g.2.2.symm, .inr ⟨g.1.symm, fun q => by omega⟩⟩
theorem c_cam (h14 : T.2.2.2.2 0 14 = some s) (hg : g_X11_needCamera T 0 = some (k, r, T1)) : T1 = T ∧ (k = 0 ∧ T.2.2.1 s 5 ≠ 0 ∨ k = 1 ∧ T.2.2.1 s 5 = 0) := by
  unfold g_X11_needCamera at hg
  obtain ⟨-, hg⟩ := oif_some hg
  obtain ⟨n3, e3, hg⟩ := obind_some hg
  rw [h14] at e3
  cases e3
  obtain ⟨-, hg⟩ := oif_some hg
  obtain ⟨v5, e5, hg⟩ := elet_some hg
  by_cases c : v5 = 0
  · rw [if_pos c] at hg
    have g := osome3 hg
    exact ⟨g.2.2.symm, .inr ⟨g.1.symm, e5.symm.trans c⟩⟩
  · rw [if_neg c] at hg
    have g := osome3 hg
    exact ⟨g.2.2.symm, .inl ⟨g.1.symm, fun q => c (e5.trans q)⟩⟩
theorem c_mic {a0 : Int32} (h14 : T.2.2.2.2 0 14 = some s) (hg : g_X11_needMic T 0 a0 = some (k, r, T1)) : T1 = T ∧ (k = 0 ∧ 0 ≤ a0.toInt ∧ a0.toInt < (T.2.2.1 s 5).toInt ∨ k = 2 ∧ ¬ (0 ≤ a0.toInt ∧ a0.toInt < (T.2.2.1 s 5).toInt)) := by
  unfold g_X11_needMic at hg
  obtain ⟨-, hg⟩ := oif_some hg
  obtain ⟨n3, e3, hg⟩ := obind_some hg
  rw [h14] at e3
  cases e3
  obtain ⟨-, hg⟩ := oif_some hg
  obtain ⟨v5, e5, hg⟩ := elet_some hg
  rw [← e5]
  rcases othr_k hg with ⟨r9, g9, -⟩ | ⟨r9, T9, g9, hg⟩
  · exact c_idx g9
  · obtain ⟨a, b⟩ := c_idx g9
    have g := osome3 hg
    rw [← g.1, ← g.2.2]
    exact ⟨a, b⟩
/-- what the reference tells of a question -/
def wAsk (S : MS) (a : Int32) : Int32 := if S.1 20 = 0 then 1 else if a = 0 then 2 else 0
theorem r_ask {a : Int32} (hf : fr_mayAsk S a = some (r, S1)) : S1 = mi S 0 (wAsk S a) ∧ r = if wAsk S a = 0 then 1 else 0 := by
  have key : ∀ {w : Int32}, fr_mayAsk_b21 S w = some (r, S1) → S1 = mi S 0 w ∧ r = if w = 0 then 1 else 0 := by
    intro w hf
    unfold fr_mayAsk_b21 at hf
    obtain ⟨S2, e2, hf⟩ := elet_some hf
    obtain ⟨v3, e3, hf⟩ := elet_some hf
    have e3 : v3 = w := by rw [e3, e2, mi_at]
    by_cases c : v3 = 0
    · rw [if_pos c] at hf
      unfold fr_mayAsk_b36 at hf
      obtain ⟨-, hf⟩ := oif_some hf
      have f := osome2 hf
      rw [if_pos (e3.symm.trans c), ← f.1, ← f.2, e2]
      exact ⟨rfl, rfl⟩
    · rw [if_neg c] at hf
      unfold fr_mayAsk_b36 at hf
      obtain ⟨-, hf⟩ := oif_some hf
      have f := osome2 hf
      rw [if_neg (fun q => c (e3.trans q)), ← f.1, ← f.2, e2]
      exact ⟨rfl, rfl⟩
  unfold fr_mayAsk at hf
  obtain ⟨v2, e2, hf⟩ := elet_some hf
  unfold wAsk
  by_cases c : v2 = 0
  · rw [if_pos c] at hf
    rw [if_pos (e2.symm.trans c)]
    exact key hf
  · rw [if_neg c] at hf
    rw [if_neg (fun q => c (e2.trans q))]
    by_cases c2 : a = 0
    · rw [if_pos c2] at hf ⊢
      exact key hf
    · rw [if_neg c2] at hf ⊢
      exact key hf
theorem r_mic {a : Int32} (hf : fr_isMic S a = some (r, S1)) : S1 = S ∧ r = if 0 ≤ a ∧ a ≤ S.2.1 10 4 - 1 then 1 else 0 := by
  unfold fr_isMic at hf
  obtain ⟨v2, d2, hf⟩ := elet_some hf
  obtain ⟨v3, d3, hf⟩ := elet_some hf
  obtain ⟨r4, f4, hf⟩ := obind_some hf
  obtain ⟨-, hf⟩ := oif_some hf
  have f := osome2 hf
  rw [← f.1, ← f.2]
  refine ⟨rfl, ?_⟩
  rw [r_in f4, d3, d2]
end
end
section
/-! 22b.cell.lean.txt -/
/-! answers of the scene alone: where a cell lies -/
section
variable {T T1 : AT} {S S1 : MS} {k1 : Nat} {r1 r2 : Int32}
theorem r_thr {v r : Int32} (hf : fr_throwsAt S v = some (r, S1)) : S1 = mi S 0 v := by
  unfold fr_throwsAt at hf
  obtain ⟨S2, e2, hf⟩ := elet_some hf
  rw [← (osome2 hf).2, e2]
theorem r_pl (hJ : JJ S) (h : S.1 20 = 1) : PL (S.2.1 10) := by
  rcases hJ with ⟨P, hP, h1⟩ | h1
  · rw [h1.1]
    exact hP
  · have q := h1.1.2.1
    rw [h] at q
    exact absurd q (by decide)
end
end
section
/-! 22c.wave.lean.txt -/
/-! answers of the scene alone: a source's wave -/
section
variable {T T1 : AT} {S S1 : MS} {k1 : Nat} {r1 r2 : Int32}
theorem q64d (x y : Int32) : (x.toInt64 / y.toInt64).toInt32 = x / y := by
  refine Int32.toInt_inj.mp ?_
  rw [Int64.toInt_toInt32, Int64.toInt_div, Int32.toInt_toInt64, Int32.toInt_toInt64, Int32.toInt_div]
  exact Int.bmod_bmod_of_dvd (by decide)
theorem cl_off {a c : Int32} {n : Nat} (hc : c.toInt = n) (hn : n ≤ 1000) (h0 : 0 ≤ a.toInt) (h1 : a.toInt < 1000) : (c + a).toNatClampNeg = n + a.toNatClampNeg := by
  have e := i_add (v := c + a) rfl (by omega) (by omega)
  have e1 := i_cl (i := c + a) (by omega)
  have e2 := i_cl h0
  omega
theorem a_quo {x y : Int32} {r : Int64} (hb : ¬ y = 0) (hg : g_X11_quotient x.toInt64 y.toInt64 = some r) : r.toInt32 = x / y := by
  have z0 : (0 : Int32).toInt = 0 := by decide
  unfold g_X11_quotient g_X11_quotient_b13 at hg
  obtain ⟨v2, e2, hg⟩ := elet_some hg
  have n2 : ¬ v2 = 0 := by
    intro q
    rw [e2, lg_cmp_eq] at q
    exact i_nz64 (fun q => i_ne hb (by omega)) q
  rw [if_neg n2] at hg
  obtain ⟨-, hg⟩ := oif_some hg
  obtain ⟨v5, e5, hg⟩ := elet_some hg
  rw [← Option.some.inj hg, e5]
  exact q64d x y
end
end
section
/-! 22e.from.lean.txt -/
/-! answers of the scene alone: a delay to a point -/
section
variable {T T1 : AT} {S S1 : MS} {k1 : Nat} {r1 r2 : Int32}
theorem groot_step {n : Nat} {l0 l1 l2 : Int32} (h : ¬ l2 ≤ 0) : g_X11_root_b6 (n + 1) l0 l1 l2 = if l0 < (l1 + l2) * (l1 + l2) then g_X11_root_b6 n l0 l1 (l2 >>> (1 &&& 31)) else g_X11_root_b6 n l0 (l1 + l2) (l2 >>> (1 &&& 31)) := by
  conv => lhs; unfold g_X11_root_b6
  rw [if_neg h]
  rfl
theorem groot_cmp {l0 m : Int32} (h0 : 0 ≤ m.toInt) (h1 : m.toInt ≤ 32768) : l0 < m * m ↔ l0.toInt < m.toInt * m.toInt := by
  have q := imul_nn h0 h1 h0 h1
  rw [Int32.lt_iff_toInt_lt, Int32.toInt_mul, bm32 (by omega) (by omega)]
theorem shr_half {l2 : Int32} {c : Int} (h : l2.toInt = 2 * c) (h0 : 0 ≤ c) : l2 >>> (1 &&& 31) = l2 / 2 := by
  refine Int32.toInt_inj.mp ?_
  have q := i_shr (v := l2 >>> (1 &&& 31)) rfl
  have e := half h h0
  omega
theorem roots (l0 : Int32) : ∀ (k n n' : Nat) (l1 l2 : Int32), k + 2 ≤ n → k + 2 ≤ n' → l2.toInt = 2 ^ k → 0 ≤ l1.toInt → l1.toInt + 2 * 2 ^ k ≤ 32768 → fr_root_b6 n l0 l1 l2 = g_X11_root_b6 n' l0 l1 l2 := by
  intro k
  induction k with
  | zero =>
    intro n n' l1 l2 hn hn' h2 h1 hs
    obtain ⟨n, rfl⟩ : ∃ j, n = j + 2 := ⟨n - 2, by omega⟩
    obtain ⟨n', rfl⟩ : ∃ j, n' = j + 2 := ⟨n' - 2, by omega⟩
    have h2 : l2.toInt = 1 := h2
    have hs : l1.toInt + 2 * 1 ≤ 32768 := hs
    have e : l2 = 1 := Int32.toInt_inj.mp (by rw [h2]; decide)
    rw [e]
    have z1 : (1 : Int32).toInt = 1 := by decide
    have hm : (l1 + 1).toInt = l1.toInt + 1 := by rw [Int32.toInt_add, z1, bm32 (by omega) (by omega)]
    have la : ∀ x : Int32, fr_root_b6 (n + 1) l0 x 0 = some x := fun x => by
      conv => lhs; unfold fr_root_b6
      rw [if_pos (by decide)]
    have lb : ∀ x : Int32, g_X11_root_b6 (n' + 1) l0 x 0 = some x := fun x => by
      conv => lhs; unfold g_X11_root_b6
      rw [if_pos (by decide)]
    rw [root_step (by decide), groot_step (by decide), show (1 : Int32) / 2 = 0 by decide, show (1 : Int32) >>> (1 &&& 31) = 0 by decide, la, la, lb, lb]
    by_cases c : l0.toInt < (l1 + 1).toInt * (l1 + 1).toInt
    · rw [if_pos ((root_cmp (by omega) (by omega)).mpr c), if_pos ((groot_cmp (by omega) (by omega)).mpr c)]
    · rw [if_neg (fun q => c ((root_cmp (by omega) (by omega)).mp q)), if_neg (fun q => c ((groot_cmp (by omega) (by omega)).mp q))]
  | succ k ih =>
    intro n n' l1 l2 hn hn' h2 h1 hs
    obtain ⟨n, rfl⟩ : ∃ j, n = j + 1 := ⟨n - 1, by omega⟩
    obtain ⟨n', rfl⟩ : ∃ j, n' = j + 1 := ⟨n' - 1, by omega⟩
    have hp : (2 : Int) ^ (k + 1) = 2 * 2 ^ k := by rw [Int.pow_succ, Int.mul_comm]
    have h0 : (0 : Int) < 2 ^ k := Int.pow_pos (by decide)
    rw [hp] at h2 hs
    generalize hb : (2 : Int) ^ k = b at h2 hs h0 ih
    have h00 : (0 : Int32).toInt = 0 := by decide
    have hl : ¬ l2 ≤ 0 := fun q => by have := Int32.le_iff_toInt_le.mp q; omega
    have hm : (l1 + l2).toInt = l1.toInt + 2 * b := by rw [Int32.toInt_add, h2, bm32 (by omega) (by omega)]
    have hh := half h2 (by omega)
    rw [root_step hl, groot_step hl, shr_half h2 (by omega)]
    by_cases c : l0.toInt < (l1 + l2).toInt * (l1 + l2).toInt
    · rw [if_pos ((root_cmp (by omega) (by omega)).mpr c), if_pos ((groot_cmp (by omega) (by omega)).mpr c)]
      exact ih n n' l1 (l2 / 2) (by omega) (by omega) hh h1 (by omega)
    · rw [if_neg (fun q => c ((root_cmp (by omega) (by omega)).mp q)), if_neg (fun q => c ((groot_cmp (by omega) (by omega)).mp q))]
      exact ih n n' (l1 + l2) (l2 / 2) (by omega) (by omega) hh (by omega) (by omega)
theorem root_eq {a : Int32} (h : a.toInt < 1073741824) : fr_root a = g_X11_root a := by
  have e : fr_root a = fr_root_b6 (16383 + 1) a 0 32768 := rfl
  have z : ((0 : Int32) + 32768).toInt = 32768 := by decide
  rw [e, root_step (by decide), if_pos ((root_cmp (by decide) (by decide)).mpr (by rw [z]; exact h)), show (32768 : Int32) / 2 = 16384 by decide]
  exact roots a 14 16383 16384 0 16384 (by decide) (by decide) (by decide) (by decide) (by decide)
theorem k_from {s m : Nat} {a x y : Int32} (hP : PL (S.2.1 10)) (ha : 0 ≤ a.toInt) (ha2 : a.toInt < 12) (hx : -9999 ≤ x.toInt ∧ x.toInt ≤ 9999) (hy : -9999 ≤ y.toInt ∧ y.toInt ≤ 9999) (E0 : T.2.2.1 s 0 = S.2.1 10 0) (E1 : T.2.2.1 s 1 = S.2.1 10 1) (M0 : T.2.2.1 m 0 = S.2.1 10 (11 + a.toNatClampNeg)) (M1 : T.2.2.1 m 1 = S.2.1 10 (23 + a.toNatClampNeg)) (hg : g_X6_delayFrom T s m x y = some (r1, T1)) (hf : fr_delayFrom S a x y = some (r2, S1)) : S1 = S ∧ r1 = r2 := by
  unfold fr_delayFrom at hf
  obtain ⟨v2, d2, hf⟩ := elet_some hf
  obtain ⟨-, hf⟩ := oif_some hf
  obtain ⟨v4, d4, hf⟩ := elet_some hf
  rw [d2, cl_off (n := 11) (by decide) (by decide) ha (by omega)] at d4
  obtain ⟨v5, d5, hf⟩ := elet_some hf
  obtain ⟨v6, d6, hf⟩ := elet_some hf
  obtain ⟨-, hf⟩ := oif_some hf
  obtain ⟨v8, d8, hf⟩ := elet_some hf
  rw [d6, cl_off (n := 23) (by decide) (by decide) ha (by omega)] at d8
  obtain ⟨v9, d9, hf⟩ := elet_some hf
  obtain ⟨v10, d10, hf⟩ := elet_some hf
  obtain ⟨v11, d11, hf⟩ := elet_some hf
  obtain ⟨v12, d12, hf⟩ := elet_some hf
  obtain ⟨v13, d13, hf⟩ := elet_some hf
  obtain ⟨v14, d14, hf⟩ := elet_some hf
  obtain ⟨v15, d15, hf⟩ := elet_some hf
  obtain ⟨r16, f16, hf⟩ := obind_some hf
  obtain ⟨v18, d18, hf⟩ := elet_some hf
  obtain ⟨n18, hf⟩ := oif_some hf
  obtain ⟨v20, d20, hf⟩ := elet_some hf
  obtain ⟨v21, d21, hf⟩ := elet_some hf
  obtain ⟨n21, hf⟩ := oif_some hf
  obtain ⟨v23, d23, hf⟩ := elet_some hf
  obtain ⟨v24, d24, hf⟩ := elet_some hf
  have k0 := i_cl ha
  have b4 := hP.2.2.2.2.1 (11 + a.toNatClampNeg) (by omega) (by omega)
  have b8 := hP.2.2.2.2.1 (23 + a.toNatClampNeg) (by omega) (by omega)
  rw [← d4] at b4
  rw [← d8] at b8
  have b10 := hP.1.1
  rw [← d10] at b10
  have q5 := i_sub d5 (by omega) (by omega)
  have q9 := i_sub d9 (by omega) (by omega)
  have q11 := i_sq (b := 10499) d11 (by omega) (by omega) (by decide)
  have q12 := i_sq (b := 10499) d12 (by omega) (by omega) (by decide)
  have q14 := i_sq (b := 5000) d14 (by omega) (by omega) (by decide)
  have q13 := i_add d13 (by omega) (by omega)
  have q15 := i_add d15 (by omega) (by omega)
  rw [root_eq (by omega)] at f16
  unfold g_X6_delayFrom at hg
  obtain ⟨-, hg⟩ := oif_some hg
  obtain ⟨x3, t3, hg⟩ := elet_some hg
  obtain ⟨x4, t4, hg⟩ := elet_some hg
  obtain ⟨-, hg⟩ := oif_some hg
  obtain ⟨x6, t6, hg⟩ := elet_some hg
  obtain ⟨x7, t7, hg⟩ := elet_some hg
  obtain ⟨x8, t8, hg⟩ := elet_some hg
  obtain ⟨x9, t9, hg⟩ := elet_some hg
  obtain ⟨x10, t10, hg⟩ := elet_some hg
  obtain ⟨-, hg⟩ := oif_some hg
  obtain ⟨x12, t12, hg⟩ := elet_some hg
  obtain ⟨-, hg⟩ := oif_some hg
  obtain ⟨x14, t14, hg⟩ := elet_some hg
  obtain ⟨x15, t15, hg⟩ := elet_some hg
  obtain ⟨x16, t16, hg⟩ := elet_some hg
  obtain ⟨r17, g17, hg⟩ := obind_some hg
  obtain ⟨x19, t19, hg⟩ := elet_some hg
  obtain ⟨-, hg⟩ := oif_some hg
  obtain ⟨x21, t21, hg⟩ := elet_some hg
  obtain ⟨x22, t22, hg⟩ := elet_some hg
  obtain ⟨r23, g23, hg⟩ := obind_some hg
  obtain ⟨-, hg⟩ := oif_some hg
  obtain ⟨x26, t26, hg⟩ := elet_some hg
  obtain ⟨x27, t27, hg⟩ := elet_some hg
  obtain ⟨-, hg⟩ := oif_some hg
  obtain ⟨x29, t29, hg⟩ := elet_some hg
  obtain ⟨x30, t30, hg⟩ := elet_some hg
  obtain ⟨r31, g31, hg⟩ := obind_some hg
  obtain ⟨x33, t33, hg⟩ := elet_some hg
  obtain ⟨x34, t34, hg⟩ := elet_some hg
  have e4 : x4 = v5 := by rw [t4, t3, M0, d5, d4]
  have e7 : x7 = v9 := by rw [t7, t6, M1, d9, d8]
  have e16 : x16 = v15 := by rw [t16, t15, t14, t12, t10, t9, t8, e4, e7, E0, d15, d14, d13, d12, d11, d10]
  rw [e16, f16] at g17
  have e17 : r16 = r17 := Option.some.inj g17
  rw [t19, t22, t21, E1, ← d18, ← e17] at g23
  rw [t27, t26, t30, t29, E0, E1, ← d10, ← d21] at g31
  have u := a_quo n18 g23
  have w := a_quo n21 g31
  rw [← (osome2 hg).1, ← (osome2 hf).1, ← (osome2 hf).2, t34, t33, Int64.toInt32_sub, u, w, d24, d23, d20]
  exact ⟨rfl, rfl⟩
end
end
section
/-! 22f.delayto.lean.txt -/
/-! answers of the scene alone: delayTo -/
section
variable {T T1 : AT} {S S1 : MS} {k1 : Nat} {r1 r2 : Int32}
theorem r_pt {a b r : Int32} (hf : fr_isPoint a b = some r) : r = if (-9999 ≤ a ∧ a ≤ 9999) ∧ -9999 ≤ b ∧ b ≤ 9999 then 1 else 0 := by
  unfold fr_isPoint fr_isPoint_b30 fr_isPoint_b31 at hf
  obtain ⟨r2, f2, hf⟩ := obind_some hf
  have e2 := r_in f2
  by_cases c : -9999 ≤ a ∧ a ≤ 9999
  · rw [if_pos c] at e2
    rw [e2, if_neg (by decide)] at hf
    obtain ⟨r5, f5, hf⟩ := obind_some hf
    have e5 := r_in f5
    by_cases c2 : -9999 ≤ b ∧ b ≤ 9999
    · rw [if_pos c2] at e5
      rw [e5, if_neg (by decide)] at hf
      obtain ⟨-, hf⟩ := oif_some hf
      rw [if_pos ⟨c, c2⟩]
      exact (Option.some.inj hf).symm
    · rw [if_neg c2] at e5
      rw [e5, if_pos rfl] at hf
      obtain ⟨-, hf⟩ := oif_some hf
      rw [if_neg (fun q => c2 q.2)]
      exact (Option.some.inj hf).symm
  · rw [if_neg c] at e2
    rw [e2, if_pos rfl] at hf
    obtain ⟨-, hf⟩ := oif_some hf
    rw [if_neg (fun q => c q.1)]
    exact (Option.some.inj hf).symm
theorem r1h_delayTo {a0 a1 a2 : Int32} (hV : IV aR0 1586 aK1 aK2 T) (hJ : JJ S) (h : R1 T S) (hg : g_X11_delayTo T 0 a0 a1 a2 = some (k1, r1, T1)) (hf : fr_delayTo S a0 a1 a2 = some (r2, S1)) : S1.1 0 = vck 1 2 3 k1 ∧ (vck 1 2 3 k1 = 0 → k1 = 0 ∧ r1 = r2) := by
  have z0 : (0 : Int32).toInt = 0 := by decide
  have z1 : (1 : Int32).toInt = 1 := by decide
  obtain ⟨s, hs, h14, hr⟩ := h.2.2.2.2
  have hF := h.1.srf hs
  unfold fr_delayTo at hf
  obtain ⟨r5, S2, f5, hf⟩ := obind2_some hf
  obtain ⟨eS2, er5⟩ := r_mic f5
  rw [eS2] at hf
  obtain ⟨r9, S6, f9, hf⟩ := obind2_some hf
  obtain ⟨eS6, er9⟩ := r_ask f9
  unfold g_X11_delayTo at hg
  obtain ⟨-, hg⟩ := oif_some hg
  rcases othr_k hg with ⟨rc, gc, hc⟩ | ⟨rc, Tc, gc, hg⟩
  · obtain ⟨-, ⟨q, -⟩ | ⟨q, q5⟩⟩ := c_cam h14 gc
    · exact absurd q hc
    · rw [q]
      rcases hr with ⟨a, b, b4, b8⟩ | ⟨a, -⟩
      · obtain ⟨c, -, x, y, -⟩ := b.2.1
        exact absurd (y.trans (x.symm.trans q5)) b4
      · have w : wAsk S r5 = 1 := by unfold wAsk; rw [if_pos a]
        rw [w] at eS6 er9
        rw [if_pos (show r9 = 0 from er9)] at hf
        rw [← (osome2 hf).2, eS6, mi_at]
        exact ⟨rfl, fun q => absurd q (by decide)⟩
  · obtain ⟨eT, ⟨-, q5⟩ | ⟨q, -⟩⟩ := c_cam h14 gc
    case inr => exact absurd q (by decide)
    rw [eT] at hg
    rcases hr with ⟨a, b, b4, b8⟩ | ⟨-, -, a, -⟩
    case inr => exact absurd a q5
    have hP := r_pl hJ a
    have p4 := hP.2.1.1
    obtain ⟨c, c12, y5, y4, hmic, -⟩ := b.2.1
    have m4 := i_sub (v := S.2.1 10 4 - 1) rfl (by omega) (by omega)
    have a20 : ¬ S.1 20 = 0 := by rw [a]; decide
    obtain ⟨-, hg⟩ := oif_some hg
    rcases othr_k hg with ⟨rc2, gc2, hc⟩ | ⟨rc2, Tc2, gc2, hg⟩
    · obtain ⟨-, ⟨q, -⟩ | ⟨q, qc⟩⟩ := c_mic h14 gc2
      · exact absurd q hc
      · rw [y5, ← y4] at qc
        have e0 : r5 = 0 := by
          rw [er5, if_neg]
          intro u
          have u1 := i_le u.1
          have u2 := i_le u.2
          exact qc ⟨by omega, by omega⟩
        have w : wAsk S r5 = 2 := by unfold wAsk; rw [if_neg a20, if_pos e0]
        rw [w] at eS6 er9
        rw [if_pos (show r9 = 0 from er9)] at hf
        rw [q, ← (osome2 hf).2, eS6, mi_at]
        exact ⟨rfl, fun q => absurd q (by decide)⟩
    · obtain ⟨eT2, ⟨-, qc⟩ | ⟨q, -⟩⟩ := c_mic h14 gc2
      case inr => exact absurd q (by decide)
      rw [eT2] at hg
      rw [y5, ← y4] at qc
      have e1 : r5 = 1 := by
        rw [er5, if_pos]
        exact ⟨Int32.le_iff_toInt_le.mpr (by omega), Int32.le_iff_toInt_le.mpr (by omega)⟩
      have w : wAsk S r5 = 0 := by unfold wAsk; rw [if_neg a20, if_neg (by rw [e1]; decide)]
      rw [w] at eS6 er9
      rw [if_neg (show ¬ r9 = 0 by rw [er9]; decide)] at hf
      obtain ⟨r11, f11, hf⟩ := obind_some hf
      have e11 := r_pt f11
      have m10 : S6.2.1 10 = S.2.1 10 := by rw [eS6]; rfl
      have zm : (-9999 : Int32).toInt = -9999 := by decide
      have zp : (9999 : Int32).toInt = 9999 := by decide
      rcases othr_k hg with ⟨rc3, gc3, hc⟩ | ⟨rc3, Tc3, gc3, hg⟩
      · obtain ⟨-, ⟨q, -⟩ | ⟨q, qr⟩⟩ := c_rng gc3
        · exact absurd q hc
        · have e0 : r11 = 0 := by
            rw [e11, if_neg]
            intro u
            exact qr ⟨i_le u.1.1, i_le u.1.2⟩
          rw [if_pos e0] at hf
          obtain ⟨r17, S14, f17, hf⟩ := obind2_some hf
          unfold fr_delayTo_b37 at hf
          rw [q, ← (osome2 hf).2, r_thr f17, mi_at]
          exact ⟨rfl, fun q => absurd q (by decide)⟩
      · obtain ⟨eT3, ⟨-, qx⟩ | ⟨q, -⟩⟩ := c_rng gc3
        case inr => exact absurd q (by decide)
        rw [eT3] at hg
        rcases othr_k hg with ⟨rc4, gc4, hc⟩ | ⟨rc4, Tc4, gc4, hg⟩
        · obtain ⟨-, ⟨q, -⟩ | ⟨q, qr⟩⟩ := c_rng gc4
          · exact absurd q hc
          · have e0 : r11 = 0 := by
              rw [e11, if_neg]
              intro u
              exact qr ⟨i_le u.2.1, i_le u.2.2⟩
            rw [if_pos e0] at hf
            obtain ⟨r17, S14, f17, hf⟩ := obind2_some hf
            unfold fr_delayTo_b37 at hf
            rw [q, ← (osome2 hf).2, r_thr f17, mi_at]
            exact ⟨rfl, fun q => absurd q (by decide)⟩
        · obtain ⟨eT4, ⟨-, qy⟩ | ⟨q, -⟩⟩ := c_rng gc4
          case inr => exact absurd q (by decide)
          rw [eT4] at hg
          have e2 : ¬ r11 = 0 := by
            rw [e11, if_pos ⟨⟨Int32.le_iff_toInt_le.mpr qx.1, Int32.le_iff_toInt_le.mpr qx.2⟩, Int32.le_iff_toInt_le.mpr qy.1, Int32.le_iff_toInt_le.mpr qy.2⟩]
            decide
          rw [if_neg e2] at hf
          obtain ⟨r21, S18, f21, hf⟩ := obind2_some hf
          unfold fr_delayTo_b37 at hf
          obtain ⟨-, hg⟩ := oif_some hg
          obtain ⟨n21, e21, hg⟩ := obind_some hg
          rw [h14] at e21
          cases e21
          obtain ⟨-, hg⟩ := oif_some hg
          obtain ⟨n23, e23, hg⟩ := obind_some hg
          rw [h14] at e23
          cases e23
          obtain ⟨-, hg⟩ := oif_some hg
          obtain ⟨n25, e25, hg⟩ := obind_some hg
          rw [hF.1] at e25
          cases e25
          obtain ⟨-, hg⟩ := oif_some hg
          obtain ⟨-, hg⟩ := oif_some hg
          obtain ⟨n28, e28, hg⟩ := obind_some hg
          have k0 := i_cl qc.1
          have y4' : (S.2.1 10 4).toInt = (c : Int) := by rw [y4]; exact nI_toInt (by omega)
          rw [hF.2.2.2.2.2.2.2.2.1 a0.toNatClampNeg (by omega)] at e28
          cases e28
          obtain ⟨-, hg⟩ := oif_some hg
          obtain ⟨r32, T30, g32, hg⟩ := obind2_some hg
          obtain ⟨v0, v1, -⟩ := hmic a0.toNatClampNeg (by omega)
          have k := k_from (S := S6) (by rw [m10]; exact hP) qc.1 (by omega) (by omega) (by omega) (by rw [m10]; exact b.1.1) (by rw [m10]; exact b.1.2.1) (by rw [m10]; exact v0) (by rw [m10]; exact v1) g32 f21
          have g := osome3 hg
          rw [← g.1, ← (osome2 hf).2, k.1, eS6, mi_at]
          refine ⟨rfl, fun _ => ⟨rfl, ?_⟩⟩
          rw [← g.2.1, ← (osome2 hf).1]
          exact k.2
end
end
