section
/-! 20f.more.lean.txt -/
section
variable {b : Nat → Int32} {n c i k s : Nat} {T T1 : AT} {S S1 : MS} {r : Int32}
/-- only the place of the class and the reference's scalars have moved -/
theorem scn_tf {P D : Nat → Int32} (hs : s = 478 ∨ s = 656) (h : TFq T T1) (q : SCNq s T P D) : SCNq s T1 P D := by
  have e : ∀ m j, m ≠ 6 → T1.2.2.1 m j = T.2.2.1 m j := h.2.2.2
  exact ⟨q.1.cg (fun j _ => e _ _ (by omega)) (fun _ _ => rfl), q.2.1.cg (e _ _ (by omega)) (fun m j _ _ => e _ _ (by omega)) (fun _ _ => rfl), q.2.2.1.cg (fun j _ => e _ _ (by omega)) (fun j => e _ _ (by omega)) (fun _ _ _ => rfl), q.2.2.2.1.cg (e _ _ (by omega)) (fun m j _ _ => e _ _ (by omega)) (fun _ _ => rfl) (fun _ _ _ => rfl), q.2.2.2.2.1.cg (e _ _ (by omega)) (fun j => e _ _ (by omega)) (fun j => e _ _ (by omega)) (fun _ _ _ => rfl), q.2.2.2.2.2.1.cg (e _ _ (by omega)) rfl, q.2.2.2.2.2.2.1.cg (e _ _ (by omega)) (fun j => e _ _ (by omega)) (fun _ _ _ => rfl), q.2.2.2.2.2.2.2.1.cg (e _ _ (by omega)) (fun m j _ _ => e _ _ (by omega)) (fun _ _ _ => rfl), q.2.2.2.2.2.2.2.2.1.cg (e _ _ (by omega)) (fun j => e _ _ (by omega)) (fun _ _ _ => rfl), q.2.2.2.2.2.2.2.2.2⟩
theorem nI_of01 {x : Int32} {a : Nat} (h0 : 0 ≤ x.toInt) (h1 : x.toInt ≤ (a : Int) - 1) (ha : a ≤ 2000) : ∃ m : Nat, m < a ∧ x = nI m := by
  refine ⟨x.toInt.toNat, by omega, Int32.toInt_inj.mp ?_⟩
  have e : (nI x.toInt.toNat).toInt = (x.toInt.toNat : Int) := nI_toInt (by omega)
  rw [e]
  omega
theorem nI_m1 {x : Int32} {a : Nat} (h : x = nI a - 1) (ha : a ≤ 2000) : x.toInt = (a : Int) - 1 := by
  have e : (nI a).toInt = (a : Int) := nI_toInt (by omega)
  have z1 : (1 : Int32).toInt = 1 := by decide
  rw [i_sub h (by omega) (by omega), e, z1]
set_option maxHeartbeats 400000 in
theorem l_clock (h : PRq b n c i T S) (hk : kd b n (pst b n i) = 1) (hs : s = 478 ∨ s = 656) (hF : SRF s T) (hC : SCNq s T (S.2.1 11) (S.2.1 13)) (hg : g_X3_parseClock T 6 s = some (k, r, T1)) (hf : fr_readClock S = some S1) : LNq b n c i s T T1 S1 k := by
  have z0 : (0 : Int32).toInt = 0 := by decide
  obtain ⟨gH, ⟨mc, b1, b2, b3, b4, b5⟩, gG, gS, gW, gF, gT, gZ, gD, gX⟩ := hC
  unfold fr_readClock at hf
  obtain ⟨S2, fS2, hf⟩ := obind_some hf
  obtain ⟨v5, ev5, hf⟩ := elet_some hf
  obtain ⟨v6, ev6, hf⟩ := elet_some hf
  obtain ⟨r10, S7, fS7, hf⟩ := obind2_some hf
  obtain ⟨v11, ev11, hf⟩ := elet_some hf
  -- a fault stays
  have fin42 : ∀ {U : MS} {l : Int32}, 0 < (U.1 5).toInt → fr_readClock_b42 U l = some S1 → S1 = U := by
    intro U l q hf
    unfold fr_readClock_b42 at hf
    obtain ⟨U2, f2, hf⟩ := obind_some hf
    rw [st_next q f2] at hf
    obtain ⟨w8, U5, f5, hf⟩ := obind2_some hf
    rw [st_number q f5] at hf
    obtain ⟨w9, e9, hf⟩ := elet_some hf
    rw [if_neg (st_ne q e9)] at hf
    exact (osome1 (show some U = some S1 from hf)).symm
  have fin_S7 : 0 < (S7.1 5).toInt → S1 = S7 := fun q => by
    rw [if_neg (st_ne q ev11)] at hf
    exact fin42 q hf
  have fin_S2 : 0 < (S2.1 5).toInt → S1 = S2 := fun q => by
    have e := st_look q fS7
    exact (fin_S7 (by rw [e]; exact q)).trans e
  unfold g_X3_parseClock at hg
  obtain ⟨-, hg⟩ := oif_some hg
  rcases othr_k hg with ⟨r9, g9, z9⟩ | ⟨r5, T3, g9, hg⟩
  · rcases k_line h hk (by decide) g9 (.inl ⟨rfl, rfl⟩) fS2 with ⟨z, -⟩ | ⟨z1, z2⟩
    · exact absurd z z9
    · exact .inr ⟨z1, by rw [fin_S2 z2.1]; exact z2⟩
  rcases k_line h hk (by decide) g9 (.inl ⟨rfl, rfl⟩) fS2 with ⟨-, p3, t3, m2, -⟩ | ⟨z1, -⟩
  rotate_left
  · exact absurd z1 (by decide)
  have P2 : S2.2 = S.2 := m2.1
  obtain ⟨-, hg⟩ := oif_some hg
  obtain ⟨v8, ev8, hg⟩ := elet_some hg
  rw [t3.2.2.2 _ _ (by omega), b2] at ev8
  obtain ⟨v9, ev9, hg⟩ := elet_some hg
  rw [P2, b3] at ev5
  rw [ev5] at ev6
  rw [ev8] at ev9
  have e69 : v6 = v9 := ev6.trans ev9.symm
  have q9 := nI_m1 ev9 (by omega)
  obtain ⟨-, hg⟩ := oif_some hg
  rw [e69] at fS7
  rcases othr_k hg with ⟨r9, g9, z9⟩ | ⟨r13, T11, g9, hg⟩
  · rcases k_look p3 g9 fS7 with ⟨z, -⟩ | ⟨z1, z2⟩
    · exact absurd z z9
    · exact .inr ⟨z1, by rw [fin_S7 z2.1]; exact z2⟩
  rcases k_look p3 g9 fS7 with ⟨-, qr, lo, hi, k2, e11, e7⟩ | ⟨z1, -⟩
  rotate_left
  · exact absurd z1 (by decide)
  rw [e7] at ev11 hf fin_S7
  rw [p3.2.2.1] at ev11
  rw [if_pos ev11] at hf
  obtain ⟨m, hm, em⟩ := nI_of01 (x := r13) (a := mc) (by omega) (by omega) (by omega)
  obtain ⟨v13, ev13, hf⟩ := elet_some hf
  rw [qr, em] at ev13
  have k13 : v13 = nI (83 + m) := ev13.trans (nI_add 83 m)
  obtain ⟨-, hf⟩ := oif_some hf
  obtain ⟨v15, ev15, hf⟩ := elet_some hf
  rw [k13, nI_clamp (by omega), P2] at ev15
  have t11 : TFq T T11 := by rw [e11]; exact t3.tr tf6
  have r11 : T11.2.2.2.2 = T.2.2.2.2 := congrArg (fun x => x.2) t11.2.2.1
  obtain ⟨-, hg⟩ := oif_some hg
  obtain ⟨n16, en16, hg⟩ := obind_some hg
  rw [r11, hF.1] at en16
  cases en16
  obtain ⟨-, hg⟩ := oif_some hg
  obtain ⟨-, hg⟩ := oif_some hg
  obtain ⟨n19, en19, hg⟩ := obind_some hg
  rw [r11, em, nI_clamp (by omega), hF.2.2.2.2.2.2.2.2.1 m (by omega)] at en19
  cases en19
  obtain ⟨-, hg⟩ := oif_some hg
  obtain ⟨v21, ev21, hg⟩ := elet_some hg
  rw [t11.2.2.2 _ _ (by omega), (b4 m hm).2.2.2, ← ev15] at ev21
  by_cases c0 : v15 ≤ 0
  · rw [if_pos c0] at hf
    rw [ev21, if_pos c0] at hg
    unfold fr_readClock_b42 at hf
    obtain ⟨U2, f2, hf⟩ := obind_some hf
    obtain ⟨p11, m11⟩ := pr_adv p3 (by rw [k2]; decide) f2
    rw [← e11] at p11
    obtain ⟨w8, U5, f5, hf⟩ := obind2_some hf
    obtain ⟨w9, e9, hf⟩ := elet_some hf
    unfold g_X3_parseClock_b41 at hg
    obtain ⟨-, hg⟩ := oif_some hg
    obtain ⟨n3, en3, hg⟩ := obind_some hg
    rw [r11, hF.1] at en3
    cases en3
    obtain ⟨-, hg⟩ := oif_some hg
    obtain ⟨-, hg⟩ := oif_some hg
    obtain ⟨n6, en6, hg⟩ := obind_some hg
    rw [r11, em, nI_clamp (by omega), hF.2.2.2.2.2.2.2.2.1 m (by omega)] at en6
    cases en6
    obtain ⟨-, hg⟩ := oif_some hg
    rcases othr_k hg with ⟨r9, g9, z9⟩ | ⟨r10', T8, g9, hg⟩
    · rcases k_number p11 g9 f5 with ⟨z, -⟩ | ⟨z1, z2⟩
      · exact absurd z z9
      · rw [if_neg (st_ne z2.1 e9)] at hf
        have e := osome1 (show some U5 = some S1 from hf)
        exact .inr ⟨z1, by rw [← e]; exact z2⟩
    rcases k_number p11 g9 f5 with ⟨-, q8, -, -, p8, t8, m8⟩ | ⟨z1, -⟩
    rotate_left
    · exact absurd z1 (by decide)
    obtain ⟨-, hg⟩ := oif_some hg
    obtain ⟨T13, e13, hg⟩ := elet_some hg
    rw [if_pos (e9.trans p8.2.2.1)] at hf
    obtain ⟨w11, e11', hf⟩ := elet_some hf
    rw [qr, em] at e11'
    have k11 : w11 = nI (83 + m) := e11'.trans (nI_add 83 m)
    obtain ⟨-, hf⟩ := oif_some hf
    obtain ⟨U13, e13', hf⟩ := elet_some hf
    rw [k11, nI_clamp (by omega)] at e13'
    have eS := osome1 (show some U13 = some S1 from hf)
    have g := osome3 hg
    rw [← g.2.2, ← eS]
    have hI : ∀ m' j : Nat, m' ≠ 6 → T13.2.2.1 m' j = if m' = s + 160 + m ∧ j = 3 then r10' else T.2.2.1 m' j := fun m' j h6 => by rw [e13, ui_get, t8.2.2.2 m' j h6, t11.2.2.2 m' j h6]
    have PU : U5.2 = S.2 := m8.1.trans (m11.1.trans P2)
    have hP : ∀ x : Nat, U13.2.1 11 x = if x = 83 + m then w8 else S.2.1 11 x := fun x => by rw [e13', mf_at]; show (if x = 83 + m then w8 else U5.2.1 11 x) = _; rw [PU]
    have hD : ∀ x : Nat, U13.2.1 13 x = S.2.1 13 x := fun x => by rw [e13', mf_ne (by decide), PU]
    have p13 := pr_uI (m := s + 160 + m) (k := 3) (v := r10') p8 (by omega)
    rw [← e13] at p13
    have p14 := pr_mfe p13 e13' (by decide)
    have r13 : T13.2.2.2.2 = T.2.2.2.2 := by rw [e13]; exact (congrArg (fun x => x.2) t8.2.2.1).trans r11
    refine .inl ⟨g.1.symm, ⟨_, by omega, p14⟩, ⟨gH.cg (fun j hj => by rw [hI _ _ (by omega)]; simp (disch := omega) only [if_neg, if_pos, and_self, and_true, true_and, and_false, false_and, if_true, if_false]) (fun j hj => by rw [hP]; simp (disch := omega) only [if_neg, if_pos, and_self, and_true, true_and, and_false, false_and, if_true, if_false]), ?_, gG.cg (fun k hk => by rw [hI _ _ (by omega)]; simp (disch := omega) only [if_neg, if_pos, and_self, and_true, true_and, and_false, false_and, if_true, if_false]) (fun k => by rw [hI _ _ (by omega)]; simp (disch := omega) only [if_neg, if_pos, and_self, and_true, true_and, and_false, false_and, if_true, if_false]) (fun j hj hj2 => by rw [hP]; simp (disch := omega) only [if_neg, if_pos, and_self, and_true, true_and, and_false, false_and, if_true, if_false]), gS.cg (by rw [hI _ _ (by omega)]; simp (disch := omega) only [if_neg, if_pos, and_self, and_true, true_and, and_false, false_and, if_true, if_false]) (fun m' k hm hm2 => by rw [hI _ _ (by omega)]; simp (disch := omega) only [if_neg, if_pos, and_self, and_true, true_and, and_false, false_and, if_true, if_false]) (fun j hj => by rw [hP]; simp (disch := omega) only [if_neg, if_pos, and_self, and_true, true_and, and_false, false_and, if_true, if_false]) (fun j _ _ => hD j), gW.cg (by rw [hI _ _ (by omega)]; simp (disch := omega) only [if_neg, if_pos, and_self, and_true, true_and, and_false, false_and, if_true, if_false]) (fun k => by rw [hI _ _ (by omega)]; simp (disch := omega) only [if_neg, if_pos, and_self, and_true, true_and, and_false, false_and, if_true, if_false]) (fun k => by rw [hI _ _ (by omega)]; simp (disch := omega) only [if_neg, if_pos, and_self, and_true, true_and, and_false, false_and, if_true, if_false]) (fun j hj hj2 => by rw [hP]; simp (disch := omega) only [if_neg, if_pos, and_self, and_true, true_and, and_false, false_and, if_true, if_false]), gF.cg (by rw [hI _ _ (by omega)]; simp (disch := omega) only [if_neg, if_pos, and_self, and_true, true_and, and_false, false_and, if_true, if_false]) (by rw [hP]; simp (disch := omega) only [if_neg, if_pos, and_self, and_true, true_and, and_false, false_and, if_true, if_false]), gT.cg (by rw [hI _ _ (by omega)]; simp (disch := omega) only [if_neg, if_pos, and_self, and_true, true_and, and_false, false_and, if_true, if_false]) (fun k => by rw [hI _ _ (by omega)]; simp (disch := omega) only [if_neg, if_pos, and_self, and_true, true_and, and_false, false_and, if_true, if_false]) (fun j hj hj2 => by rw [hP]; simp (disch := omega) only [if_neg, if_pos, and_self, and_true, true_and, and_false, false_and, if_true, if_false]), gZ.cg (by rw [hI _ _ (by omega)]; simp (disch := omega) only [if_neg, if_pos, and_self, and_true, true_and, and_false, false_and, if_true, if_false]) (fun m' k hm hm2 => by rw [hI _ _ (by omega)]; simp (disch := omega) only [if_neg, if_pos, and_self, and_true, true_and, and_false, false_and, if_true, if_false]) (fun j hj hj2 => by rw [hP]; simp (disch := omega) only [if_neg, if_pos, and_self, and_true, true_and, and_false, false_and, if_true, if_false]), gD.cg (by rw [hI _ _ (by omega)]; simp (disch := omega) only [if_neg, if_pos, and_self, and_true, true_and, and_false, false_and, if_true, if_false]) (fun k => by rw [hI _ _ (by omega)]; simp (disch := omega) only [if_neg, if_pos, and_self, and_true, true_and, and_false, false_and, if_true, if_false]) (fun j hj hj2 => by rw [hP]; simp (disch := omega) only [if_neg, if_pos, and_self, and_true, true_and, and_false, false_and, if_true, if_false]), fun j hj => (hD j).trans (gX j hj)⟩, r13⟩
    refine ⟨mc, b1, ?_, ?_, fun m' hm' => ?_, fun m' h1 h2 => ?_⟩
    · rw [hI _ _ (by omega)]; simp (disch := omega) only [if_neg, if_pos, and_self, and_true, true_and, and_false, false_and, if_true, if_false]; exact b2
    · rw [hP]; simp (disch := omega) only [if_neg, if_pos, and_self, and_true, true_and, and_false, false_and, if_true, if_false]; exact b3
    · have q := b4 m' hm'
      refine ⟨?_, ?_, ?_, ?_⟩
      · rw [hI _ _ (by omega), hP]; simp (disch := omega) only [if_neg, if_pos, and_self, and_true, true_and, and_false, false_and, if_true, if_false]; exact q.1
      · rw [hI _ _ (by omega), hP]; simp (disch := omega) only [if_neg, if_pos, and_self, and_true, true_and, and_false, false_and, if_true, if_false]; exact q.2.1
      · rw [hI _ _ (by omega), hP]; simp (disch := omega) only [if_neg, if_pos, and_self, and_true, true_and, and_false, false_and, if_true, if_false]; exact q.2.2.1
      · rw [hI _ _ (by omega), hP]
        by_cases e : m' = m
        · rw [if_pos ⟨by omega, rfl⟩, if_pos (by omega)]; exact q8.symm
        · rw [if_neg (by omega), if_neg (by omega)]; exact q.2.2.2
    · rw [hP, if_neg (by omega)]; exact b5 m' h1 h2
  · rw [if_neg c0] at hf
    rw [ev21, if_neg c0] at hg
    obtain ⟨S17, f17, hf⟩ := obind_some hf
    obtain ⟨-, hg⟩ := oif_some hg
    obtain ⟨v24, ev24, hg⟩ := elet_some hg
    rw [e11, ui_at] at ev24
    obtain ⟨v25, ev25, hg⟩ := elet_some hg
    rw [ev24, nI_pred] at ev25
    rw [ev25, e11] at hg
    obtain ⟨-, hg⟩ := oif_some hg
    have fail : ∀ {k' : Nat} {r' : Int32} {T' : AT}, g_X3_failAt (uI T3 6 1 (nI (i + 1 + 1))) 6 (nI (i + 1)) 3 = some (k', r', T') → k' = 3 ∧ ERq T' S17 := by
      intro k' r' T' g
      obtain ⟨⟨h1, h2, h3, ⟨h4, h5, h6, h7, h8, h9⟩, h10, h11⟩, hh⟩ := p3
      have pq : ∀ j, T3.2.2.1 3 j = (uI T3 6 1 (nI (i + 1 + 1))).2.2.1 3 j := fun j => (ui_ne (.inl (by decide))).symm
      have q := r_fault hh.2.1 f17
      have t2 : TXR (uI T3 6 1 (nI (i + 1 + 1))) := h2
      have t4 : (uI T3 6 1 (nI (i + 1 + 1))).2.2.1 1 5 = nI c := (ui_ne (.inl (by decide))).trans h4
      have t7 : ∀ j, j < c → (uI T3 6 1 (nI (i + 1 + 1))).2.2.1 4 j = nI (pst b n j) := fun j hj => (ui_ne (.inl (by decide))).trans (h7 j hj).2.1
      obtain ⟨a1, a2, a3⟩ := k_failT t2 t4 h6 t7 h10 g
      refine ⟨a1, ?_⟩
      rw [q]
      refine ⟨?_, ?_, ?_⟩
      · rw [mi_ne (by decide), mi_at]; decide
      · rw [mi_ne (by decide), mi_at, a2]
      · rw [mi_at, a3]; exact hh.2.2.2.2.1.symm
    rcases othr_k hg with ⟨r9, g9, -⟩ | ⟨r9, T9, g9, -⟩
    · obtain ⟨a1, a2⟩ := fail g9
      exact .inr ⟨a1, by rw [fin42 a2.1 hf]; exact a2⟩
    · exact absurd (fail g9).1 (by decide)
set_option maxHeartbeats 400000 in
theorem l_off (h : PRq b n c i T S) (hk : kd b n (pst b n i) = 1) (hs : s = 478 ∨ s = 656) (hF : SRF s T) (hC : SCNq s T (S.2.1 11) (S.2.1 13)) (hg : g_X3_parseOff T 6 s = some (k, r, T1)) (hf : fr_readOff S = some S1) : LNq b n c i s T T1 S1 k := by
  have z0 : (0 : Int32).toInt = 0 := by decide
  obtain ⟨gH, gM, gG, ⟨mc, b1, b2, b3, b4⟩, gW, gF, gT, gZ, gD, gX⟩ := hC
  unfold fr_readOff at hf
  obtain ⟨S2, fS2, hf⟩ := obind_some hf
  obtain ⟨v5, ev5, hf⟩ := elet_some hf
  obtain ⟨v6, ev6, hf⟩ := elet_some hf
  obtain ⟨r10, S7, fS7, hf⟩ := obind2_some hf
  obtain ⟨v11, ev11, hf⟩ := elet_some hf
  -- a fault stays
  have fin42 : ∀ {U : MS} {l : Int32}, 0 < (U.1 5).toInt → fr_readOff_b42 U l = some S1 → S1 = U := by
    intro U l q hf
    unfold fr_readOff_b42 at hf
    obtain ⟨U2, f2, hf⟩ := obind_some hf
    rw [st_next q f2] at hf
    obtain ⟨w9, e9, hf⟩ := elet_some hf
    rw [if_neg (st_ne q e9)] at hf
    exact (osome1 (show some U = some S1 from hf)).symm
  have fin_S7 : 0 < (S7.1 5).toInt → S1 = S7 := fun q => by
    rw [if_neg (st_ne q ev11)] at hf
    exact fin42 q hf
  have fin_S2 : 0 < (S2.1 5).toInt → S1 = S2 := fun q => by
    have e := st_look q fS7
    exact (fin_S7 (by rw [e]; exact q)).trans e
  unfold g_X3_parseOff at hg
  obtain ⟨-, hg⟩ := oif_some hg
  rcases othr_k hg with ⟨r9, g9, z9⟩ | ⟨r5, T3, g9, hg⟩
  · rcases k_line h hk (by decide) g9 (.inl ⟨rfl, rfl⟩) fS2 with ⟨z, -⟩ | ⟨z1, z2⟩
    · exact absurd z z9
    · exact .inr ⟨z1, by rw [fin_S2 z2.1]; exact z2⟩
  rcases k_line h hk (by decide) g9 (.inl ⟨rfl, rfl⟩) fS2 with ⟨-, p3, t3, m2, -⟩ | ⟨z1, -⟩
  rotate_left
  · exact absurd z1 (by decide)
  have P2 : S2.2 = S.2 := m2.1
  obtain ⟨-, hg⟩ := oif_some hg
  obtain ⟨v8, ev8, hg⟩ := elet_some hg
  rw [t3.2.2.2 _ _ (by omega), b2] at ev8
  obtain ⟨v9, ev9, hg⟩ := elet_some hg
  rw [P2, b3] at ev5
  rw [ev5] at ev6
  rw [ev8] at ev9
  have e69 : v6 = v9 := ev6.trans ev9.symm
  have q9 := nI_m1 ev9 (by omega)
  obtain ⟨-, hg⟩ := oif_some hg
  rw [e69] at fS7
  rcases othr_k hg with ⟨r9, g9, z9⟩ | ⟨r13, T11, g9, hg⟩
  · rcases k_look p3 g9 fS7 with ⟨z, -⟩ | ⟨z1, z2⟩
    · exact absurd z z9
    · exact .inr ⟨z1, by rw [fin_S7 z2.1]; exact z2⟩
  rcases k_look p3 g9 fS7 with ⟨-, qr, lo, hi, k2, e11, e7⟩ | ⟨z1, -⟩
  rotate_left
  · exact absurd z1 (by decide)
  rw [e7] at ev11 hf fin_S7
  rw [p3.2.2.1] at ev11
  rw [if_pos ev11] at hf
  obtain ⟨m, hm, em⟩ := nI_of01 (x := r13) (a := mc) (by omega) (by omega) (by omega)
  obtain ⟨v13, ev13, hf⟩ := elet_some hf
  rw [qr, em] at ev13
  have k13 : v13 = nI (25 + m) := ev13.trans (nI_add 25 m)
  obtain ⟨-, hf⟩ := oif_some hf
  obtain ⟨v15, ev15, hf⟩ := elet_some hf
  rw [k13, nI_clamp (by omega), P2] at ev15
  have t11 : TFq T T11 := by rw [e11]; exact t3.tr tf6
  have r11 : T11.2.2.2.2 = T.2.2.2.2 := congrArg (fun x => x.2) t11.2.2.1
  obtain ⟨-, hg⟩ := oif_some hg
  obtain ⟨n16, en16, hg⟩ := obind_some hg
  rw [r11, hF.2.2.1] at en16
  cases en16
  obtain ⟨-, hg⟩ := oif_some hg
  obtain ⟨-, hg⟩ := oif_some hg
  obtain ⟨n19, en19, hg⟩ := obind_some hg
  rw [r11, em, nI_clamp (by omega), hF.2.2.2.2.2.2.2.2.2.1 m (by omega)] at en19
  cases en19
  obtain ⟨-, hg⟩ := oif_some hg
  obtain ⟨v21, ev21, hg⟩ := elet_some hg
  rw [t11.2.2.2 _ _ (by omega)] at ev21
  have off := (b4 m hm).2.2.2.2.2.1
  rw [← ev21, ← ev15] at off
  by_cases c0 : v21 = 0
  rotate_left
  · have c15 : v15 = 0 := by
      rcases off with q | q
      · exact absurd q.1 c0
      · exact q.2
    rw [if_pos c15] at hf
    rw [if_neg c0] at hg
    obtain ⟨S17, f17, hf⟩ := obind_some hf
    obtain ⟨-, hg⟩ := oif_some hg
    obtain ⟨v24, ev24, hg⟩ := elet_some hg
    rw [e11, ui_at] at ev24
    obtain ⟨v25, ev25, hg⟩ := elet_some hg
    rw [ev24, nI_pred] at ev25
    rw [ev25, e11] at hg
    obtain ⟨-, hg⟩ := oif_some hg
    have fail : ∀ {k' : Nat} {r' : Int32} {T' : AT}, g_X3_failAt (uI T3 6 1 (nI (i + 1 + 1))) 6 (nI (i + 1)) 3 = some (k', r', T') → k' = 3 ∧ ERq T' S17 := by
      intro k' r' T' g
      obtain ⟨⟨h1, h2, h3, ⟨h4, h5, h6, h7, h8, h9⟩, h10, h11⟩, hh⟩ := p3
      have pq : ∀ j, T3.2.2.1 3 j = (uI T3 6 1 (nI (i + 1 + 1))).2.2.1 3 j := fun j => (ui_ne (.inl (by decide))).symm
      have q := r_fault hh.2.1 f17
      have t2 : TXR (uI T3 6 1 (nI (i + 1 + 1))) := h2
      have t4 : (uI T3 6 1 (nI (i + 1 + 1))).2.2.1 1 5 = nI c := (ui_ne (.inl (by decide))).trans h4
      have t7 : ∀ j, j < c → (uI T3 6 1 (nI (i + 1 + 1))).2.2.1 4 j = nI (pst b n j) := fun j hj => (ui_ne (.inl (by decide))).trans (h7 j hj).2.1
      obtain ⟨a1, a2, a3⟩ := k_failT t2 t4 h6 t7 h10 g
      refine ⟨a1, ?_⟩
      rw [q]
      refine ⟨?_, ?_, ?_⟩
      · rw [mi_ne (by decide), mi_at]; decide
      · rw [mi_ne (by decide), mi_at, a2]
      · rw [mi_at, a3]; exact hh.2.2.2.2.1.symm
    rcases othr_k hg with ⟨r9, g9, -⟩ | ⟨r9, T9, g9, -⟩
    · obtain ⟨a1, a2⟩ := fail g9
      exact .inr ⟨a1, by rw [fin42 a2.1 hf]; exact a2⟩
    · exact absurd (fail g9).1 (by decide)
  · have c15 : ¬ v15 = 0 := by
      rcases off with q | q
      · rw [q.2]; decide
      · rw [c0] at q; exact absurd q.1 (by decide)
    rw [if_neg c15] at hf
    rw [if_pos c0] at hg
    unfold fr_readOff_b42 at hf
    obtain ⟨U2, f2, hf⟩ := obind_some hf
    obtain ⟨p11, m11⟩ := pr_adv p3 (by rw [k2]; decide) f2
    rw [← e11] at p11
    obtain ⟨w9, e9, hf⟩ := elet_some hf
    unfold g_X3_parseOff_b41 at hg
    obtain ⟨-, hg⟩ := oif_some hg
    obtain ⟨n3, en3, hg⟩ := obind_some hg
    rw [r11, hF.2.2.1] at en3
    cases en3
    obtain ⟨-, hg⟩ := oif_some hg
    obtain ⟨-, hg⟩ := oif_some hg
    obtain ⟨n6, en6, hg⟩ := obind_some hg
    rw [r11, em, nI_clamp (by omega), hF.2.2.2.2.2.2.2.2.2.1 m (by omega)] at en6
    cases en6
    obtain ⟨-, hg⟩ := oif_some hg
    obtain ⟨T13, e13, hg⟩ := elet_some hg
    rw [if_pos (e9.trans p11.2.2.1)] at hf
    obtain ⟨w11, e11', hf⟩ := elet_some hf
    rw [qr, em] at e11'
    have k11 : w11 = nI (25 + m) := e11'.trans (nI_add 25 m)
    obtain ⟨-, hf⟩ := oif_some hf
    obtain ⟨U13, e13', hf⟩ := elet_some hf
    rw [k11, nI_clamp (by omega)] at e13'
    have eS := osome1 (show some U13 = some S1 from hf)
    have g := osome3 hg
    rw [← g.2.2, ← eS]
    have hI : ∀ m' j : Nat, m' ≠ 6 → T13.2.2.1 m' j = if m' = s + 172 + m ∧ j = 9 then 1 else T.2.2.1 m' j := fun m' j h6 => by rw [e13, ui_get, t11.2.2.2 m' j h6]
    have PU : U2.2 = S.2 := m11.1.trans P2
    have hP : ∀ x : Nat, U13.2.1 11 x = S.2.1 11 x := fun x => by rw [e13', mf_ne (by decide), PU]
    have hD : ∀ x : Nat, U13.2.1 13 x = if x = 25 + m then 0 else S.2.1 13 x := fun x => by rw [e13', mf_at]; show (if x = 25 + m then 0 else U2.2.1 13 x) = _; rw [PU]
    have p13 := pr_uI (m := s + 172 + m) (k := 9) (v := 1) p11 (by omega)
    rw [← e13] at p13
    have p14 := pr_mfe p13 e13' (by decide)
    have r13 : T13.2.2.2.2 = T.2.2.2.2 := by rw [e13]; exact r11
    have iN : ∀ m' j : Nat, m' ≠ 6 → m' ≠ s + 172 + m ∨ j ≠ 9 → T13.2.2.1 m' j = T.2.2.1 m' j := fun m' j h6 h7 => by rw [hI m' j h6, if_neg (by omega)]
    refine .inl ⟨g.1.symm, ⟨_, by omega, p14⟩, ⟨gH.cg (fun j hj => iN _ _ (by omega) (by omega)) (fun j _ => hP j), gM.cg (iN _ _ (by omega) (by omega)) (fun m' j _ _ => iN _ _ (by omega) (by omega)) (fun j _ => hP j), gG.cg (fun k hk => iN _ _ (by omega) (by omega)) (fun k => iN _ _ (by omega) (by omega)) (fun j _ _ => hP j), ?_, gW.cg (iN _ _ (by omega) (by omega)) (fun k => iN _ _ (by omega) (by omega)) (fun k => iN _ _ (by omega) (by omega)) (fun j _ _ => hP j), gF.cg (iN _ _ (by omega) (by omega)) (hP _), gT.cg (iN _ _ (by omega) (by omega)) (fun k => iN _ _ (by omega) (by omega)) (fun j _ _ => hP j), gZ.cg (iN _ _ (by omega) (by omega)) (fun m' j _ _ => iN _ _ (by omega) (by omega)) (fun j _ _ => hP j), gD.cg (iN _ _ (by omega) (by omega)) (fun k => iN _ _ (by omega) (by omega)) (fun j _ _ => hP j), fun j hj => by rw [hD, if_neg (by omega)]; exact gX j hj⟩, r13⟩
    refine ⟨mc, b1, (iN _ _ (by omega) (by omega)).trans b2, (hP _).trans b3, fun k' hk' => ?_⟩
    have q := b4 k' hk'
    rw [iN (s + 172 + k') 0 (by omega) (by omega), iN (s + 172 + k') 5 (by omega) (by omega), iN (s + 172 + k') 6 (by omega) (by omega), iN (s + 172 + k') 7 (by omega) (by omega), iN (s + 172 + k') 8 (by omega) (by omega), iN (s + 172 + k') 1 (by omega) (by omega), iN (s + 172 + k') 2 (by omega) (by omega), iN (s + 172 + k') 3 (by omega) (by omega), iN (s + 172 + k') 4 (by omega) (by omega), hP, hP, hP, hP, hP, hD (31 + k'), hD (37 + k'), hD (43 + k'), hD (49 + k'), if_neg (show ¬ 31 + k' = 25 + m by omega), if_neg (show ¬ 37 + k' = 25 + m by omega), if_neg (show ¬ 43 + k' = 25 + m by omega), if_neg (show ¬ 49 + k' = 25 + m by omega)]
    refine ⟨q.1, q.2.1, q.2.2.1, q.2.2.2.1, q.2.2.2.2.1, ?_, q.2.2.2.2.2.2⟩
    by_cases e : k' = m
    · subst e
      right
      rw [hI _ _ (by omega), if_pos ⟨rfl, rfl⟩, hD, if_pos rfl]
      exact ⟨rfl, rfl⟩
    · rw [iN _ _ (by omega) (by omega), hD, if_neg (by omega)]
      exact q.2.2.2.2.2.1
end
end
section
/-! 20g.loops.lean.txt -/
section
variable {b : Nat → Int32} {n c i k s : Nat} {T T1 : AT} {S S1 : MS} {r : Int32}
/-- a weight is added on both sides -/
theorem k_shd {a x : Int32} {j : Nat} {w : Nat} {S0 : MS} (hs : s = 478 ∨ s = 656) (hF : SRF s T) (hC : SCNq s T (S.2.1 11) (S.2.1 13)) (hj : S.2.1 11 118 = nI j) (hj2 : j < 12) (ha : g_X6_addShade T s a = some T1) (p : PRq b n c i T S) (e0 : S0 = mf S 11 (upd (S.2.1 11) (119 + j) a)) (e1 : S1 = mf S0 11 (upd (S0.2.1 11) 118 (nI (j + 1)))) : PRq b n c i T1 S1 ∧ SCNq s T1 (S1.2.1 11) (S1.2.1 13) ∧ T1.2.2.2.2 = T.2.2.2.2 ∧ S1.2.1 11 118 = nI (j + 1) := by
  obtain ⟨gH, gM, gG, gS, gW, gF, gT, gZ, ⟨mc, b1, b2, b3, b4⟩, gX⟩ := hC
  have ej : mc = j := by
    rw [hj] at b3
    exact ((nI_eq (by omega) (by omega)).mp b3).symm
  subst ej
  unfold g_X6_addShade at ha
  obtain ⟨-, ha⟩ := oif_some ha
  obtain ⟨v3, e3, ha⟩ := elet_some ha
  rw [b2] at e3
  rw [if_neg (by rw [e3]; intro q; have := (nI_leI (a := 12) (b := mc) (by omega) (by omega)).mp q; omega)] at ha
  obtain ⟨-, ha⟩ := oif_some ha
  obtain ⟨n6, e6, ha⟩ := obind_some ha
  rw [hF.2.2.2.2.2.2.1] at e6
  cases e6
  obtain ⟨-, ha⟩ := oif_some ha
  obtain ⟨v8, e8, ha⟩ := elet_some ha
  rw [b2] at e8
  obtain ⟨-, ha⟩ := oif_some ha
  obtain ⟨-, ha⟩ := oif_some ha
  obtain ⟨T11, e11, ha⟩ := elet_some ha
  rw [e8, nI_clamp (by omega)] at e11
  obtain ⟨-, ha⟩ := oif_some ha
  obtain ⟨v13, e13, ha⟩ := elet_some ha
  rw [e11, ui_ne (by omega), b2] at e13
  obtain ⟨v14, e14, ha⟩ := elet_some ha
  rw [e13, nI_1] at e14
  obtain ⟨-, ha⟩ := oif_some ha
  obtain ⟨T16, e16, ha⟩ := elet_some ha
  have ha := osome1 (show some T16 = some T1 from ha)
  rw [← ha]
  have hI : ∀ m' j : Nat, T16.2.2.1 m' j = if m' = s ∧ j = 16 then nI (mc + 1) else if m' = s + 14 ∧ j = mc then a else T.2.2.1 m' j := fun m' j => by rw [e16, ui_get, e14, e11, ui_get]
  have hP : ∀ x : Nat, S1.2.1 11 x = if x = 118 then nI (mc + 1) else if x = 119 + mc then a else S.2.1 11 x := fun x => by
    rw [e1, mf_at]
    show (if x = 118 then nI (mc + 1) else S0.2.1 11 x) = _
    rw [e0, mf_at]
    rfl
  have hD : ∀ x : Nat, S1.2.1 13 x = S.2.1 13 x := fun x => by rw [e1, mf_ne (by decide), e0, mf_ne (by decide)]
  have iN : ∀ m' j : Nat, (m' ≠ s ∨ j ≠ 16) → m' ≠ s + 14 → T16.2.2.1 m' j = T.2.2.1 m' j := fun m' j h1 h2 => by rw [hI, if_neg (by omega), if_neg (by omega)]
  have pN : ∀ x : Nat, x < 118 → S1.2.1 11 x = S.2.1 11 x := fun x hx => by rw [hP, if_neg (by omega), if_neg (by omega)]
  have p11 := pr_uI (m := s + 14) (k := mc) (v := a) p (by omega)
  rw [← e11] at p11
  have p16 := pr_uI (m := s) (k := 16) (v := v14) p11 (by omega)
  rw [← e16] at p16
  have q0 := pr_mf (a := 11) (f := upd (S.2.1 11) (119 + mc) a) p16 (by decide)
  rw [← e0] at q0
  have q1 := pr_mf (a := 11) (f := upd (S0.2.1 11) 118 (nI (mc + 1))) q0 (by decide)
  rw [← e1] at q1
  refine ⟨q1, ⟨gH.cg (fun j hj => iN _ _ (by omega) (by omega)) (fun j hj => pN _ (by omega)), gM.cg (iN _ _ (by omega) (by omega)) (fun m' j _ _ => iN _ _ (by omega) (by omega)) (fun j hj => pN _ (by omega)), gG.cg (fun k hk => iN _ _ (by omega) (by omega)) (fun k => iN _ _ (by omega) (by omega)) (fun j hj hj2 => pN _ (by omega)), gS.cg (iN _ _ (by omega) (by omega)) (fun m' j _ _ => iN _ _ (by omega) (by omega)) (fun j hj => pN _ (by omega)) (fun j _ _ => hD j), gW.cg (iN _ _ (by omega) (by omega)) (fun k => iN _ _ (by omega) (by omega)) (fun k => iN _ _ (by omega) (by omega)) (fun j hj hj2 => pN _ (by omega)), gF.cg (iN _ _ (by omega) (by omega)) (pN _ (by omega)), gT.cg (iN _ _ (by omega) (by omega)) (fun k => iN _ _ (by omega) (by omega)) (fun j hj hj2 => pN _ (by omega)), gZ.cg (iN _ _ (by omega) (by omega)) (fun m' j _ _ => iN _ _ (by omega) (by omega)) (fun j hj hj2 => pN _ (by omega)), ?_, fun j hj => (hD j).trans (gX j hj)⟩, ?_, ?_⟩
  · refine ⟨mc + 1, by omega, by rw [hI, if_pos ⟨rfl, rfl⟩], by rw [hP, if_pos rfl], fun k hk => ?_⟩
    have hA := hI (s + 14) k
    have hB := hP (119 + k)
    rw [if_neg (by omega)] at hA hB
    rw [hA, hB]
    by_cases e : k = mc
    · rw [if_pos ⟨rfl, e⟩, if_pos (by omega)]
    · rw [if_neg (by omega), if_neg (by omega)]
      exact b4 k (by omega)
  · rw [e16, e11]; rfl
  · rw [hP, if_pos rfl]
theorem k_tap {a : Int32} {j : Nat} {S0 : MS} (hs : s = 478 ∨ s = 656) (hF : SRF s T) (hC : SCNq s T (S.2.1 11) (S.2.1 13)) (hj : S.2.1 11 77 = nI j) (hj2 : j < 5) (ha : g_X6_addTap T s a = some T1) (p : PRq b n c i T S) (e0 : S0 = mf S 11 (upd (S.2.1 11) (78 + j) a)) (e1 : S1 = mf S0 11 (upd (S0.2.1 11) 77 (nI (j + 1)))) : PRq b n c i T1 S1 ∧ SCNq s T1 (S1.2.1 11) (S1.2.1 13) ∧ T1.2.2.2.2 = T.2.2.2.2 ∧ S1.2.1 11 77 = nI (j + 1) := by
  obtain ⟨gH, gM, gG, gS, gW, gF, ⟨mc, b1, b2, b3, b4⟩, gZ, gD, gX⟩ := hC
  have ej : mc = j := by
    rw [hj] at b3
    exact ((nI_eq (by omega) (by omega)).mp b3).symm
  subst ej
  unfold g_X6_addTap at ha
  obtain ⟨-, ha⟩ := oif_some ha
  obtain ⟨v3, e3, ha⟩ := elet_some ha
  rw [b2] at e3
  rw [if_neg (by rw [e3]; intro q; have := (nI_leI (a := 5) (b := mc) (by omega) (by omega)).mp q; omega)] at ha
  obtain ⟨-, ha⟩ := oif_some ha
  obtain ⟨n6, e6, ha⟩ := obind_some ha
  rw [hF.2.2.2.2.2.1] at e6
  cases e6
  obtain ⟨-, ha⟩ := oif_some ha
  obtain ⟨v8, e8, ha⟩ := elet_some ha
  rw [b2] at e8
  obtain ⟨-, ha⟩ := oif_some ha
  obtain ⟨-, ha⟩ := oif_some ha
  obtain ⟨T11, e11, ha⟩ := elet_some ha
  rw [e8, nI_clamp (by omega)] at e11
  obtain ⟨-, ha⟩ := oif_some ha
  obtain ⟨v13, e13, ha⟩ := elet_some ha
  rw [e11, ui_ne (by omega), b2] at e13
  obtain ⟨v14, e14, ha⟩ := elet_some ha
  rw [e13, nI_1] at e14
  obtain ⟨-, ha⟩ := oif_some ha
  obtain ⟨T16, e16, ha⟩ := elet_some ha
  have ha := osome1 (show some T16 = some T1 from ha)
  rw [← ha]
  have hI : ∀ m' j : Nat, T16.2.2.1 m' j = if m' = s ∧ j = 14 then nI (mc + 1) else if m' = s + 13 ∧ j = mc then a else T.2.2.1 m' j := fun m' j => by rw [e16, ui_get, e14, e11, ui_get]
  have hP : ∀ x : Nat, S1.2.1 11 x = if x = 77 then nI (mc + 1) else if x = 78 + mc then a else S.2.1 11 x := fun x => by
    rw [e1, mf_at]
    show (if x = 77 then nI (mc + 1) else S0.2.1 11 x) = _
    rw [e0, mf_at]
    rfl
  have hD : ∀ x : Nat, S1.2.1 13 x = S.2.1 13 x := fun x => by rw [e1, mf_ne (by decide), e0, mf_ne (by decide)]
  have iN : ∀ m' j : Nat, (m' ≠ s ∨ j ≠ 14) → m' ≠ s + 13 → T16.2.2.1 m' j = T.2.2.1 m' j := fun m' j h1 h2 => by rw [hI, if_neg (by omega), if_neg (by omega)]
  have pN : ∀ x : Nat, x < 77 ∨ 83 ≤ x → S1.2.1 11 x = S.2.1 11 x := fun x hx => by rw [hP, if_neg (by omega), if_neg (by omega)]
  have p11 := pr_uI (m := s + 13) (k := mc) (v := a) p (by omega)
  rw [← e11] at p11
  have p16 := pr_uI (m := s) (k := 14) (v := v14) p11 (by omega)
  rw [← e16] at p16
  have q0 := pr_mf (a := 11) (f := upd (S.2.1 11) (78 + mc) a) p16 (by decide)
  rw [← e0] at q0
  have q1 := pr_mf (a := 11) (f := upd (S0.2.1 11) 77 (nI (mc + 1))) q0 (by decide)
  rw [← e1] at q1
  refine ⟨q1, ⟨gH.cg (fun j hj => iN _ _ (by omega) (by omega)) (fun j hj => pN _ (by omega)), gM.cg (iN _ _ (by omega) (by omega)) (fun m' j _ _ => iN _ _ (by omega) (by omega)) (fun j hj => pN _ (by omega)), gG.cg (fun k hk => iN _ _ (by omega) (by omega)) (fun k => iN _ _ (by omega) (by omega)) (fun j hj hj2 => pN _ (by omega)), gS.cg (iN _ _ (by omega) (by omega)) (fun m' j _ _ => iN _ _ (by omega) (by omega)) (fun j hj => pN _ (by omega)) (fun j _ _ => hD j), gW.cg (iN _ _ (by omega) (by omega)) (fun k => iN _ _ (by omega) (by omega)) (fun k => iN _ _ (by omega) (by omega)) (fun j hj hj2 => pN _ (by omega)), gF.cg (iN _ _ (by omega) (by omega)) (pN _ (by omega)), ?_, gZ.cg (iN _ _ (by omega) (by omega)) (fun m' j _ _ => iN _ _ (by omega) (by omega)) (fun j hj hj2 => pN _ (by omega)), gD.cg (iN _ _ (by omega) (by omega)) (fun k => iN _ _ (by omega) (by omega)) (fun j hj hj2 => pN _ (by omega)), fun j hj => (hD j).trans (gX j hj)⟩, ?_, ?_⟩
  · refine ⟨mc + 1, by omega, by rw [hI, if_pos ⟨rfl, rfl⟩], by rw [hP, if_pos rfl], fun k hk => ?_⟩
    have hA := hI (s + 13) k
    have hB := hP (78 + k)
    rw [if_neg (by omega)] at hA hB
    rw [hA, hB]
    by_cases e : k = mc
    · rw [if_pos ⟨rfl, e⟩, if_pos (by omega)]
    · rw [if_neg (by omega), if_neg (by omega)]
      exact b4 k (by omega)
  · rw [e16, e11]; rfl
  · rw [hP, if_pos rfl]
/-- more than fit: the number is out of its bounds, or there are too many -/
theorem k_many {a : Int32} {S2 S3 : MS} (ha : a = 9) (p : PRq b n c i T S) (hg : g_X3_failAsTooMany T 6 a = some (k, r, T1)) (h2 : kd b n (pst b n i) = 2 ∧ (∃ w, fr_look S 0 9 = some (w, S2)) ∨ kd b n (pst b n i) ≠ 2 ∧ S2 = S) (h3 : fr_faults S2 4 = some S3) : k = 3 ∧ ERq T1 S3 := by
  subst ha
  have h11 := p.1.2.2.2.2.2
  have h10 := p.1.2.2.2.2.1
  have q5 := p.2.2.1
  have qt := p.2.2.2.2.2.2.2
  unfold g_X3_failAsTooMany at hg
  obtain ⟨-, hg⟩ := oif_some hg
  obtain ⟨v3, e3, hg⟩ := elet_some hg
  rw [h11] at e3
  obtain ⟨-, hg⟩ := oif_some hg
  obtain ⟨r7, T5, e7, hg⟩ := obind2_some hg
  obtain ⟨k1, k2⟩ := k_kind p e7
  rw [k2] at hg
  have b26 : ∀ {e : Int32} {Sx : MS}, 0 < e.toInt → fr_faults S e = some Sx → g_X3_failAsTooMany_b26 T e v3 6 = some (k, r, T1) → k = 3 ∧ ERq T1 Sx := by
    intro e Sx he hf hg
    unfold g_X3_failAsTooMany_b26 at hg
    obtain ⟨-, hg⟩ := oif_some hg
    rw [e3] at hg
    rcases othr_k hg with ⟨r9, g9, -⟩ | ⟨r9, T9, g9, -⟩
    · exact k_err p h10 rfl he g9 hf
    · exact absurd (k_err p h10 rfl he g9 hf).1 (by decide)
  rcases h2 with ⟨ck, w, hl⟩ | ⟨ck, e⟩
  · rw [if_pos (k1.trans ck)] at hg
    obtain ⟨-, hg⟩ := oif_some hg
    obtain ⟨r13, T11, e13, hg⟩ := obind2_some hg
    obtain ⟨k3, k4⟩ := k_value p e13
    rw [k4] at hg
    unfold fr_look at hl
    obtain ⟨w2, d2, hl⟩ := elet_some hl
    rw [if_pos (by rw [d2, q5]; decide)] at hl
    obtain ⟨w4, d4, hl⟩ := elet_some hl
    rw [if_pos (d4.trans ((tk_num qt).mpr ck))] at hl
    obtain ⟨w6, d6, hl⟩ := elet_some hl
    rw [(qt.2.2.1 ck).2, ← k3] at d6
    obtain ⟨w7, d7, hl⟩ := obind_some hl
    rw [d6] at d7
    have v0 : 0 ≤ r13 := by rw [k3]; exact vf_pos p ck
    rcases tin2 d7 with ⟨c7, c8, c9⟩ | ⟨c7, c8⟩
    · rw [if_pos c9] at hg
      rw [if_neg (by rw [c7]; decide)] at hl
      unfold fr_look_b42 at hl
      obtain ⟨w8, d8, hl⟩ := elet_some hl
      rw [if_pos (by rw [d8, q5]; decide)] at hl
      obtain ⟨w9, d9, hl⟩ := elet_some hl
      have g5 := osome2 (show some (w9, S) = some (w, S2) from hl)
      rw [← g5.2] at h3
      exact b26 (by decide) h3 hg
    · rw [if_neg (fun q => c8 ⟨v0, q⟩)] at hg
      rw [if_pos c7] at hl
      obtain ⟨S10, f10, hl⟩ := obind_some hl
      obtain ⟨a1, a2⟩ := b26 (by decide) f10 hg
      unfold fr_look_b42 at hl
      obtain ⟨w8, d8, hl⟩ := elet_some hl
      rw [if_neg (st_le a2.1 d8)] at hl
      have g5 := osome2 (show some ((0 : Int32), S10) = some (w, S2) from hl)
      rw [← g5.2] at h3
      rw [st_faults a2.1 h3]
      exact ⟨a1, a2⟩
  · rw [if_neg (fun q => ck (k1.symm.trans q))] at hg
    rw [e] at h3
    exact b26 (by decide) h3 hg
theorem st_shade {U : MS} {l : Int32} {kk : MS → Option MS} (q : 0 < (U.1 5).toInt) (hf : fr_readShade_b44 kk U l = some S1) : S1 = U := by
  unfold fr_readShade_b44 at hf
  obtain ⟨U2, f2, hf⟩ := obind_some hf
  rw [st_next q f2] at hf
  obtain ⟨v5, e5, hf⟩ := elet_some hf
  rw [if_neg (st_le q e5)] at hf
  exact (osome1 hf).symm
theorem st_filt {U : MS} {kk : MS → Option MS} (q : 0 < (U.1 5).toInt) (hf : fr_readFilter_b65 kk U = some S1) : S1 = U := by
  unfold fr_readFilter_b65 at hf
  obtain ⟨w5, U2, f2, hf⟩ := obind2_some hf
  rw [st_signed q f2] at hf
  obtain ⟨v5, e5, hf⟩ := elet_some hf
  rw [if_neg (st_le q e5)] at hf
  exact (osome1 hf).symm
/-- the weights behind the first one -/
theorem k_shl (hs : s = 478 ∨ s = 656) : ∀ (f f2 : Nat) {i j k : Nat} {r : Int32} {T T1 : AT} {S S1 : MS}, PRq b n c i T S → SRF s T → SCNq s T (S.2.1 11) (S.2.1 13) → S.2.1 11 118 = nI j → 1 ≤ j → j ≤ 12 → g_X3_parseShade_b30 f T 6 s (nI j) = some (k, r, T1) → (elet (S.1 7) fun v14 => if v14 = 3 then (fr_readShade_b19 f2 S) else (some S)) = some S1 → (k = 0 ∧ (∃ j, i ≤ j ∧ PRq b n c j T1 S1) ∧ SCNq s T1 (S1.2.1 11) (S1.2.1 13) ∧ T1.2.2.2.2 = T.2.2.2.2) ∨ (k = 3 ∧ ERq T1 S1) := by
  intro f
  induction f with
  | zero => intro f2 i j k r T T1 S S1 p hF hC hj h1 h12 hg hf; cases hg
  | succ f ih =>
    intro f2 i j k r T T1 S S1 p hF hC hj h1 h12 hg hf
    have qt := p.2.2.2.2.2.2.2
    unfold g_X3_parseShade_b30 at hg
    rw [if_neg (by intro q; have := (nI_ltI (a := 12) (b := j) (by omega) (by omega)).mp q; omega)] at hg
    obtain ⟨-, hg⟩ := oif_some hg
    obtain ⟨r6, T4, e6, hg⟩ := obind2_some hg
    obtain ⟨k1, k2⟩ := k_kind p e6
    rw [k2] at hg
    obtain ⟨v14, e14, hf⟩ := elet_some hf
    by_cases ck : kd b n (pst b n i) = 2
    · rw [if_pos (k1.trans ck)] at hg
      rw [if_pos (e14.trans ((tk_num qt).mpr ck))] at hf
      cases f2 with
      | zero => cases hf
      | succ f2 =>
        unfold fr_readShade_b19 at hf
        obtain ⟨r5, S2, fS2, hf⟩ := obind2_some hf
        obtain ⟨v6, e6', hf⟩ := elet_some hf
        by_cases c12 : j = 12
        · rw [if_pos (by rw [c12]; rfl)] at hg
          obtain ⟨-, hg⟩ := oif_some hg
          have p118 : S2.2.1 11 118 = S.2.1 11 118 := by
            have := (w_fr_look fS2).2 11 (by decide)
            rw [this]
          rw [if_pos (by rw [e6', p118, hj, c12]; rfl)] at hf
          obtain ⟨S8, f8, hf⟩ := obind_some hf
          right
          rcases othr_k hg with ⟨r9, g9, -⟩ | ⟨r9, T9, g9, -⟩
          · obtain ⟨a1, a2⟩ := k_many rfl p g9 (.inl ⟨ck, r5, fS2⟩) f8
            rw [st_shade a2.1 hf]
            exact ⟨a1, a2⟩
          · exact absurd (k_many rfl p g9 (.inl ⟨ck, r5, fS2⟩) f8).1 (by decide)
        · rw [if_neg (by intro q; exact c12 ((nI_eq (a := j) (b := 12) (by omega) (by decide)).mp q))] at hg
          unfold g_X3_parseShade_b56 at hg
          obtain ⟨-, hg⟩ := oif_some hg
          have p118 : S2.2.1 11 118 = S.2.1 11 118 := by
            have := (w_fr_look fS2).2 11 (by decide)
            rw [this]
          rw [if_neg (by rw [e6', p118, hj]; intro q; exact c12 ((nI_eq (a := j) (b := 12) (by omega) (by decide)).mp q))] at hf
          rcases othr_k hg with ⟨r9, g9, z9⟩ | ⟨r5', T3, g9, hg⟩
          · rcases k_look p g9 fS2 with ⟨z, -⟩ | ⟨z1, z2⟩
            · exact absurd z z9
            · exact .inr ⟨z1, by rw [st_shade z2.1 hf]; exact z2⟩
          rcases k_look p g9 fS2 with ⟨-, qr, -, -, -, e3, e2⟩ | ⟨z1, -⟩
          rotate_left
          · exact absurd z1 (by decide)
          rw [e2] at hf
          unfold fr_readShade_b44 at hf
          obtain ⟨U2, fU2, hf⟩ := obind_some hf
          obtain ⟨p3, m3⟩ := pr_adv p (by rw [ck]; decide) fU2
          rw [← e3] at p3
          obtain ⟨v5, e5, hf⟩ := elet_some hf
          rw [if_pos (by rw [e5, p3.2.2.1]; decide)] at hf
          obtain ⟨v7, e7, hf⟩ := elet_some hf
          rw [m3.1, hj] at e7
          obtain ⟨v8, e8, hf⟩ := elet_some hf
          have k8 : v8 = nI (119 + j) := by rw [e8, e7]; exact nI_add 119 j
          obtain ⟨-, hf⟩ := oif_some hf
          obtain ⟨S10, e10, hf⟩ := elet_some hf
          rw [k8, nI_clamp (by omega), qr] at e10
          obtain ⟨v11, e11, hf⟩ := elet_some hf
          rw [e10, mf_at] at e11
          have e11 : v11 = nI j := by
            rw [e11]
            show (if 118 = 119 + j then r5' else U2.2.1 11 118) = _
            rw [if_neg (by omega), m3.1, hj]
          obtain ⟨v12, e12, hf⟩ := elet_some hf
          rw [e11, nI_1] at e12
          obtain ⟨S13, e13, hf⟩ := elet_some hf
          rw [e12] at e13
          obtain ⟨-, hg⟩ := oif_some hg
          obtain ⟨T8, e8', hg⟩ := obind_some hg
          obtain ⟨v10, e10', hg⟩ := elet_some hg
          have e10' : v10 = nI (j + 1) := e10'.trans (nI_1 j)
          rw [e10'] at hg
          have t3 : TFq T T3 := by rw [e3]; exact tf6
          have r3 : T3.2.2.2.2 = T.2.2.2.2 := congrArg (fun x => x.2) t3.2.2.1
          obtain ⟨a1, a2, a3, a4⟩ := k_shd (w := 0) (x := 0) hs (hF.sub r3) (by rw [m3.1]; exact scn_tf hs t3 hC) (by rw [m3.1]; exact hj) (by omega) e8' p3 e10 e13
          rcases ih f2 a1 (hF.sub (a3.trans r3)) a2 a4 (by omega) (by omega) hg hf with ⟨y1, ⟨j2, y2, y3⟩, y4, y5⟩ | y
          · exact .inl ⟨y1, ⟨j2, by omega, y3⟩, y4, y5.trans (a3.trans r3)⟩
          · exact .inr y
    · rw [if_neg (fun q => ck (k1.symm.trans q))] at hg
      rw [if_neg (fun q => ck ((tk_num qt).mp (e14.symm.trans q)))] at hf
      have g := osome3 (show some ((0 : Nat), (0 : Int32), T) = some (k, r, T1) from hg)
      have ff := osome1 hf
      rw [← ff, ← g.2.2]
      exact .inl ⟨g.1.symm, ⟨i, Nat.le_refl _, p⟩, hC, rfl⟩
set_option maxHeartbeats 400000 in
theorem l_shade (h : PRq b n c i T S) (hk : kd b n (pst b n i) = 1) (hs : s = 478 ∨ s = 656) (hF : SRF s T) (hC : SCNq s T (S.2.1 11) (S.2.1 13)) (hg : g_X3_parseShade T 6 s = some (k, r, T1)) (hf : fr_readShade S = some S1) : LNq b n c i s T T1 S1 k := by
  obtain ⟨mc, b1, b2, b3, b4⟩ := hC.2.2.2.2.2.2.2.2.1
  have z0 : (0 : Int32).toInt = 0 := by decide
  have qm : (nI mc).toInt = (mc : Int) := nI_toInt (by omega)
  unfold g_X3_parseShade at hg
  obtain ⟨-, hg⟩ := oif_some hg
  obtain ⟨v3, ev3, hg⟩ := elet_some hg
  rw [b2] at ev3
  unfold fr_readShade at hf
  obtain ⟨v2, ev2, hf⟩ := elet_some hf
  rw [b3] at ev2
  have key : ∃ (a0 : Int32) (Sa : MS), g_X3_parseShade_b13 T a0 6 6 s = some (k, r, T1) ∧ fr_readShade_b15 Sa = some S1 ∧ ((a0 = 0 ∧ Sa = S) ∨ (a0 ≠ 0 ∧ fr_faults S 3 = some Sa)) ∧ (a0 = 0 → mc = 0) := by
    by_cases cm : nI mc ≤ 0
    · rw [ev3, if_pos cm] at hg
      rw [ev2, if_pos cm] at hf
      have := i_le cm
      exact ⟨0, S, hg, hf, .inl ⟨rfl, rfl⟩, fun _ => by omega⟩
    · rw [ev3, if_neg cm] at hg
      rw [ev2, if_neg cm] at hf
      obtain ⟨S4, f4, hf⟩ := obind_some hf
      exact ⟨1, S4, hg, hf, .inr ⟨by decide, f4⟩, fun q => absurd q (by decide)⟩
  obtain ⟨a0, Sa, hg, hf, hcase, hmc⟩ := key
  unfold fr_readShade_b15 at hf
  obtain ⟨S2, fS2, hf⟩ := obind_some hf
  have fin19 : ∀ (f : Nat) {U : MS}, 0 < (U.1 5).toInt → fr_readShade_b19 f U = some S1 → S1 = U := by
    intro f U q hf
    cases f with
    | zero => cases hf
    | succ f =>
      unfold fr_readShade_b19 at hf
      obtain ⟨w5, U2, f2, hf⟩ := obind2_some hf
      rw [st_look q f2] at hf
      obtain ⟨v6, e6, hf⟩ := elet_some hf
      by_cases cc : v6 = 12
      · rw [if_pos cc] at hf
        obtain ⟨U8, f8, hf⟩ := obind_some hf
        rw [st_faults q f8] at hf
        exact st_shade q hf
      · rw [if_neg cc] at hf
        exact st_shade q hf
  unfold g_X3_parseShade_b13 at hg
  obtain ⟨-, hg⟩ := oif_some hg
  rcases othr_k hg with ⟨r9, g9, z9⟩ | ⟨r5, T3, g9, hg⟩
  · rcases k_line h hk (by decide) g9 hcase fS2 with ⟨z, -⟩ | ⟨z1, z2⟩
    · exact absurd z z9
    · exact .inr ⟨z1, by rw [fin19 _ z2.1 hf]; exact z2⟩
  rcases k_line h hk (by decide) g9 hcase fS2 with ⟨-, p3, t3, m2, za⟩ | ⟨z1, -⟩
  rotate_left
  · exact absurd z1 (by decide)
  have e0 := hmc za
  subst e0
  obtain ⟨-, hg⟩ := oif_some hg
  have hf : fr_readShade_b19 (16383 + 1) S2 = some S1 := hf
  unfold fr_readShade_b19 at hf
  obtain ⟨w5, S3, f3, hf⟩ := obind2_some hf
  obtain ⟨v6, e6, hf⟩ := elet_some hf
  have p118 : S3.2.1 11 118 = nI 0 := by
    have := (w_fr_look f3).2 11 (by decide)
    rw [this, m2.1, b3]
  rw [if_neg (by rw [e6, p118]; decide)] at hf
  rcases othr_k hg with ⟨r9, g9, z9⟩ | ⟨r10, T8, g9, hg⟩
  · rcases k_look p3 g9 f3 with ⟨z, -⟩ | ⟨z1, z2⟩
    · exact absurd z z9
    · exact .inr ⟨z1, by rw [st_shade z2.1 hf]; exact z2⟩
  rcases k_look p3 g9 f3 with ⟨-, qr, -, -, ck, e8, e3⟩ | ⟨z1, -⟩
  rotate_left
  · exact absurd z1 (by decide)
  rw [e3] at hf
  unfold fr_readShade_b44 at hf
  obtain ⟨U2, fU2, hf⟩ := obind_some hf
  obtain ⟨p8, m8⟩ := pr_adv p3 (by rw [ck]; decide) fU2
  rw [← e8] at p8
  have PU : U2.2 = S.2 := m8.1.trans m2.1
  obtain ⟨v5, e5, hf⟩ := elet_some hf
  rw [if_pos (by rw [e5, p8.2.2.1]; decide)] at hf
  obtain ⟨v7, e7, hf⟩ := elet_some hf
  rw [PU, b3] at e7
  obtain ⟨v8, e8', hf⟩ := elet_some hf
  have k8 : v8 = nI (119 + 0) := by rw [e8', e7]; exact nI_add 119 0
  obtain ⟨-, hf⟩ := oif_some hf
  obtain ⟨S10, e10, hf⟩ := elet_some hf
  rw [k8, nI_clamp (by omega), qr] at e10
  obtain ⟨v11, e11, hf⟩ := elet_some hf
  rw [e10, mf_at] at e11
  have e11 : v11 = nI 0 := by
    rw [e11]
    show (if 118 = 119 + 0 then r10 else U2.2.1 11 118) = _
    rw [if_neg (by omega), PU, b3]
  obtain ⟨v12, e12, hf⟩ := elet_some hf
  rw [e11, nI_1] at e12
  obtain ⟨S13, e13, hf⟩ := elet_some hf
  rw [e12] at e13
  obtain ⟨-, hg⟩ := oif_some hg
  obtain ⟨T13, e13', hg⟩ := obind_some hg
  have t8 : TFq T T8 := by rw [e8]; exact t3.tr tf6
  have r8 : T8.2.2.2.2 = T.2.2.2.2 := congrArg (fun x => x.2) t8.2.2.1
  obtain ⟨a1, a2, a3, a4⟩ := k_shd (w := 0) (x := 0) hs (hF.sub r8) (by rw [PU]; exact scn_tf hs t8 hC) (by rw [PU]; exact b3) (by omega) e13' p8 e10 e13
  rcases k_shl hs 16384 16383 a1 (hF.sub (a3.trans r8)) a2 a4 (by omega) (by omega) hg hf with ⟨y1, ⟨j2, y2, y3⟩, y4, y5⟩ | y
  · exact .inl ⟨y1, ⟨j2, by omega, y3⟩, y4, y5.trans (a3.trans r8)⟩
  · exact .inr y
end
end
section
/-! 20h.filt.lean.txt -/
section
variable {b : Nat → Int32} {n c i k s : Nat} {T T1 : AT} {S S1 : MS} {r : Int32}
/-- the taps behind the first one -/
theorem k_fll (hs : s = 478 ∨ s = 656) : ∀ (f f2 : Nat) {i j k : Nat} {r : Int32} {T T1 : AT} {S S1 : MS}, PRq b n c i T S → SRF s T → SCNq s T (S.2.1 11) (S.2.1 13) → S.2.1 11 77 = nI j → 1 ≤ j → j ≤ 5 → g_X3_parseFilter_b31 f T 6 s (nI j) = some (k, r, T1) → (elet (S.1 7) fun v15 => if v15 = 3 then (fr_readFilter_b19 f2 S) else (obind2 (fr_isSignHere S 45) fun r20 S17 => if r20 = 0 then (some S17) else (fr_readFilter_b19 f2 S17))) = some S1 → (k = 0 ∧ (∃ j, i ≤ j ∧ PRq b n c j T1 S1) ∧ SCNq s T1 (S1.2.1 11) (S1.2.1 13) ∧ T1.2.2.2.2 = T.2.2.2.2) ∨ (k = 3 ∧ ERq T1 S1) := by
  intro f
  induction f with
  | zero => intro f2 i j k r T T1 S S1 p hF hC hj h1 h12 hg hf; cases hg
  | succ f ih =>
    intro f2 i j k r T T1 S S1 p hF hC hj h1 h12 hg hf
    have qt := p.2.2.2.2.2.2.2
    -- one more
    have go : (kd b n (pst b n i) = 2 ∨ kd b n (pst b n i) = 3) → g_X3_parseFilter_b52 (g_X3_parseFilter_b31 f) T 6 s (nI j) = some (k, r, T1) → fr_readFilter_b19 f2 S = some S1 → (k = 0 ∧ (∃ j, i ≤ j ∧ PRq b n c j T1 S1) ∧ SCNq s T1 (S1.2.1 11) (S1.2.1 13) ∧ T1.2.2.2.2 = T.2.2.2.2) ∨ (k = 3 ∧ ERq T1 S1) := by
      intro hk hg hf
      cases f2 with
      | zero => cases hf
      | succ f2 =>
        unfold fr_readFilter_b19 at hf
        obtain ⟨v2, e2, hf⟩ := elet_some hf
        rw [hj] at e2
        unfold g_X3_parseFilter_b52 at hg
        by_cases c5 : j = 5
        · rw [if_pos (by rw [c5]; rfl)] at hg
          obtain ⟨-, hg⟩ := oif_some hg
          rw [if_pos (by rw [e2, c5]; rfl)] at hf
          unfold fr_readFilter_b35 at hf
          rw [if_neg (by decide)] at hf
          obtain ⟨v3, e3, hf⟩ := elet_some hf
          have key : ∃ S2 S3, (kd b n (pst b n i) = 2 ∧ (∃ w, fr_look S 0 9 = some (w, S2)) ∨ kd b n (pst b n i) ≠ 2 ∧ S2 = S) ∧ fr_faults S2 4 = some S3 ∧ fr_readFilter_b65 (fr_readFilter_b19 f2) S3 = some S1 := by
            by_cases ck : kd b n (pst b n i) = 2
            · rw [if_pos (e3.trans ((tk_num qt).mpr ck))] at hf
              obtain ⟨r8, S5, f5, hf⟩ := obind2_some hf
              unfold fr_readFilter_b56 at hf
              rw [if_neg (by decide)] at hf
              obtain ⟨S3, f3, hf⟩ := obind_some hf
              exact ⟨S5, S3, .inl ⟨ck, r8, f5⟩, f3, hf⟩
            · rw [if_neg (fun q => ck ((tk_num qt).mp (e3.symm.trans q)))] at hf
              unfold fr_readFilter_b56 at hf
              rw [if_neg (by decide)] at hf
              obtain ⟨S3, f3, hf⟩ := obind_some hf
              exact ⟨S, S3, .inr ⟨ck, rfl⟩, f3, hf⟩
          obtain ⟨S2, S3, a1, a2, a3⟩ := key
          right
          rcases othr_k hg with ⟨r9, g9, -⟩ | ⟨r9, T9, g9, -⟩
          · obtain ⟨y1, y2⟩ := k_many rfl p g9 a1 a2
            rw [st_filt y2.1 a3]
            exact ⟨y1, y2⟩
          · exact absurd (k_many rfl p g9 a1 a2).1 (by decide)
        · rw [if_neg (by intro q; exact c5 ((nI_eq (a := j) (b := 5) (by omega) (by decide)).mp q))] at hg
          rw [if_neg (by rw [e2]; intro q; exact c5 ((nI_eq (a := j) (b := 5) (by omega) (by decide)).mp q))] at hf
          unfold fr_readFilter_b35 at hf
          rw [if_pos rfl] at hf
          unfold fr_readFilter_b56 at hf
          rw [if_pos rfl] at hf
          unfold fr_readFilter_b65 at hf
          obtain ⟨r5, S2, f5, hf⟩ := obind2_some hf
          obtain ⟨v6, e6, hf⟩ := elet_some hf
          unfold g_X3_parseFilter_b63 at hg
          obtain ⟨-, hg⟩ := oif_some hg
          rcases othr_k hg with ⟨r9, g9, z9⟩ | ⟨r5', T3, g9, hg⟩
          · rcases k_signed p g9 f5 with ⟨z, -⟩ | ⟨z1, z2⟩
            · exact absurd z z9
            · rw [if_neg (st_le z2.1 e6)] at hf
              exact .inr ⟨z1, by rw [← osome1 hf]; exact z2⟩
          rcases k_signed p g9 f5 with ⟨-, qr, ⟨i3, l3, p3⟩, t3, m3⟩ | ⟨z1, -⟩
          rotate_left
          · exact absurd z1 (by decide)
          rw [if_pos (by rw [e6, p3.2.2.1]; decide)] at hf
          obtain ⟨v8, e8, hf⟩ := elet_some hf
          rw [m3.1, hj] at e8
          obtain ⟨v9, e9, hf⟩ := elet_some hf
          have k9 : v9 = nI (78 + j) := by rw [e9, e8]; exact nI_add 78 j
          obtain ⟨-, hf⟩ := oif_some hf
          obtain ⟨S11, e11, hf⟩ := elet_some hf
          rw [k9, nI_clamp (by omega), qr] at e11
          obtain ⟨v12, e12, hf⟩ := elet_some hf
          rw [e11, mf_at] at e12
          have e12 : v12 = nI j := by
            rw [e12]
            show (if 77 = 78 + j then r5' else S2.2.1 11 77) = _
            rw [if_neg (by omega), m3.1, hj]
          obtain ⟨v13, e13, hf⟩ := elet_some hf
          rw [e12, nI_1] at e13
          obtain ⟨S14, e14, hf⟩ := elet_some hf
          rw [e13] at e14
          obtain ⟨-, hg⟩ := oif_some hg
          obtain ⟨T8, e8', hg⟩ := obind_some hg
          obtain ⟨v10, e10', hg⟩ := elet_some hg
          have e10' : v10 = nI (j + 1) := e10'.trans (nI_1 j)
          rw [e10'] at hg
          have r3 : T3.2.2.2.2 = T.2.2.2.2 := congrArg (fun x => x.2) t3.2.2.1
          obtain ⟨a1, a2, a3, a4⟩ := k_tap hs (hF.sub r3) (by rw [m3.1]; exact scn_tf hs t3 hC) (by rw [m3.1]; exact hj) (by omega) e8' p3 e11 e14
          rcases ih f2 a1 (hF.sub (a3.trans r3)) a2 a4 (by omega) (by omega) hg hf with ⟨y1, ⟨j2, y2, y3⟩, y4, y5⟩ | y
          · exact .inl ⟨y1, ⟨j2, by omega, y3⟩, y4, y5.trans (a3.trans r3)⟩
          · exact .inr y
    unfold g_X3_parseFilter_b31 at hg
    rw [if_neg (by intro q; have := (nI_ltI (a := 5) (b := j) (by omega) (by omega)).mp q; omega)] at hg
    obtain ⟨-, hg⟩ := oif_some hg
    obtain ⟨r6, T4, e6, hg⟩ := obind2_some hg
    obtain ⟨k1, k2⟩ := k_kind p e6
    rw [k2] at hg
    obtain ⟨v15, e15, hf⟩ := elet_some hf
    by_cases ck : kd b n (pst b n i) = 2
    · rw [if_pos (k1.trans ck)] at hg
      rw [if_pos (e15.trans ((tk_num qt).mpr ck))] at hf
      exact go (.inl ck) hg hf
    · rw [if_neg (fun q => ck (k1.symm.trans q))] at hg
      rw [if_neg (fun q => ck ((tk_num qt).mp (e15.symm.trans q)))] at hf
      obtain ⟨-, hg⟩ := oif_some hg
      obtain ⟨r12, T10, e12, hg⟩ := obind2_some hg
      obtain ⟨k3, k4⟩ := k_kind p e12
      rw [k4] at hg
      obtain ⟨r20, S17, f20, hf⟩ := obind2_some hf
      obtain ⟨g1, g2⟩ := k_here p (.inl rfl) f20
      rw [if_pos rfl] at g2
      rw [g1] at hf
      rcases g2 with ⟨w1, cm⟩ | ⟨w1, cm⟩
      · rw [if_pos (k3.trans cm)] at hg
        rw [if_neg (by rw [w1]; decide)] at hf
        exact go (.inr cm) hg hf
      · rw [if_neg (fun q => cm (k3.symm.trans q))] at hg
        rw [if_pos w1] at hf
        have g := osome3 (show some ((0 : Nat), (0 : Int32), T) = some (k, r, T1) from hg)
        have ff := osome1 hf
        rw [← ff, ← g.2.2]
        exact .inl ⟨g.1.symm, ⟨i, Nat.le_refl _, p⟩, hC, rfl⟩
set_option maxHeartbeats 400000 in
theorem l_filter (h : PRq b n c i T S) (hk : kd b n (pst b n i) = 1) (hs : s = 478 ∨ s = 656) (hF : SRF s T) (hC : SCNq s T (S.2.1 11) (S.2.1 13)) (hg : g_X3_parseFilter T 6 s = some (k, r, T1)) (hf : fr_readFilter S = some S1) : LNq b n c i s T T1 S1 k := by
  obtain ⟨mc, b1, b2, b3, b4⟩ := hC.2.2.2.2.2.2.1
  have z0 : (0 : Int32).toInt = 0 := by decide
  have qm : (nI mc).toInt = (mc : Int) := nI_toInt (by omega)
  unfold g_X3_parseFilter at hg
  obtain ⟨-, hg⟩ := oif_some hg
  obtain ⟨v3, ev3, hg⟩ := elet_some hg
  rw [b2] at ev3
  unfold fr_readFilter at hf
  obtain ⟨v2, ev2, hf⟩ := elet_some hf
  rw [b3] at ev2
  have key : ∃ (a0 : Int32) (Sa : MS), g_X3_parseFilter_b13 T a0 6 6 s = some (k, r, T1) ∧ fr_readFilter_b15 Sa = some S1 ∧ ((a0 = 0 ∧ Sa = S) ∨ (a0 ≠ 0 ∧ fr_faults S 3 = some Sa)) ∧ (a0 = 0 → mc = 0) := by
    by_cases cm : nI mc ≤ 0
    · rw [ev3, if_pos cm] at hg
      rw [ev2, if_pos cm] at hf
      have := i_le cm
      exact ⟨0, S, hg, hf, .inl ⟨rfl, rfl⟩, fun _ => by omega⟩
    · rw [ev3, if_neg cm] at hg
      rw [ev2, if_neg cm] at hf
      obtain ⟨S4, f4, hf⟩ := obind_some hf
      exact ⟨1, S4, hg, hf, .inr ⟨by decide, f4⟩, fun q => absurd q (by decide)⟩
  obtain ⟨a0, Sa, hg, hf, hcase, hmc⟩ := key
  unfold fr_readFilter_b15 at hf
  obtain ⟨S2, fS2, hf⟩ := obind_some hf
  have fin56 : ∀ (f : Nat) {U : MS} {l : Int32}, 0 < (U.1 5).toInt → fr_readFilter_b56 (fr_readFilter_b19 f) U l = some S1 → S1 = U := by
    intro f U l q hf
    unfold fr_readFilter_b56 at hf
    by_cases cc : l = 0
    · rw [if_pos cc] at hf
      exact st_filt q hf
    · rw [if_neg cc] at hf
      obtain ⟨U3, f3, hf⟩ := obind_some hf
      rw [st_faults q f3] at hf
      exact st_filt q hf
  have fin35 : ∀ (f : Nat) {U : MS} {l : Int32}, 0 < (U.1 5).toInt → fr_readFilter_b35 (fr_readFilter_b19 f) U l = some S1 → S1 = U := by
    intro f U l q hf
    unfold fr_readFilter_b35 at hf
    by_cases cc : l = 0
    · rw [if_pos cc] at hf
      exact fin56 f q hf
    · rw [if_neg cc] at hf
      obtain ⟨v3, e3, hf⟩ := elet_some hf
      by_cases c3 : v3 = 3
      · rw [if_pos c3] at hf
        obtain ⟨r8, U5, f5, hf⟩ := obind2_some hf
        rw [st_look q f5] at hf
        exact fin56 f q hf
      · rw [if_neg c3] at hf
        exact fin56 f q hf
  have fin19 : ∀ (f : Nat) {U : MS}, 0 < (U.1 5).toInt → fr_readFilter_b19 f U = some S1 → S1 = U := by
    intro f U q hf
    cases f with
    | zero => cases hf
    | succ f =>
      unfold fr_readFilter_b19 at hf
      obtain ⟨v6, e6, hf⟩ := elet_some hf
      by_cases cc : v6 = 5
      · rw [if_pos cc] at hf
        exact fin35 f q hf
      · rw [if_neg cc] at hf
        exact fin35 f q hf
  unfold g_X3_parseFilter_b13 at hg
  obtain ⟨-, hg⟩ := oif_some hg
  rcases othr_k hg with ⟨r9, g9, z9⟩ | ⟨r5, T3, g9, hg⟩
  · rcases k_line h hk (by decide) g9 hcase fS2 with ⟨z, -⟩ | ⟨z1, z2⟩
    · exact absurd z z9
    · exact .inr ⟨z1, by rw [fin19 _ z2.1 hf]; exact z2⟩
  rcases k_line h hk (by decide) g9 hcase fS2 with ⟨-, p3, t3, m2, za⟩ | ⟨z1, -⟩
  rotate_left
  · exact absurd z1 (by decide)
  have e0 := hmc za
  subst e0
  obtain ⟨-, hg⟩ := oif_some hg
  have hf : fr_readFilter_b19 (16383 + 1) S2 = some S1 := hf
  unfold fr_readFilter_b19 at hf
  obtain ⟨v6, e6, hf⟩ := elet_some hf
  rw [m2.1, b3] at e6
  rw [if_neg (by rw [e6]; decide)] at hf
  unfold fr_readFilter_b35 at hf
  rw [if_pos rfl] at hf
  unfold fr_readFilter_b56 at hf
  rw [if_pos rfl] at hf
  unfold fr_readFilter_b65 at hf
  obtain ⟨w5, S5, f5, hf⟩ := obind2_some hf
  obtain ⟨v7, e7, hf⟩ := elet_some hf
  rcases othr_k hg with ⟨r9, g9, z9⟩ | ⟨r10, T8, g9, hg⟩
  · rcases k_signed p3 g9 f5 with ⟨z, -⟩ | ⟨z1, z2⟩
    · exact absurd z z9
    · rw [if_neg (st_le z2.1 e7)] at hf
      exact .inr ⟨z1, by rw [← osome1 hf]; exact z2⟩
  rcases k_signed p3 g9 f5 with ⟨-, qr, ⟨i8, l8, p8⟩, t8, m8⟩ | ⟨z1, -⟩
  rotate_left
  · exact absurd z1 (by decide)
  rw [if_pos (by rw [e7, p8.2.2.1]; decide)] at hf
  have PU : S5.2 = S.2 := m8.1.trans m2.1
  obtain ⟨v8, e8, hf⟩ := elet_some hf
  rw [PU, b3] at e8
  obtain ⟨v9, e9, hf⟩ := elet_some hf
  have k9 : v9 = nI (78 + 0) := by rw [e9, e8]; exact nI_add 78 0
  obtain ⟨-, hf⟩ := oif_some hf
  obtain ⟨S11, e11, hf⟩ := elet_some hf
  rw [k9, nI_clamp (by omega), qr] at e11
  obtain ⟨v12, e12, hf⟩ := elet_some hf
  rw [e11, mf_at] at e12
  have e12 : v12 = nI 0 := by
    rw [e12]
    show (if 77 = 78 + 0 then r10 else S5.2.1 11 77) = _
    rw [if_neg (by omega), PU, b3]
  obtain ⟨v13, e13, hf⟩ := elet_some hf
  rw [e12, nI_1] at e13
  obtain ⟨S14, e14, hf⟩ := elet_some hf
  rw [e13] at e14
  obtain ⟨-, hg⟩ := oif_some hg
  obtain ⟨T13, e13', hg⟩ := obind_some hg
  have t38 : TFq T T8 := t3.tr t8
  have r8 : T8.2.2.2.2 = T.2.2.2.2 := congrArg (fun x => x.2) t38.2.2.1
  obtain ⟨a1, a2, a3, a4⟩ := k_tap hs (hF.sub r8) (by rw [PU]; exact scn_tf hs t38 hC) (by rw [PU]; exact b3) (by omega) e13' p8 e11 e14
  rcases k_fll hs 16384 16383 a1 (hF.sub (a3.trans r8)) a2 a4 (by omega) (by omega) hg hf with ⟨y1, ⟨j2, y2, y3⟩, y4, y5⟩ | y
  · exact .inl ⟨y1, ⟨j2, by omega, y3⟩, y4, y5.trans (a3.trans r8)⟩
  · exact .inr y
end
end
section
/-! 20i.text.lean.txt -/
section
variable {b : Nat → Int32} {n c i k s : Nat} {T T1 : AT} {S S1 : MS} {r : Int32}
theorem wl15 : ["camera", "distance", "step", "samples", "limit", "mic", "map", "source", "wall", "fade", "filter", "clock", "zone", "shade", "off"].all (fun w => Nat.ble (sTx w).1 8) = true := by decide +kernel
theorem wl_of {w : String} (h : w ∈ ["camera", "distance", "step", "samples", "limit", "mic", "map", "source", "wall", "fade", "filter", "clock", "zone", "shade", "off"]) : (sTx w).1 ≤ 8 := Nat.le_of_ble_eq_true (List.all_eq_true.mp wl15 w h)
theorem er_st (h : ERq T S) (e : S1.1 = S.1) : ERq T S1 := by
  unfold ERq at h ⊢
  rw [e]
  exact h
/-- a keyword and its number -/
theorem k_gauge {tx : Nat × (Nat → Int32)} {a0 a1 r2 : Int32} (ht : tx.1 ≤ 8) (h : PRq b n c i T S) (hf : fr_gauge S tx a0 a1 = some (r2, S1)) : (∀ (k : Nat) (r : Int32) (Ta : AT), g_X3_takeWord T tx 6 = some (k, r, Ta) → (k = 3 ∧ ERq Ta S1) ∨ (k = 0 ∧ ∀ (k' : Nat) (r' : Int32) (Tb : AT), g_X3_number Ta 6 a0 a1 = some (k', r', Tb) → (k' = 3 ∧ ERq Tb S1) ∨ (k' = 0 ∧ r2 = r' ∧ (∃ j, i < j ∧ PRq b n c j Tb S1) ∧ TFq T Tb ∧ MFq S S1))) := by
  intro k r Ta hg
  unfold fr_gauge at hf
  obtain ⟨S2, f2, hf⟩ := obind_some hf
  obtain ⟨r8, S5, f5, hf⟩ := obind2_some hf
  have ff := osome2 hf
  rw [← ff.2]
  rcases k_take ht h hg f2 with ⟨k0, ⟨j, hj, p⟩, t, m⟩ | ⟨k3, e⟩
  · refine .inr ⟨k0, fun k' r' Tb hg2 => ?_⟩
    rcases k_number p hg2 f5 with ⟨y1, y2, -, -, y3, y4, y5⟩ | ⟨y1, y2⟩
    · exact .inr ⟨y1, ff.1.symm.trans y2, ⟨j + 1, by omega, y3⟩, t.tr y4, m.tr y5⟩
    · exact .inl ⟨y1, y2⟩
  · exact .inl ⟨k3, by rw [st_number e.1 f5]; exact e⟩
theorem scn0_uI {P D : Nat → Int32} {j : Nat} {v : Int32} (hs : s = 478 ∨ s = 656) (hj : j < 4) (q : SCN0 s T P D) (P1 : Nat → Int32) (hP : ∀ x, 4 ≤ x → P1 x = P x) : SCN0 s (uI T s j v) P1 D := by
  have e : ∀ m x, m ≠ s ∨ 4 ≤ x → (uI T s j v).2.2.1 m x = T.2.2.1 m x := fun m x h => ui_ne (by omega)
  exact ⟨q.1.cg (e _ _ (by omega)) (fun m j _ _ => e _ _ (by omega)) (fun x _ => hP x (by omega)), q.2.1.cg (fun j _ => e _ _ (by omega)) (fun j => e _ _ (by omega)) (fun x _ _ => hP x (by omega)), q.2.2.1.cg (e _ _ (by omega)) (fun m j _ _ => e _ _ (by omega)) (fun x _ => hP x (by omega)) (fun _ _ _ => rfl), q.2.2.2.1.cg (e _ _ (by omega)) (fun j => e _ _ (by omega)) (fun j => e _ _ (by omega)) (fun x _ _ => hP x (by omega)), q.2.2.2.2.1.cg (e _ _ (by omega)) (hP _ (by omega)), q.2.2.2.2.2.1.cg (e _ _ (by omega)) (fun j => e _ _ (by omega)) (fun x _ _ => hP x (by omega)), q.2.2.2.2.2.2.1.cg (e _ _ (by omega)) (fun m j _ _ => e _ _ (by omega)) (fun x _ _ => hP x (by omega)), q.2.2.2.2.2.2.2.1.cg (e _ _ (by omega)) (fun j => e _ _ (by omega)) (fun x _ _ => hP x (by omega)), q.2.2.2.2.2.2.2.2⟩
theorem scn0_tf {P D : Nat → Int32} (hs : s = 478 ∨ s = 656) (h : TFq T T1) (q : SCN0 s T P D) : SCN0 s T1 P D := by
  have e : ∀ m j, m ≠ 6 → T1.2.2.1 m j = T.2.2.1 m j := h.2.2.2
  exact ⟨q.1.cg (e _ _ (by omega)) (fun m j _ _ => e _ _ (by omega)) (fun _ _ => rfl), q.2.1.cg (fun j _ => e _ _ (by omega)) (fun j => e _ _ (by omega)) (fun _ _ _ => rfl), q.2.2.1.cg (e _ _ (by omega)) (fun m j _ _ => e _ _ (by omega)) (fun _ _ => rfl) (fun _ _ _ => rfl), q.2.2.2.1.cg (e _ _ (by omega)) (fun j => e _ _ (by omega)) (fun j => e _ _ (by omega)) (fun _ _ _ => rfl), q.2.2.2.2.1.cg (e _ _ (by omega)) rfl, q.2.2.2.2.2.1.cg (e _ _ (by omega)) (fun j => e _ _ (by omega)) (fun _ _ _ => rfl), q.2.2.2.2.2.2.1.cg (e _ _ (by omega)) (fun m j _ _ => e _ _ (by omega)) (fun _ _ _ => rfl), q.2.2.2.2.2.2.2.1.cg (e _ _ (by omega)) (fun j => e _ _ (by omega)) (fun _ _ _ => rfl), q.2.2.2.2.2.2.2.2⟩
/-- the word, the number, what is written: one of the four of the first line -/
theorem k_head {tx : Nat × (Nat → Int32)} {a0 a1 r2 : Int32} {x : Nat} {S2 : MS} (hs : s = 478 ∨ s = 656) (hx : x < 4) (ht : tx.1 ≤ 8) (h : PRq b n c i T S) (hC : SCN0 s T (S.2.1 11) (S.2.1 13)) (hf : fr_gauge S tx a0 a1 = some (r2, S1)) (e2 : S2 = mf S1 11 (upd (S1.2.1 11) x r2)) : (∀ (k : Nat) (r : Int32) (Ta : AT), g_X3_takeWord T tx 6 = some (k, r, Ta) → (k = 3 ∧ ERq Ta S2) ∨ (k = 0 ∧ ∀ (k' : Nat) (r' : Int32) (Tb : AT), g_X3_number Ta 6 a0 a1 = some (k', r', Tb) → (k' = 3 ∧ ERq Tb S2) ∨ (k' = 0 ∧ ∀ (Tc : AT), Tc = uI Tb s x r' → (∃ j, i < j ∧ PRq b n c j Tc S2) ∧ SCN0 s Tc (S2.2.1 11) (S2.2.1 13) ∧ Tc.2.2.2.2 = T.2.2.2.2 ∧ Tc.2.2.1 s x = S2.2.1 11 x ∧ (∀ y, y ≠ x → Tc.2.2.1 s y = T.2.2.1 s y) ∧ ∀ y, y ≠ x → S2.2.1 11 y = S.2.1 11 y))) := by
  intro k r Ta hg
  have s2 : S2.1 = S1.1 := by rw [e2]; rfl
  rcases k_gauge ht h hf _ _ _ hg with ⟨k3, e⟩ | ⟨k0, kk⟩
  · exact .inl ⟨k3, er_st e s2⟩
  refine .inr ⟨k0, fun k' r' Tb hg2 => ?_⟩
  rcases kk _ _ _ hg2 with ⟨k3, e⟩ | ⟨k0', er, ⟨j, hj, p⟩, t, m⟩
  · exact .inl ⟨k3, er_st e s2⟩
  refine .inr ⟨k0', fun Tc ec => ?_⟩
  have pc := pr_uI (m := s) (k := x) (v := r') p (by omega)
  rw [← ec] at pc
  have pd := pr_mf (a := 11) (f := upd (S1.2.1 11) x r2) pc (by decide)
  rw [← e2] at pd
  have hP : ∀ y, S2.2.1 11 y = if y = x then r2 else S.2.1 11 y := fun y => by
    rw [e2, mf_at]
    show (if y = x then r2 else S1.2.1 11 y) = _
    rw [m.1]
  have hD : S2.2.1 13 = S.2.1 13 := by rw [e2, mf_ne (by decide), m.1]
  refine ⟨⟨j, hj, pd⟩, ?_, ?_, ?_, fun y hy => ?_, fun y hy => ?_⟩
  · rw [ec, hD]
    exact scn0_uI hs hx (scn0_tf hs t hC) _ (fun y hy => by rw [hP, if_neg (by omega)])
  · rw [ec]; exact congrArg (fun x => x.2) t.2.2.1
  · rw [ec, ui_at, hP, if_pos rfl, er]
  · rw [ec, ui_ne (.inr hy)]; exact t.2.2.2 _ _ (by omega)
  · rw [hP, if_neg hy]
theorem st_g {tx : Nat × (Nat → Int32)} {a0 a1 r2 : Int32} {x : Nat} {S2 : MS} (q : 0 < (S.1 5).toInt) (hf : fr_gauge S tx a0 a1 = some (r2, S1)) (e2 : S2 = mf S1 11 (upd (S1.2.1 11) x r2)) : S2.1 = S.1 := by
  rw [e2, st_gauge q hf]
  rfl
set_option maxHeartbeats 400000 in
theorem l_head (h : PRq b n c i T S) (hs : s = 478 ∨ s = 656) (hC : SCN0 s T (S.2.1 11) (S.2.1 13)) (hg : g_X3_parseHead T 6 s = some (k, r, T1)) (hf : fr_readFirst S = some S1) : LNq b n c i s T T1 S1 k := by
  unfold fr_readFirst at hf
  obtain ⟨S3, f3, hf⟩ := obind_some hf
  obtain ⟨r10, S7, f7, hf⟩ := obind2_some hf
  obtain ⟨S11, e11, hf⟩ := elet_some hf
  obtain ⟨r16, S13, f13, hf⟩ := obind2_some hf
  obtain ⟨S17, e17, hf⟩ := elet_some hf
  obtain ⟨r22, S19, f19, hf⟩ := obind2_some hf
  obtain ⟨S23, e23, hf⟩ := elet_some hf
  obtain ⟨r28, S25, f25, hf⟩ := obind2_some hf
  obtain ⟨S29, e29, hf⟩ := elet_some hf
  rw [← osome1 hf]
  have n23 : 0 < (S23.1 5).toInt → S29.1 = S23.1 := fun q => st_g q f25 e29
  have n17 : 0 < (S17.1 5).toInt → S29.1 = S17.1 := fun q => by
    have e := st_g q f19 e23
    exact (n23 (by rw [e]; exact q)).trans e
  have n11 : 0 < (S11.1 5).toInt → S29.1 = S11.1 := fun q => by
    have e := st_g q f13 e17
    exact (n17 (by rw [e]; exact q)).trans e
  have n3 : 0 < (S3.1 5).toInt → S29.1 = S3.1 := fun q => by
    have e := st_g q f7 e11
    exact (n11 (by rw [e]; exact q)).trans e
  unfold g_X3_parseHead at hg
  obtain ⟨-, hg⟩ := oif_some hg
  rcases othr_k hg with ⟨r9, g9, z9⟩ | ⟨r6, T4, g9, hg⟩
  · rcases k_take (wl_of (by decide)) h g9 f3 with ⟨z, -⟩ | ⟨z1, z2⟩
    · exact absurd z z9
    · exact .inr ⟨z1, er_st z2 (n3 z2.1)⟩
  rcases k_take (wl_of (by decide)) h g9 f3 with ⟨-, ⟨i4, l4, p4⟩, t4, m4⟩ | ⟨z1, -⟩
  rotate_left
  · exact absurd z1 (by decide)
  have C4 : SCN0 s T4 (S3.2.1 11) (S3.2.1 13) := by rw [m4.1]; exact scn0_tf hs t4 hC
  have R4 : T4.2.2.2.2 = T.2.2.2.2 := congrArg (fun x => x.2) t4.2.2.1
  obtain ⟨-, hg⟩ := oif_some hg
  have H1 := k_head hs (x := 0) (by decide) (wl_of (by decide)) p4 C4 f7 e11
  rcases othr_k hg with ⟨r9, g9, z9⟩ | ⟨r12, T10, g9, hg⟩
  · rcases H1 _ _ _ g9 with ⟨z1, z2⟩ | ⟨z, -⟩
    · exact .inr ⟨z1, er_st z2 (n11 z2.1)⟩
    · exact absurd z z9
  rcases H1 _ _ _ g9 with ⟨z1, -⟩ | ⟨-, H1⟩
  · exact absurd z1 (by decide)
  obtain ⟨-, hg⟩ := oif_some hg
  rcases othr_k hg with ⟨r9, g9, z9⟩ | ⟨r17, T15, g9, hg⟩
  · rcases H1 _ _ _ g9 with ⟨z1, z2⟩ | ⟨z, -⟩
    · exact .inr ⟨z1, er_st z2 (n11 z2.1)⟩
    · exact absurd z z9
  rcases H1 _ _ _ g9 with ⟨z1, -⟩ | ⟨-, H1⟩
  · exact absurd z1 (by decide)
  obtain ⟨-, hg⟩ := oif_some hg
  obtain ⟨T20, e20, hg⟩ := elet_some hg
  obtain ⟨⟨i5, l5, p5⟩, C5, R5, v5, o5, w5⟩ := H1 _ e20
  obtain ⟨-, hg⟩ := oif_some hg
  have H2 := k_head hs (x := 1) (by decide) (wl_of (by decide)) p5 C5 f13 e17
  rcases othr_k hg with ⟨r9, g9, z9⟩ | ⟨r25, T23, g9, hg⟩
  · rcases H2 _ _ _ g9 with ⟨z1, z2⟩ | ⟨z, -⟩
    · exact .inr ⟨z1, er_st z2 (n17 z2.1)⟩
    · exact absurd z z9
  rcases H2 _ _ _ g9 with ⟨z1, -⟩ | ⟨-, H2⟩
  · exact absurd z1 (by decide)
  obtain ⟨-, hg⟩ := oif_some hg
  rcases othr_k hg with ⟨r9, g9, z9⟩ | ⟨r30, T28, g9, hg⟩
  · rcases H2 _ _ _ g9 with ⟨z1, z2⟩ | ⟨z, -⟩
    · exact .inr ⟨z1, er_st z2 (n17 z2.1)⟩
    · exact absurd z z9
  rcases H2 _ _ _ g9 with ⟨z1, -⟩ | ⟨-, H2⟩
  · exact absurd z1 (by decide)
  obtain ⟨-, hg⟩ := oif_some hg
  obtain ⟨T33, e33, hg⟩ := elet_some hg
  obtain ⟨⟨i6, l6, p6⟩, C6, R6, v6, o6, w6⟩ := H2 _ e33
  obtain ⟨-, hg⟩ := oif_some hg
  have H3 := k_head hs (x := 2) (by decide) (wl_of (by decide)) p6 C6 f19 e23
  rcases othr_k hg with ⟨r9, g9, z9⟩ | ⟨r38, T36, g9, hg⟩
  · rcases H3 _ _ _ g9 with ⟨z1, z2⟩ | ⟨z, -⟩
    · exact .inr ⟨z1, er_st z2 (n23 z2.1)⟩
    · exact absurd z z9
  rcases H3 _ _ _ g9 with ⟨z1, -⟩ | ⟨-, H3⟩
  · exact absurd z1 (by decide)
  obtain ⟨-, hg⟩ := oif_some hg
  rcases othr_k hg with ⟨r9, g9, z9⟩ | ⟨r43, T41, g9, hg⟩
  · rcases H3 _ _ _ g9 with ⟨z1, z2⟩ | ⟨z, -⟩
    · exact .inr ⟨z1, er_st z2 (n23 z2.1)⟩
    · exact absurd z z9
  rcases H3 _ _ _ g9 with ⟨z1, -⟩ | ⟨-, H3⟩
  · exact absurd z1 (by decide)
  obtain ⟨-, hg⟩ := oif_some hg
  obtain ⟨T46, e46, hg⟩ := elet_some hg
  obtain ⟨⟨i7, l7, p7⟩, C7, R7, v7, o7, w7⟩ := H3 _ e46
  obtain ⟨-, hg⟩ := oif_some hg
  have H4 := k_head hs (x := 3) (by decide) (wl_of (by decide)) p7 C7 f25 e29
  rcases othr_k hg with ⟨r9, g9, z9⟩ | ⟨r51, T49, g9, hg⟩
  · rcases H4 _ _ _ g9 with ⟨z1, z2⟩ | ⟨z, -⟩
    · exact .inr ⟨z1, z2⟩
    · exact absurd z z9
  rcases H4 _ _ _ g9 with ⟨z1, -⟩ | ⟨-, H4⟩
  · exact absurd z1 (by decide)
  obtain ⟨-, hg⟩ := oif_some hg
  rcases othr_k hg with ⟨r9, g9, z9⟩ | ⟨r56, T54, g9, hg⟩
  · rcases H4 _ _ _ g9 with ⟨z1, z2⟩ | ⟨z, -⟩
    · exact .inr ⟨z1, z2⟩
    · exact absurd z z9
  rcases H4 _ _ _ g9 with ⟨z1, -⟩ | ⟨-, H4⟩
  · exact absurd z1 (by decide)
  obtain ⟨-, hg⟩ := oif_some hg
  obtain ⟨T59, e59, hg⟩ := elet_some hg
  obtain ⟨⟨i8, l8, p8⟩, C8, R8, v8, o8, w8⟩ := H4 _ e59
  have g := osome3 hg
  rw [← g.2.2]
  refine .inl ⟨g.1.symm, ⟨i8, by omega, p8⟩, ⟨⟨?_, ?_, ?_, v8⟩, C8⟩, R8.trans (R7.trans (R6.trans (R5.trans R4)))⟩
  · rw [o8 0 (by decide), o7 0 (by decide), o6 0 (by decide), v5, w8 0 (by decide), w7 0 (by decide), w6 0 (by decide)]
  · rw [o8 1 (by decide), o7 1 (by decide), v6, w8 1 (by decide), w7 1 (by decide)]
  · rw [o8 2 (by decide), v7, w8 2 (by decide)]
end
end
section
/-! 20j.line.lean.txt -/
section
variable {b : Nat → Int32} {n c i k s : Nat} {T T1 : AT} {S S1 : MS} {r : Int32}
theorem wq10 : [("mic", "map"), ("mic", "source"), ("mic", "wall"), ("mic", "fade"), ("mic", "filter"), ("mic", "clock"), ("mic", "zone"), ("mic", "shade"), ("mic", "off"), ("map", "source"), ("map", "wall"), ("map", "fade"), ("map", "filter"), ("map", "clock"), ("map", "zone"), ("map", "shade"), ("map", "off"), ("source", "wall"), ("source", "fade"), ("source", "filter"), ("source", "clock"), ("source", "zone"), ("source", "shade"), ("source", "off"), ("wall", "fade"), ("wall", "filter"), ("wall", "clock"), ("wall", "zone"), ("wall", "shade"), ("wall", "off"), ("fade", "filter"), ("fade", "clock"), ("fade", "zone"), ("fade", "shade"), ("fade", "off"), ("filter", "clock"), ("filter", "zone"), ("filter", "shade"), ("filter", "off"), ("clock", "zone"), ("clock", "shade"), ("clock", "off"), ("zone", "shade"), ("zone", "off"), ("shade", "off"), ("map", "mic"), ("source", "mic"), ("wall", "mic"), ("fade", "mic"), ("filter", "mic"), ("clock", "mic"), ("zone", "mic"), ("shade", "mic"), ("off", "mic"), ("source", "map"), ("wall", "map"), ("fade", "map"), ("filter", "map"), ("clock", "map"), ("zone", "map"), ("shade", "map"), ("off", "map"), ("wall", "source"), ("fade", "source"), ("filter", "source"), ("clock", "source"), ("zone", "source"), ("shade", "source"), ("off", "source"), ("fade", "wall"), ("filter", "wall"), ("clock", "wall"), ("zone", "wall"), ("shade", "wall"), ("off", "wall"), ("filter", "fade"), ("clock", "fade"), ("zone", "fade"), ("shade", "fade"), ("off", "fade"), ("clock", "filter"), ("zone", "filter"), ("shade", "filter"), ("off", "filter"), ("zone", "clock"), ("shade", "clock"), ("off", "clock"), ("shade", "zone"), ("off", "zone"), ("off", "shade")].all (fun p => wxq (sTx p.1) (sTx p.2)) = true := by decide +kernel
theorem wx10 {u v : String} {p : Nat} (h : (u, v) ∈ [("mic", "map"), ("mic", "source"), ("mic", "wall"), ("mic", "fade"), ("mic", "filter"), ("mic", "clock"), ("mic", "zone"), ("mic", "shade"), ("mic", "off"), ("map", "source"), ("map", "wall"), ("map", "fade"), ("map", "filter"), ("map", "clock"), ("map", "zone"), ("map", "shade"), ("map", "off"), ("source", "wall"), ("source", "fade"), ("source", "filter"), ("source", "clock"), ("source", "zone"), ("source", "shade"), ("source", "off"), ("wall", "fade"), ("wall", "filter"), ("wall", "clock"), ("wall", "zone"), ("wall", "shade"), ("wall", "off"), ("fade", "filter"), ("fade", "clock"), ("fade", "zone"), ("fade", "shade"), ("fade", "off"), ("filter", "clock"), ("filter", "zone"), ("filter", "shade"), ("filter", "off"), ("clock", "zone"), ("clock", "shade"), ("clock", "off"), ("zone", "shade"), ("zone", "off"), ("shade", "off"), ("map", "mic"), ("source", "mic"), ("wall", "mic"), ("fade", "mic"), ("filter", "mic"), ("clock", "mic"), ("zone", "mic"), ("shade", "mic"), ("off", "mic"), ("source", "map"), ("wall", "map"), ("fade", "map"), ("filter", "map"), ("clock", "map"), ("zone", "map"), ("shade", "map"), ("off", "map"), ("wall", "source"), ("fade", "source"), ("filter", "source"), ("clock", "source"), ("zone", "source"), ("shade", "source"), ("off", "source"), ("fade", "wall"), ("filter", "wall"), ("clock", "wall"), ("zone", "wall"), ("shade", "wall"), ("off", "wall"), ("filter", "fade"), ("clock", "fade"), ("zone", "fade"), ("shade", "fade"), ("off", "fade"), ("clock", "filter"), ("zone", "filter"), ("shade", "filter"), ("off", "filter"), ("zone", "clock"), ("shade", "clock"), ("off", "clock"), ("shade", "zone"), ("off", "zone"), ("off", "shade")]) (a : WD b n p (sTx u)) : ¬ WD b n p (sTx v) := wx (List.all_eq_true.mp wq10 _ h) a
theorem thr_end {T1 : AT} {x : Option (Nat × Int32 × AT)} (h : othr x 0 (fun _ U => g_X3_parseLine_b209 U) = some (k, r, T1)) : ∃ r9, x = some (k, r9, T1) := by
  rcases othr_k h with ⟨r9, g, -⟩ | ⟨r9, U, g, h⟩
  · exact ⟨r9, g⟩
  · have q := osome3 (show some ((0 : Nat), (0 : Int32), U) = some (k, r, T1) from h)
    rw [← q.1, ← q.2.2]
    exact ⟨r9, g⟩
set_option maxHeartbeats 400000 in
theorem c_line (h : PRq b n c i T S) (hF : SRF s T) (hg : g_X3_parseLine T 6 s = some (k, r, T1)) : (WD b n (pst b n i) (sTx "mic") ∧ ∃ r9, g_X3_parseMic T 6 s = some (k, r9, T1)) ∨ (WD b n (pst b n i) (sTx "map") ∧ ∃ r9, g_X3_parseMap T 6 (s + 2) = some (k, r9, T1)) ∨ (WD b n (pst b n i) (sTx "source") ∧ ∃ r9, g_X3_parseSource T 6 s = some (k, r9, T1)) ∨ (WD b n (pst b n i) (sTx "wall") ∧ ∃ r9, g_X3_parseWall T 6 s = some (k, r9, T1)) ∨ (WD b n (pst b n i) (sTx "fade") ∧ ∃ r9, (elet (T.2.2.1 s 12) fun v107 => if v107 ≤ 0 then (g_X3_parseLine_b93 T 0 6 6 s) else (g_X3_parseLine_b93 T 1 6 6 s)) = some (k, r9, T1)) ∨ (WD b n (pst b n i) (sTx "filter") ∧ ∃ r9, g_X3_parseFilter T 6 s = some (k, r9, T1)) ∨ (WD b n (pst b n i) (sTx "clock") ∧ ∃ r9, g_X3_parseClock T 6 s = some (k, r9, T1)) ∨ (WD b n (pst b n i) (sTx "zone") ∧ ∃ r9, g_X3_parseZone T 6 (s + 2) = some (k, r9, T1)) ∨ (WD b n (pst b n i) (sTx "shade") ∧ ∃ r9, g_X3_parseShade T 6 s = some (k, r9, T1)) ∨ (WD b n (pst b n i) (sTx "off") ∧ ∃ r9, g_X3_parseOff T 6 s = some (k, r9, T1)) ∨ ((¬ WD b n (pst b n i) (sTx "mic") ∧ ¬ WD b n (pst b n i) (sTx "map") ∧ ¬ WD b n (pst b n i) (sTx "source") ∧ ¬ WD b n (pst b n i) (sTx "wall") ∧ ¬ WD b n (pst b n i) (sTx "fade") ∧ ¬ WD b n (pst b n i) (sTx "filter") ∧ ¬ WD b n (pst b n i) (sTx "clock") ∧ ¬ WD b n (pst b n i) (sTx "zone") ∧ ¬ WD b n (pst b n i) (sTx "shade") ∧ ¬ WD b n (pst b n i) (sTx "off")) ∧ ∃ r9, g_X3_failAt T 6 (nI i) 1 = some (k, r9, T1)) := by
  unfold g_X3_parseLine at hg
  obtain ⟨-, hg⟩ := oif_some hg
  obtain ⟨r0, U0, e0, hg⟩ := obind2_some hg
  obtain ⟨t0, d0⟩ := kc_word (wl_of (by decide)) h e0
  rw [t0] at hg
  rcases d0 with ⟨z, d0⟩ | ⟨z, d0⟩
  · rw [if_neg (by rw [z]; decide)] at hg
    obtain ⟨-, hg⟩ := oif_some hg
    obtain ⟨r9, hg⟩ := thr_end hg
    exact .inl ⟨d0, r9, hg⟩
  rw [if_pos z] at hg
  obtain ⟨-, hg⟩ := oif_some hg
  obtain ⟨r1, U1, e1, hg⟩ := obind2_some hg
  obtain ⟨t1, d1⟩ := kc_word (wl_of (by decide)) h e1
  rw [t1] at hg
  rcases d1 with ⟨z, d1⟩ | ⟨z, d1⟩
  · rw [if_neg (by rw [z]; decide)] at hg
    obtain ⟨-, hg⟩ := oif_some hg
    obtain ⟨n9, e9, hg⟩ := obind_some hg
    rw [hF.2.1] at e9
    cases e9
    obtain ⟨-, hg⟩ := oif_some hg
    obtain ⟨r9, hg⟩ := thr_end hg
    exact .inr (.inl ⟨d1, r9, hg⟩)
  rw [if_pos z] at hg
  obtain ⟨-, hg⟩ := oif_some hg
  obtain ⟨r2, U2, e2, hg⟩ := obind2_some hg
  obtain ⟨t2, d2⟩ := kc_word (wl_of (by decide)) h e2
  rw [t2] at hg
  rcases d2 with ⟨z, d2⟩ | ⟨z, d2⟩
  · rw [if_neg (by rw [z]; decide)] at hg
    obtain ⟨-, hg⟩ := oif_some hg
    obtain ⟨r9, hg⟩ := thr_end hg
    exact .inr (.inr (.inl ⟨d2, r9, hg⟩))
  rw [if_pos z] at hg
  obtain ⟨-, hg⟩ := oif_some hg
  obtain ⟨r3, U3, e3, hg⟩ := obind2_some hg
  obtain ⟨t3, d3⟩ := kc_word (wl_of (by decide)) h e3
  rw [t3] at hg
  rcases d3 with ⟨z, d3⟩ | ⟨z, d3⟩
  · rw [if_neg (by rw [z]; decide)] at hg
    obtain ⟨-, hg⟩ := oif_some hg
    obtain ⟨r9, hg⟩ := thr_end hg
    exact .inr (.inr (.inr (.inl ⟨d3, r9, hg⟩)))
  rw [if_pos z] at hg
  obtain ⟨-, hg⟩ := oif_some hg
  obtain ⟨r4, U4, e4, hg⟩ := obind2_some hg
  obtain ⟨t4, d4⟩ := kc_word (wl_of (by decide)) h e4
  rw [t4] at hg
  rcases d4 with ⟨z, d4⟩ | ⟨z, d4⟩
  · rw [if_neg (by rw [z]; decide)] at hg
    obtain ⟨-, hg⟩ := oif_some hg
    exact .inr (.inr (.inr (.inr (.inl ⟨d4, r, hg⟩))))
  rw [if_pos z] at hg
  obtain ⟨-, hg⟩ := oif_some hg
  obtain ⟨r5, U5, e5, hg⟩ := obind2_some hg
  obtain ⟨t5, d5⟩ := kc_word (wl_of (by decide)) h e5
  rw [t5] at hg
  rcases d5 with ⟨z, d5⟩ | ⟨z, d5⟩
  · rw [if_neg (by rw [z]; decide)] at hg
    obtain ⟨-, hg⟩ := oif_some hg
    obtain ⟨r9, hg⟩ := thr_end hg
    exact .inr (.inr (.inr (.inr (.inr (.inl ⟨d5, r9, hg⟩)))))
  rw [if_pos z] at hg
  obtain ⟨-, hg⟩ := oif_some hg
  obtain ⟨r6, U6, e6, hg⟩ := obind2_some hg
  obtain ⟨t6, d6⟩ := kc_word (wl_of (by decide)) h e6
  rw [t6] at hg
  rcases d6 with ⟨z, d6⟩ | ⟨z, d6⟩
  · rw [if_neg (by rw [z]; decide)] at hg
    obtain ⟨-, hg⟩ := oif_some hg
    obtain ⟨r9, hg⟩ := thr_end hg
    exact .inr (.inr (.inr (.inr (.inr (.inr (.inl ⟨d6, r9, hg⟩))))))
  rw [if_pos z] at hg
  obtain ⟨-, hg⟩ := oif_some hg
  obtain ⟨r7, U7, e7, hg⟩ := obind2_some hg
  obtain ⟨t7, d7⟩ := kc_word (wl_of (by decide)) h e7
  rw [t7] at hg
  rcases d7 with ⟨z, d7⟩ | ⟨z, d7⟩
  · rw [if_neg (by rw [z]; decide)] at hg
    obtain ⟨-, hg⟩ := oif_some hg
    obtain ⟨n9, e9, hg⟩ := obind_some hg
    rw [hF.2.1] at e9
    cases e9
    obtain ⟨-, hg⟩ := oif_some hg
    obtain ⟨r9, hg⟩ := thr_end hg
    exact .inr (.inr (.inr (.inr (.inr (.inr (.inr (.inl ⟨d7, r9, hg⟩)))))))
  rw [if_pos z] at hg
  obtain ⟨-, hg⟩ := oif_some hg
  obtain ⟨r8, U8, e8, hg⟩ := obind2_some hg
  obtain ⟨t8, d8⟩ := kc_word (wl_of (by decide)) h e8
  rw [t8] at hg
  rcases d8 with ⟨z, d8⟩ | ⟨z, d8⟩
  · rw [if_neg (by rw [z]; decide)] at hg
    obtain ⟨-, hg⟩ := oif_some hg
    obtain ⟨r9, hg⟩ := thr_end hg
    exact .inr (.inr (.inr (.inr (.inr (.inr (.inr (.inr (.inl ⟨d8, r9, hg⟩))))))))
  rw [if_pos z] at hg
  obtain ⟨-, hg⟩ := oif_some hg
  obtain ⟨r9, U9, e9, hg⟩ := obind2_some hg
  obtain ⟨t9, d9⟩ := kc_word (wl_of (by decide)) h e9
  rw [t9] at hg
  rcases d9 with ⟨z, d9⟩ | ⟨z, d9⟩
  · rw [if_neg (by rw [z]; decide)] at hg
    obtain ⟨-, hg⟩ := oif_some hg
    obtain ⟨r9, hg⟩ := thr_end hg
    exact .inr (.inr (.inr (.inr (.inr (.inr (.inr (.inr (.inr (.inl ⟨d9, r9, hg⟩)))))))))
  rw [if_pos z] at hg
  obtain ⟨-, hg⟩ := oif_some hg
  obtain ⟨v73, e73, hg⟩ := elet_some hg
  rw [h.1.2.2.2.2.2] at e73
  rw [e73] at hg
  obtain ⟨-, hg⟩ := oif_some hg
  obtain ⟨r9, hg⟩ := thr_end hg
  exact .inr (.inr (.inr (.inr (.inr (.inr (.inr (.inr (.inr (.inr (⟨⟨d0, d1, d2, d3, d4, d5, d6, d7, d8, d9⟩, r9, hg⟩))))))))))
set_option maxHeartbeats 400000 in
theorem r_line (h : PRq b n c i T S) (hf : fr_readLine S = some S1) : (WD b n (pst b n i) (sTx "wall") ∧ fr_readWall S = some S1) ∨ (WD b n (pst b n i) (sTx "fade") ∧ fr_readFade S = some S1) ∨ (WD b n (pst b n i) (sTx "filter") ∧ fr_readFilter S = some S1) ∨ (WD b n (pst b n i) (sTx "clock") ∧ fr_readClock S = some S1) ∨ (WD b n (pst b n i) (sTx "zone") ∧ fr_readZone S = some S1) ∨ (WD b n (pst b n i) (sTx "shade") ∧ fr_readShade S = some S1) ∨ (WD b n (pst b n i) (sTx "off") ∧ fr_readOff S = some S1) ∨ (WD b n (pst b n i) (sTx "mic") ∧ fr_readMic S = some S1) ∨ (WD b n (pst b n i) (sTx "map") ∧ fr_readMap S = some S1) ∨ (WD b n (pst b n i) (sTx "source") ∧ fr_readSource S = some S1) ∨ ((¬ WD b n (pst b n i) (sTx "wall") ∧ ¬ WD b n (pst b n i) (sTx "fade") ∧ ¬ WD b n (pst b n i) (sTx "filter") ∧ ¬ WD b n (pst b n i) (sTx "clock") ∧ ¬ WD b n (pst b n i) (sTx "zone") ∧ ¬ WD b n (pst b n i) (sTx "shade") ∧ ¬ WD b n (pst b n i) (sTx "off") ∧ ¬ WD b n (pst b n i) (sTx "mic") ∧ ¬ WD b n (pst b n i) (sTx "map") ∧ ¬ WD b n (pst b n i) (sTx "source")) ∧ fr_faults S 1 = some S1) := by
  unfold fr_readLine at hf
  obtain ⟨r0, U0, e0, hf⟩ := obind2_some hf
  obtain ⟨t0, d0⟩ := kr_word (wl_of (by decide)) h e0
  rw [t0] at hf
  rcases d0 with ⟨z, d0⟩ | ⟨z, d0⟩
  · rw [if_neg (by rw [z]; decide)] at hf
    obtain ⟨V, f9, hf⟩ := obind_some hf
    have q := osome1 (show some V = some S1 from hf)
    rw [q] at f9
    exact .inl ⟨d0, f9⟩
  rw [if_pos z] at hf
  obtain ⟨r1, U1, e1, hf⟩ := obind2_some hf
  obtain ⟨t1, d1⟩ := kr_word (wl_of (by decide)) h e1
  rw [t1] at hf
  rcases d1 with ⟨z, d1⟩ | ⟨z, d1⟩
  · rw [if_neg (by rw [z]; decide)] at hf
    obtain ⟨V, f9, hf⟩ := obind_some hf
    have q := osome1 (show some V = some S1 from hf)
    rw [q] at f9
    exact .inr (.inl ⟨d1, f9⟩)
  rw [if_pos z] at hf
  obtain ⟨r2, U2, e2, hf⟩ := obind2_some hf
  obtain ⟨t2, d2⟩ := kr_word (wl_of (by decide)) h e2
  rw [t2] at hf
  rcases d2 with ⟨z, d2⟩ | ⟨z, d2⟩
  · rw [if_neg (by rw [z]; decide)] at hf
    obtain ⟨V, f9, hf⟩ := obind_some hf
    have q := osome1 (show some V = some S1 from hf)
    rw [q] at f9
    exact .inr (.inr (.inl ⟨d2, f9⟩))
  rw [if_pos z] at hf
  obtain ⟨r3, U3, e3, hf⟩ := obind2_some hf
  obtain ⟨t3, d3⟩ := kr_word (wl_of (by decide)) h e3
  rw [t3] at hf
  rcases d3 with ⟨z, d3⟩ | ⟨z, d3⟩
  · rw [if_neg (by rw [z]; decide)] at hf
    obtain ⟨V, f9, hf⟩ := obind_some hf
    have q := osome1 (show some V = some S1 from hf)
    rw [q] at f9
    exact .inr (.inr (.inr (.inl ⟨d3, f9⟩)))
  rw [if_pos z] at hf
  obtain ⟨r4, U4, e4, hf⟩ := obind2_some hf
  obtain ⟨t4, d4⟩ := kr_word (wl_of (by decide)) h e4
  rw [t4] at hf
  rcases d4 with ⟨z, d4⟩ | ⟨z, d4⟩
  · rw [if_neg (by rw [z]; decide)] at hf
    obtain ⟨V, f9, hf⟩ := obind_some hf
    have q := osome1 (show some V = some S1 from hf)
    rw [q] at f9
    exact .inr (.inr (.inr (.inr (.inl ⟨d4, f9⟩))))
  rw [if_pos z] at hf
  obtain ⟨r5, U5, e5, hf⟩ := obind2_some hf
  obtain ⟨t5, d5⟩ := kr_word (wl_of (by decide)) h e5
  rw [t5] at hf
  rcases d5 with ⟨z, d5⟩ | ⟨z, d5⟩
  · rw [if_neg (by rw [z]; decide)] at hf
    obtain ⟨V, f9, hf⟩ := obind_some hf
    have q := osome1 (show some V = some S1 from hf)
    rw [q] at f9
    exact .inr (.inr (.inr (.inr (.inr (.inl ⟨d5, f9⟩)))))
  rw [if_pos z] at hf
  obtain ⟨r6, U6, e6, hf⟩ := obind2_some hf
  obtain ⟨t6, d6⟩ := kr_word (wl_of (by decide)) h e6
  rw [t6] at hf
  rcases d6 with ⟨z, d6⟩ | ⟨z, d6⟩
  · rw [if_neg (by rw [z]; decide)] at hf
    obtain ⟨V, f9, hf⟩ := obind_some hf
    have q := osome1 (show some V = some S1 from hf)
    rw [q] at f9
    exact .inr (.inr (.inr (.inr (.inr (.inr (.inl ⟨d6, f9⟩))))))
  rw [if_pos z] at hf
  obtain ⟨r7, U7, e7, hf⟩ := obind2_some hf
  obtain ⟨t7, d7⟩ := kr_word (wl_of (by decide)) h e7
  rw [t7] at hf
  rcases d7 with ⟨z, d7⟩ | ⟨z, d7⟩
  · rw [if_neg (by rw [z]; decide)] at hf
    obtain ⟨V, f9, hf⟩ := obind_some hf
    have q := osome1 (show some V = some S1 from hf)
    rw [q] at f9
    exact .inr (.inr (.inr (.inr (.inr (.inr (.inr (.inl ⟨d7, f9⟩)))))))
  rw [if_pos z] at hf
  obtain ⟨r8, U8, e8, hf⟩ := obind2_some hf
  obtain ⟨t8, d8⟩ := kr_word (wl_of (by decide)) h e8
  rw [t8] at hf
  rcases d8 with ⟨z, d8⟩ | ⟨z, d8⟩
  · rw [if_neg (by rw [z]; decide)] at hf
    obtain ⟨V, f9, hf⟩ := obind_some hf
    have q := osome1 (show some V = some S1 from hf)
    rw [q] at f9
    exact .inr (.inr (.inr (.inr (.inr (.inr (.inr (.inr (.inl ⟨d8, f9⟩))))))))
  rw [if_pos z] at hf
  obtain ⟨r9, U9, e9, hf⟩ := obind2_some hf
  obtain ⟨t9, d9⟩ := kr_word (wl_of (by decide)) h e9
  rw [t9] at hf
  rcases d9 with ⟨z, d9⟩ | ⟨z, d9⟩
  · rw [if_neg (by rw [z]; decide)] at hf
    obtain ⟨V, f9, hf⟩ := obind_some hf
    have q := osome1 (show some V = some S1 from hf)
    rw [q] at f9
    exact .inr (.inr (.inr (.inr (.inr (.inr (.inr (.inr (.inr (.inl ⟨d9, f9⟩)))))))))
  rw [if_pos z] at hf
  obtain ⟨V, f9, hf⟩ := obind_some hf
  have q := osome1 (show some V = some S1 from hf)
  rw [q] at f9
  exact .inr (.inr (.inr (.inr (.inr (.inr (.inr (.inr (.inr (.inr (⟨⟨d0, d1, d2, d3, d4, d5, d6, d7, d8, d9⟩, f9⟩))))))))))
set_option maxHeartbeats 400000 in
theorem l_line (h : PRq b n c i T S) (hs : s = 478 ∨ s = 656) (hF : SRF s T) (hC : SCNq s T (S.2.1 11) (S.2.1 13)) (hg : g_X3_parseLine T 6 s = some (k, r, T1)) (hf : fr_readLine S = some S1) : LNq b n c i s T T1 S1 k := by
  have cl := c_line h hF hg
  have rl := r_line h hf
  have e_mic : WD b n (pst b n i) (sTx "mic") → fr_readMic S = some S1 := fun d => by
    rcases rl with ⟨f, q⟩ | ⟨f, q⟩ | ⟨f, q⟩ | ⟨f, q⟩ | ⟨f, q⟩ | ⟨f, q⟩ | ⟨f, q⟩ | ⟨f, q⟩ | ⟨f, q⟩ | ⟨f, q⟩ | ⟨f, -⟩
    · exact absurd f (wx10 (by decide) d)
    · exact absurd f (wx10 (by decide) d)
    · exact absurd f (wx10 (by decide) d)
    · exact absurd f (wx10 (by decide) d)
    · exact absurd f (wx10 (by decide) d)
    · exact absurd f (wx10 (by decide) d)
    · exact absurd f (wx10 (by decide) d)
    · exact q
    · exact absurd f (wx10 (by decide) d)
    · exact absurd f (wx10 (by decide) d)
    · exact absurd d f.2.2.2.2.2.2.2.1
  have e_map : WD b n (pst b n i) (sTx "map") → fr_readMap S = some S1 := fun d => by
    rcases rl with ⟨f, q⟩ | ⟨f, q⟩ | ⟨f, q⟩ | ⟨f, q⟩ | ⟨f, q⟩ | ⟨f, q⟩ | ⟨f, q⟩ | ⟨f, q⟩ | ⟨f, q⟩ | ⟨f, q⟩ | ⟨f, -⟩
    · exact absurd f (wx10 (by decide) d)
    · exact absurd f (wx10 (by decide) d)
    · exact absurd f (wx10 (by decide) d)
    · exact absurd f (wx10 (by decide) d)
    · exact absurd f (wx10 (by decide) d)
    · exact absurd f (wx10 (by decide) d)
    · exact absurd f (wx10 (by decide) d)
    · exact absurd f (wx10 (by decide) d)
    · exact q
    · exact absurd f (wx10 (by decide) d)
    · exact absurd d f.2.2.2.2.2.2.2.2.1
  have e_source : WD b n (pst b n i) (sTx "source") → fr_readSource S = some S1 := fun d => by
    rcases rl with ⟨f, q⟩ | ⟨f, q⟩ | ⟨f, q⟩ | ⟨f, q⟩ | ⟨f, q⟩ | ⟨f, q⟩ | ⟨f, q⟩ | ⟨f, q⟩ | ⟨f, q⟩ | ⟨f, q⟩ | ⟨f, -⟩
    · exact absurd f (wx10 (by decide) d)
    · exact absurd f (wx10 (by decide) d)
    · exact absurd f (wx10 (by decide) d)
    · exact absurd f (wx10 (by decide) d)
    · exact absurd f (wx10 (by decide) d)
    · exact absurd f (wx10 (by decide) d)
    · exact absurd f (wx10 (by decide) d)
    · exact absurd f (wx10 (by decide) d)
    · exact absurd f (wx10 (by decide) d)
    · exact q
    · exact absurd d f.2.2.2.2.2.2.2.2.2
  have e_wall : WD b n (pst b n i) (sTx "wall") → fr_readWall S = some S1 := fun d => by
    rcases rl with ⟨f, q⟩ | ⟨f, q⟩ | ⟨f, q⟩ | ⟨f, q⟩ | ⟨f, q⟩ | ⟨f, q⟩ | ⟨f, q⟩ | ⟨f, q⟩ | ⟨f, q⟩ | ⟨f, q⟩ | ⟨f, -⟩
    · exact q
    · exact absurd f (wx10 (by decide) d)
    · exact absurd f (wx10 (by decide) d)
    · exact absurd f (wx10 (by decide) d)
    · exact absurd f (wx10 (by decide) d)
    · exact absurd f (wx10 (by decide) d)
    · exact absurd f (wx10 (by decide) d)
    · exact absurd f (wx10 (by decide) d)
    · exact absurd f (wx10 (by decide) d)
    · exact absurd f (wx10 (by decide) d)
    · exact absurd d f.1
  have e_fade : WD b n (pst b n i) (sTx "fade") → fr_readFade S = some S1 := fun d => by
    rcases rl with ⟨f, q⟩ | ⟨f, q⟩ | ⟨f, q⟩ | ⟨f, q⟩ | ⟨f, q⟩ | ⟨f, q⟩ | ⟨f, q⟩ | ⟨f, q⟩ | ⟨f, q⟩ | ⟨f, q⟩ | ⟨f, -⟩
    · exact absurd f (wx10 (by decide) d)
    · exact q
    · exact absurd f (wx10 (by decide) d)
    · exact absurd f (wx10 (by decide) d)
    · exact absurd f (wx10 (by decide) d)
    · exact absurd f (wx10 (by decide) d)
    · exact absurd f (wx10 (by decide) d)
    · exact absurd f (wx10 (by decide) d)
    · exact absurd f (wx10 (by decide) d)
    · exact absurd f (wx10 (by decide) d)
    · exact absurd d f.2.1
  have e_filter : WD b n (pst b n i) (sTx "filter") → fr_readFilter S = some S1 := fun d => by
    rcases rl with ⟨f, q⟩ | ⟨f, q⟩ | ⟨f, q⟩ | ⟨f, q⟩ | ⟨f, q⟩ | ⟨f, q⟩ | ⟨f, q⟩ | ⟨f, q⟩ | ⟨f, q⟩ | ⟨f, q⟩ | ⟨f, -⟩
    · exact absurd f (wx10 (by decide) d)
    · exact absurd f (wx10 (by decide) d)
    · exact q
    · exact absurd f (wx10 (by decide) d)
    · exact absurd f (wx10 (by decide) d)
    · exact absurd f (wx10 (by decide) d)
    · exact absurd f (wx10 (by decide) d)
    · exact absurd f (wx10 (by decide) d)
    · exact absurd f (wx10 (by decide) d)
    · exact absurd f (wx10 (by decide) d)
    · exact absurd d f.2.2.1
  have e_clock : WD b n (pst b n i) (sTx "clock") → fr_readClock S = some S1 := fun d => by
    rcases rl with ⟨f, q⟩ | ⟨f, q⟩ | ⟨f, q⟩ | ⟨f, q⟩ | ⟨f, q⟩ | ⟨f, q⟩ | ⟨f, q⟩ | ⟨f, q⟩ | ⟨f, q⟩ | ⟨f, q⟩ | ⟨f, -⟩
    · exact absurd f (wx10 (by decide) d)
    · exact absurd f (wx10 (by decide) d)
    · exact absurd f (wx10 (by decide) d)
    · exact q
    · exact absurd f (wx10 (by decide) d)
    · exact absurd f (wx10 (by decide) d)
    · exact absurd f (wx10 (by decide) d)
    · exact absurd f (wx10 (by decide) d)
    · exact absurd f (wx10 (by decide) d)
    · exact absurd f (wx10 (by decide) d)
    · exact absurd d f.2.2.2.1
  have e_zone : WD b n (pst b n i) (sTx "zone") → fr_readZone S = some S1 := fun d => by
    rcases rl with ⟨f, q⟩ | ⟨f, q⟩ | ⟨f, q⟩ | ⟨f, q⟩ | ⟨f, q⟩ | ⟨f, q⟩ | ⟨f, q⟩ | ⟨f, q⟩ | ⟨f, q⟩ | ⟨f, q⟩ | ⟨f, -⟩
    · exact absurd f (wx10 (by decide) d)
    · exact absurd f (wx10 (by decide) d)
    · exact absurd f (wx10 (by decide) d)
    · exact absurd f (wx10 (by decide) d)
    · exact q
    · exact absurd f (wx10 (by decide) d)
    · exact absurd f (wx10 (by decide) d)
    · exact absurd f (wx10 (by decide) d)
    · exact absurd f (wx10 (by decide) d)
    · exact absurd f (wx10 (by decide) d)
    · exact absurd d f.2.2.2.2.1
  have e_shade : WD b n (pst b n i) (sTx "shade") → fr_readShade S = some S1 := fun d => by
    rcases rl with ⟨f, q⟩ | ⟨f, q⟩ | ⟨f, q⟩ | ⟨f, q⟩ | ⟨f, q⟩ | ⟨f, q⟩ | ⟨f, q⟩ | ⟨f, q⟩ | ⟨f, q⟩ | ⟨f, q⟩ | ⟨f, -⟩
    · exact absurd f (wx10 (by decide) d)
    · exact absurd f (wx10 (by decide) d)
    · exact absurd f (wx10 (by decide) d)
    · exact absurd f (wx10 (by decide) d)
    · exact absurd f (wx10 (by decide) d)
    · exact q
    · exact absurd f (wx10 (by decide) d)
    · exact absurd f (wx10 (by decide) d)
    · exact absurd f (wx10 (by decide) d)
    · exact absurd f (wx10 (by decide) d)
    · exact absurd d f.2.2.2.2.2.1
  have e_off : WD b n (pst b n i) (sTx "off") → fr_readOff S = some S1 := fun d => by
    rcases rl with ⟨f, q⟩ | ⟨f, q⟩ | ⟨f, q⟩ | ⟨f, q⟩ | ⟨f, q⟩ | ⟨f, q⟩ | ⟨f, q⟩ | ⟨f, q⟩ | ⟨f, q⟩ | ⟨f, q⟩ | ⟨f, -⟩
    · exact absurd f (wx10 (by decide) d)
    · exact absurd f (wx10 (by decide) d)
    · exact absurd f (wx10 (by decide) d)
    · exact absurd f (wx10 (by decide) d)
    · exact absurd f (wx10 (by decide) d)
    · exact absurd f (wx10 (by decide) d)
    · exact q
    · exact absurd f (wx10 (by decide) d)
    · exact absurd f (wx10 (by decide) d)
    · exact absurd f (wx10 (by decide) d)
    · exact absurd d f.2.2.2.2.2.2.1
  rcases cl with ⟨d, r9, hg⟩ | ⟨d, r9, hg⟩ | ⟨d, r9, hg⟩ | ⟨d, r9, hg⟩ | ⟨d, r9, hg⟩ | ⟨d, r9, hg⟩ | ⟨d, r9, hg⟩ | ⟨d, r9, hg⟩ | ⟨d, r9, hg⟩ | ⟨d, r9, hg⟩ | ⟨d, r9, hg⟩
  · exact l_mic h d.1 hs hF hC hg (e_mic d)
  · exact l_map h d.1 hs hF hC hg (e_map d)
  · exact l_source h d.1 hs hF hC hg (e_source d)
  · exact l_wall h d.1 hs hF hC hg (e_wall d)
  · exact l_fade h d.1 hs hF hC hg (e_fade d)
  · exact l_filter h d.1 hs hF hC hg (e_filter d)
  · exact l_clock h d.1 hs hF hC hg (e_clock d)
  · exact l_zone h d.1 hs hF hC hg (e_zone d)
  · exact l_shade h d.1 hs hF hC hg (e_shade d)
  · exact l_off h d.1 hs hF hC hg (e_off d)
  · rcases rl with ⟨f, -⟩ | ⟨f, -⟩ | ⟨f, -⟩ | ⟨f, -⟩ | ⟨f, -⟩ | ⟨f, -⟩ | ⟨f, -⟩ | ⟨f, -⟩ | ⟨f, -⟩ | ⟨f, -⟩ | ⟨-, f⟩
    · exact absurd f d.2.2.2.1
    · exact absurd f d.2.2.2.2.1
    · exact absurd f d.2.2.2.2.2.1
    · exact absurd f d.2.2.2.2.2.2.1
    · exact absurd f d.2.2.2.2.2.2.2.1
    · exact absurd f d.2.2.2.2.2.2.2.2.1
    · exact absurd f d.2.2.2.2.2.2.2.2.2
    · exact absurd f d.1
    · exact absurd f d.2.1
    · exact absurd f d.2.2.1
    · exact .inr (k_err h h.1.2.2.2.2.1 rfl (by decide) hg f)
end
end
section
/-! 20k.parse.lean.txt -/
section
variable {b : Nat → Int32} {n c i k s : Nat} {T T1 : AT} {S S1 : MS} {r : Int32}
/-- the outcome of a text -/
def TXq (s : Nat) (T T1 : AT) (S1 : MS) (k : Nat) : Prop := (k = 0 ∧ SCNq s T1 (S1.2.1 11) (S1.2.1 13) ∧ T1.2.2.2.2 = T.2.2.2.2 ∧ T1.2.2.1 6 2 = 0 ∧ T1.2.2.1 6 3 = -1 ∧ S1.1 5 = 0 ∧ S1.1 6 = -1 ∧ S1.2.1 11 4 ≠ 0 ∧ S1.2.1 11 8 ≠ 0) ∨ (k = 3 ∧ ERq T1 S1)
theorem st_b92 (q : 0 < (S.1 5).toInt) (hf : fr_readText_b92 S = some S1) : S1 = S := by
  have fin : fr_readText_b111 S = some S1 → S1 = S := fun hf => by
    unfold fr_readText_b111 at hf
    obtain ⟨S2, f2, hf⟩ := obind_some hf
    rw [st_faults q f2] at hf
    exact (osome1 (show some S = some S1 from hf)).symm
  unfold fr_readText_b92 at hf
  obtain ⟨v2, e2, hf⟩ := elet_some hf
  by_cases c1 : v2 = 0
  · rw [if_pos c1] at hf
    exact fin hf
  · rw [if_neg c1] at hf
    obtain ⟨v4, e4, hf⟩ := elet_some hf
    by_cases c2 : v4 = 0
    · rw [if_pos c2] at hf
      exact fin hf
    · rw [if_neg c2] at hf
      exact (osome1 (show some S = some S1 from hf)).symm
theorem st_b52 : ∀ f : Nat, 0 < (S.1 5).toInt → fr_readText_b52 f S = some S1 → S1 = S := by
  intro f q hf
  cases f with
  | zero => cases hf
  | succ f =>
    unfold fr_readText_b52 at hf
    obtain ⟨r5, S2, f5, hf⟩ := obind2_some hf
    obtain ⟨k1, k2⟩ := st_here q f5
    rw [if_pos k1, k2] at hf
    obtain ⟨v7, e7, hf⟩ := elet_some hf
    rw [if_neg (st_ne q e7)] at hf
    exact st_b92 q hf
/-- the end of a text: a camera must have microphones and a map -/
theorem k_end (h : PRq b n c i T S) (hs : s = 478 ∨ s = 656) (hF : SRF s T) (hC : SCNq s T (S.2.1 11) (S.2.1 13)) (hg : g_X3_parse_b81 T 6 s = some (k, r, T1)) (hf : fr_readText_b92 S = some S1) : TXq s T T1 S1 k := by
  have h11 := h.1.2.2.2.2.2
  have h10 := h.1.2.2.2.2.1
  have hC2 := hC
  obtain ⟨gH, ⟨mc, b1, b2, b3, b4, b5⟩, gG, -⟩ := hC
  have fail : g_X3_parse_b98 T 6 = some (k, r, T1) → fr_readText_b111 S = some S1 → TXq s T T1 S1 k := by
    intro hg hf
    unfold g_X3_parse_b98 at hg
    obtain ⟨-, hg⟩ := oif_some hg
    obtain ⟨v3, e3, hg⟩ := elet_some hg
    rw [h11] at e3
    rw [e3] at hg
    obtain ⟨-, hg⟩ := oif_some hg
    unfold fr_readText_b111 at hf
    obtain ⟨S2, f2, hf⟩ := obind_some hf
    rw [← osome1 (show some S2 = some S1 from hf)]
    right
    rcases othr_k hg with ⟨r9, g9, -⟩ | ⟨r9, T9, g9, -⟩
    · exact k_err h h10 rfl (by decide) g9 f2
    · exact absurd (k_err h h10 rfl (by decide) g9 f2).1 (by decide)
  unfold g_X3_parse_b81 at hg
  obtain ⟨-, hg⟩ := oif_some hg
  obtain ⟨v3, e3, hg⟩ := elet_some hg
  rw [b2, ← b3] at e3
  unfold fr_readText_b92 at hf
  obtain ⟨v2, e2, hf⟩ := elet_some hf
  rw [← e3] at e2
  by_cases c1 : v3 = 0
  · rw [if_pos c1] at hg
    rw [if_pos (e2.trans c1)] at hf
    exact fail hg hf
  rw [if_neg c1] at hg
  rw [if_neg (fun q => c1 (e2.symm.trans q))] at hf
  obtain ⟨-, hg⟩ := oif_some hg
  obtain ⟨n6, e6, hg⟩ := obind_some hg
  rw [hF.2.1] at e6
  cases e6
  obtain ⟨-, hg⟩ := oif_some hg
  obtain ⟨v8, e8, hg⟩ := elet_some hg
  rw [gG.1] at e8
  obtain ⟨v4, e4, hf⟩ := elet_some hf
  by_cases c2 : v8 = 0
  · rw [if_pos c2] at hg
    have c4 : v4 = 0 := by
      rw [e4]
      rcases gG.2.2 with ⟨y, -, -⟩ | ⟨-, y, -⟩
      · exact y
      · rw [← e8, c2] at y; exact absurd y (by decide)
    rw [if_pos c4] at hf
    exact fail hg hf
  · rw [if_neg c2] at hg
    have c4 : ¬ v4 = 0 := by
      rw [e4]
      rcases gG.2.2 with ⟨-, y, -⟩ | ⟨y, -, -⟩
      · rw [y] at e8; exact absurd e8 c2
      · intro q; rw [q] at y; exact absurd y (by decide)
    rw [if_neg c4] at hf
    have ff := osome1 (show some S = some S1 from hf)
    unfold g_X3_parse_b107 at hg
    obtain ⟨-, hg⟩ := oif_some hg
    obtain ⟨T3, e3', hg⟩ := elet_some hg
    obtain ⟨-, hg⟩ := oif_some hg
    obtain ⟨T5, e5, hg⟩ := elet_some hg
    have g := osome3 hg
    have t : TFq T T5 := by rw [e5, e3']; exact tf6.tr tf6
    rw [← g.2.2, ← ff]
    refine .inl ⟨g.1.symm, scn_tf hs t hC2, congrArg (fun x => x.2) t.2.2.1, ?_, ?_, h.2.2.1, h.2.2.2.1, ?_, ?_⟩
    · rw [e5, ui_ne (.inr (by decide)), e3', ui_at]
    · rw [e5, ui_at]
    · rw [← e3]; exact c1
    · rw [← e4]; exact c4
theorem k_textl (hs : s = 478 ∨ s = 656) : ∀ (f f2 : Nat) {i l k : Nat} {r : Int32} {T T1 : AT} {S S1 : MS}, PRq b n c i T S → SRF s T → SCNq s T (S.2.1 11) (S.2.1 13) → l ≤ i → g_X3_parse_b24 f T 6 s (nI l) = some (k, r, T1) → fr_readText_b52 f2 S = some S1 → TXq s T T1 S1 k := by
  intro f
  induction f with
  | zero => intro f2 i l k r T T1 S S1 p hF hC hl hg hf; cases hg
  | succ f ih =>
    intro f2 i l k r T T1 S S1 p hF hC hl hg hf
    cases f2 with
    | zero => cases hf
    | succ f2 =>
      have qt := p.2.2.2.2.2.2.2
      have h10 := p.1.2.2.2.2.1
      have h11 := p.1.2.2.2.2.2
      have hc := p.1.2.2.2.1.2.2.1
      unfold g_X3_parse_b24 at hg
      obtain ⟨-, hg⟩ := oif_some hg
      obtain ⟨n3, e3, hg⟩ := obind_some hg
      rw [p.1.2.1.2.2.2.2.1] at e3
      cases e3
      obtain ⟨-, hg⟩ := oif_some hg
      obtain ⟨v5, e5, hg⟩ := elet_some hg
      rw [p.1.2.2.2.1.1] at e5
      rw [if_neg (by rw [e5]; intro q; have := (nI_leI (by omega) (by omega)).mp q; omega)] at hg
      obtain ⟨-, hg⟩ := oif_some hg
      obtain ⟨r10, T8, e8, hg⟩ := obind2_some hg
      obtain ⟨k1, k2⟩ := k_kind p e8
      rw [k2] at hg
      unfold fr_readText_b52 at hf
      obtain ⟨r5, S2, f5, hf⟩ := obind2_some hf
      obtain ⟨g1, g2⟩ := k_here p (.inr rfl) f5
      rw [if_neg (by decide)] at g2
      rw [g1] at hf
      by_cases k5 : kd b n (pst b n i) = 5
      · rw [if_pos (k1.trans k5)] at hg
        have w1 : r5 = 0 := by
          rcases g2 with ⟨-, q⟩ | ⟨q, -⟩
          · rw [k5] at q; exact absurd q (by decide)
          · exact q
        rw [if_pos w1] at hf
        obtain ⟨v7, e7, hf⟩ := elet_some hf
        rw [if_pos (e7.trans p.2.2.1)] at hf
        obtain ⟨v9, e9, hf⟩ := elet_some hf
        rw [if_pos (e9.trans ((tk_end qt).mpr k5))] at hf
        exact k_end p hs hF hC hg hf
      rw [if_neg (fun q => k5 (k1.symm.trans q))] at hg
      obtain ⟨-, hg⟩ := oif_some hg
      obtain ⟨r16, T14, e14, hg⟩ := obind2_some hg
      obtain ⟨k3, k4⟩ := k_kind p e14
      rw [k4] at hg
      rcases g2 with ⟨w1, km⟩ | ⟨w1, km⟩
      · rw [if_pos (k3.trans km)] at hg
        rw [if_neg (by rw [w1]; decide)] at hf
        obtain ⟨S14, f14, hf⟩ := obind_some hf
        obtain ⟨S17, f17, hf⟩ := obind_some hf
        unfold g_X3_parse_b60 at hg
        obtain ⟨-, hg⟩ := oif_some hg
        obtain ⟨v3, e3, hg⟩ := elet_some hg
        rw [h11] at e3
        obtain ⟨v4, e4, hg⟩ := elet_some hg
        rw [e3, nI_1] at e4
        obtain ⟨-, hg⟩ := oif_some hg
        obtain ⟨T6, e6, hg⟩ := elet_some hg
        obtain ⟨p6, m6⟩ := pr_adv p k5 f14
        rw [← e4, ← e6] at p6
        have t6 : TFq T T6 := by rw [e6]; exact tf6
        have r6 : T6.2.2.2.2 = T.2.2.2.2 := congrArg (fun x => x.2) t6.2.2.1
        have C6 : SCNq s T6 (S14.2.1 11) (S14.2.1 13) := by rw [m6.1]; exact scn_tf hs t6 hC
        obtain ⟨-, hg⟩ := oif_some hg
        rcases othr_k hg with ⟨r9, g9, z9⟩ | ⟨r9, T9, g9, hg⟩
        · rcases l_line p6 hs (hF.sub r6) C6 g9 f17 with ⟨z, -⟩ | ⟨z1, z2⟩
          · exact absurd z z9
          · exact .inr ⟨z1, by rw [st_b52 _ z2.1 hf]; exact z2⟩
        rcases l_line p6 hs (hF.sub r6) C6 g9 f17 with ⟨-, ⟨j, hj, p9⟩, C9, r9'⟩ | ⟨z1, -⟩
        rotate_left
        · exact absurd z1 (by decide)
        obtain ⟨v12, e12, hg⟩ := elet_some hg
        have e12 : v12 = nI (l + 1) := e12.trans (nI_1 l)
        rw [e12] at hg
        rcases ih f2 p9 (hF.sub (r9'.trans r6)) C9 (by omega) hg hf with ⟨y1, y2, y3, y4⟩ | y
        · exact .inl ⟨y1, y2, y3.trans (r9'.trans r6), y4⟩
        · exact .inr y
      · rw [if_neg (fun q => km (k3.symm.trans q))] at hg
        rw [if_pos w1] at hf
        obtain ⟨v7, e7, hf⟩ := elet_some hf
        rw [if_pos (e7.trans p.2.2.1)] at hf
        obtain ⟨v9, e9, hf⟩ := elet_some hf
        rw [if_neg (fun q => k5 ((tk_end qt).mp (e9.symm.trans q)))] at hf
        obtain ⟨S11, f11, hf⟩ := obind_some hf
        obtain ⟨-, hg⟩ := oif_some hg
        obtain ⟨v20, e20, hg⟩ := elet_some hg
        rw [h11] at e20
        rw [e20] at hg
        obtain ⟨-, hg⟩ := oif_some hg
        right
        rcases othr_k hg with ⟨r9, g9, -⟩ | ⟨r9, T9, g9, -⟩
        · obtain ⟨a1, a2⟩ := k_err p h10 rfl (by decide) g9 f11
          rw [st_b92 a2.1 hf]
          exact ⟨a1, a2⟩
        · exact absurd (k_err p h10 rfl (by decide) g9 f11).1 (by decide)
/-- the reference's plan and draft are made zero -/
theorem r_zero2 : ∀ (f : Nat) {l : Nat} {S : MS}, l ≤ 2455 → (∀ x, x < l → S.2.1 13 x = 0) → fr_readText_b24 f S (nI l) = some S1 → ∃ U V W, U.1 = S.1 ∧ (∀ a, a ≠ 13 → U.2.1 a = S.2.1 a) ∧ (∀ x, x < 2455 → U.2.1 13 x = 0) ∧ fr_nextToken U = some V ∧ fr_readFirst V = some W ∧ fr_readText_b52 16384 W = some S1 := by
  intro f
  induction f with
  | zero => intro l S hl hz hf; cases hf
  | succ f ih =>
    intro l S hl hz hf
    unfold fr_readText_b24 at hf
    by_cases c1 : (2455 : Int32) ≤ nI l
    · rw [if_pos c1] at hf
      have := (nI_leI (a := 2455) (b := l) (by omega) (by omega)).mp c1
      obtain ⟨V, f3, hf⟩ := obind_some hf
      obtain ⟨W, f6, hf⟩ := obind_some hf
      exact ⟨S, V, W, rfl, fun _ _ => rfl, fun x hx => hz x (by omega), f3, f6, hf⟩
    · rw [if_neg c1] at hf
      have c1 : l < 2455 := Nat.lt_of_not_le (fun q => c1 ((nI_leI (a := 2455) (b := l) (by omega) (by omega)).mpr q))
      obtain ⟨-, hf⟩ := oif_some hf
      obtain ⟨S10, e10, hf⟩ := elet_some hf
      rw [nI_clamp (by omega)] at e10
      obtain ⟨v11, e11, hf⟩ := elet_some hf
      have e11 : v11 = nI (l + 1) := e11.trans (nI_1 l)
      rw [e11] at hf
      obtain ⟨U, V, W, a1, a2, a3⟩ := ih (S := S10) (by omega) (fun x hx => by
        rw [e10, mf_at]
        show (if x = l then (0 : Int32) else S.2.1 13 x) = 0
        by_cases e : x = l
        · rw [if_pos e]
        · rw [if_neg e]; exact hz x (by omega)) hf
      exact ⟨U, V, W, a1.trans (by rw [e10]; rfl), fun a ha => (a2 a ha).trans (by rw [e10, mf_ne ha]), a3⟩
theorem r_zero1 : ∀ (f : Nat) {l : Nat} {S : MS}, l ≤ 131 → (∀ x, x < l → S.2.1 11 x = 0) → fr_readText_b2 f S (nI l) = some S1 → ∃ U V W, U.1 = S.1 ∧ (∀ a, a ≠ 13 → a ≠ 11 → U.2.1 a = S.2.1 a) ∧ (∀ x, x < 131 → U.2.1 11 x = 0) ∧ (∀ x, x < 2455 → U.2.1 13 x = 0) ∧ fr_nextToken U = some V ∧ fr_readFirst V = some W ∧ fr_readText_b52 16384 W = some S1 := by
  intro f
  induction f with
  | zero => intro l S hl hz hf; cases hf
  | succ f ih =>
    intro l S hl hz hf
    unfold fr_readText_b2 at hf
    by_cases c1 : (131 : Int32) ≤ nI l
    · rw [if_pos c1] at hf
      have := (nI_leI (a := 131) (b := l) (by omega) (by omega)).mp c1
      obtain ⟨U, V, W, a1, a2, a3, a4⟩ := r_zero2 16384 (l := 0) (by omega) (fun x hx => absurd hx (Nat.not_lt_zero x)) hf
      exact ⟨U, V, W, a1, fun a h1 h2 => a2 a h1, fun x hx => by rw [a2 11 (by decide)]; exact hz x (by omega), a3, a4⟩
    · rw [if_neg c1] at hf
      have c1 : l < 131 := Nat.lt_of_not_le (fun q => c1 ((nI_leI (a := 131) (b := l) (by omega) (by omega)).mpr q))
      obtain ⟨-, hf⟩ := oif_some hf
      obtain ⟨S4, e4, hf⟩ := elet_some hf
      rw [nI_clamp (by omega)] at e4
      obtain ⟨v5, e5, hf⟩ := elet_some hf
      have e5 : v5 = nI (l + 1) := e5.trans (nI_1 l)
      rw [e5] at hf
      obtain ⟨U, V, W, a1, a2, a3⟩ := ih (S := S4) (by omega) (fun x hx => by
        rw [e4, mf_at]
        show (if x = l then (0 : Int32) else S.2.1 11 x) = 0
        by_cases e : x = l
        · rw [if_pos e]
        · rw [if_neg e]; exact hz x (by omega)) hf
      exact ⟨U, V, W, a1.trans (by rw [e4]; rfl), fun a h1 h2 => (a2 a h1 h2).trans (by rw [e4, mf_ne h2]), a3⟩
set_option maxHeartbeats 400000 in
theorem l_parse (hs : s = 478 ∨ s = 656) (hR : TXR T) (hF : SRF s T) (hB : BYq b T) (hn : n ≤ 1000) (hb : S.2.1 1 = b) (h3 : S.1 3 = nI n) (h4 : S.1 4 = 0) (h5 : S.1 5 = 0) (h6 : S.1 6 = -1) (hg : g_X3_parse T 6 (nI n) s = some (k, r, T1)) (hf : fr_readText S = some S1) : TXq s T T1 S1 k := by
  unfold fr_readText at hf
  obtain ⟨U, V, W, u1, u2, uP, uD, fV, fW, hf⟩ := r_zero1 16384 (l := 0) (by omega) (fun x hx => absurd hx (Nat.not_lt_zero x)) hf
  unfold g_X3_parse at hg
  obtain ⟨-, hg⟩ := oif_some hg
  obtain ⟨n3, e3, hg⟩ := obind_some hg
  rw [hR.2.2.2.2.1] at e3
  cases e3
  obtain ⟨-, hg⟩ := oif_some hg
  obtain ⟨T5, e5, hg⟩ := obind_some hg
  obtain ⟨kp, c, tk⟩ := q_cut hR hB hn e5
  obtain ⟨-, hg⟩ := oif_some hg
  obtain ⟨T8, e8, hg⟩ := elet_some hg
  obtain ⟨-, hg⟩ := oif_some hg
  obtain ⟨T10, e10, hg⟩ := obind_some hg
  obtain ⟨-, hg⟩ := oif_some hg
  have R5 : T5.2.2.2.2 = T.2.2.2.2 := congrArg (fun x => x.2) kp.2.2.1
  have R8 : T8.2.2.2.2 = T.2.2.2.2 := by rw [e8]; exact R5
  -- clear
  unfold g_X6_clear at e10
  obtain ⟨-, e10⟩ := oif_some e10
  obtain ⟨n3, en3, e10⟩ := obind_some e10
  rw [R8, hF.2.1] at en3
  cases en3
  obtain ⟨-, e10⟩ := oif_some e10
  obtain ⟨A5, a5, e10⟩ := obind_some e10
  unfold g_X1_clear at a5
  obtain ⟨-, a5⟩ := oif_some a5
  obtain ⟨B3, b3, a5⟩ := elet_some a5
  obtain ⟨-, a5⟩ := oif_some a5
  obtain ⟨B5, b5, a5⟩ := elet_some a5
  obtain ⟨-, a5⟩ := oif_some a5
  obtain ⟨B7, b7, a5⟩ := elet_some a5
  have a5 := osome1 a5
  rw [← a5] at e10
  obtain ⟨-, e10⟩ := oif_some e10
  obtain ⟨C8, c8, e10⟩ := elet_some e10
  obtain ⟨-, e10⟩ := oif_some e10
  obtain ⟨C10, c10, e10⟩ := elet_some e10
  obtain ⟨-, e10⟩ := oif_some e10
  obtain ⟨C12, c12, e10⟩ := elet_some e10
  obtain ⟨-, e10⟩ := oif_some e10
  obtain ⟨C14, c14, e10⟩ := elet_some e10
  obtain ⟨-, e10⟩ := oif_some e10
  obtain ⟨C16, c16, e10⟩ := elet_some e10
  obtain ⟨-, e10⟩ := oif_some e10
  obtain ⟨C18, c18, e10⟩ := elet_some e10
  have e10 := osome1 e10
  rw [← e10] at hg
  have hI : ∀ m j : Nat, C18.2.2.1 m j = if m = s ∧ j = 16 then 0 else if m = s ∧ j = 14 then 0 else if m = s ∧ j = 12 then 0 else if m = s ∧ j = 11 then 0 else if m = s ∧ j = 8 then 0 else if m = s ∧ j = 5 then 0 else if m = s + 2 ∧ j = 7 then 0 else if m = s + 2 ∧ j = 4 then 0 else if m = s + 2 ∧ j = 3 then 0 else if m = 6 ∧ j = 1 then 0 else T5.2.2.1 m j := fun m j => by
    rw [c18, ui_get, c16, ui_get, c14, ui_get, c12, ui_get, c10, ui_get, c8, ui_get, b7, ui_get, b5, ui_get, b3, ui_get, e8, ui_get]
  have hlow : ∀ m j : Nat, m < 6 → C18.2.2.1 m j = T5.2.2.1 m j := fun m j hm => by
    rw [hI]
    simp (disch := omega) only [if_neg, if_pos, and_self, and_true, true_and, and_false, false_and, if_true, if_false]
  have R18 : C18.2.2.2.2 = T.2.2.2.2 := by rw [c18, c16, c14, c12, c10, c8, b7, b5, b3]; exact R8
  have S18 : C18.2.1 = T.2.1 := by rw [c18, c16, c14, c12, c10, c8, b7, b5, b3, e8]; exact kp.2.1
  have hR18 : TXR C18 := by
    unfold TXR at hR ⊢
    rw [R18, S18]
    exact hR
  obtain ⟨k1, k2, k3, k4, k5, k6⟩ := tk
  have tk18 : TKS b n C18 c := ⟨(hlow 1 5 (by decide)).trans k1, k2, k3, fun i hi => by rw [hlow 3 i (by decide), hlow 4 i (by decide), hlow 5 i (by decide)]; exact k4 i hi, k5, k6⟩
  obtain ⟨m, a8, a4, at_⟩ := r_next (b := b) (n := n) (p := 0) ((u2 1 (by decide) (by decide)).trans hb) (by rw [u1]; exact h3) (by rw [u1]; exact h4) (Nat.zero_le _) hn (by rw [u1]; exact h5) fV
  have p0 : PRq b n c 0 C18 V := by
    refine ⟨⟨hn, hR18, fun j hj => (hlow 2 j (by decide)).trans ((kp.by hB) j hj), tk18, by omega, ?_⟩, ?_, ?_, ?_, ?_, a8, a4, at_⟩
    · rw [hI]
      simp (disch := omega) only [if_neg, if_pos, and_self, and_true, true_and, and_false, false_and, if_true, if_false]
      rfl
    · rw [m.1]; exact (u2 1 (by decide) (by decide)).trans hb
    · rw [m.2 5 (by decide) (by decide) (by decide) (by decide), u1]; exact h5
    · rw [m.2 6 (by decide) (by decide) (by decide) (by decide), u1]; exact h6
    · rw [m.2 3 (by decide) (by decide) (by decide) (by decide), u1]; exact h3
  have z : ∀ x, x < 131 → V.2.1 11 x = 0 := fun x hx => by rw [m.1]; exact uP x hx
  have zD : ∀ x, x < 2455 → V.2.1 13 x = 0 := fun x hx => by rw [m.1]; exact uD x hx
  have f16 : ∀ j, j = 5 ∨ j = 8 ∨ j = 11 ∨ j = 12 ∨ j = 14 ∨ j = 16 → C18.2.2.1 s j = 0 := fun j hj => by
    rw [hI]
    rcases hj with e | e | e | e | e | e <;> subst e <;> simp (disch := omega) only [if_neg, if_pos, and_self, and_true, true_and, and_false, false_and, if_true, if_false]
  have g3 : C18.2.2.1 (s + 2) 3 = 0 := by rw [hI]; simp (disch := omega) only [if_neg, if_pos, and_self, and_true, true_and, and_false, false_and, if_true, if_false]
  have g4 : C18.2.2.1 (s + 2) 4 = 0 := by rw [hI]; simp (disch := omega) only [if_neg, if_pos, and_self, and_true, true_and, and_false, false_and, if_true, if_false]
  have g7 : C18.2.2.1 (s + 2) 7 = 0 := by rw [hI]; simp (disch := omega) only [if_neg, if_pos, and_self, and_true, true_and, and_false, false_and, if_true, if_false]
  have C0 : SCN0 s C18 (V.2.1 11) (V.2.1 13) := by
    refine ⟨⟨0, by omega, f16 5 (by omega), z 4 (by omega), fun m hm => absurd hm (Nat.not_lt_zero m), fun m _ hm => z _ (by omega)⟩, ⟨g3.trans (z 9 (by omega)).symm, g4.trans (z 10 (by omega)).symm, .inl ⟨z 8 (by omega), z 9 (by omega), z 10 (by omega)⟩⟩, ⟨0, by omega, f16 8 (by omega), z 5 (by omega), fun k hk => absurd hk (Nat.not_lt_zero k)⟩, ⟨0, by omega, f16 11 (by omega), z 71 (by omega), fun k hk => absurd hk (Nat.not_lt_zero k)⟩, (f16 12 (by omega)).trans (z 76 (by omega)).symm, ⟨0, by omega, f16 14 (by omega), z 77 (by omega), fun k hk => absurd hk (Nat.not_lt_zero k)⟩, ⟨0, by omega, g7, z 101 (by omega), fun k hk => absurd hk (Nat.not_lt_zero k)⟩, ⟨0, by omega, f16 16 (by omega), z 118 (by omega), fun k hk => absurd hk (Nat.not_lt_zero k)⟩, fun j hj => zD j (by omega)⟩
  rcases othr_k hg with ⟨r9, g9, z9⟩ | ⟨r15, T13, g9, hg⟩
  · rcases l_head p0 hs C0 g9 fW with ⟨y, -⟩ | ⟨y1, y2⟩
    · exact absurd y z9
    · exact .inr ⟨y1, by rw [st_b52 _ y2.1 hf]; exact y2⟩
  rcases l_head p0 hs C0 g9 fW with ⟨-, ⟨j, hj, p13⟩, C13, R13⟩ | ⟨y, -⟩
  rotate_left
  · exact absurd y (by decide)
  rcases k_textl hs 16384 16384 (l := 0) p13 (hF.sub (R13.trans R18)) C13 (Nat.zero_le _) hg hf with ⟨y1, y2, y3, y4⟩ | y
  · exact .inl ⟨y1, y2, y3.trans (R13.trans R18), y4⟩
  · exact .inr y
end
end
