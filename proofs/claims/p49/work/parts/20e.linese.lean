set_option maxHeartbeats 4000000 in
set_option maxRecDepth 10000 in
theorem l_src2 {b : Nat → Int32} {n c i i0 k s mc : Nat} {T Tq T1 : AT} {S Sq S1 : MS} {r s0 l1 l2 l3 l4 l5 l6 l7 l8 l9 : Int32} (pq : PRq b n c i0 Tq Sq) (hi0 : i < i0) (hs : s = 478 ∨ s = 656) (gH : HDg s T (S.2.1 11)) (gM : MICg s T (S.2.1 11)) (gG : GRDg s T (S.2.1 11)) (b2 : T.2.2.1 s 8 = nI mc) (b3 : S.2.1 11 5 = nI mc) (b4 : ∀ k, k < mc → T.2.2.1 (s + 172 + k) 0 = S.2.1 11 (47 + k) ∧ T.2.2.1 (s + 172 + k) 5 = S.2.1 11 (53 + k) ∧ T.2.2.1 (s + 172 + k) 6 = S.2.1 11 (59 + k) ∧ T.2.2.1 (s + 172 + k) 7 = S.2.1 11 (65 + k) ∧ T.2.2.1 (s + 172 + k) 8 = S.2.1 11 (95 + k) ∧ (T.2.2.1 (s + 172 + k) 9 = 0 ∧ S.2.1 13 (25 + k) = 1 ∨ T.2.2.1 (s + 172 + k) 9 = 1 ∧ S.2.1 13 (25 + k) = 0) ∧ T.2.2.1 (s + 172 + k) 1 = S.2.1 13 (31 + k) ∧ T.2.2.1 (s + 172 + k) 2 = S.2.1 13 (37 + k) ∧ T.2.2.1 (s + 172 + k) 3 = S.2.1 13 (43 + k) ∧ T.2.2.1 (s + 172 + k) 4 = S.2.1 13 (49 + k)) (gW : WALg s T (S.2.1 11)) (gF : FADg s T (S.2.1 11)) (gT : TAPg s T (S.2.1 11)) (gZ : ZONg s T (S.2.1 11)) (gD : SHDg s T (S.2.1 11)) (gX : DZg (S.2.1 13)) (cmc : mc < 6) (k_l1 : l1 = nI mc) (rq : Tq.2.2.2.2 = T.2.2.2.2) (mq0 : MFq S Sq) (hIq : ∀ m j : Nat, m ≠ 6 → m ≠ s + 172 + mc → Tq.2.2.1 m j = T.2.2.1 m j) (hw : Tq.2.2.1 (s + 172 + mc) 0 = l2 ∧ Tq.2.2.1 (s + 172 + mc) 1 = l3 ∧ Tq.2.2.1 (s + 172 + mc) 2 = l4 ∧ Tq.2.2.1 (s + 172 + mc) 3 = l5 ∧ Tq.2.2.1 (s + 172 + mc) 4 = l6 ∧ Tq.2.2.1 (s + 172 + mc) 5 = l7 ∧ Tq.2.2.1 (s + 172 + mc) 6 = l8 ∧ Tq.2.2.1 (s + 172 + mc) 7 = l9 ∧ Tq.2.2.1 (s + 172 + mc) 8 = s0 ∧ Tq.2.2.1 (s + 172 + mc) 9 = 0) (hg : g_X3_parseSource_b168 Tq s = some (k, r, T1)) (hf : fr_readSource_b186 Sq s0 l1 l2 l3 l4 l5 l6 l7 l8 l9 = some S1) : LNq b n c i s T T1 S1 k := by
  obtain ⟨w0, w1, w2, w3, w4, w5, w6, w7, w8, w9⟩ := hw
  unfold g_X3_parseSource_b168 at hg
  obtain ⟨-, hg⟩ := oif_some hg
  obtain ⟨cv3, ecv3, hg⟩ := elet_some hg
  rw [hIq _ _ (by omega) (by omega), b2] at ecv3
  obtain ⟨cv4, ecv4, hg⟩ := elet_some hg
  have k_cv4 : cv4 = nI (mc + 1) := by rw [ecv4, ecv3]; exact nI_add mc 1
  obtain ⟨-, hg⟩ := oif_some hg
  obtain ⟨Tz, eTz, hg⟩ := elet_some hg
  have r_Tz : Tz.2.2.2.2 = T.2.2.2.2 := by rw [eTz]; exact rq
  have p_Tz := pr_uI (m := s) (k := 8) (v := cv4) pq (by omega)
  rw [← eTz] at p_Tz
  have hI_Tz : ∀ m j : Nat, m ≠ 6 → m ≠ s + 172 + mc → Tz.2.2.1 m j = if m = s ∧ j = 8 then cv4 else T.2.2.1 m j := fun m j h6 h7 => by rw [eTz, ui_get, hIq m j h6 h7]
  have hN_Tz : ∀ j : Nat, Tz.2.2.1 (s + 172 + mc) j = Tq.2.2.1 (s + 172 + mc) j := fun j => by rw [eTz]; exact ui_ne (.inl (by omega))
  unfold fr_readSource_b186 at hf
  obtain ⟨v2, ev2, hf⟩ := elet_some hf
  rw [if_pos (by rw [ev2, pq.2.2.1]; decide)] at hf
  obtain ⟨v4, ev4, hf⟩ := elet_some hf
  obtain ⟨-, hf⟩ := oif_some hf
  obtain ⟨S6, eS6, hf⟩ := elet_some hf
  obtain ⟨v7, ev7, hf⟩ := elet_some hf
  obtain ⟨-, hf⟩ := oif_some hf
  obtain ⟨S9, eS9, hf⟩ := elet_some hf
  obtain ⟨v10, ev10, hf⟩ := elet_some hf
  obtain ⟨-, hf⟩ := oif_some hf
  obtain ⟨S12, eS12, hf⟩ := elet_some hf
  obtain ⟨v13, ev13, hf⟩ := elet_some hf
  obtain ⟨-, hf⟩ := oif_some hf
  obtain ⟨S15, eS15, hf⟩ := elet_some hf
  obtain ⟨v16, ev16, hf⟩ := elet_some hf
  obtain ⟨-, hf⟩ := oif_some hf
  obtain ⟨S18, eS18, hf⟩ := elet_some hf
  obtain ⟨v19, ev19, hf⟩ := elet_some hf
  obtain ⟨-, hf⟩ := oif_some hf
  obtain ⟨S21, eS21, hf⟩ := elet_some hf
  obtain ⟨v22, ev22, hf⟩ := elet_some hf
  obtain ⟨-, hf⟩ := oif_some hf
  obtain ⟨S24, eS24, hf⟩ := elet_some hf
  obtain ⟨v25, ev25, hf⟩ := elet_some hf
  obtain ⟨-, hf⟩ := oif_some hf
  obtain ⟨S27, eS27, hf⟩ := elet_some hf
  obtain ⟨v28, ev28, hf⟩ := elet_some hf
  obtain ⟨-, hf⟩ := oif_some hf
  obtain ⟨S30, eS30, hf⟩ := elet_some hf
  obtain ⟨v31, ev31, hf⟩ := elet_some hf
  obtain ⟨-, hf⟩ := oif_some hf
  obtain ⟨S33, eS33, hf⟩ := elet_some hf
  obtain ⟨v34, ev34, hf⟩ := elet_some hf
  obtain ⟨v35, ev35, hf⟩ := elet_some hf
  obtain ⟨S36, eS36, hf⟩ := elet_some hf
  have hP_Sq : ∀ x : Nat, Sq.2.1 11 x = S.2.1 11 x := fun x => by rw [mq0.1]
  have hD_Sq : ∀ x : Nat, Sq.2.1 13 x = S.2.1 13 x := fun x => by rw [mq0.1]
  have k_v4 : v4 = nI (95 + mc) := by rw [ev4, k_l1]; exact nI_add 95 (mc)
  rw [k_v4, nI_clamp (by omega)] at eS6
  have hP_S6 : ∀ x : Nat, S6.2.1 11 x = if x = (95 + mc) then s0 else S.2.1 11 x := fun x => by rw [eS6, mf_at]; show (if x = (95 + mc) then s0 else Sq.2.1 11 x) = _; rw [hP_Sq]
  have hD_S6 : ∀ x : Nat, S6.2.1 13 x = S.2.1 13 x := fun x => by rw [eS6, mf_ne (by decide), hD_Sq]
  have k_v7 : v7 = nI (25 + mc) := by rw [ev7, k_l1]; exact nI_add 25 (mc)
  rw [k_v7, nI_clamp (by omega)] at eS9
  have hD_S9 : ∀ x : Nat, S9.2.1 13 x = if x = (25 + mc) then 1 else S.2.1 13 x := fun x => by rw [eS9, mf_at]; show (if x = (25 + mc) then 1 else S6.2.1 13 x) = _; rw [hD_S6]
  have hP_S9 : ∀ x : Nat, S9.2.1 11 x = if x = (95 + mc) then s0 else S.2.1 11 x := fun x => by rw [eS9, mf_ne (by decide), hP_S6]
  have k_v10 : v10 = nI (31 + mc) := by rw [ev10, k_l1]; exact nI_add 31 (mc)
  rw [k_v10, nI_clamp (by omega)] at eS12
  have hD_S12 : ∀ x : Nat, S12.2.1 13 x = if x = (31 + mc) then l3 else if x = (25 + mc) then 1 else S.2.1 13 x := fun x => by rw [eS12, mf_at]; show (if x = (31 + mc) then l3 else S9.2.1 13 x) = _; rw [hD_S9]
  have hP_S12 : ∀ x : Nat, S12.2.1 11 x = if x = (95 + mc) then s0 else S.2.1 11 x := fun x => by rw [eS12, mf_ne (by decide), hP_S9]
  have k_v13 : v13 = nI (37 + mc) := by rw [ev13, k_l1]; exact nI_add 37 (mc)
  rw [k_v13, nI_clamp (by omega)] at eS15
  have hD_S15 : ∀ x : Nat, S15.2.1 13 x = if x = (37 + mc) then l4 else if x = (31 + mc) then l3 else if x = (25 + mc) then 1 else S.2.1 13 x := fun x => by rw [eS15, mf_at]; show (if x = (37 + mc) then l4 else S12.2.1 13 x) = _; rw [hD_S12]
  have hP_S15 : ∀ x : Nat, S15.2.1 11 x = if x = (95 + mc) then s0 else S.2.1 11 x := fun x => by rw [eS15, mf_ne (by decide), hP_S12]
  have k_v16 : v16 = nI (43 + mc) := by rw [ev16, k_l1]; exact nI_add 43 (mc)
  rw [k_v16, nI_clamp (by omega)] at eS18
  have hD_S18 : ∀ x : Nat, S18.2.1 13 x = if x = (43 + mc) then l5 else if x = (37 + mc) then l4 else if x = (31 + mc) then l3 else if x = (25 + mc) then 1 else S.2.1 13 x := fun x => by rw [eS18, mf_at]; show (if x = (43 + mc) then l5 else S15.2.1 13 x) = _; rw [hD_S15]
  have hP_S18 : ∀ x : Nat, S18.2.1 11 x = if x = (95 + mc) then s0 else S.2.1 11 x := fun x => by rw [eS18, mf_ne (by decide), hP_S15]
  have k_v19 : v19 = nI (49 + mc) := by rw [ev19, k_l1]; exact nI_add 49 (mc)
  rw [k_v19, nI_clamp (by omega)] at eS21
  have hD_S21 : ∀ x : Nat, S21.2.1 13 x = if x = (49 + mc) then l6 else if x = (43 + mc) then l5 else if x = (37 + mc) then l4 else if x = (31 + mc) then l3 else if x = (25 + mc) then 1 else S.2.1 13 x := fun x => by rw [eS21, mf_at]; show (if x = (49 + mc) then l6 else S18.2.1 13 x) = _; rw [hD_S18]
  have hP_S21 : ∀ x : Nat, S21.2.1 11 x = if x = (95 + mc) then s0 else S.2.1 11 x := fun x => by rw [eS21, mf_ne (by decide), hP_S18]
  have k_v22 : v22 = nI (47 + mc) := by rw [ev22, k_l1]; exact nI_add 47 (mc)
  rw [k_v22, nI_clamp (by omega)] at eS24
  have hP_S24 : ∀ x : Nat, S24.2.1 11 x = if x = (47 + mc) then l2 else if x = (95 + mc) then s0 else S.2.1 11 x := fun x => by rw [eS24, mf_at]; show (if x = (47 + mc) then l2 else S21.2.1 11 x) = _; rw [hP_S21]
  have hD_S24 : ∀ x : Nat, S24.2.1 13 x = if x = (49 + mc) then l6 else if x = (43 + mc) then l5 else if x = (37 + mc) then l4 else if x = (31 + mc) then l3 else if x = (25 + mc) then 1 else S.2.1 13 x := fun x => by rw [eS24, mf_ne (by decide), hD_S21]
  have k_v25 : v25 = nI (53 + mc) := by rw [ev25, k_l1]; exact nI_add 53 (mc)
  rw [k_v25, nI_clamp (by omega)] at eS27
  have hP_S27 : ∀ x : Nat, S27.2.1 11 x = if x = (53 + mc) then l7 else if x = (47 + mc) then l2 else if x = (95 + mc) then s0 else S.2.1 11 x := fun x => by rw [eS27, mf_at]; show (if x = (53 + mc) then l7 else S24.2.1 11 x) = _; rw [hP_S24]
  have hD_S27 : ∀ x : Nat, S27.2.1 13 x = if x = (49 + mc) then l6 else if x = (43 + mc) then l5 else if x = (37 + mc) then l4 else if x = (31 + mc) then l3 else if x = (25 + mc) then 1 else S.2.1 13 x := fun x => by rw [eS27, mf_ne (by decide), hD_S24]
  have k_v28 : v28 = nI (59 + mc) := by rw [ev28, k_l1]; exact nI_add 59 (mc)
  rw [k_v28, nI_clamp (by omega)] at eS30
  have hP_S30 : ∀ x : Nat, S30.2.1 11 x = if x = (59 + mc) then l8 else if x = (53 + mc) then l7 else if x = (47 + mc) then l2 else if x = (95 + mc) then s0 else S.2.1 11 x := fun x => by rw [eS30, mf_at]; show (if x = (59 + mc) then l8 else S27.2.1 11 x) = _; rw [hP_S27]
  have hD_S30 : ∀ x : Nat, S30.2.1 13 x = if x = (49 + mc) then l6 else if x = (43 + mc) then l5 else if x = (37 + mc) then l4 else if x = (31 + mc) then l3 else if x = (25 + mc) then 1 else S.2.1 13 x := fun x => by rw [eS30, mf_ne (by decide), hD_S27]
  have k_v31 : v31 = nI (65 + mc) := by rw [ev31, k_l1]; exact nI_add 65 (mc)
  rw [k_v31, nI_clamp (by omega)] at eS33
  have hP_S33 : ∀ x : Nat, S33.2.1 11 x = if x = (65 + mc) then l9 else if x = (59 + mc) then l8 else if x = (53 + mc) then l7 else if x = (47 + mc) then l2 else if x = (95 + mc) then s0 else S.2.1 11 x := fun x => by rw [eS33, mf_at]; show (if x = (65 + mc) then l9 else S30.2.1 11 x) = _; rw [hP_S30]
  have hD_S33 : ∀ x : Nat, S33.2.1 13 x = if x = (49 + mc) then l6 else if x = (43 + mc) then l5 else if x = (37 + mc) then l4 else if x = (31 + mc) then l3 else if x = (25 + mc) then 1 else S.2.1 13 x := fun x => by rw [eS33, mf_ne (by decide), hD_S30]
  rw [hP_S33] at ev34
  (try simp (disch := omega) only [if_neg, if_pos, and_self, and_true, true_and, and_false, false_and, if_true, if_false] at ev34)
  rw [b3] at ev34
  have k_v34 : v34 = nI mc := ev34
  have k_v35 : v35 = nI (mc + 1) := by rw [ev35, k_v34]; exact nI_add (mc) 1
  have hP_S36 : ∀ x : Nat, S36.2.1 11 x = if x = 5 then v35 else if x = (65 + mc) then l9 else if x = (59 + mc) then l8 else if x = (53 + mc) then l7 else if x = (47 + mc) then l2 else if x = (95 + mc) then s0 else S.2.1 11 x := fun x => by rw [eS36, mf_at]; show (if x = 5 then v35 else S33.2.1 11 x) = _; rw [hP_S33]
  have hD_S36 : ∀ x : Nat, S36.2.1 13 x = if x = (49 + mc) then l6 else if x = (43 + mc) then l5 else if x = (37 + mc) then l4 else if x = (31 + mc) then l3 else if x = (25 + mc) then 1 else S.2.1 13 x := fun x => by rw [eS36, mf_ne (by decide), hD_S33]
  have p_S6 := pr_mfe p_Tz eS6 (by decide)
  have p_S9 := pr_mfe p_S6 eS9 (by decide)
  have p_S12 := pr_mfe p_S9 eS12 (by decide)
  have p_S15 := pr_mfe p_S12 eS15 (by decide)
  have p_S18 := pr_mfe p_S15 eS18 (by decide)
  have p_S21 := pr_mfe p_S18 eS21 (by decide)
  have p_S24 := pr_mfe p_S21 eS24 (by decide)
  have p_S27 := pr_mfe p_S24 eS27 (by decide)
  have p_S30 := pr_mfe p_S27 eS30 (by decide)
  have p_S33 := pr_mfe p_S30 eS33 (by decide)
  have p_S36 := pr_mfe p_S33 eS36 (by decide)
  have g := osome3 hg
  have eS := osome1 hf
  rw [← g.2.2, ← eS]
  exact .inl ⟨g.1.symm, ⟨_, by omega, p_S36⟩, ⟨gH.cg (fun j hj => by rw [hI_Tz _ _ (by omega) (by omega)]; try simp (disch := omega) only [if_neg, if_pos, and_self, and_true, true_and, and_false, false_and, if_true, if_false]) (fun j hj => by rw [hP_S36]; try simp (disch := omega) only [if_neg, if_pos, and_self, and_true, true_and, and_false, false_and, if_true, if_false]), gM.cg (by rw [hI_Tz _ _ (by omega) (by omega)]; try simp (disch := omega) only [if_neg, if_pos, and_self, and_true, true_and, and_false, false_and, if_true, if_false]) (fun m k hm hm2 => by rw [hI_Tz _ _ (by omega) (by omega)]; try simp (disch := omega) only [if_neg, if_pos, and_self, and_true, true_and, and_false, false_and, if_true, if_false]) (fun j hj => by rw [hP_S36]; try simp (disch := omega) only [if_neg, if_pos, and_self, and_true, true_and, and_false, false_and, if_true, if_false]), gG.cg (fun k hk => by rw [hI_Tz _ _ (by omega) (by omega)]; try simp (disch := omega) only [if_neg, if_pos, and_self, and_true, true_and, and_false, false_and, if_true, if_false]) (fun k => by rw [hI_Tz _ _ (by omega) (by omega)]; try simp (disch := omega) only [if_neg, if_pos, and_self, and_true, true_and, and_false, false_and, if_true, if_false]) (fun j hj hj2 => by rw [hP_S36]; try simp (disch := omega) only [if_neg, if_pos, and_self, and_true, true_and, and_false, false_and, if_true, if_false]), ⟨mc + 1, by omega, (by rw [hI_Tz _ _ (by omega) (by omega)]; (try simp (disch := omega) only [if_neg, if_pos, and_self, and_true, true_and, and_false, false_and, if_true, if_false]); try exact k_cv4), (by rw [hP_S36]; (try simp (disch := omega) only [if_neg, if_pos, and_self, and_true, true_and, and_false, false_and, if_true, if_false]); try exact k_v35), fun k2 hk2 => if e : k2 = mc then ⟨(by rw [e]; rw [hN_Tz, hP_S36]; (try simp (disch := omega) only [if_neg, if_pos, and_self, and_true, true_and, and_false, false_and, if_true, if_false]); try exact w0), (by rw [e]; rw [hN_Tz, hP_S36]; (try simp (disch := omega) only [if_neg, if_pos, and_self, and_true, true_and, and_false, false_and, if_true, if_false]); try exact w5), (by rw [e]; rw [hN_Tz, hP_S36]; (try simp (disch := omega) only [if_neg, if_pos, and_self, and_true, true_and, and_false, false_and, if_true, if_false]); try exact w6), (by rw [e]; rw [hN_Tz, hP_S36]; (try simp (disch := omega) only [if_neg, if_pos, and_self, and_true, true_and, and_false, false_and, if_true, if_false]); try exact w7), (by rw [e]; rw [hN_Tz, hP_S36]; (try simp (disch := omega) only [if_neg, if_pos, and_self, and_true, true_and, and_false, false_and, if_true, if_false]); try exact w8), .inl ⟨(by rw [e]; rw [hN_Tz]; exact w9), (by rw [e]; rw [hD_S36]; try simp (disch := omega) only [if_neg, if_pos, and_self, and_true, true_and, and_false, false_and, if_true, if_false])⟩, (by rw [e]; rw [hN_Tz, hD_S36]; (try simp (disch := omega) only [if_neg, if_pos, and_self, and_true, true_and, and_false, false_and, if_true, if_false]); try exact w1), (by rw [e]; rw [hN_Tz, hD_S36]; (try simp (disch := omega) only [if_neg, if_pos, and_self, and_true, true_and, and_false, false_and, if_true, if_false]); try exact w2), (by rw [e]; rw [hN_Tz, hD_S36]; (try simp (disch := omega) only [if_neg, if_pos, and_self, and_true, true_and, and_false, false_and, if_true, if_false]); try exact w3), (by rw [e]; rw [hN_Tz, hD_S36]; (try simp (disch := omega) only [if_neg, if_pos, and_self, and_true, true_and, and_false, false_and, if_true, if_false]); try exact w4)⟩ else ⟨(by rw [hI_Tz _ _ (by omega) (by omega), hP_S36]; (try simp (disch := omega) only [if_neg, if_pos, and_self, and_true, true_and, and_false, false_and, if_true, if_false]); try exact (b4 k2 (by omega)).1), (by rw [hI_Tz _ _ (by omega) (by omega), hP_S36]; (try simp (disch := omega) only [if_neg, if_pos, and_self, and_true, true_and, and_false, false_and, if_true, if_false]); try exact (b4 k2 (by omega)).2.1), (by rw [hI_Tz _ _ (by omega) (by omega), hP_S36]; (try simp (disch := omega) only [if_neg, if_pos, and_self, and_true, true_and, and_false, false_and, if_true, if_false]); try exact (b4 k2 (by omega)).2.2.1), (by rw [hI_Tz _ _ (by omega) (by omega), hP_S36]; (try simp (disch := omega) only [if_neg, if_pos, and_self, and_true, true_and, and_false, false_and, if_true, if_false]); try exact (b4 k2 (by omega)).2.2.2.1), (by rw [hI_Tz _ _ (by omega) (by omega), hP_S36]; (try simp (disch := omega) only [if_neg, if_pos, and_self, and_true, true_and, and_false, false_and, if_true, if_false]); try exact (b4 k2 (by omega)).2.2.2.2.1), (by rw [hI_Tz _ _ (by omega) (by omega), hD_S36]; (try simp (disch := omega) only [if_neg, if_pos, and_self, and_true, true_and, and_false, false_and, if_true, if_false]); try exact (b4 k2 (by omega)).2.2.2.2.2.1), (by rw [hI_Tz _ _ (by omega) (by omega), hD_S36]; (try simp (disch := omega) only [if_neg, if_pos, and_self, and_true, true_and, and_false, false_and, if_true, if_false]); try exact (b4 k2 (by omega)).2.2.2.2.2.2.1), (by rw [hI_Tz _ _ (by omega) (by omega), hD_S36]; (try simp (disch := omega) only [if_neg, if_pos, and_self, and_true, true_and, and_false, false_and, if_true, if_false]); try exact (b4 k2 (by omega)).2.2.2.2.2.2.2.1), (by rw [hI_Tz _ _ (by omega) (by omega), hD_S36]; (try simp (disch := omega) only [if_neg, if_pos, and_self, and_true, true_and, and_false, false_and, if_true, if_false]); try exact (b4 k2 (by omega)).2.2.2.2.2.2.2.2.1), (by rw [hI_Tz _ _ (by omega) (by omega), hD_S36]; (try simp (disch := omega) only [if_neg, if_pos, and_self, and_true, true_and, and_false, false_and, if_true, if_false]); try exact (b4 k2 (by omega)).2.2.2.2.2.2.2.2.2)⟩⟩, gW.cg (by rw [hI_Tz _ _ (by omega) (by omega)]; try simp (disch := omega) only [if_neg, if_pos, and_self, and_true, true_and, and_false, false_and, if_true, if_false]) (fun k => by rw [hI_Tz _ _ (by omega) (by omega)]; try simp (disch := omega) only [if_neg, if_pos, and_self, and_true, true_and, and_false, false_and, if_true, if_false]) (fun k => by rw [hI_Tz _ _ (by omega) (by omega)]; try simp (disch := omega) only [if_neg, if_pos, and_self, and_true, true_and, and_false, false_and, if_true, if_false]) (fun j hj hj2 => by rw [hP_S36]; try simp (disch := omega) only [if_neg, if_pos, and_self, and_true, true_and, and_false, false_and, if_true, if_false]), gF.cg (by rw [hI_Tz _ _ (by omega) (by omega)]; try simp (disch := omega) only [if_neg, if_pos, and_self, and_true, true_and, and_false, false_and, if_true, if_false]) (by rw [hP_S36]; try simp (disch := omega) only [if_neg, if_pos, and_self, and_true, true_and, and_false, false_and, if_true, if_false]), gT.cg (by rw [hI_Tz _ _ (by omega) (by omega)]; try simp (disch := omega) only [if_neg, if_pos, and_self, and_true, true_and, and_false, false_and, if_true, if_false]) (fun k => by rw [hI_Tz _ _ (by omega) (by omega)]; try simp (disch := omega) only [if_neg, if_pos, and_self, and_true, true_and, and_false, false_and, if_true, if_false]) (fun j hj hj2 => by rw [hP_S36]; try simp (disch := omega) only [if_neg, if_pos, and_self, and_true, true_and, and_false, false_and, if_true, if_false]), gZ.cg (by rw [hI_Tz _ _ (by omega) (by omega)]; try simp (disch := omega) only [if_neg, if_pos, and_self, and_true, true_and, and_false, false_and, if_true, if_false]) (fun m k hm hm2 => by rw [hI_Tz _ _ (by omega) (by omega)]; try simp (disch := omega) only [if_neg, if_pos, and_self, and_true, true_and, and_false, false_and, if_true, if_false]) (fun j hj hj2 => by rw [hP_S36]; try simp (disch := omega) only [if_neg, if_pos, and_self, and_true, true_and, and_false, false_and, if_true, if_false]), gD.cg (by rw [hI_Tz _ _ (by omega) (by omega)]; try simp (disch := omega) only [if_neg, if_pos, and_self, and_true, true_and, and_false, false_and, if_true, if_false]) (fun k => by rw [hI_Tz _ _ (by omega) (by omega)]; try simp (disch := omega) only [if_neg, if_pos, and_self, and_true, true_and, and_false, false_and, if_true, if_false]) (fun j hj hj2 => by rw [hP_S36]; try simp (disch := omega) only [if_neg, if_pos, and_self, and_true, true_and, and_false, false_and, if_true, if_false]), (fun j hj => by rw [hD_S36]; (try simp (disch := omega) only [if_neg, if_pos, and_self, and_true, true_and, and_false, false_and, if_true, if_false]); try exact gX j hj)⟩, r_Tz⟩
