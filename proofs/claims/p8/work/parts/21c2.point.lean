section
variable {T T1 : AT} {S S1 : MS} {s : Nat}
/-- the cells of the Sources of both scenes -/
def P7 (m : Nat) : Prop := 650 ≤ m ∧ m < 656 ∨ 828 ≤ m ∧ m < 834
def C7 (m : Nat) (T : AT) : Prop := m < T.1 ∧ T.2.1 m = (7, 0)
theorem QF.app (h : QF T T1) {m : Nat} (c : C7 m T) : C7 m T1 ∧ ∀ j, T1.2.2.1 m j = T.2.2.1 m j := ⟨⟨Nat.lt_of_lt_of_le c.1 h.1.1, (h.1.2.1 m c.1).trans c.2⟩, fun j => h.2 m j c.1 c.2⟩
theorem p7_dec : (List.range 1586).all (fun m => !((Nat.ble 650 m && Nat.blt m 656) || (Nat.ble 828 m && Nat.blt m 834)) || Nat.beq (aR0 m) 7) = true := by decide +kernel
theorem c7_of (hV : IV aR0 1586 aK1 aK2 T) {m : Nat} (hm : P7 m) : C7 m T := by
  have h15 : m < 1586 := by unfold P7 at hm; omega
  have r : aR0 m = 7 := by
    have d := a_fin p7_dec h15
    rcases hm with ⟨a, b⟩ | ⟨a, b⟩
    · rw [show Nat.ble 650 m = true from Nat.ble_eq_true_of_le a, show Nat.blt m 656 = true from Nat.ble_eq_true_of_le b] at d
      exact Nat.eq_of_beq_eq_true (by simpa using d)
    · rw [show Nat.ble 828 m = true from Nat.ble_eq_true_of_le a, show Nat.blt m 834 = true from Nat.ble_eq_true_of_le b] at d
      exact Nat.eq_of_beq_eq_true (by simpa using d)
  have st := iv_sta hV r (by decide) (by decide)
  exact ⟨iv_lt hV st, by rw [hV.2.1 m st, r]; rfl⟩
set_option maxRecDepth 100000 in
theorem pt_dec : okc 7 = true ∧ (arf 7).getD 1 none = some 21 ∧ (arf 0).getD 2 none = some 7 := by decide +kernel
theorem q_rp {a b : Nat} {c d : Int32} (h21 : T.2.2.2.2 7 1 = some 21) (hg : g_X5_recordPoint T 7 a b c d = some T1) {m : Nat} (hm : P7 m) (cm : C7 m T) : C7 m T1 ∧ ∀ j, T1.2.2.1 m j = T.2.2.1 m j := by
  have m21 : m ≠ 21 := by unfold P7 at hm; omega
  have up : ∀ {U : AT} {k : Nat} {v : Int32}, C7 m U → C7 m (uI U 21 k v) ∧ ∀ j, (uI U 21 k v).2.2.1 m j = U.2.2.1 m j := fun c => ⟨c, fun j => ui_ne (.inl m21)⟩
  unfold g_X5_recordPoint at hg
  obtain ⟨-, hg⟩ := oif_some hg
  obtain ⟨T3, g3, hg⟩ := obind_some hg
  obtain ⟨c3, e3⟩ := (sq_X5_silence g3).app cm
  have r3 : T3.2.2.2.2 = T.2.2.2.2 := (s_X5_silence g3).2.2
  obtain ⟨-, hg⟩ := oif_some hg
  obtain ⟨n6, en6, hg⟩ := obind_some hg
  rw [r3, h21] at en6
  cases en6
  obtain ⟨-, hg⟩ := oif_some hg
  obtain ⟨T8, e8, hg⟩ := elet_some hg
  obtain ⟨c8, f8⟩ := up (k := 0) (v := 0) c3
  rw [← e8] at c8 f8
  have r8 : T8.2.2.2.2 = T.2.2.2.2 := by rw [e8]; exact r3
  obtain ⟨-, hg⟩ := oif_some hg
  obtain ⟨n10, en10, hg⟩ := obind_some hg
  rw [r8, h21] at en10
  cases en10
  obtain ⟨-, hg⟩ := oif_some hg
  obtain ⟨T12, e12, hg⟩ := elet_some hg
  obtain ⟨c12, f12⟩ := up (k := 5) (v := 100) c8
  rw [← e12] at c12 f12
  have r12 : T12.2.2.2.2 = T.2.2.2.2 := by rw [e12]; exact r8
  obtain ⟨-, hg⟩ := oif_some hg
  obtain ⟨n14, en14, hg⟩ := obind_some hg
  rw [r12, h21] at en14
  cases en14
  obtain ⟨-, hg⟩ := oif_some hg
  obtain ⟨T16, e16, hg⟩ := elet_some hg
  obtain ⟨c16, f16⟩ := up (k := 6) (v := d) c12
  rw [← e16] at c16 f16
  obtain ⟨-, hg⟩ := oif_some hg
  obtain ⟨n18, -, hg⟩ := obind_some hg
  obtain ⟨-, hg⟩ := oif_some hg
  obtain ⟨r22, T20, g20, hg⟩ := obind2_some hg
  obtain ⟨c20, f20⟩ := (sq_X1_centreX g20).app c16
  obtain ⟨-, hg⟩ := oif_some hg
  obtain ⟨n25, -, hg⟩ := obind_some hg
  obtain ⟨-, hg⟩ := oif_some hg
  obtain ⟨r29, T27, g27, hg⟩ := obind2_some hg
  obtain ⟨c27, f27⟩ := (sq_X1_centreY g27).app c20
  obtain ⟨c1, f1⟩ := (sq_X5_recordPoint_b53 _ _ _ _ _ _ _ _ hg).app c27
  exact ⟨c1, fun j => by rw [f1, f27, f20, f16, f12, f8, e3]⟩
theorem q_point {a0 a1 : Int32} (hV : IV aR0 1586 aK1 aK2 T) (hc : CRF T) (hg : g_X11_recordPoint T 0 a0 a1 = some T1) {m : Nat} (hm : P7 m) (cm : C7 m T) : C7 m T1 ∧ ∀ j, T1.2.2.1 m j = T.2.2.1 m j := by
  obtain ⟨o7, a7, a2⟩ := pt_dec
  unfold g_X11_recordPoint at hg
  obtain ⟨-, hg⟩ := oif_some hg
  obtain ⟨n3, en3, hg⟩ := obind_some hg
  obtain ⟨-, hg⟩ := oif_some hg
  obtain ⟨n5, en5, hg⟩ := obind_some hg
  obtain ⟨-, hg⟩ := oif_some hg
  obtain ⟨T7, g7, hg⟩ := obind_some hg
  obtain ⟨c7, f7⟩ := (sq_X8_copyFrom g7).app cm
  have hc7 : CRF T7 := crf_gr hc hV (sr_X8_copyFrom g7)
  unfold g_X11_recordPoint_b11 at hg
  obtain ⟨-, hg⟩ := oif_some hg
  obtain ⟨m3, em3, hg⟩ := obind_some hg
  rw [(hc7.2.1 2 (by decide) (by decide)).trans a2] at em3
  cases em3
  obtain ⟨-, hg⟩ := oif_some hg
  obtain ⟨m5, em5, hg⟩ := obind_some hg
  obtain ⟨-, hg⟩ := oif_some hg
  obtain ⟨m7, em7, hg⟩ := obind_some hg
  obtain ⟨-, hg⟩ := oif_some hg
  obtain ⟨T9, g9, hg⟩ := obind_some hg
  obtain ⟨c9, f9⟩ := q_rp ((hc7.at 7 o7 1).trans a7) g9 hm c7
  rw [← osome1 (show some T9 = some T1 from hg)]
  exact ⟨c9, fun j => (f9 j).trans (f7 j)⟩
theorem need_same {k : Nat} {r : Int32} : (∀ {o : Nat}, g_X11_needCamera T o = some (k, r, T1) → T1 = T) ∧ (∀ {o : Nat} {a : Int32}, g_X11_needCell T o a = some (k, r, T1) → T1 = T) ∧ (∀ {a b c : Int32}, g_X11_needRange T a b c = some (k, r, T1) → T1 = T) := by
  have idx : ∀ {U U1 : AT} {k : Nat} {r a b : Int32}, g_X11_needIndex U a b = some (k, r, U1) → U1 = U := by
    intro U U1 k r a b hg
    unfold g_X11_needIndex at hg
    by_cases c0 : a < 0
    · rw [if_pos c0] at hg
      exact (osome3 (show some ((2 : Nat), (0 : Int32), U) = some (k, r, U1) from hg)).2.2.symm
    · rw [if_neg c0] at hg
      by_cases c1 : a < b
      · rw [if_pos c1] at hg
        exact (osome3 hg).2.2.symm
      · rw [if_neg c1] at hg
        exact (osome3 (show some ((2 : Nat), (0 : Int32), U) = some (k, r, U1) from hg)).2.2.symm
  refine ⟨fun {o} hg => ?_, fun {o a} hg => ?_, fun {a b c} hg => ?_⟩
  · unfold g_X11_needCamera at hg
    obtain ⟨-, hg⟩ := oif_some hg
    obtain ⟨n3, e3, hg⟩ := obind_some hg
    obtain ⟨-, hg⟩ := oif_some hg
    obtain ⟨v5, e5, hg⟩ := elet_some hg
    by_cases c : v5 = 0
    · rw [if_pos c] at hg; exact (osome3 hg).2.2.symm
    · rw [if_neg c] at hg; exact (osome3 hg).2.2.symm
  · unfold g_X11_needCell at hg
    obtain ⟨-, hg⟩ := oif_some hg
    obtain ⟨n3, e3, hg⟩ := obind_some hg
    obtain ⟨-, hg⟩ := oif_some hg
    obtain ⟨n5, e5, hg⟩ := obind_some hg
    obtain ⟨-, hg⟩ := oif_some hg
    obtain ⟨r9, T7, g7, hg⟩ := obind2_some hg
    have e7 : T7 = T := by
      unfold g_X1_cells at g7
      obtain ⟨-, g7⟩ := oif_some g7
      obtain ⟨x3, y3, g7⟩ := elet_some g7
      obtain ⟨-, g7⟩ := oif_some g7
      obtain ⟨x5, y5, g7⟩ := elet_some g7
      obtain ⟨x6, y6, g7⟩ := elet_some g7
      exact (osome2 g7).2.symm
    rcases othr_k hg with ⟨r9', g9, -⟩ | ⟨r9', T9, g9, hg⟩
    · exact (idx g9).trans e7
    · have g := osome3 hg
      exact g.2.2.symm.trans ((idx g9).trans e7)
  · unfold g_X11_needRange at hg
    by_cases c0 : a < b
    · rw [if_pos c0] at hg
      exact (osome3 (show some ((3 : Nat), (0 : Int32), T) = some (k, r, T1) from hg)).2.2.symm
    · rw [if_neg c0] at hg
      by_cases c1 : a ≤ c
      · rw [if_pos c1] at hg
        exact (osome3 hg).2.2.symm
      · rw [if_neg c1] at hg
        exact (osome3 (show some ((3 : Nat), (0 : Int32), T) = some (k, r, T1) from hg)).2.2.symm
theorem q_pointBest {a0 a1 r : Int32} {k : Nat} (hV : IV aR0 1586 aK1 aK2 T) (hc : CRF T) (hg : g_X11_pointBest T 0 a0 a1 = some (k, r, T1)) {m : Nat} (hm : P7 m) : ∀ j, T1.2.2.1 m j = T.2.2.1 m j := by
  have cm := c7_of hV hm
  unfold g_X11_pointBest at hg
  obtain ⟨-, hg⟩ := oif_some hg
  rcases othr_k hg with ⟨r9, g9, -⟩ | ⟨r5, T3, g9, hg⟩
  · rw [need_same.1 g9]; exact fun _ => rfl
  rw [need_same.1 g9] at hg
  obtain ⟨-, hg⟩ := oif_some hg
  rcases othr_k hg with ⟨r9, g9, -⟩ | ⟨r10, T8, g9, hg⟩
  · rw [need_same.2.1 g9]; exact fun _ => rfl
  rw [need_same.2.1 g9] at hg
  rcases othr_k hg with ⟨r9, g9, -⟩ | ⟨r14, T12, g9, hg⟩
  · rw [need_same.2.2 g9]; exact fun _ => rfl
  rw [need_same.2.2 g9] at hg
  obtain ⟨-, hg⟩ := oif_some hg
  obtain ⟨T17, g17, hg⟩ := obind_some hg
  obtain ⟨c17, f17⟩ := q_point hV hc g17 hm cm
  unfold g_X11_pointBest_b22 at hg
  obtain ⟨-, hg⟩ := oif_some hg
  obtain ⟨r4, U, gU, hg⟩ := obind2_some hg
  obtain ⟨-, fU⟩ := (sq_X11_trialBest gU).app c17
  have g := osome3 (show some ((0 : Nat), r4, U) = some (k, r, T1) from hg)
  rw [← g.2.2]
  exact fun j => (fU j).trans (f17 j)
theorem q_pointPower {a0 a1 a2 : Int32} {r : Int64} {k : Nat} (hV : IV aR0 1586 aK1 aK2 T) (hc : CRF T) (hg : g_X11_pointPower T 0 a0 a1 a2 = some (k, r, T1)) {m : Nat} (hm : P7 m) : ∀ j, T1.2.2.1 m j = T.2.2.1 m j := by
  have cm := c7_of hV hm
  unfold g_X11_pointPower at hg
  obtain ⟨-, hg⟩ := oif_some hg
  rcases othr_k hg with ⟨r9, g9, -⟩ | ⟨r5, T3, g9, hg⟩
  · rw [need_same.1 g9]; exact fun _ => rfl
  rw [need_same.1 g9] at hg
  obtain ⟨-, hg⟩ := oif_some hg
  rcases othr_k hg with ⟨r9, g9, -⟩ | ⟨r10, T8, g9, hg⟩
  · rw [need_same.2.1 g9]; exact fun _ => rfl
  rw [need_same.2.1 g9] at hg
  obtain ⟨-, hg⟩ := oif_some hg
  rcases othr_k hg with ⟨r9, g9, -⟩ | ⟨r15, T13, g9, hg⟩
  · rw [need_same.2.1 g9]; exact fun _ => rfl
  rw [need_same.2.1 g9] at hg
  rcases othr_k hg with ⟨r9, g9, -⟩ | ⟨r19, T17, g9, hg⟩
  · rw [need_same.2.2 g9]; exact fun _ => rfl
  rw [need_same.2.2 g9] at hg
  obtain ⟨-, hg⟩ := oif_some hg
  obtain ⟨T22, g22, hg⟩ := obind_some hg
  obtain ⟨c22, f22⟩ := q_point hV hc g22 hm cm
  unfold g_X11_pointPower_b27 at hg
  obtain ⟨-, hg⟩ := oif_some hg
  obtain ⟨n3, -, hg⟩ := obind_some hg
  obtain ⟨-, hg⟩ := oif_some hg
  obtain ⟨n5, -, hg⟩ := obind_some hg
  obtain ⟨-, hg⟩ := oif_some hg
  obtain ⟨n7, -, hg⟩ := obind_some hg
  obtain ⟨-, hg⟩ := oif_some hg
  obtain ⟨-, hg⟩ := oif_some hg
  obtain ⟨n10, -, hg⟩ := obind_some hg
  obtain ⟨-, hg⟩ := oif_some hg
  obtain ⟨n12, -, hg⟩ := obind_some hg
  obtain ⟨-, hg⟩ := oif_some hg
  obtain ⟨T14, g14, hg⟩ := obind_some hg
  obtain ⟨c14, f14⟩ := (sq_X8_powerOf g14).app c22
  obtain ⟨-, fz⟩ := (sq_X11_pointPower_b48 _ _ hg).app c14
  exact fun j => (fz j).trans ((f14 j).trans (f22 j))
/-- as r1_keep, where a Source's fields may change elsewhere -/
def scodes7 : List Nat := (List.range 18).map (192 + ·) ++ (List.range 8).map (32 + ·) ++ (List.range 4).map (64 + ·) ++ [1888, 1760, 1792, 1824, 1856]
def okW7 (W : List Nat) : Bool := scodes7.all (fun x => !(W.contains x)) && !(W.contains 289) && !(W.contains 1312) && !(W.contains 98) && !(W.contains 99)
theorem fw_seq7 {W : List Nat} (h : FW aR0 W T T1) (c : scodes7.all (fun x => !(W.contains x)) = true) (hs : s = 478 ∨ s = 656) (h7 : ∀ m, P7 m → ∀ j, T1.2.2.1 m j = T.2.2.1 m j) : SEQ s T T1 := by
  obtain ⟨r0, r1, r2, r3, r4, r5, r6, r7, r8, r9⟩ := sro hs
  have sc : ∀ {x : Nat}, x ∈ scodes7 → W.contains x = false := fun {x} hx => con_f (List.all_eq_true.mp c x hx)
  have k0 : ∀ j, j < 18 → 192 + j ∈ scodes7 := fun j hj => List.mem_append_left _ (List.mem_append_left _ (List.mem_append_left _ (List.mem_map.mpr ⟨j, List.mem_range.mpr hj, rfl⟩)))
  have k1 : ∀ j, j < 8 → 32 + j ∈ scodes7 := fun j hj => List.mem_append_left _ (List.mem_append_left _ (List.mem_append_right _ (List.mem_map.mpr ⟨j, List.mem_range.mpr hj, rfl⟩)))
  have k2 : ∀ j, j < 4 → 64 + j ∈ scodes7 := fun j hj => List.mem_append_left _ (List.mem_append_right _ (List.mem_map.mpr ⟨j, List.mem_range.mpr hj, rfl⟩))
  have ka : ∀ x, x ∈ [1888, 1760, 1792, 1824, 1856] → x ∈ scodes7 := fun x hx => List.mem_append_right _ hx
  refine ⟨fun j hj => h _ _ ?_, fun j hj => h _ _ ?_, fun j => h _ _ ?_, fun m j a b => h _ _ ?_, fun m j a b => h _ _ ?_, fun m j a b d => h _ _ ?_, fun m j a b d => h7 m (by unfold P7; omega) j⟩
  · rw [r0]; exact sc (k0 j hj)
  · rw [r1]; exact sc (k1 j hj)
  · rw [r2]; exact sc (ka 1888 (by decide))
  · have q := r3 (m - (s + 5)) (by omega)
    rw [show s + 5 + (m - (s + 5)) = m from by omega] at q
    rw [q]; exact sc (ka 1888 (by decide))
  · rcases (show m = s + 11 ∨ m = s + 12 ∨ m = s + 13 ∨ m = s + 14 by omega) with e | e | e | e <;> rw [e]
    · rw [r4]; exact sc (ka 1760 (by decide))
    · rw [r5]; exact sc (ka 1792 (by decide))
    · rw [r6]; exact sc (ka 1824 (by decide))
    · rw [r7]; exact sc (ka 1856 (by decide))
  · have q := r8 (m - (s + 160)) (by omega)
    rw [show s + 160 + (m - (s + 160)) = m from by omega] at q
    rw [q]; exact sc (k2 j d)
theorem r1_keep7 {W : List Nat} (h : R1 T S) (hV : IV aR0 1586 aK1 aK2 T) (hw : FW aR0 W T T1) (c : okW7 W = true) (hc1 : CRF T1) (e14 : T1.2.2.2.2 0 14 = T.2.2.2.2 0 14) (hf : FKq S S1) (h7 : ∀ m, P7 m → ∀ j, T1.2.2.1 m j = T.2.2.1 m j) : R1 T1 S1 := by
  obtain ⟨hc, ⟨hl, hb⟩, h5, h6, s, hs, h14, hr⟩ := h
  unfold okW7 at c
  simp only [Bool.and_eq_true] at c
  obtain ⟨⟨⟨⟨c0, c1⟩, c2⟩, c3⟩, c4⟩ := c
  obtain ⟨r1, r2, r6, r0⟩ := rrole
  refine ⟨hc1, ⟨?_, fun k hk => ?_⟩, ?_, ?_, rs_eq hs (fw_seq7 hw c0 hs h7) (fun x _ => by rw [hf.2.2.2.2.2]) hf.2.2.2.1 (e14.trans h14) hr⟩
  · rw [hw 1 1 (by rw [r1]; exact con_f c1), hf.1]; exact hl
  · rw [hw 2 k (by rw [r2]; exact con_f c2), hf.2.2.2.2.1]; exact hb k hk
  · rw [hw 6 2 (by rw [r6]; exact con_f c3), hf.2.1]; exact h5
  · rw [hw 6 3 (by rw [r6]; exact con_f c4), hf.2.2.1]; exact h6
theorem e14_gr (hV : IV aR0 1586 aK1 aK2 T) (hg : GR T T1) : T1.2.2.2.2 0 14 = T.2.2.2.2 0 14 := by
  refine hg.2 0 14 (Nat.lt_of_lt_of_le (by decide) hV.1.2.2) ?_
  rw [hV.2.1 0 (iv_sta hV rrole.2.2.2 (by decide) (by decide)), rrole.2.2.2]
  decide
end
