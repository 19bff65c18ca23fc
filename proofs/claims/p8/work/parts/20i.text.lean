section
variable {b : Nat → Int32} {n c i k s : Nat} {T T1 : AT} {S S1 : MS} {r : Int32}
theorem wl15 : ["camera", "distance", "step", "samples", "limit", "mic", "map", "source", "wall", "fade", "filter", "clock", "zone", "shade", "off"].all (fun w => Nat.ble (sTx w).1 8) = true := by decide +kernel
theorem wl_of {w : String} (h : w ∈ ["camera", "distance", "step", "samples", "limit", "mic", "map", "source", "wall", "fade", "filter", "clock", "zone", "shade", "off"]) : (sTx w).1 ≤ 8 := Nat.le_of_ble_eq_true (List.all_eq_true.mp wl15 w h)
theorem er_st (h : ERq T S) (e : S1.1 = S.1) : ERq T S1 := by
  unfold ERq at h ⊢
  rw [e]
  exact h
/-- a keyword and its number -/
theorem k_gauge {tx : Nat × (Nat → Int32)} {a0 a1 r2 : Int32} (ht : tx.1 ≤ 8) (h : PRq b n c i T S) (hf : fr_gauge S tx a0 a1 = some (r2, S1)) : (∀ (k : Nat) (r : Int32) (Ta : AT), g_X3_takeWord T tx 6 = some (k, r, Ta) → (k = 3 ∧ ERq Ta S1) ∨ (k = 0 ∧ ∀ (k' : Nat) (r' : Int32) (Tb : AT), g_X3_number Ta 6 a0 a1 = some (k', r', Tb) → (k' = 3 ∧ ERq Tb S1) ∨ (k' = 0 ∧ r2 = r' ∧ (∃ j, i < j ∧ PRq b n c j Tb S1) ∧ TFq T Tb ∧ MFq S S1))) := by
  intro k r Ta hg
  unfold fr_gauge at hf
  obtain ⟨S2, f2, hf⟩ := obind_some hf
  obtain ⟨r8, S5, f5, hf⟩ := obind2_some hf
  have ff := osome2 hf
  rw [← ff.2]
  rcases k_take ht h hg f2 with ⟨k0, ⟨j, hj, p⟩, t, m⟩ | ⟨k3, e⟩
  · refine .inr ⟨k0, fun k' r' Tb hg2 => ?_⟩
    rcases k_number p hg2 f5 with ⟨y1, y2, -, -, y3, y4, y5⟩ | ⟨y1, y2⟩
    · exact .inr ⟨y1, ff.1.symm.trans y2, ⟨j + 1, by omega, y3⟩, t.tr y4, m.tr y5⟩
    · exact .inl ⟨y1, y2⟩
  · exact .inl ⟨k3, by rw [st_number e.1 f5]; exact e⟩
theorem scn0_uI {P D : Nat → Int32} {j : Nat} {v : Int32} (hs : s = 478 ∨ s = 656) (hj : j < 4) (q : SCN0 s T P D) (P1 : Nat → Int32) (hP : ∀ x, 4 ≤ x → P1 x = P x) : SCN0 s (uI T s j v) P1 D := by
  have e : ∀ m x, m ≠ s ∨ 4 ≤ x → (uI T s j v).2.2.1 m x = T.2.2.1 m x := fun m x h => ui_ne (by omega)
  exact ⟨q.1.cg (e _ _ (by omega)) (fun m j _ _ => e _ _ (by omega)) (fun x _ => hP x (by omega)), q.2.1.cg (fun j _ => e _ _ (by omega)) (fun j => e _ _ (by omega)) (fun x _ _ => hP x (by omega)), q.2.2.1.cg (e _ _ (by omega)) (fun m j _ _ => e _ _ (by omega)) (fun x _ => hP x (by omega)) (fun _ _ _ => rfl), q.2.2.2.1.cg (e _ _ (by omega)) (fun j => e _ _ (by omega)) (fun j => e _ _ (by omega)) (fun x _ _ => hP x (by omega)), q.2.2.2.2.1.cg (e _ _ (by omega)) (hP _ (by omega)), q.2.2.2.2.2.1.cg (e _ _ (by omega)) (fun j => e _ _ (by omega)) (fun x _ _ => hP x (by omega)), q.2.2.2.2.2.2.1.cg (e _ _ (by omega)) (fun m j _ _ => e _ _ (by omega)) (fun x _ _ => hP x (by omega)), q.2.2.2.2.2.2.2.1.cg (e _ _ (by omega)) (fun j => e _ _ (by omega)) (fun x _ _ => hP x (by omega)), q.2.2.2.2.2.2.2.2⟩
theorem scn0_tf {P D : Nat → Int32} (hs : s = 478 ∨ s = 656) (h : TFq T T1) (q : SCN0 s T P D) : SCN0 s T1 P D := by
  have e : ∀ m j, m ≠ 6 → T1.2.2.1 m j = T.2.2.1 m j := h.2.2.2
  exact ⟨q.1.cg (e _ _ (by omega)) (fun m j _ _ => e _ _ (by omega)) (fun _ _ => rfl), q.2.1.cg (fun j _ => e _ _ (by omega)) (fun j => e _ _ (by omega)) (fun _ _ _ => rfl), q.2.2.1.cg (e _ _ (by omega)) (fun m j _ _ => e _ _ (by omega)) (fun _ _ => rfl) (fun _ _ _ => rfl), q.2.2.2.1.cg (e _ _ (by omega)) (fun j => e _ _ (by omega)) (fun j => e _ _ (by omega)) (fun _ _ _ => rfl), q.2.2.2.2.1.cg (e _ _ (by omega)) rfl, q.2.2.2.2.2.1.cg (e _ _ (by omega)) (fun j => e _ _ (by omega)) (fun _ _ _ => rfl), q.2.2.2.2.2.2.1.cg (e _ _ (by omega)) (fun m j _ _ => e _ _ (by omega)) (fun _ _ _ => rfl), q.2.2.2.2.2.2.2.1.cg (e _ _ (by omega)) (fun j => e _ _ (by omega)) (fun _ _ _ => rfl), q.2.2.2.2.2.2.2.2⟩
/-- the word, the number, what is written: one of the four of the first line -/
theorem k_head {tx : Nat × (Nat → Int32)} {a0 a1 r2 : Int32} {x : Nat} {S2 : MS} (hs : s = 478 ∨ s = 656) (hx : x < 4) (ht : tx.1 ≤ 8) (h : PRq b n c i T S) (hC : SCN0 s T (S.2.1 11) (S.2.1 13)) (hf : fr_gauge S tx a0 a1 = some (r2, S1)) (e2 : S2 = mf S1 11 (upd (S1.2.1 11) x r2)) : (∀ (k : Nat) (r : Int32) (Ta : AT), g_X3_takeWord T tx 6 = some (k, r, Ta) → (k = 3 ∧ ERq Ta S2) ∨ (k = 0 ∧ ∀ (k' : Nat) (r' : Int32) (Tb : AT), g_X3_number Ta 6 a0 a1 = some (k', r', Tb) → (k' = 3 ∧ ERq Tb S2) ∨ (k' = 0 ∧ ∀ (Tc : AT), Tc = uI Tb s x r' → (∃ j, i < j ∧ PRq b n c j Tc S2) ∧ SCN0 s Tc (S2.2.1 11) (S2.2.1 13) ∧ Tc.2.2.2.2 = T.2.2.2.2 ∧ Tc.2.2.1 s x = S2.2.1 11 x ∧ (∀ y, y ≠ x → Tc.2.2.1 s y = T.2.2.1 s y) ∧ ∀ y, y ≠ x → S2.2.1 11 y = S.2.1 11 y))) := by
  intro k r Ta hg
  have s2 : S2.1 = S1.1 := by rw [e2]; rfl
  rcases k_gauge ht h hf _ _ _ hg with ⟨k3, e⟩ | ⟨k0, kk⟩
  · exact .inl ⟨k3, er_st e s2⟩
  refine .inr ⟨k0, fun k' r' Tb hg2 => ?_⟩
  rcases kk _ _ _ hg2 with ⟨k3, e⟩ | ⟨k0', er, ⟨j, hj, p⟩, t, m⟩
  · exact .inl ⟨k3, er_st e s2⟩
  refine .inr ⟨k0', fun Tc ec => ?_⟩
  have pc := pr_uI (m := s) (k := x) (v := r') p (by omega)
  rw [← ec] at pc
  have pd := pr_mf (a := 11) (f := upd (S1.2.1 11) x r2) pc (by decide)
  rw [← e2] at pd
  have hP : ∀ y, S2.2.1 11 y = if y = x then r2 else S.2.1 11 y := fun y => by
    rw [e2, mf_at]
    show (if y = x then r2 else S1.2.1 11 y) = _
    rw [m.1]
  have hD : S2.2.1 13 = S.2.1 13 := by rw [e2, mf_ne (by decide), m.1]
  refine ⟨⟨j, hj, pd⟩, ?_, ?_, ?_, fun y hy => ?_, fun y hy => ?_⟩
  · rw [ec, hD]
    exact scn0_uI hs hx (scn0_tf hs t hC) _ (fun y hy => by rw [hP, if_neg (by omega)])
  · rw [ec]; exact congrArg (fun x => x.2) t.2.2.1
  · rw [ec, ui_at, hP, if_pos rfl, er]
  · rw [ec, ui_ne (.inr hy)]; exact t.2.2.2 _ _ (by omega)
  · rw [hP, if_neg hy]
theorem st_g {tx : Nat × (Nat → Int32)} {a0 a1 r2 : Int32} {x : Nat} {S2 : MS} (q : 0 < (S.1 5).toInt) (hf : fr_gauge S tx a0 a1 = some (r2, S1)) (e2 : S2 = mf S1 11 (upd (S1.2.1 11) x r2)) : S2.1 = S.1 := by
  rw [e2, st_gauge q hf]
  rfl
set_option maxHeartbeats 400000 in
theorem l_head (h : PRq b n c i T S) (hs : s = 478 ∨ s = 656) (hC : SCN0 s T (S.2.1 11) (S.2.1 13)) (hg : g_X3_parseHead T 6 s = some (k, r, T1)) (hf : fr_readFirst S = some S1) : LNq b n c i s T T1 S1 k := by
  have hsb : 478 ≤ s ∧ s ≤ 656 := by omega
  unfold fr_readFirst at hf
  obtain ⟨S3, f3, hf⟩ := obind_some hf
  obtain ⟨r10, S7, f7, hf⟩ := obind2_some hf
  obtain ⟨S11, e11, hf⟩ := elet_some hf
  obtain ⟨r16, S13, f13, hf⟩ := obind2_some hf
  obtain ⟨S17, e17, hf⟩ := elet_some hf
  obtain ⟨r22, S19, f19, hf⟩ := obind2_some hf
  obtain ⟨S23, e23, hf⟩ := elet_some hf
  obtain ⟨r28, S25, f25, hf⟩ := obind2_some hf
  obtain ⟨S29, e29, hf⟩ := elet_some hf
  rw [← osome1 hf]
  have n23 : 0 < (S23.1 5).toInt → S29.1 = S23.1 := fun q => st_g q f25 e29
  have n17 : 0 < (S17.1 5).toInt → S29.1 = S17.1 := fun q => by
    have e := st_g q f19 e23
    exact (n23 (by rw [e]; exact q)).trans e
  have n11 : 0 < (S11.1 5).toInt → S29.1 = S11.1 := fun q => by
    have e := st_g q f13 e17
    exact (n17 (by rw [e]; exact q)).trans e
  have n3 : 0 < (S3.1 5).toInt → S29.1 = S3.1 := fun q => by
    have e := st_g q f7 e11
    exact (n11 (by rw [e]; exact q)).trans e
  unfold g_X3_parseHead at hg
  obtain ⟨-, hg⟩ := oif_some hg
  rcases othr_k hg with ⟨r9, g9, z9⟩ | ⟨r6, T4, g9, hg⟩
  · rcases k_take (wl_of (by decide)) h g9 f3 with ⟨z, -⟩ | ⟨z1, z2⟩
    · exact absurd z z9
    · exact .inr ⟨z1, er_st z2 (n3 z2.1)⟩
  rcases k_take (wl_of (by decide)) h g9 f3 with ⟨-, ⟨i4, l4, p4⟩, t4, m4⟩ | ⟨z1, -⟩
  rotate_left
  · exact absurd z1 (by decide)
  have C4 : SCN0 s T4 (S3.2.1 11) (S3.2.1 13) := by rw [m4.1]; exact scn0_tf hs t4 hC
  have R4 : T4.2.2.2.2 = T.2.2.2.2 := congrArg (fun x => x.2) t4.2.2.1
  obtain ⟨-, hg⟩ := oif_some hg
  have H1 := k_head hs (x := 0) (by decide) (wl_of (by decide)) p4 C4 f7 e11
  rcases othr_k hg with ⟨r9, g9, z9⟩ | ⟨r12, T10, g9, hg⟩
  · rcases H1 _ _ _ g9 with ⟨z1, z2⟩ | ⟨z, -⟩
    · exact .inr ⟨z1, er_st z2 (n11 z2.1)⟩
    · exact absurd z z9
  rcases H1 _ _ _ g9 with ⟨z1, -⟩ | ⟨-, H1⟩
  · exact absurd z1 (by decide)
  obtain ⟨-, hg⟩ := oif_some hg
  rcases othr_k hg with ⟨r9, g9, z9⟩ | ⟨r17, T15, g9, hg⟩
  · rcases H1 _ _ _ g9 with ⟨z1, z2⟩ | ⟨z, -⟩
    · exact .inr ⟨z1, er_st z2 (n11 z2.1)⟩
    · exact absurd z z9
  rcases H1 _ _ _ g9 with ⟨z1, -⟩ | ⟨-, H1⟩
  · exact absurd z1 (by decide)
  obtain ⟨-, hg⟩ := oif_some hg
  obtain ⟨T20, e20, hg⟩ := elet_some hg
  obtain ⟨⟨i5, l5, p5⟩, C5, R5, v5, o5, w5⟩ := H1 _ e20
  obtain ⟨-, hg⟩ := oif_some hg
  have H2 := k_head hs (x := 1) (by decide) (wl_of (by decide)) p5 C5 f13 e17
  rcases othr_k hg with ⟨r9, g9, z9⟩ | ⟨r25, T23, g9, hg⟩
  · rcases H2 _ _ _ g9 with ⟨z1, z2⟩ | ⟨z, -⟩
    · exact .inr ⟨z1, er_st z2 (n17 z2.1)⟩
    · exact absurd z z9
  rcases H2 _ _ _ g9 with ⟨z1, -⟩ | ⟨-, H2⟩
  · exact absurd z1 (by decide)
  obtain ⟨-, hg⟩ := oif_some hg
  rcases othr_k hg with ⟨r9, g9, z9⟩ | ⟨r30, T28, g9, hg⟩
  · rcases H2 _ _ _ g9 with ⟨z1, z2⟩ | ⟨z, -⟩
    · exact .inr ⟨z1, er_st z2 (n17 z2.1)⟩
    · exact absurd z z9
  rcases H2 _ _ _ g9 with ⟨z1, -⟩ | ⟨-, H2⟩
  · exact absurd z1 (by decide)
  obtain ⟨-, hg⟩ := oif_some hg
  obtain ⟨T33, e33, hg⟩ := elet_some hg
  obtain ⟨⟨i6, l6, p6⟩, C6, R6, v6, o6, w6⟩ := H2 _ e33
  obtain ⟨-, hg⟩ := oif_some hg
  have H3 := k_head hs (x := 2) (by decide) (wl_of (by decide)) p6 C6 f19 e23
  rcases othr_k hg with ⟨r9, g9, z9⟩ | ⟨r38, T36, g9, hg⟩
  · rcases H3 _ _ _ g9 with ⟨z1, z2⟩ | ⟨z, -⟩
    · exact .inr ⟨z1, er_st z2 (n23 z2.1)⟩
    · exact absurd z z9
  rcases H3 _ _ _ g9 with ⟨z1, -⟩ | ⟨-, H3⟩
  · exact absurd z1 (by decide)
  obtain ⟨-, hg⟩ := oif_some hg
  rcases othr_k hg with ⟨r9, g9, z9⟩ | ⟨r43, T41, g9, hg⟩
  · rcases H3 _ _ _ g9 with ⟨z1, z2⟩ | ⟨z, -⟩
    · exact .inr ⟨z1, er_st z2 (n23 z2.1)⟩
    · exact absurd z z9
  rcases H3 _ _ _ g9 with ⟨z1, -⟩ | ⟨-, H3⟩
  · exact absurd z1 (by decide)
  obtain ⟨-, hg⟩ := oif_some hg
  obtain ⟨T46, e46, hg⟩ := elet_some hg
  obtain ⟨⟨i7, l7, p7⟩, C7, R7, v7, o7, w7⟩ := H3 _ e46
  obtain ⟨-, hg⟩ := oif_some hg
  have H4 := k_head hs (x := 3) (by decide) (wl_of (by decide)) p7 C7 f25 e29
  rcases othr_k hg with ⟨r9, g9, z9⟩ | ⟨r51, T49, g9, hg⟩
  · rcases H4 _ _ _ g9 with ⟨z1, z2⟩ | ⟨z, -⟩
    · exact .inr ⟨z1, z2⟩
    · exact absurd z z9
  rcases H4 _ _ _ g9 with ⟨z1, -⟩ | ⟨-, H4⟩
  · exact absurd z1 (by decide)
  obtain ⟨-, hg⟩ := oif_some hg
  rcases othr_k hg with ⟨r9, g9, z9⟩ | ⟨r56, T54, g9, hg⟩
  · rcases H4 _ _ _ g9 with ⟨z1, z2⟩ | ⟨z, -⟩
    · exact .inr ⟨z1, z2⟩
    · exact absurd z z9
  rcases H4 _ _ _ g9 with ⟨z1, -⟩ | ⟨-, H4⟩
  · exact absurd z1 (by decide)
  obtain ⟨-, hg⟩ := oif_some hg
  obtain ⟨T59, e59, hg⟩ := elet_some hg
  obtain ⟨⟨i8, l8, p8⟩, C8, R8, v8, o8, w8⟩ := H4 _ e59
  have g := osome3 hg
  rw [← g.2.2]
  refine .inl ⟨g.1.symm, ⟨i8, by omega, p8⟩, ⟨⟨?_, ?_, ?_, v8⟩, C8⟩, R8.trans (R7.trans (R6.trans (R5.trans R4)))⟩
  · rw [o8 0 (by decide), o7 0 (by decide), o6 0 (by decide), v5, w8 0 (by decide), w7 0 (by decide), w6 0 (by decide)]
  · rw [o8 1 (by decide), o7 1 (by decide), v6, w8 1 (by decide), w7 1 (by decide)]
  · rw [o8 2 (by decide), v7, w8 2 (by decide)]
end
