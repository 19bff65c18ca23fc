/-! load: R2 behind it -/
section
variable {T T1 : AT} {S S1 : MS} {s : Nat}
theorem c_b48 {T0 : AT} (f10 : T0.2.2.2.2 0 10 = some 432) : ∀ (f l : Nat) {T : AT}, l ≤ 2 → T.2.2.2.2 = T0.2.2.2.2 → (∀ j, j < l → T.2.2.1 432 j = 0) → (∀ m k, m ≠ 432 → T.2.2.1 m k = T0.2.2.1 m k) → g_X11_begin_b48 f T 0 (nI l) = some T1 → (∀ j, j < 2 → T1.2.2.1 432 j = 0) ∧ (∀ m k, m ≠ 432 → T1.2.2.1 m k = T0.2.2.1 m k) ∧ T1.2.2.2.2 = T0.2.2.2.2 := by
  intro f
  induction f with
  | zero => intro l T _ _ _ _ h; cases h
  | succ f ih =>
    intro l T hl hR hj ho h
    unfold g_X11_begin_b48 at h
    by_cases c : l = 2
    · rw [c] at h hj
      rw [if_pos (show (2 : Int32) ≤ nI 2 from by decide)] at h
      rw [← osome1 h]
      exact ⟨hj, ho, hR⟩
    · rw [if_neg (fun q => c (by have := (nI_leI (a := 2) (by decide) (by omega)).mp q; omega))] at h
      obtain ⟨-, h⟩ := oif_some h
      obtain ⟨n4, en, h⟩ := obind_some h
      rw [hR, f10] at en
      cases en
      obtain ⟨-, h⟩ := oif_some h
      obtain ⟨-, h⟩ := oif_some h
      obtain ⟨T7, e7, h⟩ := elet_some h
      rw [nI_clamp (by omega)] at e7
      obtain ⟨v8, e8, h⟩ := elet_some h
      rw [show v8 = nI (l + 1) from e8.trans (nI_p1 l)] at h
      refine ih (l + 1) (T := T7) (by omega) (by rw [e7]; exact hR) (fun j h1 => ?_) (fun m k hm => ?_) h
      · rw [e7, ui_get]
        by_cases q : j = l
        · rw [if_pos ⟨rfl, q⟩]
        · rw [if_neg (fun z => q z.2)]; exact hj j (by omega)
      · rw [e7, ui_ne (.inl hm)]; exact ho m k hm
/-- what the class lays at the begin of a loaded scene -/
theorem c_beg {P D : Nat → Int32} {w : Nat} (hP : PL P) (hc : CRF T) (hV : IV aR0 1586 aK1 aK2 T) (hs : s = 478 ∨ s = 656) (h14 : T.2.2.2.2 0 14 = some s) (hC : SCE s T P) (hS : SRCg s T P D) (p8 : P 8 ≠ 0) (hw : T.2.2.1 0 17 = nI w) (h : g_X11_begin T 0 = some T1) : T1.2.2.2.2 0 14 = some s ∧ T1.2.2.1 0 16 = 0 ∧ T1.2.2.1 0 17 = nI w ∧ (∀ k, k < 2 → T1.2.2.1 432 k = 0) ∧ (∀ d m : Nat, (d : Int) < (P 9 * P 10).toInt → (m : Int) < (P 4).toInt → RV P m (CX P d) (CY P d) (T1.2.2.1 (s + 16 + d) m)) ∧ T1.2.2.1 242 0 = P 4 ∧ T1.2.2.1 242 1 = P 2 ∧ T1.2.2.1 242 2 = 0 ∧ (∀ m : Nat, (m : Int) < (P 4).toInt → T1.2.2.1 243 m = 0 ∧ T1.2.2.1 244 m = if (m : Int) < (P 118).toInt then P (119 + m) else 1) ∧ ∀ k : Nat, (k : Int) < (P 5).toInt → T1.2.2.1 245 k = D (25 + k) ∧ T1.2.2.1 246 k = D (31 + k) ∧ T1.2.2.1 247 k = D (37 + k) ∧ T1.2.2.1 248 k = D (43 + k) ∧ T1.2.2.1 249 k = D (49 + k) := by
  have r0 := rrole.2.2.2
  obtain ⟨pm, pc1, pc2, -⟩ := pl_cell (S := (fun _ => 0, fun _ => P, fun _ _ => 0)) hP
  have pc1 : 1 ≤ (P 9 * P 10).toInt := pc1
  have pc2 : (P 9 * P 10).toInt ≤ 144 := pc2
  have p4 := pl_4 hP
  have p5 := pl_5 hP
  obtain ⟨f4, f6, -⟩ := c_fld hc
  unfold g_X11_begin at h
  obtain ⟨-, h⟩ := oif_some h
  obtain ⟨n3, en, h⟩ := obind_some h
  rw [h14] at en
  cases en
  obtain ⟨-, h⟩ := oif_some h
  obtain ⟨T5, g5, h⟩ := obind_some h
  have iv5 := tgo (cs_X6_measureDelays T s hV (rsrole hs)) g5
  have R5 : T5.2.2.2.2 = T.2.2.2.2 := (s_X6_measureDelays g5).2.2
  have hc5 := crf_eq hc R5
  unfold g_X6_measureDelays at g5
  obtain ⟨rows, hC5⟩ := c_md hP hs p8 16384 0 (by decide) (by omega) hV (hc.srf hs) hC (fun d m hd => absurd hd (Nat.not_lt_zero d)) g5
  obtain ⟨-, h⟩ := oif_some h
  obtain ⟨n8, en, h⟩ := obind_some h
  rw [R5, f6] at en
  cases en
  obtain ⟨-, h⟩ := oif_some h
  obtain ⟨n10, en, h⟩ := obind_some h
  rw [R5, h14] at en
  cases en
  obtain ⟨-, h⟩ := oif_some h
  obtain ⟨T12, g12, h⟩ := obind_some h
  have B := c_begin hs (hc5.srf hs) hc5 g12
  have iv12 := tgo (cs_X8_begin T5 242 s iv5.1 (sd_ro d242).1 (rsrole hs)) g12
  have hc12 := crf_eq hc5 B.1.1
  obtain ⟨-, h⟩ := oif_some h
  obtain ⟨n15, en, h⟩ := obind_some h
  rw [(c_fld2 hc12).2.2.2] at en
  cases en
  obtain ⟨-, h⟩ := oif_some h
  obtain ⟨n17, en, h⟩ := obind_some h
  rw [B.1.1, R5, h14] at en
  cases en
  obtain ⟨-, h⟩ := oif_some h
  obtain ⟨n19, en, h⟩ := obind_some h
  rw [(c_fld hc12).2.1] at en
  cases en
  obtain ⟨-, h⟩ := oif_some h
  obtain ⟨T21, g21, h⟩ := obind_some h
  obtain ⟨ro, hV21, fw⟩ := rec_out hc12 iv12.1 hs (.inl rfl) g21
  have z21 := c_rec0 g21
  have hc21 := crf_gr hc12 iv12.1 (sr_X5_record g21)
  have e14 : T21.2.2.2.2 0 14 = some s := (e14_gr iv12.1 (sr_X5_record g21)).trans (by rw [B.1.1, R5]; exact h14)
  unfold g_X11_begin_b33 at h
  obtain ⟨-, h⟩ := oif_some h
  obtain ⟨T3, e3, h⟩ := elet_some h
  obtain ⟨-, h⟩ := oif_some h
  obtain ⟨n5, en, h⟩ := obind_some h
  have R3 : T3.2.2.2.2 = T21.2.2.2.2 := by rw [e3]; rfl
  rw [R3, (c_fld hc21).1] at en
  cases en
  obtain ⟨-, h⟩ := oif_some h
  obtain ⟨T7, e7, h⟩ := elet_some h
  have R7 : T7.2.2.2.2 = T21.2.2.2.2 := by rw [e7]; exact R3
  obtain ⟨b1, b2, b3⟩ := c_b48 (T0 := T7) (by rw [R7]; exact (c_fld hc21).2.2.2.2.2.1) 16384 0 (by decide) rfl (fun j hj => absurd hj (Nat.not_lt_zero j)) (fun _ _ _ => rfl) h
  have o1 : ∀ m k, m ≠ 432 → m ≠ 66 → (m ≠ 0 ∨ k ≠ 16) → T1.2.2.1 m k = T21.2.2.1 m k := fun m k n1 n2 n3 => by
    rw [b2 m k n1, e7, ui_ne (.inl n2), e3, ui_ne n3]
  obtain ⟨q0, q1, q2, q3, q4, q5, q6, q7, -⟩ := sd_ro d242
  have c242 : ∀ m k, 243 ≤ m → m < 250 → T1.2.2.1 m k = T12.2.2.1 m k := fun m k h1 h2 => by
    rw [o1 m k (by omega) (by omega) (.inl (by omega))]
    refine fw m k ?_
    rcases (show m = 243 ∨ m = 244 ∨ m = 245 ∨ m = 246 ∨ m = 247 ∨ m = 248 ∨ m = 249 by omega) with q | q | q | q | q | q | q <;> rw [q]
    · rw [show aR0 243 = 62 from q1]; rfl
    · rw [show aR0 244 = 63 from q2]; rfl
    · rw [show aR0 245 = 64 from q3]; rfl
    · rw [show aR0 246 = 65 from q4]; rfl
    · rw [show aR0 247 = 65 from q5]; rfl
    · rw [show aR0 248 = 66 from q6]; rfl
    · rw [show aR0 249 = 66 from q7]; rfl
  refine ⟨by rw [b3, R7]; exact e14, ?_, ?_, b1, fun d m hd hm => ?_, ?_, ?_, ?_, fun m hm => ?_, fun k hk => ?_⟩
  · rw [b2 0 16 (by decide), e7, ui_ne (.inl (by decide)), e3, ui_at]
  · rw [o1 0 17 (by decide) (by decide) (.inr (by decide)), fw 0 17 (by rw [r0]; rfl), B.1.2.2.2 0 17 (.inl (by decide)), iv5.2 0 17 (by rw [r0]; rfl)]
    exact hw
  · have q := rows d m hd hm
    rw [o1 _ m (by omega) (by omega) (.inl (by omega)), fw _ m (by rw [dl_ro hs (by omega)]; rfl), B.1.2.2.2 _ m (.inr (by omega))]
    exact q
  · rw [o1 242 0 (by decide) (by decide) (.inl (by decide)), fw 242 0 (by rw [q0]; rfl), B.1.2.1.1]
    obtain ⟨mc, -, x5, y4, -⟩ := hC5.2.1
    exact x5.trans y4.symm
  · rw [o1 242 1 (by decide) (by decide) (.inl (by decide)), fw 242 1 (by rw [q0]; rfl), B.1.2.1.2]
    exact hC5.1.2.2.1
  · rw [o1 242 2 (by decide) (by decide) (.inl (by decide)), z21]
  · obtain ⟨x1, x2⟩ := B.1.2.2.1 m (by omega)
    rw [c242 243 m (by decide) (by decide), c242 244 m (by decide) (by decide), x1, x2]
    obtain ⟨-, -, -, -, -, -, -, -, sc, sc12, y16, y118, ysh⟩ := hC5
    refine ⟨rfl, ?_⟩
    have sI : (nI sc).toInt = (sc : Int) := nI_toInt (by omega)
    rw [y16, y118, sI]
    by_cases p : (m : Int) < (sc : Int)
    · rw [if_pos p, if_pos p]; exact ysh m (by omega)
    · rw [if_neg p, if_neg p]
  · obtain ⟨x1, x2, x3, x4, x5⟩ := B.2 k (by omega)
    rw [c242 245 k (by decide) (by decide), c242 246 k (by decide) (by decide), c242 247 k (by decide) (by decide), c242 248 k (by decide) (by decide), c242 249 k (by decide) (by decide), x1, x2, x3, x4, x5]
    obtain ⟨sc, sc6, y8, y5, ysr⟩ := hS
    rw [y5, nI_toInt (by omega)] at hk
    obtain ⟨-, -, -, -, -, on, z1, z2, z3, z4⟩ := ysr k (by omega)
    have r7 := (sro hs).2.2.2.2.2.2.2.2.2 k (by omega)
    have eq : ∀ j, j < 10 → T5.2.2.1 (s + 172 + k) j = T.2.2.1 (s + 172 + k) j := fun j hj => iv5.2 _ j (by
      rw [r7]
      rcases (show j = 0 ∨ j = 1 ∨ j = 2 ∨ j = 3 ∨ j = 4 ∨ j = 5 ∨ j = 6 ∨ j = 7 ∨ j = 8 ∨ j = 9 by omega) with q | q | q | q | q | q | q | q | q | q <;> rw [q] <;> rfl)
    rw [eq 9 (by decide), eq 1 (by decide), eq 2 (by decide), eq 3 (by decide), eq 4 (by decide)]
    refine ⟨?_, z1, z2, z3, z4⟩
    rcases on with ⟨a, b⟩ | ⟨a, b⟩
    · rw [a, if_pos rfl, b]
    · rw [a, if_neg (by decide), b]
end
