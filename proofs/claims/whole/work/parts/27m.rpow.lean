/-! the reference's powers and best cell as whole numbers -/
section
variable {S S1 : MS} {D : Nat → Int32} {c4 n2 : Nat}
theorem mg_at {S : MS} {a : Nat} {f : Nat → Int64} : (mg S a f).2.2 a = f := by
  show (bif Nat.beq a a then f else S.2.2 a) = f
  rw [Nat.beq_refl]
  rfl
/-- laying delays leaves the longs -/
theorem l_lays {c : Int32} : ∀ {f : Nat} {S : MS} {j : Int32}, fr_laysCell_b2 f S c j = some S1 → S1.2.2 25 = S.2.2 25 := by
  intro f
  induction f with
  | zero => intro S j h; cases h
  | succ f ih =>
    intro S j h
    unfold fr_laysCell_b2 at h
    obtain ⟨v2, -, h⟩ := elet_some h
    rcases oif_or h with ⟨-, h⟩ | ⟨-, h⟩
    · rw [← osome1 h]
    · obtain ⟨v4, -, h⟩ := elet_some h
      obtain ⟨v5, -, h⟩ := elet_some h
      obtain ⟨-, h⟩ := oif_some h
      obtain ⟨v7, -, h⟩ := elet_some h
      obtain ⟨-, h⟩ := oif_some h
      obtain ⟨S9, e9, h⟩ := elet_some h
      obtain ⟨v10, -, h⟩ := elet_some h
      rw [ih h, e9]
      rfl
theorem r_hears_12 {m : Nat} {r : Int32} (hm : m < 12) (hf : fr_hears_12 S (nI m) = some (r, S1)) : S1 = S ∧ (S.2.1 12 (1 + m) = 0 ∧ ¬ r = 0 ∨ ¬ S.2.1 12 (1 + m) = 0 ∧ r = 0) := by
  have mI : (nI m).toInt = (m : Int) := nI_toInt (by omega)
  have km : (nI m).toNatClampNeg = m := nI_clamp (by omega)
  unfold fr_hears_12 fr_hears_12_b13 at hf
  obtain ⟨v2, d2, hf⟩ := elet_some hf
  obtain ⟨-, hf⟩ := oif_some hf
  obtain ⟨v4, d4, hf⟩ := elet_some hf
  rw [d2, cl_off (n := 1) (by decide) (by decide) (by omega) (by omega), km] at d4
  rcases oif_or hf with ⟨c, hf⟩ | ⟨c, hf⟩
  · obtain ⟨-, hf⟩ := oif_some hf
    rw [← (osome2 hf).1, ← (osome2 hf).2]
    exact ⟨rfl, .inl ⟨d4.symm.trans c, by decide⟩⟩
  · obtain ⟨-, hf⟩ := oif_some hf
    rw [← (osome2 hf).1, ← (osome2 hf).2]
    exact ⟨rfl, .inr ⟨fun w => c (d4.trans w), rfl⟩⟩
theorem r_beam_12 {t : Nat} {r : Int32} (e4 : S.2.1 10 4 = nI c4) (l4 : c4 ≤ 12) (e2 : S.2.1 10 2 = nI n2) (l2 : n2 ≤ 200) (hr : SMr (S.2.1 12) c4 n2) (hD : ∀ m, m < c4 → S.2.1 24 m = D m ∧ 0 ≤ (D m).toInt ∧ (D m).toInt ≤ 65535) (ht : t < 200) (hf : fr_beamAt_12 S (nI t) = some (r, S1)) : S1 = S ∧ r.toInt = bmS (S.2.1 12) D n2 t c4 := by
  have tI : (nI t).toInt = (t : Int) := nI_toInt (by omega)
  have i2 : (nI n2).toInt = (n2 : Int) := nI_toInt (by omega)
  have z0 : (0 : Int32).toInt = 0 := by decide
  have lp : ∀ (n m : Nat) {u : Int32}, m ≤ c4 → u.toInt = bmS (S.2.1 12) D n2 t m → fr_beamAt_12_b5 n S (nI t) u (nI m) = some (r, S1) → S1 = S ∧ r.toInt = bmS (S.2.1 12) D n2 t c4 := by
    intro n
    induction n with
    | zero => intro m u hm hu h; cases h
    | succ n ih =>
      intro m u hm hu h
      have mI : (nI m).toInt = (m : Int) := nI_toInt (by omega)
      have km : (nI m).toNatClampNeg = m := nI_clamp (by omega)
      have bm := bm_rg (D := D) hr (t := t) m hm
      have b78 : ∀ {w : Int32}, m < c4 → -89991 ≤ w.toInt ∧ w.toInt ≤ 89991 → u.toInt + w.toInt = bmS (S.2.1 12) D n2 t (m + 1) → fr_beamAt_12_b78 (fr_beamAt_12_b5 n) S w u (nI t) (nI m) = some (r, S1) → S1 = S ∧ r.toInt = bmS (S.2.1 12) D n2 t c4 := by
        intro w hm wr hw h
        unfold fr_beamAt_12_b78 at h
        obtain ⟨v2, d2, h⟩ := elet_some h
        obtain ⟨v3, d3, h⟩ := elet_some h
        rw [show v3 = nI (m + 1) from d3.trans (nI_p1 m)] at h
        have q2 := i_add d2 (by omega) (by omega)
        exact ih (m + 1) (by omega) (by rw [q2]; exact hw) h
      have no : m < c4 → ¬ (S.2.1 12 (1 + m) = 0 ∧ t + (D m).toNatClampNeg < n2) → fr_beamAt_12_b77 (fr_beamAt_12_b5 n) S u (nI t) (nI m) = some (r, S1) → S1 = S ∧ r.toInt = bmS (S.2.1 12) D n2 t c4 := by
        intro hm c h
        unfold fr_beamAt_12_b77 at h
        refine b78 hm (by decide) ?_ h
        show _ = bmS (S.2.1 12) D n2 t m + _
        rw [if_neg c, z0, hu]
      unfold fr_beamAt_12_b5 at h
      obtain ⟨v2, d2, h⟩ := elet_some h
      rw [e4] at d2
      rcases oif_or h with ⟨q, h⟩ | ⟨q, h⟩
      · rw [d2] at q
        have q2 := (nI_leI (a := c4) (by omega) (by omega)).mp q
        rw [← (osome2 h).1, ← (osome2 h).2, hu, show m = c4 by omega]
        exact ⟨rfl, rfl⟩
      · rw [d2] at q
        have q2 : ¬ c4 ≤ m := fun z => q ((nI_leI (a := c4) (by omega) (by omega)).mpr z)
        obtain ⟨D1, D2, D3⟩ := hD m (by omega)
        have kD := i_cl D2
        obtain ⟨r7, S4, f4, h⟩ := obind2_some h
        obtain ⟨e4', q4⟩ := r_hears_12 (by omega) f4
        rw [e4'] at h
        rcases oif_or h with ⟨c, h⟩ | ⟨c, h⟩
        · rcases q4 with ⟨-, w⟩ | ⟨w, -⟩
          · exact absurd c w
          · exact no (by omega) (fun y => w y.1) h
        · have act : S.2.1 12 (1 + m) = 0 := by
            rcases q4 with ⟨w, -⟩ | ⟨-, w⟩
            · exact w
            · exact absurd w c
          obtain ⟨-, h⟩ := oif_some h
          obtain ⟨v10, d10, h⟩ := elet_some h
          rw [km, D1] at d10
          obtain ⟨v11, d11, h⟩ := elet_some h
          have q10 : v10.toInt = (D m).toInt := by rw [d10]
          have q11 := i_add d11 (by omega) (by omega)
          obtain ⟨v12, d12, h⟩ := elet_some h
          rw [e2] at d12
          have q12 : v12.toInt = (n2 : Int) := by rw [d12]; exact i2
          rcases oif_or h with ⟨c2, h⟩ | ⟨c2, h⟩
          · have c2 := i_le c2
            exact no (by omega) (fun y => by have := y.2; omega) h
          · have c2 := i_nle c2
            obtain ⟨v14, d14, h⟩ := elet_some h
            obtain ⟨-, h⟩ := oif_some h
            obtain ⟨v16, d16, h⟩ := elet_some h
            rw [d14, cl_off (n := 13) (by decide) (by decide) (by omega) (by omega), km] at d16
            obtain ⟨v17, d17, h⟩ := elet_some h
            obtain ⟨v18, d18, h⟩ := elet_some h
            obtain ⟨v19, d19, h⟩ := elet_some h
            obtain ⟨-, h⟩ := oif_some h
            obtain ⟨v21, d21, h⟩ := elet_some h
            rw [km, D1] at d21
            obtain ⟨v22, d22, h⟩ := elet_some h
            obtain ⟨-, h⟩ := oif_some h
            obtain ⟨v24, d24, h⟩ := elet_some h
            have eD : D m = nI (D m).toNatClampNeg := Int32.toInt_inj.mp (by rw [nI_toInt (by omega)]; omega)
            have k22 : v22 = nI (55 + 200 * m + (t + (D m).toNatClampNeg)) := by
              have a : v22 = nI (55 + 200 * m + t + (D m).toNatClampNeg) := by
                rw [d22, d21, d19, d18, d17, ← nI_add, ← nI_add, ← nI_add, ← nI_mulk, ← eD]
                rfl
              rw [a, Nat.add_assoc (55 + 200 * m)]
            rw [k22, nI_clamp (by omega)] at d24
            obtain ⟨v25, d25, h⟩ := elet_some h
            have a := hr.1 m (by omega)
            have b := hr.2 m (t + (D m).toNatClampNeg) (by omega) (by omega)
            have p := mul9 a.1 a.2 b.1 b.2
            have q25 : v25.toInt = (S.2.1 12 (13 + m)).toInt * (S.2.1 12 (55 + 200 * m + (t + (D m).toNatClampNeg))).toInt := by
              rw [d25, d24, d16, Int32.toInt_mul, bm32 (by omega) (by omega)]
            refine b78 (by omega) (by rw [q25]; exact p) ?_ h
            show _ = bmS (S.2.1 12) D n2 t m + _
            rw [if_pos ⟨act, by omega⟩, hu, q25]
  unfold fr_beamAt_12 at hf
  exact lp 16384 0 (Nat.zero_le _) z0 hf
theorem r_wnd_12 {r : Int32} (e4 : S.2.1 10 4 = nI c4) (l4 : c4 ≤ 12) (e2 : S.2.1 10 2 = nI n2) (l2 : n2 ≤ 200) (hD : ∀ m, m < c4 → S.2.1 24 m = D m ∧ 0 ≤ (D m).toInt ∧ (D m).toInt ≤ 65535) (hf : fr_windowOf_12 S = some (r, S1)) : S1 = S ∧ r = nI (wdS (S.2.1 12) D n2 c4) := by
  have i2 : (nI n2).toInt = (n2 : Int) := nI_toInt (by omega)
  have z0 : (0 : Int32).toInt = 0 := by decide
  have mr := mx_rg (A := S.2.1 12) (fun m hm => (hD m hm).2) c4 (Nat.le_refl _)
  have wl := wd_le (A := S.2.1 12) (n2 := n2) (fun m hm => (hD m hm).2)
  have lp : ∀ (n m : Nat) {u : Int32}, m ≤ c4 → u.toInt = mxS (S.2.1 12) D m → fr_windowOf_12_b4 n S u (nI m) = some (r, S1) → S1 = S ∧ r = nI (wdS (S.2.1 12) D n2 c4) := by
    intro n
    induction n with
    | zero => intro m u hm hu h; cases h
    | succ n ih =>
      intro m u hm hu h
      have km : (nI m).toNatClampNeg = m := nI_clamp (by omega)
      have b37 : ∀ {w : Int32}, m < c4 → w.toInt = mxS (S.2.1 12) D (m + 1) → fr_windowOf_12_b37 (fr_windowOf_12_b4 n) S w (nI m) = some (r, S1) → S1 = S ∧ r = nI (wdS (S.2.1 12) D n2 c4) := by
        intro w hm hw h
        unfold fr_windowOf_12_b37 at h
        obtain ⟨v2, d2, h⟩ := elet_some h
        rw [show v2 = nI (m + 1) from d2.trans (nI_p1 m)] at h
        exact ih (m + 1) (by omega) hw h
      unfold fr_windowOf_12_b4 at h
      obtain ⟨v2, d2, h⟩ := elet_some h
      rw [e4] at d2
      rcases oif_or h with ⟨q, h⟩ | ⟨q, h⟩
      · rw [d2] at q
        have q2 := (nI_leI (a := c4) (by omega) (by omega)).mp q
        have em : m = c4 := by omega
        rw [em] at hu
        obtain ⟨v4, d4, h⟩ := elet_some h
        obtain ⟨v5, d5, h⟩ := elet_some h
        obtain ⟨v6, d6, h⟩ := elet_some h
        rw [e2] at d4
        have q4 : v4.toInt = (n2 : Int) := by rw [d4]; exact i2
        have q5 := i_sub d5 (by omega) (by omega)
        rw [← (osome2 h).1, ← (osome2 h).2, d6]
        refine ⟨rfl, Int32.toInt_inj.mp ?_⟩
        rw [nI_toInt (by omega)]
        unfold wdS
        by_cases c : 0 < v5
        · have c2 := i_lt c
          rw [if_pos c]
          omega
        · have c2 := i_nlt c
          rw [if_neg c]
          omega
      · rw [d2] at q
        have q2 : ¬ c4 ≤ m := fun z => q ((nI_leI (a := c4) (by omega) (by omega)).mpr z)
        obtain ⟨D1, -⟩ := hD m (by omega)
        obtain ⟨r10, S7, f7, h⟩ := obind2_some h
        obtain ⟨e7, q7⟩ := r_hears_12 (by omega) f7
        rw [e7] at h
        rcases oif_or h with ⟨c, h⟩ | ⟨c, h⟩
        · refine b37 (by omega) ?_ h
          show _ = if S.2.1 12 (1 + m) = 0 then (if mxS (S.2.1 12) D m < (D m).toInt then (D m).toInt else mxS (S.2.1 12) D m) else mxS (S.2.1 12) D m
          rcases q7 with ⟨-, w⟩ | ⟨w, -⟩
          · exact absurd c w
          · rw [if_neg w, hu]
        · obtain ⟨-, h⟩ := oif_some h
          obtain ⟨v13, d13, h⟩ := elet_some h
          rw [km, D1] at d13
          obtain ⟨v14, d14, h⟩ := elet_some h
          refine b37 (by omega) ?_ h
          show _ = if S.2.1 12 (1 + m) = 0 then (if mxS (S.2.1 12) D m < (D m).toInt then (D m).toInt else mxS (S.2.1 12) D m) else mxS (S.2.1 12) D m
          rcases q7 with ⟨w, -⟩ | ⟨-, w⟩
          · rw [if_pos w, d14, d13]
            by_cases c2 : u < D m
            · have c3 := i_lt c2
              rw [if_pos c2, if_pos (by omega)]
            · have c3 := i_nlt c2
              rw [if_neg c2, if_neg (by omega), hu]
          · exact absurd w c
  unfold fr_windowOf_12 at hf
  exact lp 16384 0 (Nat.zero_le _) z0 hf
theorem r_pow_12 {r : Int64} (e4 : S.2.1 10 4 = nI c4) (l4 : c4 ≤ 12) (e2 : S.2.1 10 2 = nI n2) (l2 : n2 ≤ 200) (hr : SMr (S.2.1 12) c4 n2) (hD : ∀ m, m < c4 → S.2.1 24 m = D m ∧ 0 ≤ (D m).toInt ∧ (D m).toInt ≤ 65535) (hf : fr_powerHere_12 S = some (r, S1)) : S1 = S ∧ r.toInt = pwS (S.2.1 12) D n2 c4 := by
  have wl := wd_le (A := S.2.1 12) (n2 := n2) (fun m hm => (hD m hm).2)
  have z0 : (0 : Int64).toInt = 0 := by decide
  unfold fr_powerHere_12 fr_powerHere_12_b24 at hf
  obtain ⟨r5, S2, f2, hf⟩ := obind2_some hf
  obtain ⟨e5, q5⟩ := r_wnd_12 e4 l4 e2 l2 hD f2
  rw [e5] at hf
  unfold pwS
  generalize wdS (S.2.1 12) D n2 c4 = W at wl q5 ⊢
  have WI : (nI W).toInt = (W : Int) := nI_toInt (by omega)
  have y0 : (0 : Int32).toInt = 0 := by decide
  rcases oif_or hf with ⟨c, hf⟩ | ⟨c, hf⟩
  · have w0 : W = 0 := by
      have := congrArg Int32.toInt (q5.symm.trans c)
      omega
    rw [if_pos w0, ← (osome2 hf).1, ← (osome2 hf).2]
    exact ⟨rfl, z0⟩
  · have w0 : ¬ W = 0 := fun w => c (by rw [q5, w]; rfl)
    rw [if_neg w0]
    obtain ⟨r10, S7, f7, hf⟩ := obind2_some hf
    have lp : ∀ (n t : Nat) {u : Int64}, t ≤ W → u.toInt = enS (S.2.1 12) D n2 c4 t → fr_energy_12_b6 n S (nI W) u (nI t) = some (r10, S7) → S7 = S ∧ r10.toInt = enS (S.2.1 12) D n2 c4 W := by
      intro n
      induction n with
      | zero => intro t u ht hu h; cases h
      | succ n ih =>
        intro t u ht hu h
        have en := en_rg (D := D) hr l4 t
        unfold fr_energy_12_b6 at h
        rcases oif_or h with ⟨q, h⟩ | ⟨q, h⟩
        · have q2 := (nI_leI (a := W) (by omega) (by omega)).mp q
          rw [← (osome2 h).1, ← (osome2 h).2, hu, show t = W by omega]
          exact ⟨rfl, rfl⟩
        · have q2 : ¬ W ≤ t := fun z => q ((nI_leI (a := W) (by omega) (by omega)).mpr z)
          obtain ⟨r6, S3, f3, h⟩ := obind2_some h
          obtain ⟨e3, q3⟩ := r_beam_12 e4 l4 e2 l2 hr hD (by omega) f3
          rw [e3] at h
          obtain ⟨v7, d7, h⟩ := elet_some h
          obtain ⟨v8, d8, h⟩ := elet_some h
          obtain ⟨v9, d9, h⟩ := elet_some h
          obtain ⟨v10, d10, h⟩ := elet_some h
          rw [show v10 = nI (t + 1) from d10.trans (nI_p1 t)] at h
          have bm := bm_rg (D := D) hr (t := t) c4 (Nat.le_refl _)
          have sq := sq_rg (b := bmS (S.2.1 12) D n2 t c4) (by omega) (by omega)
          have q7 : v7.toInt = bmS (S.2.1 12) D n2 t c4 := by rw [d7, Int32.toInt_toInt64, q3]
          have q8 : v8.toInt = bmS (S.2.1 12) D n2 t c4 * bmS (S.2.1 12) D n2 t c4 := by
            rw [l_mul d8 (by rw [q7]; omega) (by rw [q7]; omega), q7]
          have q9 := l_add d9 (by omega) (by omega)
          refine ih (t + 1) (by omega) ?_ h
          rw [q9, hu, q8]
          rfl
    unfold fr_energy_12 at f7
    rw [q5] at f7
    obtain ⟨e7, q7⟩ := lp 16384 0 (Nat.zero_le _) z0 f7
    rw [e7] at hf
    obtain ⟨v11, d11, hf⟩ := elet_some hf
    obtain ⟨-, hf⟩ := oif_some hf
    obtain ⟨v13, d13, hf⟩ := elet_some hf
    have en := en_rg (D := D) hr l4 W
    have q11 : v11.toInt = (W : Int) := by rw [d11, Int32.toInt_toInt64, q5, WI]
    rw [← (osome2 hf).1, ← (osome2 hf).2, d13, l_div (by omega) (by omega), q7, q11]
    exact ⟨rfl, rfl⟩
/-- but for what is laid the reference's numbers are as they were -/
theorem r_best_12 {r : Int32} {c rr N : Nat} {D : Nat → Nat → Int32} (e4 : S.2.1 10 4 = nI c4) (l4 : c4 ≤ 12) (e2 : S.2.1 10 2 = nI n2) (l2 : n2 ≤ 200) (e9 : S.2.1 10 9 = nI c) (l9 : 1 ≤ c ∧ c ≤ 12) (e10 : S.2.1 10 10 = nI rr) (l10 : 1 ≤ rr ∧ rr ≤ 12) (hN : N = c * rr) (hr : SMr (S.2.1 12) c4 n2) (hD : ∀ k, k < N → ∀ m, m < c4 → S.2.1 17 (12 * k + m) = D k m ∧ 0 ≤ (D k m).toInt ∧ (D k m).toInt ≤ 65535) (hf : fr_bestIn_12 S = some (r, S1)) : r = nI (bsS (fun k => pwS (S.2.1 12) (D k) n2 c4) N) := by
  have h144 : N ≤ 144 := by
    rw [hN]
    exact Nat.mul_le_mul l9.2 l10.2
  have N1 : 1 ≤ N := by
    rw [hN]
    exact Nat.mul_le_mul l9.1 l10.1
  have eN : nI c * nI rr = nI N := by rw [hN, nI_mulk]
  unfold fr_bestIn_12 at hf
  obtain ⟨S2, f2, hf⟩ := obind_some hf
  have lay : ∀ (n k : Nat) {U : MS}, k ≤ N → U.2.1 10 = S.2.1 10 → U.2.1 12 = S.2.1 12 → U.2.1 17 = S.2.1 17 → (∀ j, j < k → (U.2.2 25 j).toInt = pwS (S.2.1 12) (D j) n2 c4) → fr_laysPowers_12_b2 n U (nI k) = some S2 → S2.2.1 10 = S.2.1 10 ∧ ∀ j, j < N → (S2.2.2 25 j).toInt = pwS (S.2.1 12) (D j) n2 c4 := by
    intro n
    induction n with
    | zero => intro k U hk u10 uA u17 hv h; cases h
    | succ n ih =>
      intro k U hk u10 uA u17 hv h
      have kk : (nI k).toNatClampNeg = k := nI_clamp (by omega)
      unfold fr_laysPowers_12_b2 at h
      obtain ⟨r5, U2, g5, h⟩ := obind2_some h
      unfold fr_cellCount at g5
      obtain ⟨v2, d2, g5⟩ := elet_some g5
      obtain ⟨v3, d3, g5⟩ := elet_some g5
      obtain ⟨v4, d4, g5⟩ := elet_some g5
      rw [u10, e9] at d2
      rw [u10, e10] at d3
      rw [d2, d3, eN] at d4
      rw [← (osome2 g5).1, ← (osome2 g5).2, d4] at h
      rcases oif_or h with ⟨q, h⟩ | ⟨q, h⟩
      · have q2 := (nI_leI (a := N) (by omega) (by omega)).mp q
        rw [← osome1 h]
        exact ⟨u10, fun j hj => hv j (by omega)⟩
      · have q2 : ¬ N ≤ k := fun z => q ((nI_leI (a := N) (by omega) (by omega)).mpr z)
        obtain ⟨r10, S7, g7, h⟩ := obind2_some h
        obtain ⟨-, h⟩ := oif_some h
        obtain ⟨S12, e12, h⟩ := elet_some h
        obtain ⟨v13, d13, h⟩ := elet_some h
        rw [show v13 = nI (k + 1) from d13.trans (nI_p1 k)] at h
        unfold fr_powerOf_12 at g7
        obtain ⟨S3, g3, g7⟩ := obind_some g7
        obtain ⟨r8, S5, g8, g7⟩ := obind2_some g7
        have w3 := w_fr_laysCell g3
        unfold fr_laysCell at g3
        have i4 : (U.2.1 10 4).toInt = (c4 : Int) := by rw [u10, e4]; exact nI_toInt (by omega)
        have x3 := x_lays (S0 := U) (c := k) (by omega) (by omega) 16384 0 (by decide) rfl rfl (fun m hm => absurd hm (Nat.not_lt_zero m)) g3
        have s10 : S3.2.1 10 = S.2.1 10 := (w3.2 10 (by decide)).trans u10
        have sA : S3.2.1 12 = S.2.1 12 := (w3.2 12 (by decide)).trans uA
        have s17 : S3.2.1 17 = S.2.1 17 := (w3.2 17 (by decide)).trans u17
        obtain ⟨e8, q8⟩ := r_pow_12 (S := S3) (D := D k) (by rw [s10]; exact e4) l4 (by rw [s10]; exact e2) l2 (by rw [sA]; exact hr) (fun m hm => by
          have d := hD k (by omega) m hm
          refine ⟨?_, d.2⟩
          rw [x3 m (by omega), u17]
          exact d.1) g8
        rw [sA] at q8
        have f7 := osome2 g7
        have s25 : S3.2.2 25 = U.2.2 25 := l_lays g3
        have at12 : ∀ j, S12.2.2 25 j = if j = k then r10 else U.2.2 25 j := by
          intro j
          rw [e12, ← f7.2, e8, kk, mg_at, s25]
          rfl
        refine ih (k + 1) (by omega) ?_ ?_ ?_ (fun j hj => ?_) h
        · rw [e12, ← f7.2, e8]; exact s10
        · rw [e12, ← f7.2, e8]; exact sA
        · rw [e12, ← f7.2, e8]; exact s17
        · rw [at12]
          by_cases e : j = k
          · rw [if_pos e, e, ← f7.1]; exact q8
          · rw [if_neg e]; exact hv j (by omega)
  unfold fr_laysPowers_12 at f2
  obtain ⟨s10, hv⟩ := lay 16384 0 (Nat.zero_le _) rfl rfl rfl (fun j hj => absurd hj (Nat.not_lt_zero j)) f2
  have lp : ∀ (n k : Nat), 1 ≤ k → k ≤ N → fr_bestIn_12_b9 n S2 (nI (bsS (fun k => pwS (S.2.1 12) (D k) n2 c4) k)) (nI k) = some (r, S1) → r = nI (bsS (fun k => pwS (S.2.1 12) (D k) n2 c4) N) := by
    intro n
    induction n with
    | zero => intro k h1 hk h; cases h
    | succ n ih =>
      intro k h1 hk h
      have kk : (nI k).toNatClampNeg = k := nI_clamp (by omega)
      have bl := bs_lt (fun k => pwS (S.2.1 12) (D k) n2 c4) k
      have kb : (nI (bsS (fun k => pwS (S.2.1 12) (D k) n2 c4) k)).toNatClampNeg = bsS (fun k => pwS (S.2.1 12) (D k) n2 c4) k := nI_clamp (by omega)
      unfold fr_bestIn_12_b9 at h
      obtain ⟨r5, U2, g5, h⟩ := obind2_some h
      unfold fr_cellCount at g5
      obtain ⟨v2, d2, g5⟩ := elet_some g5
      obtain ⟨v3, d3, g5⟩ := elet_some g5
      obtain ⟨v4, d4, g5⟩ := elet_some g5
      rw [s10, e9] at d2
      rw [s10, e10] at d3
      rw [d2, d3, eN] at d4
      rw [← (osome2 g5).1, ← (osome2 g5).2, d4] at h
      rcases oif_or h with ⟨q, h⟩ | ⟨q, h⟩
      · have q2 := (nI_leI (a := N) (by omega) (by omega)).mp q
        rw [← (osome2 h).1, show k = N by omega]
      · have q2 : ¬ N ≤ k := fun z => q ((nI_leI (a := N) (by omega) (by omega)).mpr z)
        obtain ⟨-, h⟩ := oif_some h
        obtain ⟨v8, d8, h⟩ := elet_some h
        obtain ⟨-, h⟩ := oif_some h
        obtain ⟨v10, d10, h⟩ := elet_some h
        obtain ⟨v11, d11, h⟩ := elet_some h
        rw [kk] at d8
        rw [kb] at d10
        have q8 : v8.toInt = pwS (S.2.1 12) (D k) n2 c4 := by rw [d8]; exact hv k (by omega)
        have q10 : v10.toInt = pwS (S.2.1 12) (D (bsS (fun k => pwS (S.2.1 12) (D k) n2 c4) k)) n2 c4 := by rw [d10]; exact hv _ (by omega)
        rcases oif_or h with ⟨z, h⟩ | ⟨z, h⟩
        · rw [d11] at z
          have z2 := Int64.le_iff_toInt_le.mp ((lg_cmp_le v8 v10).mp z)
          rw [q8, q10] at z2
          have eb : bsS (fun k => pwS (S.2.1 12) (D k) n2 c4) (k + 1) = bsS (fun k => pwS (S.2.1 12) (D k) n2 c4) k := by
            show (if _ < _ then k else _) = _
            rw [if_neg (by show ¬ pwS (S.2.1 12) (D (bsS (fun k => pwS (S.2.1 12) (D k) n2 c4) k)) n2 c4 < pwS (S.2.1 12) (D k) n2 c4; omega)]
          unfold fr_bestIn_12_b38 at h
          obtain ⟨w2, f2', h⟩ := elet_some h
          rw [show w2 = nI (k + 1) from f2'.trans (nI_p1 k), ← eb] at h
          exact ih (k + 1) (by omega) (by omega) h
        · rw [d11] at z
          have z2 : ¬ v8.toInt ≤ v10.toInt := fun w => z ((lg_cmp_le v8 v10).mpr (Int64.le_iff_toInt_le.mpr w))
          rw [q8, q10] at z2
          have eb : bsS (fun k => pwS (S.2.1 12) (D k) n2 c4) (k + 1) = k := by
            show (if _ < _ then k else _) = _
            rw [if_pos (by show pwS (S.2.1 12) (D (bsS (fun k => pwS (S.2.1 12) (D k) n2 c4) k)) n2 c4 < pwS (S.2.1 12) (D k) n2 c4; omega)]
          unfold fr_bestIn_12_b38 at h
          obtain ⟨w2, f2', h⟩ := elet_some h
          rw [show w2 = nI (k + 1) from f2'.trans (nI_p1 k)] at h
          have h2 : fr_bestIn_12_b9 n S2 (nI (bsS (fun k => pwS (S.2.1 12) (D k) n2 c4) (k + 1))) (nI (k + 1)) = some (r, S1) := by rw [eb]; exact h
          exact ih (k + 1) (by omega) (by omega) h2
  have b1 : bsS (fun k => pwS (S.2.1 12) (D k) n2 c4) 1 = 0 := by
    show (if _ < _ then 0 else 0) = 0
    rw [ite_self]
  exact lp 16384 1 (by decide) N1 (by rw [b1]; exact hf)
theorem r_hears_14 {m : Nat} {r : Int32} (hm : m < 12) (hf : fr_hears_14 S (nI m) = some (r, S1)) : S1 = S ∧ (S.2.1 14 (1 + m) = 0 ∧ ¬ r = 0 ∨ ¬ S.2.1 14 (1 + m) = 0 ∧ r = 0) := by
  have mI : (nI m).toInt = (m : Int) := nI_toInt (by omega)
  have km : (nI m).toNatClampNeg = m := nI_clamp (by omega)
  unfold fr_hears_14 fr_hears_14_b13 at hf
  obtain ⟨v2, d2, hf⟩ := elet_some hf
  obtain ⟨-, hf⟩ := oif_some hf
  obtain ⟨v4, d4, hf⟩ := elet_some hf
  rw [d2, cl_off (n := 1) (by decide) (by decide) (by omega) (by omega), km] at d4
  rcases oif_or hf with ⟨c, hf⟩ | ⟨c, hf⟩
  · obtain ⟨-, hf⟩ := oif_some hf
    rw [← (osome2 hf).1, ← (osome2 hf).2]
    exact ⟨rfl, .inl ⟨d4.symm.trans c, by decide⟩⟩
  · obtain ⟨-, hf⟩ := oif_some hf
    rw [← (osome2 hf).1, ← (osome2 hf).2]
    exact ⟨rfl, .inr ⟨fun w => c (d4.trans w), rfl⟩⟩
theorem r_beam_14 {t : Nat} {r : Int32} (e4 : S.2.1 10 4 = nI c4) (l4 : c4 ≤ 12) (e2 : S.2.1 10 2 = nI n2) (l2 : n2 ≤ 200) (hr : SMr (S.2.1 14) c4 n2) (hD : ∀ m, m < c4 → S.2.1 24 m = D m ∧ 0 ≤ (D m).toInt ∧ (D m).toInt ≤ 65535) (ht : t < 200) (hf : fr_beamAt_14 S (nI t) = some (r, S1)) : S1 = S ∧ r.toInt = bmS (S.2.1 14) D n2 t c4 := by
  have tI : (nI t).toInt = (t : Int) := nI_toInt (by omega)
  have i2 : (nI n2).toInt = (n2 : Int) := nI_toInt (by omega)
  have z0 : (0 : Int32).toInt = 0 := by decide
  have lp : ∀ (n m : Nat) {u : Int32}, m ≤ c4 → u.toInt = bmS (S.2.1 14) D n2 t m → fr_beamAt_14_b5 n S (nI t) u (nI m) = some (r, S1) → S1 = S ∧ r.toInt = bmS (S.2.1 14) D n2 t c4 := by
    intro n
    induction n with
    | zero => intro m u hm hu h; cases h
    | succ n ih =>
      intro m u hm hu h
      have mI : (nI m).toInt = (m : Int) := nI_toInt (by omega)
      have km : (nI m).toNatClampNeg = m := nI_clamp (by omega)
      have bm := bm_rg (D := D) hr (t := t) m hm
      have b78 : ∀ {w : Int32}, m < c4 → -89991 ≤ w.toInt ∧ w.toInt ≤ 89991 → u.toInt + w.toInt = bmS (S.2.1 14) D n2 t (m + 1) → fr_beamAt_14_b78 (fr_beamAt_14_b5 n) S w u (nI t) (nI m) = some (r, S1) → S1 = S ∧ r.toInt = bmS (S.2.1 14) D n2 t c4 := by
        intro w hm wr hw h
        unfold fr_beamAt_14_b78 at h
        obtain ⟨v2, d2, h⟩ := elet_some h
        obtain ⟨v3, d3, h⟩ := elet_some h
        rw [show v3 = nI (m + 1) from d3.trans (nI_p1 m)] at h
        have q2 := i_add d2 (by omega) (by omega)
        exact ih (m + 1) (by omega) (by rw [q2]; exact hw) h
      have no : m < c4 → ¬ (S.2.1 14 (1 + m) = 0 ∧ t + (D m).toNatClampNeg < n2) → fr_beamAt_14_b77 (fr_beamAt_14_b5 n) S u (nI t) (nI m) = some (r, S1) → S1 = S ∧ r.toInt = bmS (S.2.1 14) D n2 t c4 := by
        intro hm c h
        unfold fr_beamAt_14_b77 at h
        refine b78 hm (by decide) ?_ h
        show _ = bmS (S.2.1 14) D n2 t m + _
        rw [if_neg c, z0, hu]
      unfold fr_beamAt_14_b5 at h
      obtain ⟨v2, d2, h⟩ := elet_some h
      rw [e4] at d2
      rcases oif_or h with ⟨q, h⟩ | ⟨q, h⟩
      · rw [d2] at q
        have q2 := (nI_leI (a := c4) (by omega) (by omega)).mp q
        rw [← (osome2 h).1, ← (osome2 h).2, hu, show m = c4 by omega]
        exact ⟨rfl, rfl⟩
      · rw [d2] at q
        have q2 : ¬ c4 ≤ m := fun z => q ((nI_leI (a := c4) (by omega) (by omega)).mpr z)
        obtain ⟨D1, D2, D3⟩ := hD m (by omega)
        have kD := i_cl D2
        obtain ⟨r7, S4, f4, h⟩ := obind2_some h
        obtain ⟨e4', q4⟩ := r_hears_14 (by omega) f4
        rw [e4'] at h
        rcases oif_or h with ⟨c, h⟩ | ⟨c, h⟩
        · rcases q4 with ⟨-, w⟩ | ⟨w, -⟩
          · exact absurd c w
          · exact no (by omega) (fun y => w y.1) h
        · have act : S.2.1 14 (1 + m) = 0 := by
            rcases q4 with ⟨w, -⟩ | ⟨-, w⟩
            · exact w
            · exact absurd w c
          obtain ⟨-, h⟩ := oif_some h
          obtain ⟨v10, d10, h⟩ := elet_some h
          rw [km, D1] at d10
          obtain ⟨v11, d11, h⟩ := elet_some h
          have q10 : v10.toInt = (D m).toInt := by rw [d10]
          have q11 := i_add d11 (by omega) (by omega)
          obtain ⟨v12, d12, h⟩ := elet_some h
          rw [e2] at d12
          have q12 : v12.toInt = (n2 : Int) := by rw [d12]; exact i2
          rcases oif_or h with ⟨c2, h⟩ | ⟨c2, h⟩
          · have c2 := i_le c2
            exact no (by omega) (fun y => by have := y.2; omega) h
          · have c2 := i_nle c2
            obtain ⟨v14, d14, h⟩ := elet_some h
            obtain ⟨-, h⟩ := oif_some h
            obtain ⟨v16, d16, h⟩ := elet_some h
            rw [d14, cl_off (n := 13) (by decide) (by decide) (by omega) (by omega), km] at d16
            obtain ⟨v17, d17, h⟩ := elet_some h
            obtain ⟨v18, d18, h⟩ := elet_some h
            obtain ⟨v19, d19, h⟩ := elet_some h
            obtain ⟨-, h⟩ := oif_some h
            obtain ⟨v21, d21, h⟩ := elet_some h
            rw [km, D1] at d21
            obtain ⟨v22, d22, h⟩ := elet_some h
            obtain ⟨-, h⟩ := oif_some h
            obtain ⟨v24, d24, h⟩ := elet_some h
            have eD : D m = nI (D m).toNatClampNeg := Int32.toInt_inj.mp (by rw [nI_toInt (by omega)]; omega)
            have k22 : v22 = nI (55 + 200 * m + (t + (D m).toNatClampNeg)) := by
              have a : v22 = nI (55 + 200 * m + t + (D m).toNatClampNeg) := by
                rw [d22, d21, d19, d18, d17, ← nI_add, ← nI_add, ← nI_add, ← nI_mulk, ← eD]
                rfl
              rw [a, Nat.add_assoc (55 + 200 * m)]
            rw [k22, nI_clamp (by omega)] at d24
            obtain ⟨v25, d25, h⟩ := elet_some h
            have a := hr.1 m (by omega)
            have b := hr.2 m (t + (D m).toNatClampNeg) (by omega) (by omega)
            have p := mul9 a.1 a.2 b.1 b.2
            have q25 : v25.toInt = (S.2.1 14 (13 + m)).toInt * (S.2.1 14 (55 + 200 * m + (t + (D m).toNatClampNeg))).toInt := by
              rw [d25, d24, d16, Int32.toInt_mul, bm32 (by omega) (by omega)]
            refine b78 (by omega) (by rw [q25]; exact p) ?_ h
            show _ = bmS (S.2.1 14) D n2 t m + _
            rw [if_pos ⟨act, by omega⟩, hu, q25]
  unfold fr_beamAt_14 at hf
  exact lp 16384 0 (Nat.zero_le _) z0 hf
theorem r_wnd_14 {r : Int32} (e4 : S.2.1 10 4 = nI c4) (l4 : c4 ≤ 12) (e2 : S.2.1 10 2 = nI n2) (l2 : n2 ≤ 200) (hD : ∀ m, m < c4 → S.2.1 24 m = D m ∧ 0 ≤ (D m).toInt ∧ (D m).toInt ≤ 65535) (hf : fr_windowOf_14 S = some (r, S1)) : S1 = S ∧ r = nI (wdS (S.2.1 14) D n2 c4) := by
  have i2 : (nI n2).toInt = (n2 : Int) := nI_toInt (by omega)
  have z0 : (0 : Int32).toInt = 0 := by decide
  have mr := mx_rg (A := S.2.1 14) (fun m hm => (hD m hm).2) c4 (Nat.le_refl _)
  have wl := wd_le (A := S.2.1 14) (n2 := n2) (fun m hm => (hD m hm).2)
  have lp : ∀ (n m : Nat) {u : Int32}, m ≤ c4 → u.toInt = mxS (S.2.1 14) D m → fr_windowOf_14_b4 n S u (nI m) = some (r, S1) → S1 = S ∧ r = nI (wdS (S.2.1 14) D n2 c4) := by
    intro n
    induction n with
    | zero => intro m u hm hu h; cases h
    | succ n ih =>
      intro m u hm hu h
      have km : (nI m).toNatClampNeg = m := nI_clamp (by omega)
      have b37 : ∀ {w : Int32}, m < c4 → w.toInt = mxS (S.2.1 14) D (m + 1) → fr_windowOf_14_b37 (fr_windowOf_14_b4 n) S w (nI m) = some (r, S1) → S1 = S ∧ r = nI (wdS (S.2.1 14) D n2 c4) := by
        intro w hm hw h
        unfold fr_windowOf_14_b37 at h
        obtain ⟨v2, d2, h⟩ := elet_some h
        rw [show v2 = nI (m + 1) from d2.trans (nI_p1 m)] at h
        exact ih (m + 1) (by omega) hw h
      unfold fr_windowOf_14_b4 at h
      obtain ⟨v2, d2, h⟩ := elet_some h
      rw [e4] at d2
      rcases oif_or h with ⟨q, h⟩ | ⟨q, h⟩
      · rw [d2] at q
        have q2 := (nI_leI (a := c4) (by omega) (by omega)).mp q
        have em : m = c4 := by omega
        rw [em] at hu
        obtain ⟨v4, d4, h⟩ := elet_some h
        obtain ⟨v5, d5, h⟩ := elet_some h
        obtain ⟨v6, d6, h⟩ := elet_some h
        rw [e2] at d4
        have q4 : v4.toInt = (n2 : Int) := by rw [d4]; exact i2
        have q5 := i_sub d5 (by omega) (by omega)
        rw [← (osome2 h).1, ← (osome2 h).2, d6]
        refine ⟨rfl, Int32.toInt_inj.mp ?_⟩
        rw [nI_toInt (by omega)]
        unfold wdS
        by_cases c : 0 < v5
        · have c2 := i_lt c
          rw [if_pos c]
          omega
        · have c2 := i_nlt c
          rw [if_neg c]
          omega
      · rw [d2] at q
        have q2 : ¬ c4 ≤ m := fun z => q ((nI_leI (a := c4) (by omega) (by omega)).mpr z)
        obtain ⟨D1, -⟩ := hD m (by omega)
        obtain ⟨r10, S7, f7, h⟩ := obind2_some h
        obtain ⟨e7, q7⟩ := r_hears_14 (by omega) f7
        rw [e7] at h
        rcases oif_or h with ⟨c, h⟩ | ⟨c, h⟩
        · refine b37 (by omega) ?_ h
          show _ = if S.2.1 14 (1 + m) = 0 then (if mxS (S.2.1 14) D m < (D m).toInt then (D m).toInt else mxS (S.2.1 14) D m) else mxS (S.2.1 14) D m
          rcases q7 with ⟨-, w⟩ | ⟨w, -⟩
          · exact absurd c w
          · rw [if_neg w, hu]
        · obtain ⟨-, h⟩ := oif_some h
          obtain ⟨v13, d13, h⟩ := elet_some h
          rw [km, D1] at d13
          obtain ⟨v14, d14, h⟩ := elet_some h
          refine b37 (by omega) ?_ h
          show _ = if S.2.1 14 (1 + m) = 0 then (if mxS (S.2.1 14) D m < (D m).toInt then (D m).toInt else mxS (S.2.1 14) D m) else mxS (S.2.1 14) D m
          rcases q7 with ⟨w, -⟩ | ⟨-, w⟩
          · rw [if_pos w, d14, d13]
            by_cases c2 : u < D m
            · have c3 := i_lt c2
              rw [if_pos c2, if_pos (by omega)]
            · have c3 := i_nlt c2
              rw [if_neg c2, if_neg (by omega), hu]
          · exact absurd w c
  unfold fr_windowOf_14 at hf
  exact lp 16384 0 (Nat.zero_le _) z0 hf
theorem r_pow_14 {r : Int64} (e4 : S.2.1 10 4 = nI c4) (l4 : c4 ≤ 12) (e2 : S.2.1 10 2 = nI n2) (l2 : n2 ≤ 200) (hr : SMr (S.2.1 14) c4 n2) (hD : ∀ m, m < c4 → S.2.1 24 m = D m ∧ 0 ≤ (D m).toInt ∧ (D m).toInt ≤ 65535) (hf : fr_powerHere_14 S = some (r, S1)) : S1 = S ∧ r.toInt = pwS (S.2.1 14) D n2 c4 := by
  have wl := wd_le (A := S.2.1 14) (n2 := n2) (fun m hm => (hD m hm).2)
  have z0 : (0 : Int64).toInt = 0 := by decide
  unfold fr_powerHere_14 fr_powerHere_14_b24 at hf
  obtain ⟨r5, S2, f2, hf⟩ := obind2_some hf
  obtain ⟨e5, q5⟩ := r_wnd_14 e4 l4 e2 l2 hD f2
  rw [e5] at hf
  unfold pwS
  generalize wdS (S.2.1 14) D n2 c4 = W at wl q5 ⊢
  have WI : (nI W).toInt = (W : Int) := nI_toInt (by omega)
  have y0 : (0 : Int32).toInt = 0 := by decide
  rcases oif_or hf with ⟨c, hf⟩ | ⟨c, hf⟩
  · have w0 : W = 0 := by
      have := congrArg Int32.toInt (q5.symm.trans c)
      omega
    rw [if_pos w0, ← (osome2 hf).1, ← (osome2 hf).2]
    exact ⟨rfl, z0⟩
  · have w0 : ¬ W = 0 := fun w => c (by rw [q5, w]; rfl)
    rw [if_neg w0]
    obtain ⟨r10, S7, f7, hf⟩ := obind2_some hf
    have lp : ∀ (n t : Nat) {u : Int64}, t ≤ W → u.toInt = enS (S.2.1 14) D n2 c4 t → fr_energy_14_b6 n S (nI W) u (nI t) = some (r10, S7) → S7 = S ∧ r10.toInt = enS (S.2.1 14) D n2 c4 W := by
      intro n
      induction n with
      | zero => intro t u ht hu h; cases h
      | succ n ih =>
        intro t u ht hu h
        have en := en_rg (D := D) hr l4 t
        unfold fr_energy_14_b6 at h
        rcases oif_or h with ⟨q, h⟩ | ⟨q, h⟩
        · have q2 := (nI_leI (a := W) (by omega) (by omega)).mp q
          rw [← (osome2 h).1, ← (osome2 h).2, hu, show t = W by omega]
          exact ⟨rfl, rfl⟩
        · have q2 : ¬ W ≤ t := fun z => q ((nI_leI (a := W) (by omega) (by omega)).mpr z)
          obtain ⟨r6, S3, f3, h⟩ := obind2_some h
          obtain ⟨e3, q3⟩ := r_beam_14 e4 l4 e2 l2 hr hD (by omega) f3
          rw [e3] at h
          obtain ⟨v7, d7, h⟩ := elet_some h
          obtain ⟨v8, d8, h⟩ := elet_some h
          obtain ⟨v9, d9, h⟩ := elet_some h
          obtain ⟨v10, d10, h⟩ := elet_some h
          rw [show v10 = nI (t + 1) from d10.trans (nI_p1 t)] at h
          have bm := bm_rg (D := D) hr (t := t) c4 (Nat.le_refl _)
          have sq := sq_rg (b := bmS (S.2.1 14) D n2 t c4) (by omega) (by omega)
          have q7 : v7.toInt = bmS (S.2.1 14) D n2 t c4 := by rw [d7, Int32.toInt_toInt64, q3]
          have q8 : v8.toInt = bmS (S.2.1 14) D n2 t c4 * bmS (S.2.1 14) D n2 t c4 := by
            rw [l_mul d8 (by rw [q7]; omega) (by rw [q7]; omega), q7]
          have q9 := l_add d9 (by omega) (by omega)
          refine ih (t + 1) (by omega) ?_ h
          rw [q9, hu, q8]
          rfl
    unfold fr_energy_14 at f7
    rw [q5] at f7
    obtain ⟨e7, q7⟩ := lp 16384 0 (Nat.zero_le _) z0 f7
    rw [e7] at hf
    obtain ⟨v11, d11, hf⟩ := elet_some hf
    obtain ⟨-, hf⟩ := oif_some hf
    obtain ⟨v13, d13, hf⟩ := elet_some hf
    have en := en_rg (D := D) hr l4 W
    have q11 : v11.toInt = (W : Int) := by rw [d11, Int32.toInt_toInt64, q5, WI]
    rw [← (osome2 hf).1, ← (osome2 hf).2, d13, l_div (by omega) (by omega), q7, q11]
    exact ⟨rfl, rfl⟩
/-- but for what is laid the reference's numbers are as they were -/
theorem r_best_14 {r : Int32} {c rr N : Nat} {D : Nat → Nat → Int32} (e4 : S.2.1 10 4 = nI c4) (l4 : c4 ≤ 12) (e2 : S.2.1 10 2 = nI n2) (l2 : n2 ≤ 200) (e9 : S.2.1 10 9 = nI c) (l9 : 1 ≤ c ∧ c ≤ 12) (e10 : S.2.1 10 10 = nI rr) (l10 : 1 ≤ rr ∧ rr ≤ 12) (hN : N = c * rr) (hr : SMr (S.2.1 14) c4 n2) (hD : ∀ k, k < N → ∀ m, m < c4 → S.2.1 17 (12 * k + m) = D k m ∧ 0 ≤ (D k m).toInt ∧ (D k m).toInt ≤ 65535) (hf : fr_bestIn_14 S = some (r, S1)) : r = nI (bsS (fun k => pwS (S.2.1 14) (D k) n2 c4) N) := by
  have h144 : N ≤ 144 := by
    rw [hN]
    exact Nat.mul_le_mul l9.2 l10.2
  have N1 : 1 ≤ N := by
    rw [hN]
    exact Nat.mul_le_mul l9.1 l10.1
  have eN : nI c * nI rr = nI N := by rw [hN, nI_mulk]
  unfold fr_bestIn_14 at hf
  obtain ⟨S2, f2, hf⟩ := obind_some hf
  have lay : ∀ (n k : Nat) {U : MS}, k ≤ N → U.2.1 10 = S.2.1 10 → U.2.1 14 = S.2.1 14 → U.2.1 17 = S.2.1 17 → (∀ j, j < k → (U.2.2 25 j).toInt = pwS (S.2.1 14) (D j) n2 c4) → fr_laysPowers_14_b2 n U (nI k) = some S2 → S2.2.1 10 = S.2.1 10 ∧ ∀ j, j < N → (S2.2.2 25 j).toInt = pwS (S.2.1 14) (D j) n2 c4 := by
    intro n
    induction n with
    | zero => intro k U hk u10 uA u17 hv h; cases h
    | succ n ih =>
      intro k U hk u10 uA u17 hv h
      have kk : (nI k).toNatClampNeg = k := nI_clamp (by omega)
      unfold fr_laysPowers_14_b2 at h
      obtain ⟨r5, U2, g5, h⟩ := obind2_some h
      unfold fr_cellCount at g5
      obtain ⟨v2, d2, g5⟩ := elet_some g5
      obtain ⟨v3, d3, g5⟩ := elet_some g5
      obtain ⟨v4, d4, g5⟩ := elet_some g5
      rw [u10, e9] at d2
      rw [u10, e10] at d3
      rw [d2, d3, eN] at d4
      rw [← (osome2 g5).1, ← (osome2 g5).2, d4] at h
      rcases oif_or h with ⟨q, h⟩ | ⟨q, h⟩
      · have q2 := (nI_leI (a := N) (by omega) (by omega)).mp q
        rw [← osome1 h]
        exact ⟨u10, fun j hj => hv j (by omega)⟩
      · have q2 : ¬ N ≤ k := fun z => q ((nI_leI (a := N) (by omega) (by omega)).mpr z)
        obtain ⟨r10, S7, g7, h⟩ := obind2_some h
        obtain ⟨-, h⟩ := oif_some h
        obtain ⟨S12, e12, h⟩ := elet_some h
        obtain ⟨v13, d13, h⟩ := elet_some h
        rw [show v13 = nI (k + 1) from d13.trans (nI_p1 k)] at h
        unfold fr_powerOf_14 at g7
        obtain ⟨S3, g3, g7⟩ := obind_some g7
        obtain ⟨r8, S5, g8, g7⟩ := obind2_some g7
        have w3 := w_fr_laysCell g3
        unfold fr_laysCell at g3
        have i4 : (U.2.1 10 4).toInt = (c4 : Int) := by rw [u10, e4]; exact nI_toInt (by omega)
        have x3 := x_lays (S0 := U) (c := k) (by omega) (by omega) 16384 0 (by decide) rfl rfl (fun m hm => absurd hm (Nat.not_lt_zero m)) g3
        have s10 : S3.2.1 10 = S.2.1 10 := (w3.2 10 (by decide)).trans u10
        have sA : S3.2.1 14 = S.2.1 14 := (w3.2 14 (by decide)).trans uA
        have s17 : S3.2.1 17 = S.2.1 17 := (w3.2 17 (by decide)).trans u17
        obtain ⟨e8, q8⟩ := r_pow_14 (S := S3) (D := D k) (by rw [s10]; exact e4) l4 (by rw [s10]; exact e2) l2 (by rw [sA]; exact hr) (fun m hm => by
          have d := hD k (by omega) m hm
          refine ⟨?_, d.2⟩
          rw [x3 m (by omega), u17]
          exact d.1) g8
        rw [sA] at q8
        have f7 := osome2 g7
        have s25 : S3.2.2 25 = U.2.2 25 := l_lays g3
        have at12 : ∀ j, S12.2.2 25 j = if j = k then r10 else U.2.2 25 j := by
          intro j
          rw [e12, ← f7.2, e8, kk, mg_at, s25]
          rfl
        refine ih (k + 1) (by omega) ?_ ?_ ?_ (fun j hj => ?_) h
        · rw [e12, ← f7.2, e8]; exact s10
        · rw [e12, ← f7.2, e8]; exact sA
        · rw [e12, ← f7.2, e8]; exact s17
        · rw [at12]
          by_cases e : j = k
          · rw [if_pos e, e, ← f7.1]; exact q8
          · rw [if_neg e]; exact hv j (by omega)
  unfold fr_laysPowers_14 at f2
  obtain ⟨s10, hv⟩ := lay 16384 0 (Nat.zero_le _) rfl rfl rfl (fun j hj => absurd hj (Nat.not_lt_zero j)) f2
  have lp : ∀ (n k : Nat), 1 ≤ k → k ≤ N → fr_bestIn_14_b9 n S2 (nI (bsS (fun k => pwS (S.2.1 14) (D k) n2 c4) k)) (nI k) = some (r, S1) → r = nI (bsS (fun k => pwS (S.2.1 14) (D k) n2 c4) N) := by
    intro n
    induction n with
    | zero => intro k h1 hk h; cases h
    | succ n ih =>
      intro k h1 hk h
      have kk : (nI k).toNatClampNeg = k := nI_clamp (by omega)
      have bl := bs_lt (fun k => pwS (S.2.1 14) (D k) n2 c4) k
      have kb : (nI (bsS (fun k => pwS (S.2.1 14) (D k) n2 c4) k)).toNatClampNeg = bsS (fun k => pwS (S.2.1 14) (D k) n2 c4) k := nI_clamp (by omega)
      unfold fr_bestIn_14_b9 at h
      obtain ⟨r5, U2, g5, h⟩ := obind2_some h
      unfold fr_cellCount at g5
      obtain ⟨v2, d2, g5⟩ := elet_some g5
      obtain ⟨v3, d3, g5⟩ := elet_some g5
      obtain ⟨v4, d4, g5⟩ := elet_some g5
      rw [s10, e9] at d2
      rw [s10, e10] at d3
      rw [d2, d3, eN] at d4
      rw [← (osome2 g5).1, ← (osome2 g5).2, d4] at h
      rcases oif_or h with ⟨q, h⟩ | ⟨q, h⟩
      · have q2 := (nI_leI (a := N) (by omega) (by omega)).mp q
        rw [← (osome2 h).1, show k = N by omega]
      · have q2 : ¬ N ≤ k := fun z => q ((nI_leI (a := N) (by omega) (by omega)).mpr z)
        obtain ⟨-, h⟩ := oif_some h
        obtain ⟨v8, d8, h⟩ := elet_some h
        obtain ⟨-, h⟩ := oif_some h
        obtain ⟨v10, d10, h⟩ := elet_some h
        obtain ⟨v11, d11, h⟩ := elet_some h
        rw [kk] at d8
        rw [kb] at d10
        have q8 : v8.toInt = pwS (S.2.1 14) (D k) n2 c4 := by rw [d8]; exact hv k (by omega)
        have q10 : v10.toInt = pwS (S.2.1 14) (D (bsS (fun k => pwS (S.2.1 14) (D k) n2 c4) k)) n2 c4 := by rw [d10]; exact hv _ (by omega)
        rcases oif_or h with ⟨z, h⟩ | ⟨z, h⟩
        · rw [d11] at z
          have z2 := Int64.le_iff_toInt_le.mp ((lg_cmp_le v8 v10).mp z)
          rw [q8, q10] at z2
          have eb : bsS (fun k => pwS (S.2.1 14) (D k) n2 c4) (k + 1) = bsS (fun k => pwS (S.2.1 14) (D k) n2 c4) k := by
            show (if _ < _ then k else _) = _
            rw [if_neg (by show ¬ pwS (S.2.1 14) (D (bsS (fun k => pwS (S.2.1 14) (D k) n2 c4) k)) n2 c4 < pwS (S.2.1 14) (D k) n2 c4; omega)]
          unfold fr_bestIn_14_b38 at h
          obtain ⟨w2, f2', h⟩ := elet_some h
          rw [show w2 = nI (k + 1) from f2'.trans (nI_p1 k), ← eb] at h
          exact ih (k + 1) (by omega) (by omega) h
        · rw [d11] at z
          have z2 : ¬ v8.toInt ≤ v10.toInt := fun w => z ((lg_cmp_le v8 v10).mpr (Int64.le_iff_toInt_le.mpr w))
          rw [q8, q10] at z2
          have eb : bsS (fun k => pwS (S.2.1 14) (D k) n2 c4) (k + 1) = k := by
            show (if _ < _ then k else _) = _
            rw [if_pos (by show pwS (S.2.1 14) (D (bsS (fun k => pwS (S.2.1 14) (D k) n2 c4) k)) n2 c4 < pwS (S.2.1 14) (D k) n2 c4; omega)]
          unfold fr_bestIn_14_b38 at h
          obtain ⟨w2, f2', h⟩ := elet_some h
          rw [show w2 = nI (k + 1) from f2'.trans (nI_p1 k)] at h
          have h2 : fr_bestIn_14_b9 n S2 (nI (bsS (fun k => pwS (S.2.1 14) (D k) n2 c4) (k + 1))) (nI (k + 1)) = some (r, S1) := by rw [eb]; exact h
          exact ih (k + 1) (by omega) (by omega) h2
  have b1 : bsS (fun k => pwS (S.2.1 14) (D k) n2 c4) 1 = 0 := by
    show (if _ < _ then 0 else 0) = 0
    rw [ite_self]
  exact lp 16384 1 (by decide) N1 (by rw [b1]; exact hf)
end
