/-! the recordings, as numbers of plan and state: the reference -/
section
variable {S S1 : MS} {P A : Nat → Int32} {r : Int32} {c4 n2 c5 c71 c77 : Nat}
def PCs (P : Nat → Int32) (c4 n2 c5 c71 c77 : Nat) : Prop := P 4 = nI c4 ∧ c4 ≤ 12 ∧ P 2 = nI n2 ∧ n2 ≤ 200 ∧ P 5 = nI c5 ∧ c5 ≤ 6 ∧ P 71 = nI c71 ∧ c71 ≤ 2 ∧ P 77 = nI c77 ∧ c77 ≤ 5
theorem pc_of (hP : PL P) : ∃ c4 n2 c5 c71 c77, PCs P c4 n2 c5 c71 c77 := by
  have p4 := pl_4 hP
  have p2 := pl_2 hP
  have p5 := pl_5 hP
  have p71 := pl_71 hP
  have p77 := pl_77 hP
  obtain ⟨c4, h4, e4⟩ := nI_of01 (x := P 4) (a := 13) (by omega) (by omega) (by omega)
  obtain ⟨n2, h2, e2⟩ := nI_of01 (x := P 2) (a := 201) (by omega) (by omega) (by omega)
  obtain ⟨c5, h5, e5⟩ := nI_of01 (x := P 5) (a := 7) (by omega) (by omega) (by omega)
  obtain ⟨c71, h71, e71⟩ := nI_of01 (x := P 71) (a := 3) (by omega) (by omega) (by omega)
  obtain ⟨c77, h77, e77⟩ := nI_of01 (x := P 77) (a := 6) (by omega) (by omega) (by omega)
  exact ⟨c4, n2, c5, c71, c77, e4, by omega, e2, by omega, e5, by omega, e71, by omega, e77, by omega⟩
theorem sm_cg {A1 : Nat → Int32} {pt pp t : Int32} {m : Nat} (h : ∀ x, 25 ≤ x → x < 55 → A1 x = A x) : ∀ k, k ≤ 6 → smS P A1 pt pp m t k = smS P A pt pp m t k := by
  intro k
  induction k with
  | zero => intro _; rfl
  | succ k ih =>
    intro hk
    show smS P A1 pt pp m t k + _ = smS P A pt pp m t k + _
    unfold plS
    rw [ih (by omega), h (25 + k) (by omega) (by omega), h (31 + k) (by omega) (by omega), h (37 + k) (by omega) (by omega), h (43 + k) (by omega) (by omega), h (49 + k) (by omega) (by omega)]
theorem rw_cg {A1 : Nat → Int32} {pt pp u : Int32} {m : Nat} (hC : PCs P c4 n2 c5 c71 c77) (h : ∀ x, 25 ≤ x → x < 55 → A1 x = A x) : rwS P A1 pt pp m u = rwS P A pt pp m u := by
  obtain ⟨-, -, -, -, e5, l5, -⟩ := hC
  have k5 : (P 5).toNatClampNeg = c5 := by rw [e5]; exact nI_clamp (by omega)
  unfold rwS
  rw [k5, sm_cg h c5 l5]
theorem fl_cg {W W1 : Nat → Int32} {t : Nat} (h : ∀ u, u ≤ t → W1 u = W u) : ∀ i, flS P W1 t i = flS P W t i := by
  intro i
  induction i with
  | zero => rfl
  | succ i ih =>
    show flS P W1 t i + _ = flS P W t i + _
    rw [ih, h (t - i) (by omega)]
theorem fi_cg {W W1 : Nat → Int32} {t : Nat} (h : ∀ u, u ≤ t → W1 u = W u) : fiS P W1 t = fiS P W t := by
  unfold fiS
  rw [h t (Nat.le_refl t), fl_cg h]
theorem x_place_12 {a t : Int32} (h0 : 0 ≤ a.toInt) (h1 : a.toInt < 6) (hf : fr_sourcePlace_12 S a 0 t = some (r, S1)) : S1 = S ∧ r = plS (S.2.1 12) 31 43 a.toNatClampNeg t := by
  unfold fr_sourcePlace_12 fr_sourcePlace_12_b45 at hf
  rw [if_pos rfl] at hf
  obtain ⟨v3, d3, hf⟩ := elet_some hf
  obtain ⟨-, hf⟩ := oif_some hf
  obtain ⟨v5, d5, hf⟩ := elet_some hf
  rw [d3, cl_off (n := 31) (by decide) (by decide) h0 (by omega)] at d5
  obtain ⟨v6, d6, hf⟩ := elet_some hf
  obtain ⟨-, hf⟩ := oif_some hf
  obtain ⟨v8, d8, hf⟩ := elet_some hf
  rw [d6, cl_off (n := 43) (by decide) (by decide) h0 (by omega)] at d8
  obtain ⟨v9, d9, hf⟩ := elet_some hf
  obtain ⟨v10, d10, hf⟩ := elet_some hf
  obtain ⟨v11, d11, hf⟩ := elet_some hf
  rw [← (osome2 hf).1, ← (osome2 hf).2, d11, d10, d9, d8, d5]
  exact ⟨rfl, rfl⟩
theorem y_place_12 {a t : Int32} (h0 : 0 ≤ a.toInt) (h1 : a.toInt < 6) (hf : fr_sourcePlace_12 S a 1 t = some (r, S1)) : S1 = S ∧ r = plS (S.2.1 12) 37 49 a.toNatClampNeg t := by
  unfold fr_sourcePlace_12 fr_sourcePlace_12_b45 at hf
  rw [if_neg (by decide)] at hf
  obtain ⟨v12, d12, hf⟩ := elet_some hf
  obtain ⟨-, hf⟩ := oif_some hf
  obtain ⟨v14, d14, hf⟩ := elet_some hf
  rw [d12, cl_off (n := 37) (by decide) (by decide) h0 (by omega)] at d14
  obtain ⟨v15, d15, hf⟩ := elet_some hf
  obtain ⟨-, hf⟩ := oif_some hf
  obtain ⟨v17, d17, hf⟩ := elet_some hf
  rw [d15, cl_off (n := 49) (by decide) (by decide) h0 (by omega)] at d17
  obtain ⟨v18, d18, hf⟩ := elet_some hf
  obtain ⟨v19, d19, hf⟩ := elet_some hf
  obtain ⟨v20, d20, hf⟩ := elet_some hf
  rw [← (osome2 hf).1, ← (osome2 hf).2, d20, d19, d18, d17, d14]
  exact ⟨rfl, rfl⟩
theorem x_raw_12 {a u : Int32} (hC : PCs (S.2.1 10) c4 n2 c5 c71 c77) (ha : 0 ≤ a.toInt) (ha2 : a.toInt < 12) (hf : fr_rawAt_12 S a u = some (r, S1)) : S1 = S ∧ r = rwS (S.2.1 10) (S.2.1 12) (S.1 21) (S.1 22) a.toNatClampNeg u := by
  obtain ⟨-, -, -, -, e5, l5, e71, l71, -⟩ := hC
  have k5 : (S.2.1 10 5).toNatClampNeg = c5 := by rw [e5]; exact nI_clamp (by omega)
  have lp : ∀ (n j : Nat) {t s : Int32}, j ≤ c5 → s = smS (S.2.1 10) (S.2.1 12) (S.1 21) (S.1 22) a.toNatClampNeg t j → fr_rawAt_12_b71 n S a t s (nI j) = some (r, S1) → S1 = S ∧ r = S.2.1 10 (35 + a.toNatClampNeg) * smS (S.2.1 10) (S.2.1 12) (S.1 21) (S.1 22) a.toNatClampNeg t c5 := by
    intro n
    induction n with
    | zero => intro j t s hj hs h; cases h
    | succ n ih =>
      intro j t s hj hs h
      have jI : (nI j).toInt = (j : Int) := nI_toInt (by omega)
      have kj : (nI j).toNatClampNeg = j := nI_clamp (by omega)
      unfold fr_rawAt_12_b71 at h
      obtain ⟨v2, d2, h⟩ := elet_some h
      rw [e5] at d2
      rcases oif_or h with ⟨q, h⟩ | ⟨q, h⟩
      · rw [d2] at q
        have q2 := (nI_leI (a := c5) (by omega) (by omega)).mp q
        obtain ⟨v4, d4, h⟩ := elet_some h
        obtain ⟨-, h⟩ := oif_some h
        obtain ⟨v6, d6, h⟩ := elet_some h
        rw [d4, cl_off (n := 35) (by decide) (by decide) ha (by omega)] at d6
        obtain ⟨v7, d7, h⟩ := elet_some h
        rw [← (osome2 h).1, ← (osome2 h).2, d7, d6, hs, show j = c5 by omega]
        exact ⟨rfl, rfl⟩
      · rw [d2] at q
        have q2 : ¬ c5 ≤ j := fun z => q ((nI_leI (a := c5) (by omega) (by omega)).mpr z)
        obtain ⟨v8, d8, h⟩ := elet_some h
        obtain ⟨-, h⟩ := oif_some h
        obtain ⟨v10, d10, h⟩ := elet_some h
        rw [d8, cl_off (n := 25) (by decide) (by decide) (by omega) (by omega), kj] at d10
        rcases oif_or h with ⟨z, h⟩ | ⟨z, h⟩
        · unfold fr_rawAt_12_b127 at h
          obtain ⟨v2', d2', h⟩ := elet_some h
          obtain ⟨v3, d3, h⟩ := elet_some h
          rw [show v3 = nI (j + 1) from d3.trans (nI_p1 j)] at h
          refine ih (j + 1) (by omega) ?_ h
          rw [d2', hs]
          show _ = smS (S.2.1 10) (S.2.1 12) (S.1 21) (S.1 22) a.toNatClampNeg t j + _
          rw [if_pos (d10.symm.trans z)]
        · obtain ⟨r15, S12, f12, h⟩ := obind2_some h
          obtain ⟨e12, q12⟩ := x_place_12 (by omega) (by omega) f12
          rw [e12] at h
          obtain ⟨r19, S16, f16, h⟩ := obind2_some h
          obtain ⟨e16, q16⟩ := y_place_12 (by omega) (by omega) f16
          rw [e16] at h
          obtain ⟨r23, S20, f20, h⟩ := obind2_some h
          obtain ⟨e20, q20⟩ := x_heardOf ha ha2 (by omega) (by omega) l71 e71 f20
          rw [e20] at h
          unfold fr_rawAt_12_b127 at h
          obtain ⟨v2', d2', h⟩ := elet_some h
          obtain ⟨v3, d3, h⟩ := elet_some h
          rw [show v3 = nI (j + 1) from d3.trans (nI_p1 j)] at h
          refine ih (j + 1) (by omega) ?_ h
          rw [d2', hs, q20, q12, q16, kj]
          show _ = smS (S.2.1 10) (S.2.1 12) (S.1 21) (S.1 22) a.toNatClampNeg t j + _
          rw [if_neg (fun w => z (d10.trans w))]
  unfold fr_rawAt_12 at hf
  obtain ⟨v2, d2, hf⟩ := elet_some hf
  obtain ⟨-, hf⟩ := oif_some hf
  obtain ⟨v4, d4, hf⟩ := elet_some hf
  rw [d2, cl_off (n := 83) (by decide) (by decide) ha (by omega)] at d4
  obtain ⟨v5, d5, hf⟩ := elet_some hf
  unfold rwS
  rw [← d4, ← d5]
  rcases oif_or hf with ⟨q, hf⟩ | ⟨q, hf⟩
  · rw [if_pos q]
    obtain ⟨v7, d7, hf⟩ := elet_some hf
    rw [← d7]
    rcases oif_or hf with ⟨z, hf⟩ | ⟨z, hf⟩
    · obtain ⟨a1, a2⟩ := lp 16384 0 (Nat.zero_le c5) rfl hf
      rw [if_pos z, k5, d7]
      exact ⟨a1, a2⟩
    · rw [if_neg z]
      obtain ⟨v9, d9, hf⟩ := elet_some hf
      obtain ⟨-, hf⟩ := oif_some hf
      obtain ⟨v11, d11, hf⟩ := elet_some hf
      rw [d9, cl_off (n := 35) (by decide) (by decide) ha (by omega)] at d11
      obtain ⟨v12, d12, hf⟩ := elet_some hf
      obtain ⟨r16, S13, f13, hf⟩ := obind2_some hf
      obtain ⟨e13, q13⟩ := x_centre f13
      rw [e13] at hf
      obtain ⟨v17, d17, hf⟩ := elet_some hf
      obtain ⟨r21, S18, f18, hf⟩ := obind2_some hf
      obtain ⟨e18, q18⟩ := y_centre f18
      rw [e18] at hf
      obtain ⟨r25, S22, f22, hf⟩ := obind2_some hf
      obtain ⟨e22, q22⟩ := x_heardOf ha ha2 (by decide) (by decide) l71 e71 f22
      obtain ⟨v26, d26, hf⟩ := elet_some hf
      rw [← (osome2 hf).1, ← (osome2 hf).2, e22, d26, q22, q18, q13, d17, d12, d11, d7]
      exact ⟨rfl, rfl⟩
  · rw [if_neg q, ← (osome2 hf).1, ← (osome2 hf).2]
    exact ⟨rfl, rfl⟩
def IVr_12 (P A : Nat → Int32) (pt pp : Int32) (n2 m : Nat) (U : MS) : Prop := U.2.1 10 = P ∧ U.1 21 = pt ∧ U.1 22 = pp ∧ (∀ x, 1 ≤ x → x < 55 → U.2.1 12 x = A x) ∧ ∀ m' t, m' < m → t < n2 → U.2.1 12 (55 + 200 * m' + t) = rcS P A pt pp m' t
theorem x_recs_12 (hC : PCs P c4 n2 c5 c71 c77) {pt pp : Int32} : ∀ (n m : Nat) {U : MS}, m ≤ c4 → IVr_12 P A pt pp n2 m U → fr_records_12_b6 n U (nI m) = some S1 → IVr_12 P A pt pp n2 c4 S1 := by
  have hC0 := hC
  obtain ⟨e4, l4, e2, l2, -, -, -, -, e77, l77⟩ := hC0
  intro n
  induction n with
  | zero => intro m U hm hI h; cases h
  | succ n ih =>
    intro m U hm hI h
    have mI : (nI m).toInt = (m : Int) := nI_toInt (by omega)
    have km : (nI m).toNatClampNeg = m := nI_clamp (by omega)
    unfold fr_records_12_b6 at h
    obtain ⟨v2, d2, h⟩ := elet_some h
    rw [hI.1, e4] at d2
    rcases oif_or h with ⟨q, h⟩ | ⟨q, h⟩
    · rw [d2] at q
      have q2 := (nI_leI (a := c4) (by omega) (by omega)).mp q
      rw [← osome1 h, show c4 = m by omega]
      exact hI
    rw [d2] at q
    have q2 : ¬ c4 ≤ m := fun z => q ((nI_leI (a := c4) (by omega) (by omega)).mpr z)
    have b49 : ∀ (f t : Nat) {U : MS}, t ≤ n2 → IVr_12 P A pt pp n2 m U → (∀ u, u < n2 → U.2.1 23 u = rwS P A pt pp m (nI u)) → (∀ u, u < t → U.2.1 12 (55 + 200 * m + u) = rcS P A pt pp m u) → fr_records_12_b49 (fr_records_12_b6 n) f U (nI m) (nI t) = some S1 → IVr_12 P A pt pp n2 c4 S1 := by
      intro f
      induction f with
      | zero => intro t U ht hI hw hr h; cases h
      | succ f ih2 =>
        intro t U ht hI hw hr h
        have kt : (nI t).toNatClampNeg = t := nI_clamp (by omega)
        unfold fr_records_12_b49 at h
        obtain ⟨v2, d2, h⟩ := elet_some h
        rw [hI.1, e2] at d2
        rcases oif_or h with ⟨z, h⟩ | ⟨z, h⟩
        · rw [d2] at z
          have z2 := (nI_leI (a := n2) (by omega) (by omega)).mp z
          obtain ⟨v4, d4, h⟩ := elet_some h
          rw [show v4 = nI (m + 1) from d4.trans (nI_p1 m)] at h
          refine ih (m + 1) (by omega) ⟨hI.1, hI.2.1, hI.2.2.1, hI.2.2.2.1, fun m' u h1 h2 => ?_⟩ h
          by_cases e : m' = m
          · rw [e]; exact hr u (by omega)
          · exact hI.2.2.2.2 m' u (by omega) h2
        · rw [d2] at z
          have z2 : ¬ n2 ≤ t := fun w => z ((nI_leI (a := n2) (by omega) (by omega)).mpr w)
          obtain ⟨v5, d5, h⟩ := elet_some h
          obtain ⟨v6, d6, h⟩ := elet_some h
          obtain ⟨v7, d7, h⟩ := elet_some h
          have k7 : v7 = nI (55 + 200 * m + t) := by
            rw [d7, d6, d5, ← nI_add, ← nI_add, ← nI_mulk]
            rfl
          obtain ⟨r11, S8, f8, h⟩ := obind2_some h
          obtain ⟨e8, q8⟩ := x_filtered (by omega) l77 (by rw [hI.1]; exact e77) f8
          rw [e8] at h
          obtain ⟨r15, S12, f12, h⟩ := obind2_some h
          obtain ⟨e12, q12⟩ := x_bounded f12
          rw [e12] at h
          obtain ⟨-, h⟩ := oif_some h
          obtain ⟨S17, e17, h⟩ := elet_some h
          obtain ⟨v18, d18, h⟩ := elet_some h
          rw [show v18 = nI (t + 1) from d18.trans (nI_p1 t)] at h
          have c7 : v7.toNatClampNeg = 55 + 200 * m + t := by rw [k7]; exact nI_clamp (by omega)
          have qv : r15 = rcS P A pt pp m t := by
            rw [q12, q8, hI.1]
            unfold rcS
            rw [fi_cg (W := fun u => rwS P A pt pp m (nI u)) (fun u hu => hw u (by omega))]
          have at7 : ∀ x, S17.2.1 12 x = if x = 55 + 200 * m + t then rcS P A pt pp m t else U.2.1 12 x := by
            intro x
            rw [e17, mf_at, c7, qv]
            rfl
          refine ih2 (t + 1) (by omega) ⟨?_, ?_, ?_, fun x h1 h2 => ?_, fun m' u h1 h2 => ?_⟩ (fun u hu => ?_) (fun u hu => ?_) h
          · rw [e17, mf_ne (by decide)]; exact hI.1
          · rw [e17]; exact hI.2.1
          · rw [e17]; exact hI.2.2.1
          · rw [at7, if_neg (by omega)]; exact hI.2.2.2.1 x h1 h2
          · rw [at7, if_neg (by omega)]; exact hI.2.2.2.2 m' u h1 h2
          · rw [e17, mf_ne (by decide)]; exact hw u hu
          · rw [at7]
            by_cases e : u = t
            · rw [if_pos (by omega), e]
            · rw [if_neg (by omega)]; exact hr u (by omega)
    have b18 : ∀ (f t : Nat) {U : MS}, t ≤ n2 → IVr_12 P A pt pp n2 m U → (∀ u, u < t → U.2.1 23 u = rwS P A pt pp m (nI u)) → fr_records_12_b18 (fr_records_12_b6 n) f U (nI m) (nI t) = some S1 → IVr_12 P A pt pp n2 c4 S1 := by
      intro f
      induction f with
      | zero => intro t U ht hI hw h; cases h
      | succ f ih2 =>
        intro t U ht hI hw h
        have kt : (nI t).toNatClampNeg = t := nI_clamp (by omega)
        unfold fr_records_12_b18 at h
        obtain ⟨v2, d2, h⟩ := elet_some h
        rw [hI.1, e2] at d2
        rcases oif_or h with ⟨z, h⟩ | ⟨z, h⟩
        · rw [d2] at z
          have z2 := (nI_leI (a := n2) (by omega) (by omega)).mp z
          exact b49 16384 0 (Nat.zero_le _) hI (fun u hu => hw u (by omega)) (fun u hu => absurd hu (Nat.not_lt_zero u)) h
        · rw [d2] at z
          have z2 : ¬ n2 ≤ t := fun w => z ((nI_leI (a := n2) (by omega) (by omega)).mpr w)
          obtain ⟨r7, S4, f4, h⟩ := obind2_some h
          obtain ⟨e4', q4⟩ := x_raw_12 (by rw [hI.1]; exact hC) (by omega) (by omega) f4
          rw [e4'] at h
          obtain ⟨-, h⟩ := oif_some h
          obtain ⟨S9, e9, h⟩ := elet_some h
          obtain ⟨v10, d10, h⟩ := elet_some h
          rw [show v10 = nI (t + 1) from d10.trans (nI_p1 t)] at h
          have qv : r7 = rwS P A pt pp m (nI t) := by
            rw [q4, hI.1, hI.2.1, hI.2.2.1, km]
            exact rw_cg hC (fun x h1 h2 => hI.2.2.2.1 x (by omega) h2)
          refine ih2 (t + 1) (by omega) ⟨?_, ?_, ?_, fun x h1 h2 => ?_, fun m' u h1 h2 => ?_⟩ (fun u hu => ?_) h
          · rw [e9, mf_ne (by decide)]; exact hI.1
          · rw [e9]; exact hI.2.1
          · rw [e9]; exact hI.2.2.1
          · rw [e9, mf_ne (by decide)]; exact hI.2.2.2.1 x h1 h2
          · rw [e9, mf_ne (by decide)]; exact hI.2.2.2.2 m' u h1 h2
          · rw [e9, mf_at, kt]
            show (if u = t then r7 else U.2.1 23 u) = _
            by_cases e : u = t
            · rw [if_pos e, e, qv]
            · rw [if_neg e]; exact hw u (by omega)
    exact b18 16384 0 (Nat.zero_le _) hI (fun u hu => absurd hu (Nat.not_lt_zero u)) h
theorem x_records_12 (hC : PCs (S.2.1 10) c4 n2 c5 c71 c77) (h : fr_records_12 S = some S1) : IVr_12 (S.2.1 10) (S.2.1 12) (S.1 21) (S.1 22) n2 c4 S1 := by
  unfold fr_records_12 at h
  obtain ⟨S2, e2, h⟩ := elet_some h
  refine x_recs_12 hC 16384 0 (Nat.zero_le _) ⟨?_, ?_, ?_, fun x h1 _ => ?_, fun m' t h1 _ => absurd h1 (Nat.not_lt_zero m')⟩ h
  · rw [e2, mf_ne (by decide)]
  · rw [e2]; rfl
  · rw [e2]; rfl
  · rw [e2, mf_at]
    show (if x = 0 then _ else _) = _
    rw [if_neg (by omega)]
theorem x_place_14 {a t : Int32} (h0 : 0 ≤ a.toInt) (h1 : a.toInt < 6) (hf : fr_sourcePlace_14 S a 0 t = some (r, S1)) : S1 = S ∧ r = plS (S.2.1 14) 31 43 a.toNatClampNeg t := by
  unfold fr_sourcePlace_14 fr_sourcePlace_14_b45 at hf
  rw [if_pos rfl] at hf
  obtain ⟨v3, d3, hf⟩ := elet_some hf
  obtain ⟨-, hf⟩ := oif_some hf
  obtain ⟨v5, d5, hf⟩ := elet_some hf
  rw [d3, cl_off (n := 31) (by decide) (by decide) h0 (by omega)] at d5
  obtain ⟨v6, d6, hf⟩ := elet_some hf
  obtain ⟨-, hf⟩ := oif_some hf
  obtain ⟨v8, d8, hf⟩ := elet_some hf
  rw [d6, cl_off (n := 43) (by decide) (by decide) h0 (by omega)] at d8
  obtain ⟨v9, d9, hf⟩ := elet_some hf
  obtain ⟨v10, d10, hf⟩ := elet_some hf
  obtain ⟨v11, d11, hf⟩ := elet_some hf
  rw [← (osome2 hf).1, ← (osome2 hf).2, d11, d10, d9, d8, d5]
  exact ⟨rfl, rfl⟩
theorem y_place_14 {a t : Int32} (h0 : 0 ≤ a.toInt) (h1 : a.toInt < 6) (hf : fr_sourcePlace_14 S a 1 t = some (r, S1)) : S1 = S ∧ r = plS (S.2.1 14) 37 49 a.toNatClampNeg t := by
  unfold fr_sourcePlace_14 fr_sourcePlace_14_b45 at hf
  rw [if_neg (by decide)] at hf
  obtain ⟨v12, d12, hf⟩ := elet_some hf
  obtain ⟨-, hf⟩ := oif_some hf
  obtain ⟨v14, d14, hf⟩ := elet_some hf
  rw [d12, cl_off (n := 37) (by decide) (by decide) h0 (by omega)] at d14
  obtain ⟨v15, d15, hf⟩ := elet_some hf
  obtain ⟨-, hf⟩ := oif_some hf
  obtain ⟨v17, d17, hf⟩ := elet_some hf
  rw [d15, cl_off (n := 49) (by decide) (by decide) h0 (by omega)] at d17
  obtain ⟨v18, d18, hf⟩ := elet_some hf
  obtain ⟨v19, d19, hf⟩ := elet_some hf
  obtain ⟨v20, d20, hf⟩ := elet_some hf
  rw [← (osome2 hf).1, ← (osome2 hf).2, d20, d19, d18, d17, d14]
  exact ⟨rfl, rfl⟩
theorem x_raw_14 {a u : Int32} (hC : PCs (S.2.1 10) c4 n2 c5 c71 c77) (ha : 0 ≤ a.toInt) (ha2 : a.toInt < 12) (hf : fr_rawAt_14 S a u = some (r, S1)) : S1 = S ∧ r = rwS (S.2.1 10) (S.2.1 14) (S.1 21) (S.1 22) a.toNatClampNeg u := by
  obtain ⟨-, -, -, -, e5, l5, e71, l71, -⟩ := hC
  have k5 : (S.2.1 10 5).toNatClampNeg = c5 := by rw [e5]; exact nI_clamp (by omega)
  have lp : ∀ (n j : Nat) {t s : Int32}, j ≤ c5 → s = smS (S.2.1 10) (S.2.1 14) (S.1 21) (S.1 22) a.toNatClampNeg t j → fr_rawAt_14_b71 n S a t s (nI j) = some (r, S1) → S1 = S ∧ r = S.2.1 10 (35 + a.toNatClampNeg) * smS (S.2.1 10) (S.2.1 14) (S.1 21) (S.1 22) a.toNatClampNeg t c5 := by
    intro n
    induction n with
    | zero => intro j t s hj hs h; cases h
    | succ n ih =>
      intro j t s hj hs h
      have jI : (nI j).toInt = (j : Int) := nI_toInt (by omega)
      have kj : (nI j).toNatClampNeg = j := nI_clamp (by omega)
      unfold fr_rawAt_14_b71 at h
      obtain ⟨v2, d2, h⟩ := elet_some h
      rw [e5] at d2
      rcases oif_or h with ⟨q, h⟩ | ⟨q, h⟩
      · rw [d2] at q
        have q2 := (nI_leI (a := c5) (by omega) (by omega)).mp q
        obtain ⟨v4, d4, h⟩ := elet_some h
        obtain ⟨-, h⟩ := oif_some h
        obtain ⟨v6, d6, h⟩ := elet_some h
        rw [d4, cl_off (n := 35) (by decide) (by decide) ha (by omega)] at d6
        obtain ⟨v7, d7, h⟩ := elet_some h
        rw [← (osome2 h).1, ← (osome2 h).2, d7, d6, hs, show j = c5 by omega]
        exact ⟨rfl, rfl⟩
      · rw [d2] at q
        have q2 : ¬ c5 ≤ j := fun z => q ((nI_leI (a := c5) (by omega) (by omega)).mpr z)
        obtain ⟨v8, d8, h⟩ := elet_some h
        obtain ⟨-, h⟩ := oif_some h
        obtain ⟨v10, d10, h⟩ := elet_some h
        rw [d8, cl_off (n := 25) (by decide) (by decide) (by omega) (by omega), kj] at d10
        rcases oif_or h with ⟨z, h⟩ | ⟨z, h⟩
        · unfold fr_rawAt_14_b127 at h
          obtain ⟨v2', d2', h⟩ := elet_some h
          obtain ⟨v3, d3, h⟩ := elet_some h
          rw [show v3 = nI (j + 1) from d3.trans (nI_p1 j)] at h
          refine ih (j + 1) (by omega) ?_ h
          rw [d2', hs]
          show _ = smS (S.2.1 10) (S.2.1 14) (S.1 21) (S.1 22) a.toNatClampNeg t j + _
          rw [if_pos (d10.symm.trans z)]
        · obtain ⟨r15, S12, f12, h⟩ := obind2_some h
          obtain ⟨e12, q12⟩ := x_place_14 (by omega) (by omega) f12
          rw [e12] at h
          obtain ⟨r19, S16, f16, h⟩ := obind2_some h
          obtain ⟨e16, q16⟩ := y_place_14 (by omega) (by omega) f16
          rw [e16] at h
          obtain ⟨r23, S20, f20, h⟩ := obind2_some h
          obtain ⟨e20, q20⟩ := x_heardOf ha ha2 (by omega) (by omega) l71 e71 f20
          rw [e20] at h
          unfold fr_rawAt_14_b127 at h
          obtain ⟨v2', d2', h⟩ := elet_some h
          obtain ⟨v3, d3, h⟩ := elet_some h
          rw [show v3 = nI (j + 1) from d3.trans (nI_p1 j)] at h
          refine ih (j + 1) (by omega) ?_ h
          rw [d2', hs, q20, q12, q16, kj]
          show _ = smS (S.2.1 10) (S.2.1 14) (S.1 21) (S.1 22) a.toNatClampNeg t j + _
          rw [if_neg (fun w => z (d10.trans w))]
  unfold fr_rawAt_14 at hf
  obtain ⟨v2, d2, hf⟩ := elet_some hf
  obtain ⟨-, hf⟩ := oif_some hf
  obtain ⟨v4, d4, hf⟩ := elet_some hf
  rw [d2, cl_off (n := 83) (by decide) (by decide) ha (by omega)] at d4
  obtain ⟨v5, d5, hf⟩ := elet_some hf
  unfold rwS
  rw [← d4, ← d5]
  rcases oif_or hf with ⟨q, hf⟩ | ⟨q, hf⟩
  · rw [if_pos q]
    obtain ⟨v7, d7, hf⟩ := elet_some hf
    rw [← d7]
    rcases oif_or hf with ⟨z, hf⟩ | ⟨z, hf⟩
    · obtain ⟨a1, a2⟩ := lp 16384 0 (Nat.zero_le c5) rfl hf
      rw [if_pos z, k5, d7]
      exact ⟨a1, a2⟩
    · rw [if_neg z]
      obtain ⟨v9, d9, hf⟩ := elet_some hf
      obtain ⟨-, hf⟩ := oif_some hf
      obtain ⟨v11, d11, hf⟩ := elet_some hf
      rw [d9, cl_off (n := 35) (by decide) (by decide) ha (by omega)] at d11
      obtain ⟨v12, d12, hf⟩ := elet_some hf
      obtain ⟨r16, S13, f13, hf⟩ := obind2_some hf
      obtain ⟨e13, q13⟩ := x_centre f13
      rw [e13] at hf
      obtain ⟨v17, d17, hf⟩ := elet_some hf
      obtain ⟨r21, S18, f18, hf⟩ := obind2_some hf
      obtain ⟨e18, q18⟩ := y_centre f18
      rw [e18] at hf
      obtain ⟨r25, S22, f22, hf⟩ := obind2_some hf
      obtain ⟨e22, q22⟩ := x_heardOf ha ha2 (by decide) (by decide) l71 e71 f22
      obtain ⟨v26, d26, hf⟩ := elet_some hf
      rw [← (osome2 hf).1, ← (osome2 hf).2, e22, d26, q22, q18, q13, d17, d12, d11, d7]
      exact ⟨rfl, rfl⟩
  · rw [if_neg q, ← (osome2 hf).1, ← (osome2 hf).2]
    exact ⟨rfl, rfl⟩
def IVr_14 (P A : Nat → Int32) (pt pp : Int32) (n2 m : Nat) (U : MS) : Prop := U.2.1 10 = P ∧ U.1 21 = pt ∧ U.1 22 = pp ∧ (∀ x, 1 ≤ x → x < 55 → U.2.1 14 x = A x) ∧ ∀ m' t, m' < m → t < n2 → U.2.1 14 (55 + 200 * m' + t) = rcS P A pt pp m' t
theorem x_recs_14 (hC : PCs P c4 n2 c5 c71 c77) {pt pp : Int32} : ∀ (n m : Nat) {U : MS}, m ≤ c4 → IVr_14 P A pt pp n2 m U → fr_records_14_b6 n U (nI m) = some S1 → IVr_14 P A pt pp n2 c4 S1 := by
  have hC0 := hC
  obtain ⟨e4, l4, e2, l2, -, -, -, -, e77, l77⟩ := hC0
  intro n
  induction n with
  | zero => intro m U hm hI h; cases h
  | succ n ih =>
    intro m U hm hI h
    have mI : (nI m).toInt = (m : Int) := nI_toInt (by omega)
    have km : (nI m).toNatClampNeg = m := nI_clamp (by omega)
    unfold fr_records_14_b6 at h
    obtain ⟨v2, d2, h⟩ := elet_some h
    rw [hI.1, e4] at d2
    rcases oif_or h with ⟨q, h⟩ | ⟨q, h⟩
    · rw [d2] at q
      have q2 := (nI_leI (a := c4) (by omega) (by omega)).mp q
      rw [← osome1 h, show c4 = m by omega]
      exact hI
    rw [d2] at q
    have q2 : ¬ c4 ≤ m := fun z => q ((nI_leI (a := c4) (by omega) (by omega)).mpr z)
    have b49 : ∀ (f t : Nat) {U : MS}, t ≤ n2 → IVr_14 P A pt pp n2 m U → (∀ u, u < n2 → U.2.1 23 u = rwS P A pt pp m (nI u)) → (∀ u, u < t → U.2.1 14 (55 + 200 * m + u) = rcS P A pt pp m u) → fr_records_14_b49 (fr_records_14_b6 n) f U (nI m) (nI t) = some S1 → IVr_14 P A pt pp n2 c4 S1 := by
      intro f
      induction f with
      | zero => intro t U ht hI hw hr h; cases h
      | succ f ih2 =>
        intro t U ht hI hw hr h
        have kt : (nI t).toNatClampNeg = t := nI_clamp (by omega)
        unfold fr_records_14_b49 at h
        obtain ⟨v2, d2, h⟩ := elet_some h
        rw [hI.1, e2] at d2
        rcases oif_or h with ⟨z, h⟩ | ⟨z, h⟩
        · rw [d2] at z
          have z2 := (nI_leI (a := n2) (by omega) (by omega)).mp z
          obtain ⟨v4, d4, h⟩ := elet_some h
          rw [show v4 = nI (m + 1) from d4.trans (nI_p1 m)] at h
          refine ih (m + 1) (by omega) ⟨hI.1, hI.2.1, hI.2.2.1, hI.2.2.2.1, fun m' u h1 h2 => ?_⟩ h
          by_cases e : m' = m
          · rw [e]; exact hr u (by omega)
          · exact hI.2.2.2.2 m' u (by omega) h2
        · rw [d2] at z
          have z2 : ¬ n2 ≤ t := fun w => z ((nI_leI (a := n2) (by omega) (by omega)).mpr w)
          obtain ⟨v5, d5, h⟩ := elet_some h
          obtain ⟨v6, d6, h⟩ := elet_some h
          obtain ⟨v7, d7, h⟩ := elet_some h
          have k7 : v7 = nI (55 + 200 * m + t) := by
            rw [d7, d6, d5, ← nI_add, ← nI_add, ← nI_mulk]
            rfl
          obtain ⟨r11, S8, f8, h⟩ := obind2_some h
          obtain ⟨e8, q8⟩ := x_filtered (by omega) l77 (by rw [hI.1]; exact e77) f8
          rw [e8] at h
          obtain ⟨r15, S12, f12, h⟩ := obind2_some h
          obtain ⟨e12, q12⟩ := x_bounded f12
          rw [e12] at h
          obtain ⟨-, h⟩ := oif_some h
          obtain ⟨S17, e17, h⟩ := elet_some h
          obtain ⟨v18, d18, h⟩ := elet_some h
          rw [show v18 = nI (t + 1) from d18.trans (nI_p1 t)] at h
          have c7 : v7.toNatClampNeg = 55 + 200 * m + t := by rw [k7]; exact nI_clamp (by omega)
          have qv : r15 = rcS P A pt pp m t := by
            rw [q12, q8, hI.1]
            unfold rcS
            rw [fi_cg (W := fun u => rwS P A pt pp m (nI u)) (fun u hu => hw u (by omega))]
          have at7 : ∀ x, S17.2.1 14 x = if x = 55 + 200 * m + t then rcS P A pt pp m t else U.2.1 14 x := by
            intro x
            rw [e17, mf_at, c7, qv]
            rfl
          refine ih2 (t + 1) (by omega) ⟨?_, ?_, ?_, fun x h1 h2 => ?_, fun m' u h1 h2 => ?_⟩ (fun u hu => ?_) (fun u hu => ?_) h
          · rw [e17, mf_ne (by decide)]; exact hI.1
          · rw [e17]; exact hI.2.1
          · rw [e17]; exact hI.2.2.1
          · rw [at7, if_neg (by omega)]; exact hI.2.2.2.1 x h1 h2
          · rw [at7, if_neg (by omega)]; exact hI.2.2.2.2 m' u h1 h2
          · rw [e17, mf_ne (by decide)]; exact hw u hu
          · rw [at7]
            by_cases e : u = t
            · rw [if_pos (by omega), e]
            · rw [if_neg (by omega)]; exact hr u (by omega)
    have b18 : ∀ (f t : Nat) {U : MS}, t ≤ n2 → IVr_14 P A pt pp n2 m U → (∀ u, u < t → U.2.1 23 u = rwS P A pt pp m (nI u)) → fr_records_14_b18 (fr_records_14_b6 n) f U (nI m) (nI t) = some S1 → IVr_14 P A pt pp n2 c4 S1 := by
      intro f
      induction f with
      | zero => intro t U ht hI hw h; cases h
      | succ f ih2 =>
        intro t U ht hI hw h
        have kt : (nI t).toNatClampNeg = t := nI_clamp (by omega)
        unfold fr_records_14_b18 at h
        obtain ⟨v2, d2, h⟩ := elet_some h
        rw [hI.1, e2] at d2
        rcases oif_or h with ⟨z, h⟩ | ⟨z, h⟩
        · rw [d2] at z
          have z2 := (nI_leI (a := n2) (by omega) (by omega)).mp z
          exact b49 16384 0 (Nat.zero_le _) hI (fun u hu => hw u (by omega)) (fun u hu => absurd hu (Nat.not_lt_zero u)) h
        · rw [d2] at z
          have z2 : ¬ n2 ≤ t := fun w => z ((nI_leI (a := n2) (by omega) (by omega)).mpr w)
          obtain ⟨r7, S4, f4, h⟩ := obind2_some h
          obtain ⟨e4', q4⟩ := x_raw_14 (by rw [hI.1]; exact hC) (by omega) (by omega) f4
          rw [e4'] at h
          obtain ⟨-, h⟩ := oif_some h
          obtain ⟨S9, e9, h⟩ := elet_some h
          obtain ⟨v10, d10, h⟩ := elet_some h
          rw [show v10 = nI (t + 1) from d10.trans (nI_p1 t)] at h
          have qv : r7 = rwS P A pt pp m (nI t) := by
            rw [q4, hI.1, hI.2.1, hI.2.2.1, km]
            exact rw_cg hC (fun x h1 h2 => hI.2.2.2.1 x (by omega) h2)
          refine ih2 (t + 1) (by omega) ⟨?_, ?_, ?_, fun x h1 h2 => ?_, fun m' u h1 h2 => ?_⟩ (fun u hu => ?_) h
          · rw [e9, mf_ne (by decide)]; exact hI.1
          · rw [e9]; exact hI.2.1
          · rw [e9]; exact hI.2.2.1
          · rw [e9, mf_ne (by decide)]; exact hI.2.2.2.1 x h1 h2
          · rw [e9, mf_ne (by decide)]; exact hI.2.2.2.2 m' u h1 h2
          · rw [e9, mf_at, kt]
            show (if u = t then r7 else U.2.1 23 u) = _
            by_cases e : u = t
            · rw [if_pos e, e, qv]
            · rw [if_neg e]; exact hw u (by omega)
    exact b18 16384 0 (Nat.zero_le _) hI (fun u hu => absurd hu (Nat.not_lt_zero u)) h
theorem x_records_14 (hC : PCs (S.2.1 10) c4 n2 c5 c71 c77) (h : fr_records_14 S = some S1) : IVr_14 (S.2.1 10) (S.2.1 14) (S.1 21) (S.1 22) n2 c4 S1 := by
  unfold fr_records_14 at h
  obtain ⟨S2, e2, h⟩ := elet_some h
  refine x_recs_14 hC 16384 0 (Nat.zero_le _) ⟨?_, ?_, ?_, fun x h1 _ => ?_, fun m' t h1 _ => absurd h1 (Nat.not_lt_zero m')⟩ h
  · rw [e2, mf_ne (by decide)]
  · rw [e2]; rfl
  · rw [e2]; rfl
  · rw [e2, mf_at]
    show (if x = 0 then _ else _) = _
    rw [if_neg (by omega)]
end
