/-! Safety by hand: clean -/
/-- some microphone that hears has a weight -/
def HW (P : Nat → Int32) (S : MS) : Prop := ∃ m : Nat, (m : Int) < (P 4).toInt ∧ (S.2.1 12 (1 + m)).toInt = 0 ∧ 1 ≤ (S.2.1 12 (13 + m)).toInt
/-- the window leaves room for the delay of each microphone that hears -/
def DW (P : Nat → Int32) (S : MS) (w : Int32) : Prop := ∀ m : Nat, (m : Int) < (P 4).toInt → (S.2.1 12 (1 + m)).toInt = 0 → 0 < w.toInt → (S.2.1 24 m).toInt + w.toInt ≤ 200
theorem sfh_12 {P : Nat → Int32} (hP : PL P) (S : MS) (a1 : Int32) (h_S : IC P S) (g0 : 0 ≤ a1.toInt ∧ a1.toInt ≤ 11) : Tot (fr_hears_12 S a1) (fun r => r.2 = S ∧ ((r.1.toInt = 0 ∧ ¬ (S.2.1 12 (1 + a1.toNatClampNeg)).toInt = 0) ∨ (r.1.toInt = 1 ∧ (S.2.1 12 (1 + a1.toNatClampNeg)).toInt = 0))) := by
  have z0 : (0 : Int32).toInt = 0 := by decide
  have z1 : (1 : Int32).toInt = 1 := by decide
  unfold fr_hears_12
  refine tot_let (fun v2 e2 => ?_)
  have q2 := i_add e2 (by omega) (by omega)
  refine tot_oif (i_inb (by omega) (by omega)) ?_
  have x2 := i_cl (i := v2) (by omega)
  have x1 := i_cl (i := a1) (by omega)
  refine tot_let (fun v4 e4 => ?_)
  rw [show v2.toNatClampNeg = 1 + a1.toNatClampNeg from by omega] at e4
  rw [← e4]
  refine tot_if (fun c => ?_) (fun c => ?_)
  · replace c := i_eq c
    unfold fr_hears_12_b13
    refine tot_oif (i_b01 (by omega)) ?_
    exact tot_some ⟨rfl, .inr ⟨z1, by omega⟩⟩
  · replace c := i_ne c
    unfold fr_hears_12_b13
    refine tot_oif (i_b01 (by omega)) ?_
    exact tot_some ⟨rfl, .inl ⟨z0, by omega⟩⟩
theorem lfW {P : Nat → Int32} (hP : PL P) (S : MS) (h_S : IC P S) : ∀ (n : Nat) (l1 : Int32) (l2 : Int32), (0 ≤ l1.toInt ∧ l1.toInt ≤ 9 * l2.toInt) → (0 ≤ l2.toInt ∧ l2.toInt ≤ 12) → (¬ l1.toInt = 0 → HW P S) → (∀ m : Nat, (m : Int) < l2.toInt → (S.2.1 12 (1 + m)).toInt = 0 → 1 ≤ (S.2.1 12 (13 + m)).toInt → 1 ≤ l1.toInt) → 12 - l2.toInt < (n : Int) → Tot (fr_weightOf_b4 n S l1 l2) (fun r => r.2 = S ∧ (0 ≤ r.1.toInt ∧ r.1.toInt ≤ 108) ∧ (¬ r.1.toInt = 0 → HW P S) ∧ (HW P S → 1 ≤ r.1.toInt)) := by
  have z0 : (0 : Int32).toInt = 0 := by decide
  have z1 : (Int32.ofInt (1) : Int32).toInt = 1 := by decide
  have z2 : (13 : Int32).toInt = 13 := by decide
  have p_4 := pl_4 hP
  intro n
  induction n with
  | zero =>
    intro l1 l2 g1 g2 _ _ hm
    exfalso
    omega
  | succ n ih =>
    intro l1 l2 g1 g2 h1 h2 hm
    unfold fr_weightOf_b4
    refine tot_let (fun v_10 e_v_10 => ?_)
    have q_v_10 := ic_p h_S e_v_10
    refine tot_if (fun c_24 => ?_) (fun c_24 => ?_)
    · replace c_24 := i_le c_24
      refine tot_some ⟨rfl, ⟨g1.1, ?_⟩, h1, ?_⟩
      · show l1.toInt ≤ 108
        omega
      · rintro ⟨m, m1, m2, m3⟩
        exact h2 m (by omega) m2 m3
    · replace c_24 := i_nle c_24
      have x2 := i_cl (i := l2) (by omega)
      refine tot_bindp (R := fun r : Int32 => (r.toInt = 0 ∧ ¬ (S.2.1 12 (1 + l2.toNatClampNeg)).toInt = 0) ∨ (r.toInt = 1 ∧ (S.2.1 12 (1 + l2.toNatClampNeg)).toInt = 0)) (sfh_12 hP S l2 h_S (by omega)) (fun r d => ?_)
      replace d : (r.toInt = 0 ∧ ¬ (S.2.1 12 (1 + l2.toNatClampNeg)).toInt = 0) ∨ (r.toInt = 1 ∧ (S.2.1 12 (1 + l2.toNatClampNeg)).toInt = 0) := d
      refine tot_if (fun c => ?_) (fun c => ?_)
      · replace c := i_eq c
        unfold fr_weightOf_b40
        refine tot_let (fun v_26 e_v_26 => ?_)
        have q_v_26 := i_add e_v_26 (by omega) (by omega)
        refine tot_let (fun v_27 e_v_27 => ?_)
        have q_v_27 := i_add e_v_27 (by omega) (by omega)
        refine ih v_26 v_27 (by omega) (by omega) (fun q => h1 (by omega)) (fun m m1 m2 m3 => ?_) (by omega)
        by_cases e : m = l2.toNatClampNeg
        · subst e
          omega
        · have := h2 m (by omega) m2 m3
          omega
      · replace c := i_ne c
        refine tot_let (fun v_13 e_v_13 => ?_)
        have q_v_13 := i_add e_v_13 (by omega) (by omega)
        refine tot_oif (i_inb (by omega) (by omega)) ?_
        have x3 := i_cl (i := v_13) (by omega)
        refine tot_let (fun v_14 e_v_14 => ?_)
        have r_v_14 := nR_13 (ic_12 h_S e_v_14) (by omega) (by omega)
        rw [show v_13.toNatClampNeg = 13 + l2.toNatClampNeg from by omega] at e_v_14
        unfold fr_weightOf_b40
        refine tot_let (fun v_28 e_v_28 => ?_)
        have q_v_28 := i_add e_v_28 (by omega) (by omega)
        refine tot_let (fun v_29 e_v_29 => ?_)
        have q_v_29 := i_add e_v_29 (by omega) (by omega)
        refine ih v_28 v_29 (by omega) (by omega) (fun q => ?_) (fun m m1 m2 m3 => ?_) (by omega)
        · by_cases e : l1.toInt = 0
          · exact ⟨l2.toNatClampNeg, by omega, by omega, by rw [← e_v_14]; omega⟩
          · exact h1 e
        · by_cases e : m = l2.toNatClampNeg
          · subst e
            rw [← e_v_14] at m3
            omega
          · have := h2 m (by omega) m2 m3
            omega
theorem sfW {P : Nat → Int32} (hP : PL P) (S : MS) (h_S : IC P S) : Tot (fr_weightOf S) (fun r => r.2 = S ∧ (0 ≤ r.1.toInt ∧ r.1.toInt ≤ 108) ∧ (¬ r.1.toInt = 0 → HW P S) ∧ (HW P S → 1 ≤ r.1.toInt)) := by
  have z0 : (0 : Int32).toInt = 0 := by decide
  unfold fr_weightOf
  exact lfW hP S h_S 16384 0 0 (by omega) (by omega) (fun q => absurd z0 q) (fun m m1 _ _ => by omega) (by omega)
theorem lfD {P : Nat → Int32} (hP : PL P) (S : MS) (h_S : IC P S) : ∀ (n : Nat) (l2 : Int32) (l3 : Int32), (0 ≤ l2.toInt ∧ l2.toInt ≤ 65535) → (0 ≤ l3.toInt ∧ l3.toInt ≤ 12) → (∀ m : Nat, (m : Int) < l3.toInt → (S.2.1 12 (1 + m)).toInt = 0 → (S.2.1 24 m).toInt ≤ l2.toInt) → 12 - l3.toInt < (n : Int) → Tot (fr_windowOf_12_b4 n S l2 l3) (fun r => r.2 = S ∧ (0 ≤ r.1.toInt ∧ r.1.toInt ≤ 200) ∧ DW P S r.1) := by
  have z0 : (0 : Int32).toInt = 0 := by decide
  have z1 : (Int32.ofInt (1) : Int32).toInt = 1 := by decide
  have p_4 := pl_4 hP
  have p_2 := pl_2 hP
  intro n
  induction n with
  | zero =>
    intro l2 l3 g_l2 g_l3 _ hm
    exfalso
    omega
  | succ n ih =>
    intro l2 l3 g_l2 g_l3 h hm
    unfold fr_windowOf_12_b4
    refine tot_let (fun v_11 e_v_11 => ?_)
    have q_v_11 := ic_p h_S e_v_11
    refine tot_if (fun c_29 => ?_) (fun c_29 => ?_)
    · replace c_29 := i_le c_29
      refine tot_let (fun v4 e4 => ?_)
      have q4 := ic_p h_S e4
      refine tot_let (fun v5 e5 => ?_)
      have q5 := i_sub e5 (by omega) (by omega)
      refine tot_let (fun v6 e6 => ?_)
      have q6 := i_ilt e6
      refine tot_some ⟨rfl, ?_, ?_⟩
      · show 0 ≤ v6.toInt ∧ v6.toInt ≤ 200
        omega
      · intro m m1 m2 m3
        have m3 : 0 < v6.toInt := m3
        have := h m (by omega) m2
        show (S.2.1 24 m).toInt + v6.toInt ≤ 200
        omega
    · replace c_29 := i_nle c_29
      have x2 := i_cl (i := l3) (by omega)
      refine tot_bindp (R := fun r : Int32 => (r.toInt = 0 ∧ ¬ (S.2.1 12 (1 + l3.toNatClampNeg)).toInt = 0) ∨ (r.toInt = 1 ∧ (S.2.1 12 (1 + l3.toNatClampNeg)).toInt = 0)) (sfh_12 hP S l3 h_S (by omega)) (fun r d => ?_)
      replace d : (r.toInt = 0 ∧ ¬ (S.2.1 12 (1 + l3.toNatClampNeg)).toInt = 0) ∨ (r.toInt = 1 ∧ (S.2.1 12 (1 + l3.toNatClampNeg)).toInt = 0) := d
      refine tot_if (fun c_30 => ?_) (fun c_30 => ?_)
      · replace c_30 := i_eq c_30
        unfold fr_windowOf_12_b37
        refine tot_let (fun v_31 e_v_31 => ?_)
        have q_v_31 := i_add e_v_31 (by omega) (by omega)
        refine ih l2 v_31 (by omega) (by omega) (fun m m1 m2 => ?_) (by omega)
        by_cases e : m = l3.toNatClampNeg
        · subst e
          omega
        · exact h m (by omega) m2
      · replace c_30 := i_ne c_30
        refine tot_oif (i_inb (by omega) (by omega)) ?_
        refine tot_let (fun v_17 e_v_17 => ?_)
        have r_v_17 := ic_24 h_S e_v_17
        refine tot_let (fun v_18 e_v_18 => ?_)
        have q_v_18 := i_ilt e_v_18
        unfold fr_windowOf_12_b37
        refine tot_let (fun v_32 e_v_32 => ?_)
        have q_v_32 := i_add e_v_32 (by omega) (by omega)
        refine ih v_18 v_32 (by omega) (by omega) (fun m m1 m2 => ?_) (by omega)
        by_cases e : m = l3.toNatClampNeg
        · subst e
          rw [← e_v_17]
          omega
        · have := h m (by omega) m2
          omega
theorem sfD {P : Nat → Int32} (hP : PL P) (S : MS) (h_S : IC P S) : Tot (fr_windowOf_12 S) (fun r => r.2 = S ∧ (0 ≤ r.1.toInt ∧ r.1.toInt ≤ 200) ∧ DW P S r.1) := by
  have z0 : (0 : Int32).toInt = 0 := by decide
  unfold fr_windowOf_12
  exact lfD hP S h_S 16384 0 0 (by omega) (by omega) (fun m m1 _ => by omega) (by omega)
def CI (P : Nat → Int32) (S : MS) (w : Int32) : Prop := IC P S ∧ HW P S ∧ DW P S w
theorem ci_12 {P : Nat → Int32} (hP : PL P) {S : MS} {w k v : Int32} (h : CI P S w) (hk : 55 ≤ k.toInt) : CI P (mf S 12 (upd (S.2.1 12) k.toNatClampNeg v)) w := by
  have x := i_cl (i := k) (by omega)
  have p_4 := pl_4 hP
  have e : ∀ j, j < 55 → (mf S 12 (upd (S.2.1 12) k.toNatClampNeg v)).2.1 12 j = S.2.1 12 j := fun j hj => by
    rw [mf_at]
    unfold upd
    rw [if_neg (by omega)]
  refine ⟨ic_mf12 h.1 (by unfold nR; omega), ?_, ?_⟩
  · obtain ⟨m, m1, m2, m3⟩ := h.2.1
    exact ⟨m, m1, by rw [e _ (by omega)]; exact m2, by rw [e _ (by omega)]; exact m3⟩
  · intro m m1 m2 m3
    exact h.2.2 m m1 (by rw [e _ (by omega)] at m2; exact m2) m3
theorem ci_29 {P : Nat → Int32} {S : MS} {w : Int32} {f : Nat → Int32} (h : CI P S w) : CI P (mf S 29 f) w := ⟨ic_mf29 h.1 f, h.2.1, h.2.2⟩
theorem lf_clean_b122 {P : Nat → Int32} (hP : PL P) {Q : Int32 × MS → Prop} {k108 : MS → Int32 → Int32 → Int32 → Int32 → Option (Int32 × MS)} (l1 l2 l3 l4 : Int32) (g3 : 0 ≤ l3.toInt ∧ l3.toInt ≤ 200) (g4 : 0 ≤ l4.toInt ∧ l4.toInt < (P 4).toInt) (hx : ∀ S : MS, CI P S l3 → Tot (fr_clean_b196 k108 S l1 l2 l3 l4) Q) : ∀ (n : Nat) (S : MS) (l5 : Int32), CI P S l3 → (0 ≤ l5.toInt ∧ l5.toInt ≤ 200) → 200 - l5.toInt < (n : Int) → Tot (fr_clean_b122 k108 n S l1 l2 l3 l4 l5) Q := by
  have z0 : (0 : Int32).toInt = 0 := by decide
  have z1 : (Int32.ofInt (1) : Int32).toInt = 1 := by decide
  have z200 : (200 : Int32).toInt = 200 := by decide
  have z55 : (55 : Int32).toInt = 55 := by decide
  have z100 : (100 : Int32).toInt = 100 := by decide
  have p_4 := pl_4 hP
  intro n
  induction n with
  | zero =>
    intro S l5 h g5 hm
    exfalso
    omega
  | succ n ih =>
    intro S l5 h g5 hm
    unfold fr_clean_b122
    refine tot_if (fun c => ?_) (fun c => ?_)
    · exact hx S h
    · replace c := i_nle c
      have x4 := i_cl (i := l4) (by omega)
      refine tot_bindp (R := fun r : Int32 => (r.toInt = 0 ∧ ¬ (S.2.1 12 (1 + l4.toNatClampNeg)).toInt = 0) ∨ (r.toInt = 1 ∧ (S.2.1 12 (1 + l4.toNatClampNeg)).toInt = 0)) (sfh_12 hP S l4 h.1 (by omega)) (fun r d => ?_)
      replace d : (r.toInt = 0 ∧ ¬ (S.2.1 12 (1 + l4.toNatClampNeg)).toInt = 0) ∨ (r.toInt = 1 ∧ (S.2.1 12 (1 + l4.toNatClampNeg)).toInt = 0) := d
      refine tot_if (fun c2 => ?_) (fun c2 => ?_)
      · exact hx S h
      · replace c2 := i_ne c2
        have dl := h.2.2 l4.toNatClampNeg (by omega) (by omega) (by omega)
        refine tot_let (fun v8 e8 => ?_)
        have q8 := i_mulk e8 z200 (by omega) (by omega)
        refine tot_let (fun v9 e9 => ?_)
        have q9 := i_add e9 (by omega) (by omega)
        refine tot_let (fun v10 e10 => ?_)
        have q10 := i_add e10 (by omega) (by omega)
        refine tot_oif (i_inb (by omega) (by omega)) ?_
        refine tot_let (fun v12 e12 => ?_)
        have r12 := ic_24 h.1 e12
        rw [← e12] at dl
        refine tot_let (fun v13 e13 => ?_)
        have q13 := i_add e13 (by omega) (by omega)
        refine tot_oif (i_inb (by omega) (by omega)) ?_
        refine tot_let (fun v15 e15 => ?_)
        refine tot_oif (i_inb (by omega) (by omega)) ?_
        refine tot_let (fun v17 e17 => ?_)
        refine tot_let (fun v18 e18 => ?_)
        refine tot_let (fun v19 e19 => ?_)
        refine tot_let (fun v20 e20 => ?_)
        refine tot_bindp (R := fun r : Int32 => (0 ≤ r.toInt ∧ r.toInt ≤ 108) ∧ (¬ r.toInt = 0 → HW P S) ∧ (HW P S → 1 ≤ r.toInt)) (sfW hP S h.1) (fun r24 d24 => ?_)
        have w1 : 1 ≤ r24.toInt := d24.2.2 h.2.1
        have w2 : r24.toInt ≤ 108 := d24.1.2
        refine tot_let (fun v25 e25 => ?_)
        have q25 := i_mulk e25 z100 (by omega) (by omega)
        refine tot_let (fun v26 e26 => ?_)
        refine tot_oif (by rw [e26]; exact i_nz64 (by omega)) ?_
        refine tot_let (fun v28 e28 => ?_)
        refine tot_let (fun v29 e29 => ?_)
        refine tot_let (fun v30 e30 => ?_)
        refine tot_oif (i_inb (by omega) (by omega)) ?_
        refine tot_let (fun S32 e32 => ?_)
        have h32 : CI P S32 l3 := by rw [e32]; exact ci_12 hP h (by omega)
        refine tot_let (fun v33 e33 => ?_)
        have q33 := i_add e33 (by omega) (by omega)
        exact ih S32 v33 h32 (by omega) (by omega)
theorem lf_clean_b108 {P : Nat → Int32} (hP : PL P) (l1 l2 l3 : Int32) (g2 : 0 ≤ l2.toInt ∧ l2.toInt ≤ 143) (g3 : 0 ≤ l3.toInt ∧ l3.toInt ≤ 200) : ∀ (n : Nat) (S : MS) (l4 : Int32), CI P S l3 → (0 ≤ l4.toInt ∧ l4.toInt ≤ 12) → 12 - l4.toInt < (n : Int) → Tot (fr_clean_b108 n S l1 l2 l3 l4) (fun r => IC P r.2 ∧ (0 ≤ r.1.toInt ∧ r.1.toInt ≤ 143)) := by
  have z0 : (0 : Int32).toInt = 0 := by decide
  have z1 : (Int32.ofInt (1) : Int32).toInt = 1 := by decide
  have p_4 := pl_4 hP
  intro n
  induction n with
  | zero =>
    intro S l4 h g4 hm
    exfalso
    omega
  | succ n ih =>
    intro S l4 h g4 hm
    unfold fr_clean_b108
    refine tot_let (fun v2 e2 => ?_)
    have q2 := ic_p h.1 e2
    refine tot_if (fun c => ?_) (fun c => ?_)
    · refine tot_let (fun v4 e4 => ?_)
      refine tot_let (fun v5 e5 => ?_)
      refine tot_let (fun S6 e6 => ?_)
      have h6 : IC P S6 := by rw [e6]; exact ic_mf12 h.1 (nR_0 _)
      exact tot_some ⟨h6, g2⟩
    · replace c := i_nle c
      refine lf_clean_b122 hP l1 l2 l3 l4 g3 (by omega) (fun S1 h1 => ?_) 16384 S 0 h (by omega) (by omega)
      unfold fr_clean_b196
      refine tot_let (fun v3 e3 => ?_)
      have q3 := i_add e3 (by omega) (by omega)
      exact ih S1 v3 h1 (by omega) (by omega)
theorem lf_clean_b76 {P : Nat → Int32} (hP : PL P) (l1 l2 l3 : Int32) (g2 : 0 ≤ l2.toInt ∧ l2.toInt ≤ 143) (g3 : 0 ≤ l3.toInt ∧ l3.toInt ≤ 200) : ∀ (n : Nat) (S : MS) (l4 : Int32), CI P S l3 → (0 ≤ l4.toInt ∧ l4.toInt ≤ 200) → 200 - l4.toInt < (n : Int) → Tot (fr_clean_b76 n S l1 l2 l3 l4) (fun r => IC P r.2 ∧ (0 ≤ r.1.toInt ∧ r.1.toInt ≤ 143)) := by
  have z0 : (0 : Int32).toInt = 0 := by decide
  have z1 : (Int32.ofInt (1) : Int32).toInt = 1 := by decide
  intro n
  induction n with
  | zero =>
    intro S l4 h g4 hm
    exfalso
    omega
  | succ n ih =>
    intro S l4 h g4 hm
    unfold fr_clean_b76
    refine tot_if (fun c => ?_) (fun c => ?_)
    · exact lf_clean_b108 hP l1 l2 l3 g2 g3 16384 S 0 h (by omega) (by omega)
    · replace c := i_nle c
      refine tot_bindp (R := fun r : Int32 => True) (sf_beamAt_12 hP S l4 h.1 (by omega)) (fun r6 _ => ?_)
      refine tot_oif (i_inb (by omega) (by omega)) ?_
      refine tot_let (fun S8 e8 => ?_)
      have h8 : CI P S8 l3 := by rw [e8]; exact ci_29 h
      refine tot_let (fun v9 e9 => ?_)
      have q9 := i_add e9 (by omega) (by omega)
      exact ih S8 v9 h8 (by omega) (by omega)
theorem sf_clean_b34 {P : Nat → Int32} (hP : PL P) (S : MS) (s0 l1 : Int32) (h_S : IC P S) (hw : s0.toInt ≤ 0 → HW P S) : Tot (fr_clean_b34 S s0 l1) (fun r => IC P r.2 ∧ (0 ≤ r.1.toInt ∧ r.1.toInt ≤ 143)) := by
  have z0 : (0 : Int32).toInt = 0 := by decide
  unfold fr_clean_b34
  refine tot_let (fun S2 e2 => ?_)
  have h2 : IC P S2 := by rw [e2]; exact ic_mi0 h_S _
  have f2 : (S2.1 0).toInt = s0.toInt := by rw [e2]; rfl
  have a2 : S2.2.1 12 = S.2.1 12 := by rw [e2]; rfl
  refine tot_let (fun v3 e3 => ?_)
  have q3 := i_eq e3
  refine tot_if (fun c => ?_) (fun c => ?_)
  · replace c := i_le c
    have w := hw (by omega)
    refine tot_bind (tot_and (sf_remember hP S2 h2) (fun S5 e => w_fr_remember e)) (fun S5 d5 => ?_)
    have h5 : IC P S5 := d5.1.1
    have a5 : S5.2.1 12 = S.2.1 12 := (d5.2.2 12 (by decide)).trans a2
    refine tot_bind2 (tot_and (sf_bestIn_12 hP S5 h5) (fun r e => w_fr_bestIn_12 (r1 := r.1) (S1 := r.2) e)) (fun r11 S8 d8 => ?_)
    have h8 : IC P S8 := d8.1.1
    have g8 : 0 ≤ r11.toInt ∧ r11.toInt ≤ 143 := d8.1.2
    have a8 : S8.2.1 12 = S.2.1 12 := (d8.2.2 12 (by decide)).trans a5
    refine tot_bind (tot_and (sf_laysCell hP S8 r11 h8 (by omega)) (fun S5 e => w_fr_laysCell e)) (fun S12 d12 => ?_)
    have h12 : IC P S12 := d12.1.1
    have a12 : S12.2.1 12 = S.2.1 12 := (d12.2.2 12 (by decide)).trans a8
    refine tot_bindp (R := fun r : Int32 => (0 ≤ r.toInt ∧ r.toInt ≤ 200) ∧ DW P S12 r) (sfD hP S12 h12) (fun r18 d18 => ?_)
    refine lf_clean_b76 hP l1 r11 r18 g8 d18.1 16384 S12 0 ⟨h12, ?_, d18.2⟩ (by omega) (by have := d18.1; omega)
    unfold HW
    rw [a12]
    exact w
  · exact tot_some ⟨h2, show 0 ≤ (0 : Int32).toInt ∧ (0 : Int32).toInt ≤ 143 from by omega⟩
theorem sf_clean {P : Nat → Int32} (hP : PL P) (S : MS) (a0 : Int32) (h_S : IC P S) : Tot (fr_clean S a0) (fun r => IC P r.2 ∧ (0 ≤ r.1.toInt ∧ r.1.toInt ≤ 143)) := by
  have z0 : (0 : Int32).toInt = 0 := by decide
  have z1 : (1 : Int32).toInt = 1 := by decide
  have z2 : (2 : Int32).toInt = 2 := by decide
  have z100 : (100 : Int32).toInt = 100 := by decide
  unfold fr_clean
  refine tot_let (fun v2 e2 => ?_)
  refine tot_if (fun c => ?_) (fun c => ?_)
  · unfold fr_clean_b15
    exact sf_clean_b34 hP S 1 a0 h_S (fun q => by omega)
  · refine tot_bindp (R := fun r : Int32 => (0 ≤ r.toInt ∧ r.toInt ≤ 108) ∧ (¬ r.toInt = 0 → HW P S) ∧ (HW P S → 1 ≤ r.toInt)) (sfW hP S h_S) (fun r7 d7 => ?_)
    refine tot_if (fun c => ?_) (fun c => ?_)
    · unfold fr_clean_b15
      exact sf_clean_b34 hP S 1 a0 h_S (fun q => by omega)
    · replace c := i_ne c
      refine tot_bind (sf_in hP a0 1 100) (fun r9 _ => ?_)
      refine tot_if (fun c => ?_) (fun c => ?_)
      · exact sf_clean_b34 hP S 2 a0 h_S (fun q => by omega)
      · exact sf_clean_b34 hP S 0 a0 h_S (fun _ => d7.2.1 (by omega))
