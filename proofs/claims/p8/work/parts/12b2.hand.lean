/-! Safety by hand: root and delay -/
theorem i_divq {v x y : Int32} (e : v = x / y) (hx : 0 ≤ x.toInt) (hy : 1 ≤ y.toInt) : v.toInt = x.toInt / y.toInt := by
  have hx2 := Int32.toInt_lt x
  have q := tdiv_nn hx hy
  rw [e, Int32.toInt_div, bm32 (by omega) (by omega), Int.tdiv_eq_ediv_of_nonneg hx]
theorem sf_delayFrom {P : Nat → Int32} (hP : PL P) (S : MS) (a0 : Int32) (a1 : Int32) (a2 : Int32) (h_S : IC P S) (g0 : 0 ≤ a0.toInt ∧ a0.toInt ≤ 11) (g1 : -30000 ≤ a1.toInt ∧ a1.toInt ≤ 30000) (g2 : -30000 ≤ a2.toInt ∧ a2.toInt ≤ 30000) : Tot (fr_delayFrom S a0 a1 a2) (fun r => r.2 = S ∧ (0 ≤ r.1.toInt ∧ r.1.toInt ≤ 65535)) := by
  have p0 := pl_0 hP
  have p1 := pl_1 hP
  have z0 : (0 : Int32).toInt = 0 := by decide
  have z11 : (11 : Int32).toInt = 11 := by decide
  have z23 : (23 : Int32).toInt = 23 := by decide
  unfold fr_delayFrom
  refine tot_let (fun v2 e2 => ?_)
  have q2 := i_add e2 (by omega) (by omega)
  refine tot_oif (i_inb (by omega) (by omega)) ?_
  refine tot_let (fun v4 e4 => ?_)
  have q4 := ic_p h_S e4
  have r4 := pr_11 hP v2 (by omega) (by omega)
  refine tot_let (fun v5 e5 => ?_)
  have q5 := i_sub e5 (by omega) (by omega)
  refine tot_let (fun v6 e6 => ?_)
  have q6 := i_add e6 (by omega) (by omega)
  refine tot_oif (i_inb (by omega) (by omega)) ?_
  refine tot_let (fun v8 e8 => ?_)
  have q8 := ic_p h_S e8
  have r8 := pr_11 hP v6 (by omega) (by omega)
  refine tot_let (fun v9 e9 => ?_)
  have q9 := i_sub e9 (by omega) (by omega)
  refine tot_let (fun v10 e10 => ?_)
  have q10 := ic_p h_S e10
  refine tot_let (fun v11 e11 => ?_)
  have q11 := i_sq (b := 30500) e11 (by omega) (by omega) (by decide)
  refine tot_let (fun v12 e12 => ?_)
  have q12 := i_sq (b := 30500) e12 (by omega) (by omega) (by decide)
  refine tot_let (fun v13 e13 => ?_)
  have q13 := i_add e13 (by omega) (by omega)
  refine tot_let (fun v14 e14 => ?_)
  have r14 := imul_nn (x := v10.toInt) (b := 5000) (by omega) (by omega) (y := v10.toInt) (d := 5000) (by omega) (by omega)
  have q14 : v14.toInt = v10.toInt * v10.toInt := by rw [e14, Int32.toInt_mul, bm32 (by omega) (by omega)]
  rw [← q14] at r14
  refine tot_let (fun v15 e15 => ?_)
  have q15 := i_add e15 (by omega) (by omega)
  refine tot_bind (z_root (far := v10.toInt) (by omega) (by rw [← q14]; omega)) (fun r16 c16 => ?_)
  refine tot_let (fun v18 e18 => ?_)
  have q18 := ic_p h_S e18
  refine tot_oif (i_nz (by omega)) ?_
  refine tot_let (fun v20 e20 => ?_)
  have q20 := i_divq e20 (by omega) (by omega)
  refine tot_let (fun v21 e21 => ?_)
  have q21 := ic_p h_S e21
  refine tot_oif (i_nz (by omega)) ?_
  refine tot_let (fun v23 e23 => ?_)
  have q23 := i_divq e23 (by omega) (by omega)
  have m := Int.ediv_le_ediv (a := v10.toInt) (b := r16.toInt) (c := (P 1).toInt) (by omega) (by omega)
  have n0 := Int.ediv_nonneg (a := v10.toInt) (b := (P 1).toInt) (by omega) (by omega)
  have n1 := Int.ediv_le_self (a := r16.toInt) (P 1).toInt (by omega)
  rw [q18] at q20
  rw [q21] at q23
  refine tot_let (fun v24 e24 => ?_)
  have q24 := i_sub e24 (by omega) (by omega)
  exact tot_some ⟨rfl, show 0 ≤ v24.toInt ∧ v24.toInt ≤ 65535 from by omega⟩
theorem sf_cellCount {P : Nat → Int32} (hP : PL P) (S : MS) (h_S : IC P S) : Tot (fr_cellCount S) (fun r => r.2 = S ∧ ((1 ≤ r.1.toInt ∧ r.1.toInt ≤ 144) ∧ r.1.toInt = (P 9).toInt * (P 10).toInt)) := by
  have p9 := pl_9 hP
  have p10 := pl_10 hP
  unfold fr_cellCount
  refine tot_let (fun v2 e2 => ?_)
  have q2 := ic_p h_S e2
  refine tot_let (fun v3 e3 => ?_)
  have q3 := ic_p h_S e3
  refine tot_let (fun v4 e4 => ?_)
  have q4 := i_mulp (a := 1) (b := 12) (c := 1) (d := 12) e4 (by omega) (by omega) (by omega) (by omega) (by decide)
  have r4 := imul_nn (x := v2.toInt) (b := 12) (by omega) (by omega) (y := v3.toInt) (d := 12) (by omega) (by omega)
  have s4 : v4.toInt = v2.toInt * v3.toInt := by rw [e4, Int32.toInt_mul, bm32 (by omega) (by omega)]
  rw [q2, q3] at s4
  exact tot_some ⟨rfl, show (1 ≤ v4.toInt ∧ v4.toInt ≤ 144) ∧ v4.toInt = (P 9).toInt * (P 10).toInt from ⟨by omega, s4⟩⟩
theorem sf_blockCount {P : Nat → Int32} (hP : PL P) (S : MS) (a0 : Int32) (h_S : IC P S) (g0 : 4 ≤ a0.toInt ∧ a0.toInt ≤ 200) : Tot (fr_blockCount S a0) (fun r => r.2 = S ∧ ((0 ≤ r.1.toInt ∧ r.1.toInt ≤ 50) ∧ r.1.toInt = (P 2).toInt / a0.toInt)) := by
  have p2 := pl_2 hP
  have z0 : (0 : Int32).toInt = 0 := by decide
  unfold fr_blockCount
  refine tot_let (fun v2 e2 => ?_)
  have q2 := ic_p h_S e2
  refine tot_oif (i_nz (by omega)) ?_
  refine tot_let (fun v4 e4 => ?_)
  have q4 := i_div (c := 4) e4 (by omega) (by omega) (by decide)
  have r4 := i_divq e4 (by omega) (by omega)
  rw [q2] at r4
  exact tot_some ⟨rfl, show (0 ≤ v4.toInt ∧ v4.toInt ≤ 50) ∧ v4.toInt = (P 2).toInt / a0.toInt from ⟨by omega, r4⟩⟩
theorem i_remq {v x y : Int32} (e : v = x - x / y * y) (hx : 0 ≤ x.toInt) (hy : 1 ≤ y.toInt) : v.toInt = x.toInt % y.toInt := by
  have hx2 := Int32.toInt_lt x
  have q := tdiv_nn hx hy
  have r := tmod_nn hx hy
  have m := Int.mul_nonneg q.1 (Int.le_trans (by decide) hy)
  rw [e, Int32.toInt_sub, Int32.toInt_mul, Int32.toInt_div, bm32 (x := x.toInt.tdiv y.toInt) (by omega) (by omega), bm32 (x := x.toInt.tdiv y.toInt * y.toInt) (by omega) (by omega), bm32 (by omega) (by omega)]
  rw [Int.tdiv_eq_ediv_of_nonneg hx]
  have h3 := Int.emod_add_mul_ediv x.toInt y.toInt
  rw [Int.mul_comm] at h3
  omega
/-- how many rows of the map are behind -/
theorem sep_step {l c : Int} (hc : 1 ≤ c) (hl : 1 ≤ l) : (l - 1) / c ≤ l / c ∧ (l % c = 0 → l / c = (l - 1) / c + 1) := by
  refine ⟨Int.ediv_le_ediv (by omega) (by omega), fun h => ?_⟩
  have h1 := Int.emod_add_mul_ediv l c
  have h2 := Int.emod_add_mul_ediv (l - 1) c
  have h3 := Int.emod_nonneg (l - 1) (b := c) (by omega)
  have h4 := Int.emod_lt_of_pos (l - 1) (b := c) (by omega)
  have h5 : c * (l / c - (l - 1) / c) = (l - 1) % c + 1 := by rw [Int.mul_sub]; omega
  have h6 : 1 ≤ l / c - (l - 1) / c := by
    rcases Int.lt_or_le 0 (l / c - (l - 1) / c) with q | q
    · exact q
    · have := Int.mul_le_mul_of_nonneg_left q (show 0 ≤ c by omega)
      rw [Int.mul_zero] at this
      omega
  have h7 : l / c - (l - 1) / c ≤ 1 := by
    rcases Int.lt_or_le 1 (l / c - (l - 1) / c) with q | q
    · have := Int.mul_le_mul_of_nonneg_left (show 2 ≤ l / c - (l - 1) / c from q) (show 0 ≤ c by omega)
      omega
    · exact q
  omega
theorem sep_max {l c r : Int} (hc : 1 ≤ c) (h : l < c * r) : l / c < r := by
  have h3 : l / c < r := Int.ediv_lt_of_lt_mul (by omega) (by rw [Int.mul_comm]; exact h)
  exact h3
theorem tot_and {α : Type} {x : Option α} {P R : α → Prop} (h : Tot x P) (k : ∀ a, x = some a → R a) : Tot x (fun a => P a ∧ R a) := by
  obtain ⟨a, e, q⟩ := h
  exact ⟨a, e, q, k a e⟩

theorem lf_copy_12_15 {P : Nat → Int32} : ∀ (n : Nat) (S : MS) (l1 l3 l4 : Int32), IC P S → (0 ≤ l1.toInt ∧ l1.toInt ≤ 0 ∧ l1.toInt % 2455 = 0) → (0 ≤ l3.toInt ∧ l3.toInt ≤ 12275 ∧ l3.toInt % 2455 = 0) → (0 ≤ l4.toInt ∧ l4.toInt ≤ 2455) → 2455 - l4.toInt < (n : Int) → Tot (fr_copy_12_15_b3 n S l1 l3 l4) (fun S1 => IC P S1 ∧ True) := by
  have z : (2455 : Int32).toInt = 2455 := by decide
  have z1 : (Int32.ofInt (1) : Int32).toInt = 1 := by decide
  intro n
  induction n with
  | zero =>
    intro S l1 l3 l4 h h1 h3 h4 hm
    exfalso
    omega
  | succ n ih =>
    intro S l1 l3 l4 h h1 h3 h4 hm
    unfold fr_copy_12_15_b3
    refine tot_if (fun c => ?_) (fun c => ?_)
    · exact tot_some ⟨h, trivial⟩
    · replace c := i_nle c
      refine tot_let (fun v3 e3 => ?_)
      have q3 := i_add e3 (by omega) (by omega)
      refine tot_let (fun v4 e4 => ?_)
      have q4 := i_add e4 (by omega) (by omega)
      refine tot_oif (i_inb (by omega) (by omega)) ?_
      refine tot_let (fun v6 e6 => ?_)
      have r6 := ic_12 h e6
      refine tot_oif (i_inb (by omega) (by omega)) ?_
      have x3 := i_cl (i := v3) (by omega)
      have x4 := i_cl (i := v4) (by omega)
      rw [show v4.toNatClampNeg = v3.toNatClampNeg % 2455 from by omega] at r6
      refine tot_let (fun S8 e8 => ?_)
      have h8 : IC P S8 := by rw [e8]; exact ic_mf15 h r6
      refine tot_let (fun v9 e9 => ?_)
      have q9 := i_add e9 (by omega) (by omega)
      exact ih S8 l1 l3 v9 h8 h1 h3 (by omega) (by omega)
theorem sf_copy_12_15 {P : Nat → Int32} (_ : PL P) (S : MS) (a1 a3 : Int32) (h : IC P S) (g0 : 0 ≤ a1.toInt ∧ a1.toInt ≤ 0 ∧ a1.toInt % 2455 = 0) (g1 : 0 ≤ a3.toInt ∧ a3.toInt ≤ 12275 ∧ a3.toInt % 2455 = 0) : Tot (fr_copy_12_15 S a1 a3) (fun S1 => IC P S1 ∧ True) := by
  have z0 : (0 : Int32).toInt = 0 := by decide
  unfold fr_copy_12_15
  exact lf_copy_12_15 16384 S a1 a3 0 h g0 g1 (by omega) (by omega)

theorem lf_copy_12_16 {P : Nat → Int32} : ∀ (n : Nat) (S : MS) (l1 l3 l4 : Int32), IC P S → (0 ≤ l1.toInt ∧ l1.toInt ≤ 0 ∧ l1.toInt % 2455 = 0) → (0 ≤ l3.toInt ∧ l3.toInt ≤ 2455 ∧ l3.toInt % 2455 = 0) → (0 ≤ l4.toInt ∧ l4.toInt ≤ 2455) → 2455 - l4.toInt < (n : Int) → Tot (fr_copy_12_16_b3 n S l1 l3 l4) (fun S1 => IC P S1 ∧ True) := by
  have z : (2455 : Int32).toInt = 2455 := by decide
  have z1 : (Int32.ofInt (1) : Int32).toInt = 1 := by decide
  intro n
  induction n with
  | zero =>
    intro S l1 l3 l4 h h1 h3 h4 hm
    exfalso
    omega
  | succ n ih =>
    intro S l1 l3 l4 h h1 h3 h4 hm
    unfold fr_copy_12_16_b3
    refine tot_if (fun c => ?_) (fun c => ?_)
    · exact tot_some ⟨h, trivial⟩
    · replace c := i_nle c
      refine tot_let (fun v3 e3 => ?_)
      have q3 := i_add e3 (by omega) (by omega)
      refine tot_let (fun v4 e4 => ?_)
      have q4 := i_add e4 (by omega) (by omega)
      refine tot_oif (i_inb (by omega) (by omega)) ?_
      refine tot_let (fun v6 e6 => ?_)
      have r6 := ic_12 h e6
      refine tot_oif (i_inb (by omega) (by omega)) ?_
      have x3 := i_cl (i := v3) (by omega)
      have x4 := i_cl (i := v4) (by omega)
      rw [show v4.toNatClampNeg = v3.toNatClampNeg % 2455 from by omega] at r6
      refine tot_let (fun S8 e8 => ?_)
      have h8 : IC P S8 := by rw [e8]; exact ic_mf16 h r6
      refine tot_let (fun v9 e9 => ?_)
      have q9 := i_add e9 (by omega) (by omega)
      exact ih S8 l1 l3 v9 h8 h1 h3 (by omega) (by omega)
theorem sf_copy_12_16 {P : Nat → Int32} (_ : PL P) (S : MS) (a1 a3 : Int32) (h : IC P S) (g0 : 0 ≤ a1.toInt ∧ a1.toInt ≤ 0 ∧ a1.toInt % 2455 = 0) (g1 : 0 ≤ a3.toInt ∧ a3.toInt ≤ 2455 ∧ a3.toInt % 2455 = 0) : Tot (fr_copy_12_16 S a1 a3) (fun S1 => IC P S1 ∧ True) := by
  have z0 : (0 : Int32).toInt = 0 := by decide
  unfold fr_copy_12_16
  exact lf_copy_12_16 16384 S a1 a3 0 h g0 g1 (by omega) (by omega)

theorem lf_copy_15_12 {P : Nat → Int32} : ∀ (n : Nat) (S : MS) (l1 l3 l4 : Int32), IC P S → (0 ≤ l1.toInt ∧ l1.toInt ≤ 12275 ∧ l1.toInt % 2455 = 0) → (0 ≤ l3.toInt ∧ l3.toInt ≤ 0 ∧ l3.toInt % 2455 = 0) → (0 ≤ l4.toInt ∧ l4.toInt ≤ 2455) → 2455 - l4.toInt < (n : Int) → Tot (fr_copy_15_12_b3 n S l1 l3 l4) (fun S1 => IC P S1 ∧ True) := by
  have z : (2455 : Int32).toInt = 2455 := by decide
  have z1 : (Int32.ofInt (1) : Int32).toInt = 1 := by decide
  intro n
  induction n with
  | zero =>
    intro S l1 l3 l4 h h1 h3 h4 hm
    exfalso
    omega
  | succ n ih =>
    intro S l1 l3 l4 h h1 h3 h4 hm
    unfold fr_copy_15_12_b3
    refine tot_if (fun c => ?_) (fun c => ?_)
    · exact tot_some ⟨h, trivial⟩
    · replace c := i_nle c
      refine tot_let (fun v3 e3 => ?_)
      have q3 := i_add e3 (by omega) (by omega)
      refine tot_let (fun v4 e4 => ?_)
      have q4 := i_add e4 (by omega) (by omega)
      refine tot_oif (i_inb (by omega) (by omega)) ?_
      refine tot_let (fun v6 e6 => ?_)
      have r6 := ic_15 h e6
      refine tot_oif (i_inb (by omega) (by omega)) ?_
      have x3 := i_cl (i := v3) (by omega)
      have x4 := i_cl (i := v4) (by omega)
      rw [show v4.toNatClampNeg % 2455 = v3.toNatClampNeg from by omega] at r6
      refine tot_let (fun S8 e8 => ?_)
      have h8 : IC P S8 := by rw [e8]; exact ic_mf12 h r6
      refine tot_let (fun v9 e9 => ?_)
      have q9 := i_add e9 (by omega) (by omega)
      exact ih S8 l1 l3 v9 h8 h1 h3 (by omega) (by omega)
theorem sf_copy_15_12 {P : Nat → Int32} (_ : PL P) (S : MS) (a1 a3 : Int32) (h : IC P S) (g0 : 0 ≤ a1.toInt ∧ a1.toInt ≤ 12275 ∧ a1.toInt % 2455 = 0) (g1 : 0 ≤ a3.toInt ∧ a3.toInt ≤ 0 ∧ a3.toInt % 2455 = 0) : Tot (fr_copy_15_12 S a1 a3) (fun S1 => IC P S1 ∧ True) := by
  have z0 : (0 : Int32).toInt = 0 := by decide
  unfold fr_copy_15_12
  exact lf_copy_15_12 16384 S a1 a3 0 h g0 g1 (by omega) (by omega)

theorem lf_copy_16_12 {P : Nat → Int32} : ∀ (n : Nat) (S : MS) (l1 l3 l4 : Int32), IC P S → (0 ≤ l1.toInt ∧ l1.toInt ≤ 2455 ∧ l1.toInt % 2455 = 0) → (0 ≤ l3.toInt ∧ l3.toInt ≤ 0 ∧ l3.toInt % 2455 = 0) → (0 ≤ l4.toInt ∧ l4.toInt ≤ 2455) → 2455 - l4.toInt < (n : Int) → Tot (fr_copy_16_12_b3 n S l1 l3 l4) (fun S1 => IC P S1 ∧ True) := by
  have z : (2455 : Int32).toInt = 2455 := by decide
  have z1 : (Int32.ofInt (1) : Int32).toInt = 1 := by decide
  intro n
  induction n with
  | zero =>
    intro S l1 l3 l4 h h1 h3 h4 hm
    exfalso
    omega
  | succ n ih =>
    intro S l1 l3 l4 h h1 h3 h4 hm
    unfold fr_copy_16_12_b3
    refine tot_if (fun c => ?_) (fun c => ?_)
    · exact tot_some ⟨h, trivial⟩
    · replace c := i_nle c
      refine tot_let (fun v3 e3 => ?_)
      have q3 := i_add e3 (by omega) (by omega)
      refine tot_let (fun v4 e4 => ?_)
      have q4 := i_add e4 (by omega) (by omega)
      refine tot_oif (i_inb (by omega) (by omega)) ?_
      refine tot_let (fun v6 e6 => ?_)
      have r6 := ic_16 h e6
      refine tot_oif (i_inb (by omega) (by omega)) ?_
      have x3 := i_cl (i := v3) (by omega)
      have x4 := i_cl (i := v4) (by omega)
      rw [show v4.toNatClampNeg % 2455 = v3.toNatClampNeg from by omega] at r6
      refine tot_let (fun S8 e8 => ?_)
      have h8 : IC P S8 := by rw [e8]; exact ic_mf12 h r6
      refine tot_let (fun v9 e9 => ?_)
      have q9 := i_add e9 (by omega) (by omega)
      exact ih S8 l1 l3 v9 h8 h1 h3 (by omega) (by omega)
theorem sf_copy_16_12 {P : Nat → Int32} (_ : PL P) (S : MS) (a1 a3 : Int32) (h : IC P S) (g0 : 0 ≤ a1.toInt ∧ a1.toInt ≤ 2455 ∧ a1.toInt % 2455 = 0) (g1 : 0 ≤ a3.toInt ∧ a3.toInt ≤ 0 ∧ a3.toInt % 2455 = 0) : Tot (fr_copy_16_12 S a1 a3) (fun S1 => IC P S1 ∧ True) := by
  have z0 : (0 : Int32).toInt = 0 := by decide
  unfold fr_copy_16_12
  exact lf_copy_16_12 16384 S a1 a3 0 h g0 g1 (by omega) (by omega)

theorem lf_copy_12_14 {P : Nat → Int32} : ∀ (n : Nat) (S : MS) (l1 l3 l4 : Int32), IC P S → (0 ≤ l1.toInt ∧ l1.toInt ≤ 0 ∧ l1.toInt % 2455 = 0) → (0 ≤ l3.toInt ∧ l3.toInt ≤ 0 ∧ l3.toInt % 2455 = 0) → (0 ≤ l4.toInt ∧ l4.toInt ≤ 2455) → 2455 - l4.toInt < (n : Int) → Tot (fr_copy_12_14_b3 n S l1 l3 l4) (fun S1 => IC P S1 ∧ True) := by
  have z : (2455 : Int32).toInt = 2455 := by decide
  have z1 : (Int32.ofInt (1) : Int32).toInt = 1 := by decide
  intro n
  induction n with
  | zero =>
    intro S l1 l3 l4 h h1 h3 h4 hm
    exfalso
    omega
  | succ n ih =>
    intro S l1 l3 l4 h h1 h3 h4 hm
    unfold fr_copy_12_14_b3
    refine tot_if (fun c => ?_) (fun c => ?_)
    · exact tot_some ⟨h, trivial⟩
    · replace c := i_nle c
      refine tot_let (fun v3 e3 => ?_)
      have q3 := i_add e3 (by omega) (by omega)
      refine tot_let (fun v4 e4 => ?_)
      have q4 := i_add e4 (by omega) (by omega)
      refine tot_oif (i_inb (by omega) (by omega)) ?_
      refine tot_let (fun v6 e6 => ?_)
      have r6 := ic_12 h e6
      refine tot_oif (i_inb (by omega) (by omega)) ?_
      have x3 := i_cl (i := v3) (by omega)
      have x4 := i_cl (i := v4) (by omega)
      rw [show v4.toNatClampNeg = v3.toNatClampNeg from by omega] at r6
      refine tot_let (fun S8 e8 => ?_)
      have h8 : IC P S8 := by rw [e8]; exact ic_mf14 h r6
      refine tot_let (fun v9 e9 => ?_)
      have q9 := i_add e9 (by omega) (by omega)
      exact ih S8 l1 l3 v9 h8 h1 h3 (by omega) (by omega)
theorem sf_copy_12_14 {P : Nat → Int32} (_ : PL P) (S : MS) (a1 a3 : Int32) (h : IC P S) (g0 : 0 ≤ a1.toInt ∧ a1.toInt ≤ 0 ∧ a1.toInt % 2455 = 0) (g1 : 0 ≤ a3.toInt ∧ a3.toInt ≤ 0 ∧ a3.toInt % 2455 = 0) : Tot (fr_copy_12_14 S a1 a3) (fun S1 => IC P S1 ∧ True) := by
  have z0 : (0 : Int32).toInt = 0 := by decide
  unfold fr_copy_12_14
  exact lf_copy_12_14 16384 S a1 a3 0 h g0 g1 (by omega) (by omega)

theorem lf_copy_13_12 {P : Nat → Int32} : ∀ (n : Nat) (S : MS) (l1 l3 l4 : Int32), IC P S → (0 ≤ l1.toInt ∧ l1.toInt ≤ 0 ∧ l1.toInt % 2455 = 0) → (0 ≤ l3.toInt ∧ l3.toInt ≤ 0 ∧ l3.toInt % 2455 = 0) → (0 ≤ l4.toInt ∧ l4.toInt ≤ 2455) → 2455 - l4.toInt < (n : Int) → Tot (fr_copy_13_12_b3 n S l1 l3 l4) (fun S1 => IC P S1 ∧ True) := by
  have z : (2455 : Int32).toInt = 2455 := by decide
  have z1 : (Int32.ofInt (1) : Int32).toInt = 1 := by decide
  intro n
  induction n with
  | zero =>
    intro S l1 l3 l4 h h1 h3 h4 hm
    exfalso
    omega
  | succ n ih =>
    intro S l1 l3 l4 h h1 h3 h4 hm
    unfold fr_copy_13_12_b3
    refine tot_if (fun c => ?_) (fun c => ?_)
    · exact tot_some ⟨h, trivial⟩
    · replace c := i_nle c
      refine tot_let (fun v3 e3 => ?_)
      have q3 := i_add e3 (by omega) (by omega)
      refine tot_let (fun v4 e4 => ?_)
      have q4 := i_add e4 (by omega) (by omega)
      refine tot_oif (i_inb (by omega) (by omega)) ?_
      refine tot_let (fun v6 e6 => ?_)
      have r6 := ic_13 h e6
      refine tot_oif (i_inb (by omega) (by omega)) ?_
      have x3 := i_cl (i := v3) (by omega)
      have x4 := i_cl (i := v4) (by omega)
      rw [show v4.toNatClampNeg = v3.toNatClampNeg from by omega] at r6
      refine tot_let (fun S8 e8 => ?_)
      have h8 : IC P S8 := by rw [e8]; exact ic_mf12 h r6
      refine tot_let (fun v9 e9 => ?_)
      have q9 := i_add e9 (by omega) (by omega)
      exact ih S8 l1 l3 v9 h8 h1 h3 (by omega) (by omega)
theorem sf_copy_13_12 {P : Nat → Int32} (_ : PL P) (S : MS) (a1 a3 : Int32) (h : IC P S) (g0 : 0 ≤ a1.toInt ∧ a1.toInt ≤ 0 ∧ a1.toInt % 2455 = 0) (g1 : 0 ≤ a3.toInt ∧ a3.toInt ≤ 0 ∧ a3.toInt % 2455 = 0) : Tot (fr_copy_13_12 S a1 a3) (fun S1 => IC P S1 ∧ True) := by
  have z0 : (0 : Int32).toInt = 0 := by decide
  unfold fr_copy_13_12
  exact lf_copy_13_12 16384 S a1 a3 0 h g0 g1 (by omega) (by omega)
theorem lf_remember_b54 {P : Nat → Int32} (hP : PL P) (S : MS) (h : IC P S) (g : (S.1 19).toInt ≤ 5) : Tot (fr_remember_b54 S) (fun S1 => IC P S1 ∧ True) := by
  have z : (2455 : Int32).toInt = 2455 := by decide
  have z0 : (0 : Int32).toInt = 0 := by decide
  have z1 : (1 : Int32).toInt = 1 := by decide
  have r := ic_19 h
  unfold fr_remember_b54
  refine tot_let (fun v2 e2 => ?_)
  have q2 := i_eq e2
  refine tot_let (fun v3 e3 => ?_)
  have q3 := i_mulk e3 z (by omega) (by omega)
  refine tot_bind (tot_and (sf_copy_12_15 hP S 0 v3 h (by omega) (by omega)) (fun S4 e => w_fr_copy_12_15 e)) (fun S4 d => ?_)
  have h4 : IC P S4 := d.1.1
  have f4 : S4.1 19 = S.1 19 := d.2.1 19 (by decide)
  refine tot_let (fun v7 e7 => ?_)
  rw [f4] at e7
  have q7 := i_eq e7
  refine tot_let (fun v8 e8 => ?_)
  have q8 := i_add e8 (by omega) (by omega)
  refine tot_let (fun S9 e9 => ?_)
  have h9 : IC P S9 := by rw [e9]; exact ic_mi19 h4 (by omega) (by omega)
  exact tot_some ⟨h9, trivial⟩
theorem lf_remember_b13 {P : Nat → Int32} (hP : PL P) : ∀ (n : Nat) (S : MS) (l1 : Int32), IC P S → (S.1 19).toInt = 6 → (2455 ≤ l1.toInt ∧ l1.toInt ≤ 14730) → 14730 - l1.toInt < (n : Int) → Tot (fr_remember_b13 n S l1) (fun S1 => IC P S1 ∧ True) := by
  have z : (2455 : Int32).toInt = 2455 := by decide
  have z9 : (14730 : Int32).toInt = 14730 := by decide
  have z1 : (1 : Int32).toInt = 1 := by decide
  have z2 : (Int32.ofInt (1) : Int32).toInt = 1 := by decide
  intro n
  induction n with
  | zero =>
    intro S l1 h h1 h3 hm
    exfalso
    omega
  | succ n ih =>
    intro S l1 h h1 h3 hm
    unfold fr_remember_b13
    refine tot_if (fun c => ?_) (fun c => ?_)
    · refine tot_let (fun v3 e3 => ?_)
      have q3 := i_eq e3
      refine tot_let (fun v4 e4 => ?_)
      have q4 := i_sub e4 (by omega) (by omega)
      refine tot_let (fun S5 e5 => ?_)
      have h5 : IC P S5 := by rw [e5]; exact ic_mi19 h (by omega) (by omega)
      have f5 : (S5.1 19).toInt = v4.toInt := by rw [e5]; rfl
      exact lf_remember_b54 hP S5 h5 (by omega)
    · replace c := i_nle c
      refine tot_let (fun v6 e6 => ?_)
      have q6 := i_sub e6 (by omega) (by omega)
      refine tot_oif (i_inb (by omega) (by omega)) ?_
      refine tot_let (fun v8 e8 => ?_)
      have r8 := ic_15 h e8
      refine tot_oif (i_inb (by omega) (by omega)) ?_
      have x3 := i_cl (i := l1) (by omega)
      have x4 := i_cl (i := v6) (by omega)
      rw [show l1.toNatClampNeg % 2455 = v6.toNatClampNeg % 2455 from by omega] at r8
      refine tot_let (fun S10 e10 => ?_)
      have h10 : IC P S10 := by rw [e10]; exact ic_mf15 h r8
      have f10 : (S10.1 19).toInt = (S.1 19).toInt := by rw [e10]; rfl
      refine tot_let (fun v11 e11 => ?_)
      have q11 := i_add e11 (by omega) (by omega)
      exact ih S10 v11 h10 (by omega) (by omega) (by omega)
theorem sf_remember {P : Nat → Int32} (hP : PL P) (S : MS) (h : IC P S) : Tot (fr_remember S) (fun S1 => IC P S1 ∧ True) := by
  have z : (2455 : Int32).toInt = 2455 := by decide
  have z6 : (6 : Int32).toInt = 6 := by decide
  have r := ic_19 h
  unfold fr_remember
  refine tot_let (fun v2 e2 => ?_)
  have q2 := i_eq e2
  refine tot_if (fun c => ?_) (fun c => ?_)
  · replace c := i_eq c
    exact lf_remember_b13 hP 16384 S 2455 h (by omega) (by omega) (by omega)
  · replace c := i_ne c
    exact lf_remember_b54 hP S h (by omega)
