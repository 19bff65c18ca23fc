/-! Safety: ints by their toInt (i_), the plan (PL), the state beside it (IB, IC) -/
theorem i_inb {i : Int32} {n : Nat} (h0 : 0 ≤ i.toInt) (h1 : i.toInt < n) : inb i n = true := by
  have h2 : ((i.toNatClampNeg : Nat) : Int) = i.toInt := by
    show ((i.toInt.toNat : Nat) : Int) = i.toInt
    omega
  unfold inb
  have h9 : (0 : Int32).toInt = 0 := by decide
  have h4 : (0 : Int32) ≤ i := Int32.le_iff_toInt_le.mpr (by omega)
  have h5 : Nat.blt i.toNatClampNeg n = true := Nat.ble_eq_true_of_le (by omega)
  rw [h5, decide_eq_true h4]
  rfl
theorem i_cl {i : Int32} (h0 : 0 ≤ i.toInt) : ((i.toNatClampNeg : Nat) : Int) = i.toInt := by
  show ((i.toInt.toNat : Nat) : Int) = i.toInt
  omega
theorem i_eq {x y : Int32} (h : x = y) : x.toInt = y.toInt := congrArg Int32.toInt h
theorem i_ne {x y : Int32} (h : ¬ x = y) : ¬ x.toInt = y.toInt := fun q => h (Int32.toInt_inj.mp q)
theorem i_lt {x y : Int32} (h : x < y) : x.toInt < y.toInt := Int32.lt_iff_toInt_lt.mp h
theorem i_nlt {x y : Int32} (h : ¬ x < y) : y.toInt ≤ x.toInt := Int.not_lt.mp (fun q => h (Int32.lt_iff_toInt_lt.mpr q))
theorem i_le {x y : Int32} (h : x ≤ y) : x.toInt ≤ y.toInt := Int32.le_iff_toInt_le.mp h
theorem i_nle {x y : Int32} (h : ¬ x ≤ y) : y.toInt < x.toInt := Int.not_le.mp (fun q => h (Int32.le_iff_toInt_le.mpr q))
theorem i_nz {x y : Int32} (h : ¬ x.toInt = y.toInt) : ¬ x = y := fun q => h (congrArg Int32.toInt q)
theorem i_b01 {x : Int32} (h : x.toInt = 0 ∨ x.toInt = 1) : x = 0 ∨ x = 1 := rg_b01 (by unfold rg; omega)
theorem i_any (x : Int32) : -2147483648 ≤ x.toInt ∧ x.toInt ≤ 2147483647 := ⟨Int32.le_toInt x, by have := Int32.toInt_lt x; omega⟩
theorem i_add {v x y : Int32} (e : v = x + y) (h1 : -2147483648 ≤ x.toInt + y.toInt) (h2 : x.toInt + y.toInt ≤ 2147483647) : v.toInt = x.toInt + y.toInt := by
  rw [e, Int32.toInt_add, bm32 h1 h2]
theorem i_sub {v x y : Int32} (e : v = x - y) (h1 : -2147483648 ≤ x.toInt - y.toInt) (h2 : x.toInt - y.toInt ≤ 2147483647) : v.toInt = x.toInt - y.toInt := by
  rw [e, Int32.toInt_sub, bm32 h1 h2]
theorem i_neg {v x : Int32} (e : v = -x) (h1 : -2147483647 ≤ x.toInt) : v.toInt = -x.toInt := by
  have := Int32.toInt_lt x
  rw [e, Int32.toInt_neg, bm32 (by omega) (by omega)]
theorem i_mulk {v x y : Int32} {k : Int} (e : v = x * y) (hk : x.toInt = k) (h1 : -2147483648 ≤ k * y.toInt) (h2 : k * y.toInt ≤ 2147483647) : v.toInt = k * y.toInt := by
  rw [e, Int32.toInt_mul, hk, bm32 h1 h2]
theorem i_mulk2 {v x y : Int32} {k : Int} (e : v = x * y) (hk : y.toInt = k) (h1 : -2147483648 ≤ k * x.toInt) (h2 : k * x.toInt ≤ 2147483647) : v.toInt = k * x.toInt := by
  rw [e, Int32.toInt_mul, hk, Int.mul_comm, bm32 h1 h2]
/-- of numbers that are not negative -/
theorem i_mulp {v x y : Int32} {a b c d : Int} (e : v = x * y) (x1 : a ≤ x.toInt) (x2 : x.toInt ≤ b) (y1 : c ≤ y.toInt) (y2 : y.toInt ≤ d) (h0 : (0 ≤ a ∧ 0 ≤ c) ∧ b * d ≤ 2147483647) : a * c ≤ v.toInt ∧ v.toInt ≤ b * d := rg_to e (rg_mul ⟨x1, x2⟩ ⟨y1, y2⟩ h0.1.1 h0.1.2 h0.2)
theorem i_muls {v x y : Int32} {b d : Int} (e : v = x * y) (x1 : -b ≤ x.toInt) (x2 : x.toInt ≤ b) (y1 : -d ≤ y.toInt) (y2 : y.toInt ≤ d) (h2 : b * d ≤ 2147483647) : -(b * d) ≤ v.toInt ∧ v.toInt ≤ b * d := rg_to e (rg_muls ⟨x1, x2⟩ ⟨y1, y2⟩ h2)
/-- a .. b, of any sign, by 0 .. d -/
theorem i_mulm {v x y : Int32} {a b d : Int} (e : v = x * y) (x1 : a ≤ x.toInt) (x2 : x.toInt ≤ b) (y1 : 0 ≤ y.toInt) (y2 : y.toInt ≤ d) (h : (a ≤ 0 ∧ 0 ≤ b) ∧ -2147483648 ≤ a * d ∧ b * d ≤ 2147483647) : a * d ≤ v.toInt ∧ v.toInt ≤ b * d := by
  have h1 : x.toInt * y.toInt ≤ b * d := Int.le_trans (Int.mul_le_mul_of_nonneg_right x2 y1) (Int.mul_le_mul_of_nonneg_left y2 h.1.2)
  have h2 : a * d ≤ x.toInt * y.toInt := Int.le_trans (Int.mul_le_mul_of_nonpos_left h.1.1 y2) (Int.mul_le_mul_of_nonneg_right x1 y1)
  rw [e, Int32.toInt_mul, bm32 (by omega) (by omega)]
  exact ⟨h2, h1⟩
theorem i_mulm2 {v x y : Int32} {a b d : Int} (e : v = x * y) (x1 : a ≤ y.toInt) (x2 : y.toInt ≤ b) (y1 : 0 ≤ x.toInt) (y2 : x.toInt ≤ d) (h : (a ≤ 0 ∧ 0 ≤ b) ∧ -2147483648 ≤ a * d ∧ b * d ≤ 2147483647) : a * d ≤ v.toInt ∧ v.toInt ≤ b * d := i_mulm (by rw [e, Int32.mul_comm]) x1 x2 y1 y2 h
/-- a square -/
theorem i_sq {v x : Int32} {b : Int} (e : v = x * x) (x1 : -b ≤ x.toInt) (x2 : x.toInt ≤ b) (h2 : b * b ≤ 2147483647) : 0 ≤ v.toInt ∧ v.toInt ≤ b * b := by
  have q := i_muls e x1 x2 x1 x2 h2
  have hn : 0 ≤ x.toInt * x.toInt := by
    rcases Int.le_total 0 x.toInt with h | h
    · exact Int.mul_nonneg h h
    · have := Int.mul_nonneg (a := -x.toInt) (b := -x.toInt) (by omega) (by omega)
      rw [Int.neg_mul_neg] at this
      exact this
  refine ⟨?_, q.2⟩
  have r := imul_abs x1 x2 x1 x2
  rw [e, Int32.toInt_mul, bm32 (by omega) (by omega)]
  exact hn
/-- by a number k > 0 -/
theorem i_divk {v x y : Int32} {k : Int} (e : v = x / y) (hk : y.toInt = k) (h0 : 1 ≤ k) : x.toInt - (k - 1) ≤ k * v.toInt ∧ k * v.toInt ≤ x.toInt + (k - 1) ∧ (0 ≤ x.toInt → 0 ≤ v.toInt ∧ k * v.toInt ≤ x.toInt) ∧ (x.toInt ≤ 0 → v.toInt ≤ 0 ∧ x.toInt ≤ k * v.toInt) := by
  have hx1 := Int32.le_toInt x
  have hx2 := Int32.toInt_lt x
  have hp : ∀ a : Int, 0 ≤ a → (0 ≤ a.tdiv k ∧ a.tdiv k ≤ a) ∧ (0 ≤ k * a.tdiv k ∧ a - (k - 1) ≤ k * a.tdiv k) ∧ k * a.tdiv k ≤ a := fun a ha => by
    have q := tdiv_nn ha h0
    have r := tmod_nn ha h0
    have m := Int.mul_nonneg (a := k) (by omega) q.1
    rw [Int.mul_comm (a.tdiv k) k] at r
    omega
  rcases Int.le_total 0 x.toInt with h | h
  · have q := hp _ h
    have e2 : v.toInt = x.toInt.tdiv k := by rw [e, Int32.toInt_div, hk, bm32 (by omega) (by omega)]
    rw [e2]
    omega
  · have q := hp (-x.toInt) (by omega)
    rw [Int.neg_tdiv, Int.mul_neg] at q
    by_cases hz : x.toInt.tdiv k = 2147483648
    · exfalso; omega
    · have e2 : v.toInt = x.toInt.tdiv k := by rw [e, Int32.toInt_div, hk, bm32 (by omega) (by omega)]
      rw [e2]
      omega
/-- by a number that is at least c -/
theorem i_div {v x y : Int32} (e : v = x / y) {c : Int} (hx : 0 ≤ x.toInt) (hy : c ≤ y.toInt) (h0 : 1 ≤ c) : 0 ≤ v.toInt ∧ c * v.toInt ≤ x.toInt ∧ v.toInt ≤ x.toInt := by
  have hx2 := Int32.toInt_lt x
  have q := tdiv_nn hx (Int.le_trans h0 hy)
  have r := tmod_nn hx (Int.le_trans h0 hy)
  have e2 : v.toInt = x.toInt.tdiv y.toInt := by rw [e, Int32.toInt_div, bm32 (by omega) (by omega)]
  rw [e2]
  have m : c * x.toInt.tdiv y.toInt ≤ x.toInt.tdiv y.toInt * y.toInt := by
    rw [Int.mul_comm]
    exact Int.mul_le_mul_of_nonneg_left hy q.1
  omega
theorem i_divs {v x y : Int32} (e : v = x / y) {b : Int} (x1 : -b ≤ x.toInt) (x2 : x.toInt ≤ b) (hy : 1 ≤ y.toInt) (hb : b ≤ 2147483647) : -b ≤ v.toInt ∧ v.toInt ≤ b := rg_to e (rg_divs (d := y.toInt) ⟨x1, x2⟩ ⟨hy, Int.le_refl _⟩ (Int.le_refl 1) hb)
theorem i_rem {v x y : Int32} (e : v = x - x / y * y) (hx : 0 ≤ x.toInt) (hy : 1 ≤ y.toInt) : 0 ≤ v.toInt ∧ v.toInt < y.toInt := by
  have q := rg_to e (rg_rem (d := y.toInt) ⟨hx, Int.le_refl _⟩ ⟨hy, Int.le_refl _⟩ (Int.le_refl 1))
  unfold rg at q
  omega
theorem i_rems {v x y : Int32} (e : v = x - x / y * y) {b : Int} (x1 : -b ≤ x.toInt) (x2 : x.toInt ≤ b) (hy : 1 ≤ y.toInt) (hb : b ≤ 2147483647) : - y.toInt < v.toInt ∧ v.toInt < y.toInt := by
  have q := rg_to e (rg_rems (d := y.toInt) ⟨x1, x2⟩ ⟨hy, Int.le_refl _⟩ (Int.le_refl 1) hb)
  unfold rg at q
  omega
theorem i_if {c : Prop} [Decidable c] {v x y : Int32} (e : v = if c then x else y) : (c ∧ v.toInt = x.toInt) ∨ (¬ c ∧ v.toInt = y.toInt) := by
  by_cases h : c
  · rw [if_pos h] at e; exact .inl ⟨h, i_eq e⟩
  · rw [if_neg h] at e; exact .inr ⟨h, i_eq e⟩
/-- if a < b then x else y -/
theorem i_ilt {a b v x y : Int32} (e : v = if a < b then x else y) : (a.toInt < b.toInt ∧ v.toInt = x.toInt) ∨ (b.toInt ≤ a.toInt ∧ v.toInt = y.toInt) := by
  rcases i_if e with h | h
  · exact .inl ⟨i_lt h.1, h.2⟩
  · exact .inr ⟨i_nlt h.1, h.2⟩
theorem i_abs {v x : Int32} (e : v = if 0 ≤ x then x else 0 - x) (h1 : -2147483647 ≤ x.toInt) : (0 ≤ x.toInt ∧ v.toInt = x.toInt) ∨ (x.toInt < 0 ∧ v.toInt = -x.toInt) := by
  have z : (0 : Int32).toInt = 0 := by decide
  have h2 := Int32.toInt_lt x
  rcases i_if e with h | h
  · have := i_le h.1
    exact .inl ⟨by omega, h.2⟩
  · have := i_nle h.1
    have q := i_sub (v := 0 - x) rfl (by omega) (by omega)
    exact .inr ⟨by omega, by omega⟩
theorem tot_bindp {β γ : Type} {S : MS} {x : Option (β × MS)} {f : β → MS → Option γ} {R : β → Prop} {P : γ → Prop} (hx : Tot x (fun r => r.2 = S ∧ R r.1)) (h : ∀ r, R r → Tot (f r S) P) : Tot (obind2 x f) P := by
  obtain ⟨⟨a, b⟩, e, e2, q⟩ := hx
  have e2 : b = S := e2
  subst e2
  rw [e]
  exact h a q
theorem i_nz64 {x : Int32} (h : ¬ x.toInt = 0) : ¬ x.toInt64 = 0 := fun q => h (by
  have := congrArg Int64.toInt q
  rw [Int32.toInt_toInt64] at this
  exact this)
/-- the plan -/
def PL (P : Nat → Int32) : Prop :=
  ((100 ≤ (P 0).toInt ∧ (P 0).toInt ≤ 5000) ∧ (1 ≤ (P 1).toInt ∧ (P 1).toInt ≤ 99) ∧ (32 ≤ (P 2).toInt ∧ (P 2).toInt ≤ 200) ∧ (1 ≤ (P 3).toInt ∧ (P 3).toInt ≤ 9999))
  ∧ ((1 ≤ (P 4).toInt ∧ (P 4).toInt ≤ 12) ∧ (0 ≤ (P 5).toInt ∧ (P 5).toInt ≤ 6) ∧ (-999 ≤ (P 6).toInt ∧ (P 6).toInt ≤ 999) ∧ (-999 ≤ (P 7).toInt ∧ (P 7).toInt ≤ 999))
  ∧ ((1 ≤ (P 8).toInt ∧ (P 8).toInt ≤ 99) ∧ (1 ≤ (P 9).toInt ∧ (P 9).toInt ≤ 12) ∧ (1 ≤ (P 10).toInt ∧ (P 10).toInt ≤ 12) ∧ (0 ≤ (P 71).toInt ∧ (P 71).toInt ≤ 2))
  ∧ ((0 ≤ (P 76).toInt ∧ (P 76).toInt ≤ 999) ∧ (0 ≤ (P 77).toInt ∧ (P 77).toInt ≤ 5) ∧ (0 ≤ (P 101).toInt ∧ (P 101).toInt ≤ 4) ∧ (0 ≤ (P 118).toInt ∧ (P 118).toInt ≤ 12))
  ∧ (∀ k, 11 ≤ k → k < 35 → -500 ≤ (P k).toInt ∧ (P k).toInt ≤ 500)
  ∧ (∀ k, 35 ≤ k → k < 47 → 0 ≤ (P k).toInt ∧ (P k).toInt ≤ 9)
  ∧ (∀ k, 47 ≤ k → k < 53 → 0 ≤ (P k).toInt ∧ (P k).toInt ≤ 3)
  ∧ (∀ k, 53 ≤ k → k < 59 → 0 ≤ (P k).toInt ∧ (P k).toInt ≤ 999)
  ∧ (∀ k, 59 ≤ k → k < 65 → 0 ≤ (P k).toInt ∧ (P k).toInt ≤ 99)
  ∧ (∀ k, 65 ≤ k → k < 71 → 0 ≤ (P k).toInt ∧ (P k).toInt ≤ 99)
  ∧ (∀ k, 72 ≤ k → k < 74 → -2000 ≤ (P k).toInt ∧ (P k).toInt ≤ 2000)
  ∧ (∀ k, 74 ≤ k → k < 76 → 0 ≤ (P k).toInt ∧ (P k).toInt ≤ 100)
  ∧ (∀ k, 78 ≤ k → k < 83 → -9 ≤ (P k).toInt ∧ (P k).toInt ≤ 9)
  ∧ (∀ k, 83 ≤ k → k < 95 → 0 ≤ (P k).toInt ∧ (P k).toInt ≤ 31)
  ∧ (∀ k, 95 ≤ k → k < 101 → 0 ≤ (P k).toInt ∧ (P k).toInt ≤ 199)
  ∧ (∀ k, 102 ≤ k → k < 118 → 0 ≤ (P k).toInt ∧ (P k).toInt ≤ 11)
  ∧ (∀ k, 119 ≤ k → k < 131 → 0 ≤ (P k).toInt ∧ (P k).toInt ≤ 9)
  ∧ (∀ k : Nat, 59 ≤ k → (k : Int) < 59 + (P 5).toInt → 2 ≤ (P k).toInt)
theorem pl_0 {P : Nat → Int32} (h : PL P) : 100 ≤ (P 0).toInt ∧ (P 0).toInt ≤ 5000 := h.1.1
theorem pl_1 {P : Nat → Int32} (h : PL P) : 1 ≤ (P 1).toInt ∧ (P 1).toInt ≤ 99 := h.1.2.1
theorem pl_2 {P : Nat → Int32} (h : PL P) : 32 ≤ (P 2).toInt ∧ (P 2).toInt ≤ 200 := h.1.2.2.1
theorem pl_3 {P : Nat → Int32} (h : PL P) : 1 ≤ (P 3).toInt ∧ (P 3).toInt ≤ 9999 := h.1.2.2.2
theorem pl_4 {P : Nat → Int32} (h : PL P) : 1 ≤ (P 4).toInt ∧ (P 4).toInt ≤ 12 := h.2.1.1
theorem pl_5 {P : Nat → Int32} (h : PL P) : 0 ≤ (P 5).toInt ∧ (P 5).toInt ≤ 6 := h.2.1.2.1
theorem pl_6 {P : Nat → Int32} (h : PL P) : -999 ≤ (P 6).toInt ∧ (P 6).toInt ≤ 999 := h.2.1.2.2.1
theorem pl_7 {P : Nat → Int32} (h : PL P) : -999 ≤ (P 7).toInt ∧ (P 7).toInt ≤ 999 := h.2.1.2.2.2
theorem pl_8 {P : Nat → Int32} (h : PL P) : 1 ≤ (P 8).toInt ∧ (P 8).toInt ≤ 99 := h.2.2.1.1
theorem pl_9 {P : Nat → Int32} (h : PL P) : 1 ≤ (P 9).toInt ∧ (P 9).toInt ≤ 12 := h.2.2.1.2.1
theorem pl_10 {P : Nat → Int32} (h : PL P) : 1 ≤ (P 10).toInt ∧ (P 10).toInt ≤ 12 := h.2.2.1.2.2.1
theorem pl_cells {P : Nat → Int32} (h : PL P) : 1 ≤ (P 9).toInt * (P 10).toInt ∧ (P 9).toInt * (P 10).toInt ≤ 144 := by
  have a := h.2.2.1.2.1
  have b := h.2.2.1.2.2.1
  have q := imul_nn (x := (P 9).toInt) (b := 12) (by omega) a.2 (y := (P 10).toInt) (d := 12) (by omega) b.2
  have r := Int.mul_le_mul a.1 b.1 (by decide) (by omega)
  omega
theorem pl_71 {P : Nat → Int32} (h : PL P) : 0 ≤ (P 71).toInt ∧ (P 71).toInt ≤ 2 := h.2.2.1.2.2.2
theorem pl_76 {P : Nat → Int32} (h : PL P) : 0 ≤ (P 76).toInt ∧ (P 76).toInt ≤ 999 := h.2.2.2.1.1
theorem pl_77 {P : Nat → Int32} (h : PL P) : 0 ≤ (P 77).toInt ∧ (P 77).toInt ≤ 5 := h.2.2.2.1.2.1
theorem pl_101 {P : Nat → Int32} (h : PL P) : 0 ≤ (P 101).toInt ∧ (P 101).toInt ≤ 4 := h.2.2.2.1.2.2.1
theorem pl_118 {P : Nat → Int32} (h : PL P) : 0 ≤ (P 118).toInt ∧ (P 118).toInt ≤ 12 := h.2.2.2.1.2.2.2
theorem i_k {i : Int32} {a b : Nat} (h1 : (a : Int) ≤ i.toInt) (h2 : i.toInt < b) : a ≤ i.toNatClampNeg ∧ i.toNatClampNeg < b := by
  have := i_cl (i := i) (by omega)
  omega
theorem pr_11 {P : Nat → Int32} (h : PL P) (i : Int32) (h1 : 11 ≤ i.toInt) (h2 : i.toInt < 35) : -500 ≤ (P i.toNatClampNeg).toInt ∧ (P i.toNatClampNeg).toInt ≤ 500 := h.2.2.2.2.1 _ (i_k (a := 11) h1 h2).1 (i_k (a := 11) h1 h2).2
theorem pr_35 {P : Nat → Int32} (h : PL P) (i : Int32) (h1 : 35 ≤ i.toInt) (h2 : i.toInt < 47) : 0 ≤ (P i.toNatClampNeg).toInt ∧ (P i.toNatClampNeg).toInt ≤ 9 := h.2.2.2.2.2.1 _ (i_k (a := 35) h1 h2).1 (i_k (a := 35) h1 h2).2
theorem pr_47 {P : Nat → Int32} (h : PL P) (i : Int32) (h1 : 47 ≤ i.toInt) (h2 : i.toInt < 53) : 0 ≤ (P i.toNatClampNeg).toInt ∧ (P i.toNatClampNeg).toInt ≤ 3 := h.2.2.2.2.2.2.1 _ (i_k (a := 47) h1 h2).1 (i_k (a := 47) h1 h2).2
theorem pr_53 {P : Nat → Int32} (h : PL P) (i : Int32) (h1 : 53 ≤ i.toInt) (h2 : i.toInt < 59) : 0 ≤ (P i.toNatClampNeg).toInt ∧ (P i.toNatClampNeg).toInt ≤ 999 := h.2.2.2.2.2.2.2.1 _ (i_k (a := 53) h1 h2).1 (i_k (a := 53) h1 h2).2
theorem pr_59 {P : Nat → Int32} (h : PL P) (i : Int32) (h1 : 59 ≤ i.toInt) (h2 : i.toInt < 65) : 0 ≤ (P i.toNatClampNeg).toInt ∧ (P i.toNatClampNeg).toInt ≤ 99 := h.2.2.2.2.2.2.2.2.1 _ (i_k (a := 59) h1 h2).1 (i_k (a := 59) h1 h2).2
theorem pr_65 {P : Nat → Int32} (h : PL P) (i : Int32) (h1 : 65 ≤ i.toInt) (h2 : i.toInt < 71) : 0 ≤ (P i.toNatClampNeg).toInt ∧ (P i.toNatClampNeg).toInt ≤ 99 := h.2.2.2.2.2.2.2.2.2.1 _ (i_k (a := 65) h1 h2).1 (i_k (a := 65) h1 h2).2
theorem pr_72 {P : Nat → Int32} (h : PL P) (i : Int32) (h1 : 72 ≤ i.toInt) (h2 : i.toInt < 74) : -2000 ≤ (P i.toNatClampNeg).toInt ∧ (P i.toNatClampNeg).toInt ≤ 2000 := h.2.2.2.2.2.2.2.2.2.2.1 _ (i_k (a := 72) h1 h2).1 (i_k (a := 72) h1 h2).2
theorem pr_74 {P : Nat → Int32} (h : PL P) (i : Int32) (h1 : 74 ≤ i.toInt) (h2 : i.toInt < 76) : 0 ≤ (P i.toNatClampNeg).toInt ∧ (P i.toNatClampNeg).toInt ≤ 100 := h.2.2.2.2.2.2.2.2.2.2.2.1 _ (i_k (a := 74) h1 h2).1 (i_k (a := 74) h1 h2).2
theorem pr_78 {P : Nat → Int32} (h : PL P) (i : Int32) (h1 : 78 ≤ i.toInt) (h2 : i.toInt < 83) : -9 ≤ (P i.toNatClampNeg).toInt ∧ (P i.toNatClampNeg).toInt ≤ 9 := h.2.2.2.2.2.2.2.2.2.2.2.2.1 _ (i_k (a := 78) h1 h2).1 (i_k (a := 78) h1 h2).2
theorem pr_83 {P : Nat → Int32} (h : PL P) (i : Int32) (h1 : 83 ≤ i.toInt) (h2 : i.toInt < 95) : 0 ≤ (P i.toNatClampNeg).toInt ∧ (P i.toNatClampNeg).toInt ≤ 31 := h.2.2.2.2.2.2.2.2.2.2.2.2.2.1 _ (i_k (a := 83) h1 h2).1 (i_k (a := 83) h1 h2).2
theorem pr_95 {P : Nat → Int32} (h : PL P) (i : Int32) (h1 : 95 ≤ i.toInt) (h2 : i.toInt < 101) : 0 ≤ (P i.toNatClampNeg).toInt ∧ (P i.toNatClampNeg).toInt ≤ 199 := h.2.2.2.2.2.2.2.2.2.2.2.2.2.2.1 _ (i_k (a := 95) h1 h2).1 (i_k (a := 95) h1 h2).2
theorem pr_102 {P : Nat → Int32} (h : PL P) (i : Int32) (h1 : 102 ≤ i.toInt) (h2 : i.toInt < 118) : 0 ≤ (P i.toNatClampNeg).toInt ∧ (P i.toNatClampNeg).toInt ≤ 11 := h.2.2.2.2.2.2.2.2.2.2.2.2.2.2.2.1 _ (i_k (a := 102) h1 h2).1 (i_k (a := 102) h1 h2).2
theorem pr_119 {P : Nat → Int32} (h : PL P) (i : Int32) (h1 : 119 ≤ i.toInt) (h2 : i.toInt < 131) : 0 ≤ (P i.toNatClampNeg).toInt ∧ (P i.toNatClampNeg).toInt ≤ 9 := h.2.2.2.2.2.2.2.2.2.2.2.2.2.2.2.2.1 _ (i_k (a := 119) h1 h2).1 (i_k (a := 119) h1 h2).2
theorem pr_per {P : Nat → Int32} (h : PL P) (i : Int32) (h1 : 59 ≤ i.toInt) (h2 : i.toInt < 59 + (P 5).toInt) : 2 ≤ (P i.toNatClampNeg).toInt := by
  have := i_cl (i := i) (by omega)
  exact h.2.2.2.2.2.2.2.2.2.2.2.2.2.2.2.2.2 _ (by omega) (by omega)
/-- what stands in a record, by its place -/
def nR (k : Nat) (v : Int32) : Prop := (1 ≤ k → k < 13 → 0 ≤ v.toInt ∧ v.toInt ≤ 1) ∧ (13 ≤ k → k < 25 → 0 ≤ v.toInt ∧ v.toInt ≤ 9) ∧ (25 ≤ k → k < 31 → 0 ≤ v.toInt ∧ v.toInt ≤ 1) ∧ (31 ≤ k → k < 43 → -2000 ≤ v.toInt ∧ v.toInt ≤ 2000) ∧ (43 ≤ k → k < 55 → -999 ≤ v.toInt ∧ v.toInt ≤ 999)
theorem nR_1 {i v : Int32} (h : nR i.toNatClampNeg v) (h1 : 1 ≤ i.toInt) (h2 : i.toInt < 13) : 0 ≤ v.toInt ∧ v.toInt ≤ 1 := h.1 (i_k (a := 1) h1 h2).1 (i_k (a := 1) h1 h2).2
theorem nR_13 {i v : Int32} (h : nR i.toNatClampNeg v) (h1 : 13 ≤ i.toInt) (h2 : i.toInt < 25) : 0 ≤ v.toInt ∧ v.toInt ≤ 9 := h.2.1 (i_k (a := 13) h1 h2).1 (i_k (a := 13) h1 h2).2
theorem nR_25 {i v : Int32} (h : nR i.toNatClampNeg v) (h1 : 25 ≤ i.toInt) (h2 : i.toInt < 31) : 0 ≤ v.toInt ∧ v.toInt ≤ 1 := h.2.2.1 (i_k (a := 25) h1 h2).1 (i_k (a := 25) h1 h2).2
theorem nR_31 {i v : Int32} (h : nR i.toNatClampNeg v) (h1 : 31 ≤ i.toInt) (h2 : i.toInt < 43) : -2000 ≤ v.toInt ∧ v.toInt ≤ 2000 := h.2.2.2.1 (i_k (a := 31) h1 h2).1 (i_k (a := 31) h1 h2).2
theorem nR_43 {i v : Int32} (h : nR i.toNatClampNeg v) (h1 : 43 ≤ i.toInt) (h2 : i.toInt < 55) : -999 ≤ v.toInt ∧ v.toInt ≤ 999 := h.2.2.2.2 (i_k (a := 43) h1 h2).1 (i_k (a := 43) h1 h2).2
/-- what is to be written may stand there -/
theorem nR_w {i v : Int32} (h0 : 0 ≤ i.toInt) (h : (1 ≤ i.toInt → i.toInt < 13 → 0 ≤ v.toInt ∧ v.toInt ≤ 1) ∧ (13 ≤ i.toInt → i.toInt < 25 → 0 ≤ v.toInt ∧ v.toInt ≤ 9) ∧ (25 ≤ i.toInt → i.toInt < 31 → 0 ≤ v.toInt ∧ v.toInt ≤ 1) ∧ (31 ≤ i.toInt → i.toInt < 43 → -2000 ≤ v.toInt ∧ v.toInt ≤ 2000) ∧ (43 ≤ i.toInt → i.toInt < 55 → -999 ≤ v.toInt ∧ v.toInt ≤ 999)) : nR i.toNatClampNeg v := by
  have := i_cl h0
  unfold nR
  omega
theorem nR_0 (v : Int32) : nR 0 v := by unfold nR; omega
def IB (S : MS) : Prop := ((0 ≤ (S.1 2).toInt ∧ (S.1 2).toInt ≤ 1000) ∧ (0 ≤ (S.1 19).toInt ∧ (S.1 19).toInt ≤ 6) ∧ ((S.1 21).toInt = -1 ∨ 0 ≤ (S.1 21).toInt ∧ (S.1 21).toInt ≤ 143 ∧ 2 ≤ (S.1 22).toInt ∧ (S.1 22).toInt ≤ 99) ∧ (0 ≤ (S.1 28).toInt ∧ (S.1 28).toInt ≤ 160) ∧ (0 ≤ (S.1 7).toInt ∧ (S.1 7).toInt ≤ 4))
  ∧ (∀ k, nR k (S.2.1 12 k)) ∧ (∀ k, nR k (S.2.1 13 k)) ∧ (∀ k, nR k (S.2.1 14 k)) ∧ (∀ k, nR (k % 2455) (S.2.1 15 k)) ∧ (∀ k, nR (k % 2455) (S.2.1 16 k))
  ∧ (∀ k, 0 ≤ (S.2.1 17 k).toInt ∧ (S.2.1 17 k).toInt ≤ 65535) ∧ (∀ k, 0 ≤ (S.2.1 18 k).toInt ∧ (S.2.1 18 k).toInt ≤ 1) ∧ (∀ k, 0 ≤ (S.2.1 24 k).toInt ∧ (S.2.1 24 k).toInt ≤ 65535)
def IC (P : Nat → Int32) (S : MS) : Prop := S.2.1 10 = P ∧ IB S
section
variable {P : Nat → Int32} {S : MS}
theorem ic_p (h : IC P S) {v : Int32} {k : Nat} (e : v = S.2.1 10 k) : v.toInt = (P k).toInt := by rw [e, h.1]
theorem ic_2 (h : IC P S) : 0 ≤ (S.1 2).toInt ∧ (S.1 2).toInt ≤ 1000 := h.2.1.1
theorem ic_19 (h : IC P S) : 0 ≤ (S.1 19).toInt ∧ (S.1 19).toInt ≤ 6 := h.2.1.2.1
theorem ic_21 (h : IC P S) : (S.1 21).toInt = -1 ∨ 0 ≤ (S.1 21).toInt ∧ (S.1 21).toInt ≤ 143 ∧ 2 ≤ (S.1 22).toInt ∧ (S.1 22).toInt ≤ 99 := h.2.1.2.2.1
theorem ic_28 (h : IC P S) : 0 ≤ (S.1 28).toInt ∧ (S.1 28).toInt ≤ 160 := h.2.1.2.2.2.1
theorem ic_12 (h : IC P S) {v : Int32} {k : Nat} (e : v = S.2.1 12 k) : nR k v := by rw [e]; exact h.2.2.1 k
theorem ic_13 (h : IC P S) {v : Int32} {k : Nat} (e : v = S.2.1 13 k) : nR k v := by rw [e]; exact h.2.2.2.1 k
theorem ic_14 (h : IC P S) {v : Int32} {k : Nat} (e : v = S.2.1 14 k) : nR k v := by rw [e]; exact h.2.2.2.2.1 k
theorem ic_15 (h : IC P S) {v : Int32} {k : Nat} (e : v = S.2.1 15 k) : nR (k % 2455) v := by rw [e]; exact h.2.2.2.2.2.1 k
theorem ic_16 (h : IC P S) {v : Int32} {k : Nat} (e : v = S.2.1 16 k) : nR (k % 2455) v := by rw [e]; exact h.2.2.2.2.2.2.1 k
theorem ic_17 (h : IC P S) {v : Int32} {k : Nat} (e : v = S.2.1 17 k) : 0 ≤ v.toInt ∧ v.toInt ≤ 65535 := by rw [e]; exact h.2.2.2.2.2.2.2.1 k
theorem ic_18 (h : IC P S) {v : Int32} {k : Nat} (e : v = S.2.1 18 k) : 0 ≤ v.toInt ∧ v.toInt ≤ 1 := by rw [e]; exact h.2.2.2.2.2.2.2.2.1 k
theorem ic_24 (h : IC P S) {v : Int32} {k : Nat} (e : v = S.2.1 24 k) : 0 ≤ v.toInt ∧ v.toInt ≤ 65535 := by rw [e]; exact h.2.2.2.2.2.2.2.2.2 k
/-- scalars that are not looked at -/
theorem ic_mi0 (h : IC P S) (v : Int32) : IC P (mi S 0 v) := h
theorem ic_mi20 (h : IC P S) (v : Int32) : IC P (mi S 20 v) := h
theorem ic_mi19 (h : IC P S) {v : Int32} (h1 : 0 ≤ v.toInt) (h2 : v.toInt ≤ 6) : IC P (mi S 19 v) := ⟨h.1, ⟨h.2.1.1, ⟨h1, h2⟩, h.2.1.2.2⟩, h.2.2⟩
theorem ic_mi21 (h : IC P S) {v : Int32} (h1 : v.toInt = -1) : IC P (mi S 21 v) := ⟨h.1, ⟨h.2.1.1, h.2.1.2.1, .inl h1, h.2.1.2.2.2⟩, h.2.2⟩
theorem ic_mi21_22 (h : IC P S) {v w : Int32} (h1 : (0 ≤ v.toInt ∧ v.toInt ≤ 143) ∧ 2 ≤ w.toInt ∧ w.toInt ≤ 99) : IC P (mi (mi S 21 v) 22 w) := ⟨h.1, ⟨h.2.1.1, h.2.1.2.1, .inr ⟨h1.1.1, h1.1.2, h1.2⟩, h.2.1.2.2.2⟩, h.2.2⟩
theorem ic_mi28 (h : IC P S) {v : Int32} (h1 : 0 ≤ v.toInt) (h2 : v.toInt ≤ 160) : IC P (mi S 28 v) := ⟨h.1, ⟨h.2.1.1, h.2.1.2.1, h.2.1.2.2.1, ⟨h1, h2⟩, h.2.1.2.2.2.2⟩, h.2.2⟩
theorem ic_mf23 (h : IC P S) (f : Nat → Int32) : IC P (mf S 23 f) := h
theorem ic_mf27 (h : IC P S) (f : Nat → Int32) : IC P (mf S 27 f) := h
theorem ic_mf29 (h : IC P S) (f : Nat → Int32) : IC P (mf S 29 f) := h
theorem ic_mg25 (h : IC P S) (f : Nat → Int64) : IC P (mg S 25 f) := h
theorem ic_mg26 (h : IC P S) (f : Nat → Int64) : IC P (mg S 26 f) := h
theorem upd_all {R : Nat → Int32 → Prop} {f : Nat → Int32} {k : Nat} {v : Int32} (h : ∀ j, R j (f j)) (hv : R k v) : ∀ j, R j (upd f k v j) := by
  intro j
  unfold upd
  by_cases e : j = k
  · rw [if_pos e, e]; exact hv
  · rw [if_neg e]; exact h j
theorem ic_mf12 (h : IC P S) {k : Nat} {v : Int32} (hv : nR k v) : IC P (mf S 12 (upd (S.2.1 12) k v)) := ⟨h.1, h.2.1, upd_all (R := nR) h.2.2.1 hv, h.2.2.2⟩
theorem ic_mf14 (h : IC P S) {k : Nat} {v : Int32} (hv : nR k v) : IC P (mf S 14 (upd (S.2.1 14) k v)) := ⟨h.1, h.2.1, h.2.2.1, h.2.2.2.1, upd_all (R := nR) h.2.2.2.2.1 hv, h.2.2.2.2.2⟩
theorem ic_mf15 (h : IC P S) {k : Nat} {v : Int32} (hv : nR (k % 2455) v) : IC P (mf S 15 (upd (S.2.1 15) k v)) := ⟨h.1, h.2.1, h.2.2.1, h.2.2.2.1, h.2.2.2.2.1, upd_all (R := fun j => nR (j % 2455)) h.2.2.2.2.2.1 hv, h.2.2.2.2.2.2⟩
theorem ic_mf16 (h : IC P S) {k : Nat} {v : Int32} (hv : nR (k % 2455) v) : IC P (mf S 16 (upd (S.2.1 16) k v)) := ⟨h.1, h.2.1, h.2.2.1, h.2.2.2.1, h.2.2.2.2.1, h.2.2.2.2.2.1, upd_all (R := fun j => nR (j % 2455)) h.2.2.2.2.2.2.1 hv, h.2.2.2.2.2.2.2⟩
theorem ic_mf17 (h : IC P S) {k : Nat} {v : Int32} (hv : 0 ≤ v.toInt ∧ v.toInt ≤ 65535) : IC P (mf S 17 (upd (S.2.1 17) k v)) := ⟨h.1, h.2.1, h.2.2.1, h.2.2.2.1, h.2.2.2.2.1, h.2.2.2.2.2.1, h.2.2.2.2.2.2.1, upd_all (R := fun _ w => 0 ≤ w.toInt ∧ w.toInt ≤ 65535) h.2.2.2.2.2.2.2.1 hv, h.2.2.2.2.2.2.2.2⟩
theorem ic_mf18 (h : IC P S) {k : Nat} {v : Int32} (hv : 0 ≤ v.toInt ∧ v.toInt ≤ 1) : IC P (mf S 18 (upd (S.2.1 18) k v)) := ⟨h.1, h.2.1, h.2.2.1, h.2.2.2.1, h.2.2.2.2.1, h.2.2.2.2.2.1, h.2.2.2.2.2.2.1, h.2.2.2.2.2.2.2.1, upd_all (R := fun _ w => 0 ≤ w.toInt ∧ w.toInt ≤ 1) h.2.2.2.2.2.2.2.2.1 hv, h.2.2.2.2.2.2.2.2.2⟩
theorem ic_mf24 (h : IC P S) {k : Nat} {v : Int32} (hv : 0 ≤ v.toInt ∧ v.toInt ≤ 65535) : IC P (mf S 24 (upd (S.2.1 24) k v)) := ⟨h.1, h.2.1, h.2.2.1, h.2.2.2.1, h.2.2.2.2.1, h.2.2.2.2.2.1, h.2.2.2.2.2.2.1, h.2.2.2.2.2.2.2.1, h.2.2.2.2.2.2.2.2.1, upd_all (R := fun _ w => 0 ≤ w.toInt ∧ w.toInt ≤ 65535) h.2.2.2.2.2.2.2.2.2 hv⟩
end
