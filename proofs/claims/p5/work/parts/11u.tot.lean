/-! Safety: a function gives an answer (Tot), and what is known of it: ranges of ints (rg), tables of ranges for the reference's state (RT) -/
def Tot {α : Type} (x : Option α) (P : α → Prop) : Prop := ∃ a, x = some a ∧ P a
theorem tot_some {α : Type} {a : α} {P : α → Prop} (h : P a) : Tot (some a) P := ⟨a, rfl, h⟩
theorem tot_w {α : Type} {x : Option α} {P Q : α → Prop} (h : Tot x P) (k : ∀ a, P a → Q a) : Tot x Q := h.elim fun a q => ⟨a, q.1, k a q.2⟩
theorem tot_let {α β : Type} {x : α} {f : α → Option β} {P : β → Prop} (h : ∀ v, v = x → Tot (f v) P) : Tot (elet x f) P := h x rfl
theorem tot_oif {β : Type} {c : Prop} [Decidable c] {x : Option β} {P : β → Prop} (hc : c) (h : Tot x P) : Tot (oif c x) P := by
  unfold oif
  rw [if_pos hc]
  exact h
theorem tot_bind {α β : Type} {x : Option α} {f : α → Option β} {Q : α → Prop} {P : β → Prop} (hx : Tot x Q) (h : ∀ a, Q a → Tot (f a) P) : Tot (obind x f) P := by
  obtain ⟨a, e, q⟩ := hx
  rw [e]
  exact h a q
theorem tot_bind2 {α β γ : Type} {x : Option (α × β)} {f : α → β → Option γ} {Q : α × β → Prop} {P : γ → Prop} (hx : Tot x Q) (h : ∀ a b, Q (a, b) → Tot (f a b) P) : Tot (obind2 x f) P := by
  obtain ⟨⟨a, b⟩, e, q⟩ := hx
  rw [e]
  exact h a b q
theorem tot_if {β : Type} {c : Prop} [Decidable c] {x y : Option β} {P : β → Prop} (h1 : c → Tot x P) (h2 : ¬ c → Tot y P) : Tot (if c then x else y) P := by
  by_cases hc : c
  · rw [if_pos hc]; exact h1 hc
  · rw [if_neg hc]; exact h2 hc
theorem tot_get {α : Type} {x : Option α} {P : α → Prop} (h : Tot x P) : ∃ a, x = some a ∧ P a := h
/-- an int lies between -/
def rg (v : Int32) (a b : Int) : Prop := a ≤ v.toInt ∧ v.toInt ≤ b
theorem bm32 {x : Int} (h1 : -2147483648 ≤ x) (h2 : x ≤ 2147483647) : x.bmod (2 ^ 32) = x := by
  rw [Int.bmod_def]
  omega
theorem rg_any (v : Int32) : rg v (-2147483648) 2147483647 := by
  have h1 := Int32.le_toInt v
  have h2 := Int32.toInt_lt v
  unfold rg
  omega
theorem rg_w {v : Int32} {a b c d : Int} (h : rg v a b) (h1 : c ≤ a) (h2 : b ≤ d) : rg v c d := ⟨Int.le_trans h1 h.1, Int.le_trans h.2 h2⟩
theorem rg_to {v x : Int32} {a b : Int} (e : v = x) (h : rg x a b) : rg v a b := by rw [e]; exact h
theorem rg_add {x y : Int32} {a b c d : Int} (hx : rg x a b) (hy : rg y c d) (h1 : -2147483648 ≤ a + c) (h2 : b + d ≤ 2147483647) : rg (x + y) (a + c) (b + d) := by
  obtain ⟨x1, x2⟩ := hx
  obtain ⟨y1, y2⟩ := hy
  unfold rg
  rw [Int32.toInt_add, bm32 (by omega) (by omega)]
  omega
theorem rg_sub {x y : Int32} {a b c d : Int} (hx : rg x a b) (hy : rg y c d) (h1 : -2147483648 ≤ a - d) (h2 : b - c ≤ 2147483647) : rg (x - y) (a - d) (b - c) := by
  obtain ⟨x1, x2⟩ := hx
  obtain ⟨y1, y2⟩ := hy
  unfold rg
  rw [Int32.toInt_sub, bm32 (by omega) (by omega)]
  omega
theorem rg_neg {x : Int32} {a b : Int} (hx : rg x a b) (h1 : -2147483647 ≤ a) : rg (-x) (-b) (-a) := by
  obtain ⟨x1, x2⟩ := hx
  have h2 := Int32.toInt_lt x
  unfold rg
  rw [Int32.toInt_neg, bm32 (by omega) (by omega)]
  omega
theorem imul_nn {x y b d : Int} (x1 : 0 ≤ x) (x2 : x ≤ b) (y1 : 0 ≤ y) (y2 : y ≤ d) : 0 ≤ x * y ∧ x * y ≤ b * d := ⟨Int.mul_nonneg x1 y1, Int.mul_le_mul x2 y2 y1 (Int.le_trans x1 x2)⟩
/-- both not negative -/
theorem rg_mul {x y : Int32} {a b c d : Int} (hx : rg x a b) (hy : rg y c d) (h0 : 0 ≤ a) (h1 : 0 ≤ c) (h2 : b * d ≤ 2147483647) : rg (x * y) (a * c) (b * d) := by
  obtain ⟨x1, x2⟩ := hx
  obtain ⟨y1, y2⟩ := hy
  have q := imul_nn (Int.le_trans h0 x1) x2 (Int.le_trans h1 y1) y2
  have r : a * c ≤ x.toInt * y.toInt := Int.mul_le_mul x1 y1 h1 (Int.le_trans h0 x1)
  unfold rg
  rw [Int32.toInt_mul, bm32 (by omega) (by omega)]
  exact ⟨r, q.2⟩
theorem imul_abs {x y b d : Int} (x1 : -b ≤ x) (x2 : x ≤ b) (y1 : -d ≤ y) (y2 : y ≤ d) : -(b * d) ≤ x * y ∧ x * y ≤ b * d := by
  have hb : 0 ≤ b := by omega
  rcases Int.le_total 0 x with hx | hx
  · rcases Int.le_total 0 y with hy | hy
    · have q := imul_nn hx x2 hy y2
      omega
    · have q := imul_nn hx x2 (y := -y) (d := d) (by omega) (by omega)
      rw [Int.mul_neg] at q
      omega
  · rcases Int.le_total 0 y with hy | hy
    · have q := imul_nn (x := -x) (b := b) (by omega) (by omega) hy y2
      rw [Int.neg_mul] at q
      omega
    · have q := imul_nn (x := -x) (b := b) (y := -y) (d := d) (by omega) (by omega) (by omega) (by omega)
      rw [Int.neg_mul_neg] at q
      omega
/-- of any sign: -b .. b by -d .. d -/
theorem rg_muls {x y : Int32} {b d : Int} (hx : rg x (-b) b) (hy : rg y (-d) d) (h2 : b * d ≤ 2147483647) : rg (x * y) (-(b * d)) (b * d) := by
  have q := imul_abs hx.1 hx.2 hy.1 hy.2
  unfold rg
  rw [Int32.toInt_mul, bm32 (by omega) (by omega)]
  exact q
theorem tdiv_nn {x y : Int} (hx : 0 ≤ x) (hy : 1 ≤ y) : 0 ≤ x.tdiv y ∧ x.tdiv y ≤ x := by
  rw [Int.tdiv_eq_ediv_of_nonneg hx]
  exact ⟨Int.ediv_nonneg hx (by omega), Int.ediv_le_self y hx⟩
/-- by a positive number -/
theorem rg_div {x y : Int32} {b c d : Int} (hx : rg x 0 b) (hy : rg y c d) (h0 : 1 ≤ c) : rg (x / y) 0 b := by
  have q := tdiv_nn hx.1 (Int.le_trans h0 hy.1)
  have h2 := Int32.toInt_lt x
  unfold rg
  rw [Int32.toInt_div, bm32 (by omega) (by omega)]
  have h3 := hx.2
  omega
theorem rg_divs {x y : Int32} {b c d : Int} (hx : rg x (-b) b) (hy : rg y c d) (h0 : 1 ≤ c) (hb : b ≤ 2147483647) : rg (x / y) (-b) b := by
  have hy1 := Int.le_trans h0 hy.1
  obtain ⟨x1, x2⟩ := hx
  have q : -b ≤ x.toInt.tdiv y.toInt ∧ x.toInt.tdiv y.toInt ≤ b := by
    rcases Int.le_total 0 x.toInt with h | h
    · have q := tdiv_nn h hy1
      omega
    · have q := tdiv_nn (x := -x.toInt) (by omega) hy1
      rw [Int.neg_tdiv] at q
      omega
  unfold rg
  rw [Int32.toInt_div, bm32 (by omega) (by omega)]
  exact q
theorem tmod_nn {x y : Int} (hx : 0 ≤ x) (hy : 1 ≤ y) : 0 ≤ x - x.tdiv y * y ∧ x - x.tdiv y * y < y := by
  rw [Int.tdiv_eq_ediv_of_nonneg hx]
  have h1 := Int.emod_nonneg x (b := y) (by omega)
  have h2 := Int.emod_lt_of_pos x (b := y) (by omega)
  have h3 := Int.emod_add_mul_ediv x y
  rw [Int.mul_comm] at h3
  omega
/-- what is left -/
theorem rg_rem {x y : Int32} {b c d : Int} (hx : rg x 0 b) (hy : rg y c d) (h0 : 1 ≤ c) : rg (x - x / y * y) 0 (d - 1) := by
  have hy1 := Int.le_trans h0 hy.1
  have q := tdiv_nn hx.1 hy1
  have r := tmod_nn hx.1 hy1
  have h2 := Int32.toInt_lt x
  have h3 := Int32.toInt_lt y
  have m0 : 0 ≤ x.toInt.tdiv y.toInt * y.toInt := Int.mul_nonneg q.1 (by omega)
  unfold rg
  rw [Int32.toInt_sub, Int32.toInt_mul, Int32.toInt_div, bm32 (x := x.toInt.tdiv y.toInt) (by omega) (by omega), bm32 (x := x.toInt.tdiv y.toInt * y.toInt) (by omega) (by omega), bm32 (by omega) (by omega)]
  have h4 := hy.2
  omega
theorem rg_rems {x y : Int32} {b c d : Int} (hx : rg x (-b) b) (hy : rg y c d) (h0 : 1 ≤ c) (hb : b ≤ 2147483647) : rg (x - x / y * y) (1 - d) (d - 1) := by
  have hy1 := Int.le_trans h0 hy.1
  obtain ⟨x1, x2⟩ := hx
  have h3 := Int32.toInt_lt y
  have h4 := hy.2
  have q : 1 - y.toInt ≤ x.toInt - x.toInt.tdiv y.toInt * y.toInt ∧ x.toInt - x.toInt.tdiv y.toInt * y.toInt ≤ y.toInt - 1 := by
    rcases Int.le_total 0 x.toInt with h | h
    · have r := tmod_nn h hy1
      omega
    · have r := tmod_nn (x := -x.toInt) (by omega) hy1
      rw [Int.neg_tdiv, Int.neg_mul] at r
      omega
  have t : -b ≤ x.toInt.tdiv y.toInt ∧ x.toInt.tdiv y.toInt ≤ b := by
    rcases Int.le_total 0 x.toInt with h | h
    · have q := tdiv_nn h hy1
      omega
    · have q := tdiv_nn (x := -x.toInt) (by omega) hy1
      rw [Int.neg_tdiv] at q
      omega
  have u : -b ≤ x.toInt.tdiv y.toInt * y.toInt ∧ x.toInt.tdiv y.toInt * y.toInt ≤ b := by
    rcases Int.le_total 0 x.toInt with h | h
    · have r := tmod_nn h hy1
      have m0 : 0 ≤ x.toInt.tdiv y.toInt * y.toInt := Int.mul_nonneg (tdiv_nn h hy1).1 (by omega)
      omega
    · have r := tmod_nn (x := -x.toInt) (by omega) hy1
      have m0 : 0 ≤ (-x.toInt).tdiv y.toInt * y.toInt := Int.mul_nonneg (tdiv_nn (x := -x.toInt) (by omega) hy1).1 (by omega)
      rw [Int.neg_tdiv, Int.neg_mul] at r m0
      omega
  unfold rg
  rw [Int32.toInt_sub, Int32.toInt_mul, Int32.toInt_div, bm32 (x := x.toInt.tdiv y.toInt) (by omega) (by omega), bm32 (x := x.toInt.tdiv y.toInt * y.toInt) (by omega) (by omega), bm32 (by omega) (by omega)]
  omega
theorem rg_lt1 {x y : Int32} {a b c d : Int} (h : x < y) (hx : rg x a b) (hy : rg y c d) : rg x a (d - 1) := by
  have q := Int32.lt_iff_toInt_lt.mp h
  have h1 := hx.1
  have h2 := hy.2
  exact ⟨h1, by omega⟩
theorem rg_lt2 {x y : Int32} {a b c d : Int} (h : x < y) (hx : rg x a b) (hy : rg y c d) : rg y (a + 1) d := by
  have q := Int32.lt_iff_toInt_lt.mp h
  have h1 := hx.1
  have h2 := hy.2
  exact ⟨by omega, h2⟩
theorem rg_le1 {x y : Int32} {a b c d : Int} (h : x ≤ y) (hx : rg x a b) (hy : rg y c d) : rg x a d := by
  have q := Int32.le_iff_toInt_le.mp h
  have h1 := hx.1
  have h2 := hy.2
  exact ⟨h1, by omega⟩
theorem rg_le2 {x y : Int32} {a b c d : Int} (h : x ≤ y) (hx : rg x a b) (hy : rg y c d) : rg y a d := by
  have q := Int32.le_iff_toInt_le.mp h
  have h1 := hx.1
  have h2 := hy.2
  exact ⟨by omega, h2⟩
theorem rg_nl {x y : Int32} (h : ¬ x < y) : y ≤ x := Int32.not_lt.mp h
theorem rg_nle {x y : Int32} (h : ¬ x ≤ y) : y < x := Int32.not_le.mp h
theorem rg_ne1 {x k : Int32} {a b : Int} (h : ¬ x = k) (hk : k.toInt = a) (hx : rg x a b) : rg x (a + 1) b := by
  have q : ¬ x.toInt = a := fun q => h (Int32.toInt_inj.mp (by rw [hk]; exact q))
  obtain ⟨h1, h2⟩ := hx
  exact ⟨by omega, h2⟩
theorem rg_ne2 {x k : Int32} {a b : Int} (h : ¬ x = k) (hk : k.toInt = b) (hx : rg x a b) : rg x a (b - 1) := by
  have q : ¬ x.toInt = b := fun q => h (Int32.toInt_inj.mp (by rw [hk]; exact q))
  obtain ⟨h1, h2⟩ := hx
  exact ⟨h1, by omega⟩
theorem rg_no {x : Int32} {a b : Int} {P : Prop} (hx : rg x a b) (h : b < a) : P := absurd (Int.le_trans hx.1 hx.2) (Int.not_le.mpr h)
theorem rg_nz {x : Int32} {a b : Int} (hx : rg x a b) (h : 0 < a ∨ b < 0) : ¬ x = 0 := by
  intro e
  rw [e] at hx
  have h0 : (0 : Int32).toInt = 0 := by decide
  obtain ⟨h1, h2⟩ := hx
  omega
theorem rg_b01 {x : Int32} (hx : rg x 0 1) : x = 0 ∨ x = 1 := by
  obtain ⟨h1, h2⟩ := hx
  have h0 : (0 : Int32).toInt = 0 := by decide
  have h9 : (1 : Int32).toInt = 1 := by decide
  rcases (by omega : x.toInt = 0 ∨ x.toInt = 1) with h | h
  · exact .inl (Int32.toInt_inj.mp (by rw [h, h0]))
  · exact .inr (Int32.toInt_inj.mp (by rw [h, h9]))
theorem rg_clamp {x : Int32} {a b : Int} (hx : rg x a b) (h0 : 0 ≤ a) : (x.toNatClampNeg : Int) = x.toInt := by
  have h1 := hx.1
  show ((x.toInt.toNat : Nat) : Int) = x.toInt
  omega
theorem rg_inb {x : Int32} {a b : Int} {n : Nat} (hx : rg x a b) (h0 : 0 ≤ a) (hn : b < n) : inb x n = true := by
  have h1 := rg_clamp hx h0
  have h2 := hx.1
  have h3 := hx.2
  unfold inb
  have h9 : (0 : Int32).toInt = 0 := by decide
  have h4 : (0 : Int32) ≤ x := Int32.le_iff_toInt_le.mpr (by omega)
  have h5 : Nat.blt x.toNatClampNeg n = true := Nat.ble_eq_true_of_le (by omega)
  rw [h5, decide_eq_true h4]
  rfl
theorem rg_ite {c : Prop} [Decidable c] {x y : Int32} {a b : Int} (h1 : c → rg x a b) (h2 : ¬ c → rg y a b) : rg (if c then x else y) a b := by
  by_cases h : c
  · rw [if_pos h]; exact h1 h
  · rw [if_neg h]; exact h2 h
/-- the greater one -/
theorem rg_max {x y : Int32} {a b c d : Int} (hx : rg x a b) (hy : rg y c d) : rg (if x < y then y else x) (max a c) (max b d) := by
  obtain ⟨x1, x2⟩ := hx
  obtain ⟨y1, y2⟩ := hy
  by_cases h : x < y
  · rw [if_pos h]
    have q := Int32.lt_iff_toInt_lt.mp h
    exact ⟨by omega, by omega⟩
  · rw [if_neg h]
    have q := Int32.le_iff_toInt_le.mp (rg_nl h)
    exact ⟨by omega, by omega⟩
/-- tables -/
def rS (t : List (Nat × Int × Int)) (S : MS) : Prop := ∀ x ∈ t, rg (S.1 x.1) x.2.1 x.2.2
def rA (u : List (Nat × Nat × Nat × Int × Int)) (S : MS) : Prop := ∀ x ∈ u, ∀ i, x.2.1 ≤ i → i < x.2.2.1 → rg (S.2.1 x.1 i) x.2.2.2.1 x.2.2.2.2
def RT (t : List (Nat × Int × Int)) (u : List (Nat × Nat × Nat × Int × Int)) (S : MS) : Prop := rS t S ∧ rA u S
def cS (t t2 : List (Nat × Int × Int)) : Bool := t2.all fun x => t.any fun y => y.1 == x.1 && decide (x.2.1 ≤ y.2.1) && decide (y.2.2 ≤ x.2.2)
def cA (u u2 : List (Nat × Nat × Nat × Int × Int)) : Bool := u2.all fun x => u.any fun y => y.1 == x.1 && decide (y.2.1 ≤ x.2.1) && decide (x.2.2.1 ≤ y.2.2.1) && decide (x.2.2.2.1 ≤ y.2.2.2.1) && decide (y.2.2.2.2 ≤ x.2.2.2.2)
theorem band {a b : Bool} (h : (a && b) = true) : a = true ∧ b = true := (Bool.and_eq_true _ _).mp h
theorem rS_w {t t2 : List (Nat × Int × Int)} {S : MS} (h : rS t S) (c : cS t t2 = true) : rS t2 S := fun x hx => by
  obtain ⟨y, hy, q⟩ := List.any_eq_true.mp (List.all_eq_true.mp c x hx)
  obtain ⟨q, q3⟩ := band q
  obtain ⟨q1, q2⟩ := band q
  rw [← beq_iff_eq.mp q1]
  exact rg_w (h y hy) (of_decide_eq_true q2) (of_decide_eq_true q3)
theorem rA_w {u u2 : List (Nat × Nat × Nat × Int × Int)} {S : MS} (h : rA u S) (c : cA u u2 = true) : rA u2 S := fun x hx i h1 h2 => by
  obtain ⟨y, hy, q⟩ := List.any_eq_true.mp (List.all_eq_true.mp c x hx)
  obtain ⟨q, q5⟩ := band q
  obtain ⟨q, q4⟩ := band q
  obtain ⟨q, q3⟩ := band q
  obtain ⟨q1, q2⟩ := band q
  rw [← beq_iff_eq.mp q1]
  exact rg_w (h y hy i (Nat.le_trans (of_decide_eq_true q2) h1) (Nat.lt_of_lt_of_le h2 (of_decide_eq_true q3))) (of_decide_eq_true q4) (of_decide_eq_true q5)
theorem rt_w {t t2 : List (Nat × Int × Int)} {u u2 : List (Nat × Nat × Nat × Int × Int)} {S : MS} (h : RT t u S) (c : (cS t t2 && cA u u2) = true) : RT t2 u2 S := ⟨rS_w h.1 (band c).1, rA_w h.2 (band c).2⟩
/-- a scalar is written -/
def cMi (t t2 : List (Nat × Int × Int)) (k : Nat) (lo hi : Int) : Bool := t2.all fun x => (x.1 == k && decide (x.2.1 ≤ lo) && decide (hi ≤ x.2.2)) || (x.1 != k && t.any fun y => y.1 == x.1 && decide (x.2.1 ≤ y.2.1) && decide (y.2.2 ≤ x.2.2))
theorem rt_mi {t t2 : List (Nat × Int × Int)} {u : List (Nat × Nat × Nat × Int × Int)} {S : MS} {k : Nat} {v : Int32} {lo hi : Int} (h : RT t u S) (hv : rg v lo hi) (c : cMi t t2 k lo hi = true) : RT t2 u (mi S k v) := by
  refine ⟨fun x hx => ?_, h.2⟩
  show rg (bif Nat.beq x.1 k then v else S.1 x.1) _ _
  rcases Bool.or_eq_true _ _ ▸ List.all_eq_true.mp c x hx with q | q
  · obtain ⟨q, q3⟩ := band q
    obtain ⟨q1, q2⟩ := band q
    rw [beq_iff_eq.mp q1, show Nat.beq k k = true from Nat.beq_refl k]
    exact rg_w hv (of_decide_eq_true q2) (of_decide_eq_true q3)
  · obtain ⟨q1, q2⟩ := band q
    have q1 : x.1 ≠ k := bne_iff_ne.mp q1
    rw [show Nat.beq x.1 k = false from by cases e : Nat.beq x.1 k with
      | false => rfl
      | true => exact absurd (Nat.eq_of_beq_eq_true e) q1]
    obtain ⟨y, hy, q⟩ := List.any_eq_true.mp q2
    obtain ⟨q, q5⟩ := band q
    obtain ⟨q3, q4⟩ := band q
    show rg (S.1 x.1) _ _
    rw [← beq_iff_eq.mp q3]
    exact rg_w (h.1 y hy) (of_decide_eq_true q4) (of_decide_eq_true q5)
/-- an array is written, index and value known by their ranges -/
def cMf (u u2 : List (Nat × Nat × Nat × Int × Int)) (a : Nat) (il ih : Nat) (lo hi : Int) : Bool := u2.all fun x => (x.1 == a && decide (il ≤ x.2.1) && decide (x.2.2.1 ≤ ih + 1) && decide (il = ih) && decide (x.2.2.2.1 ≤ lo) && decide (hi ≤ x.2.2.2.2)) || ((x.1 != a || (decide (x.2.2.2.1 ≤ lo) && decide (hi ≤ x.2.2.2.2)) || decide (ih < x.2.1) || decide (x.2.2.1 ≤ il)) && u.any fun y => y.1 == x.1 && decide (y.2.1 ≤ x.2.1) && decide (x.2.2.1 ≤ y.2.2.1) && decide (x.2.2.2.1 ≤ y.2.2.2.1) && decide (y.2.2.2.2 ≤ x.2.2.2.2))
theorem bor {a b : Bool} (h : (a || b) = true) : a = true ∨ b = true := (Bool.or_eq_true _ _).mp h
theorem mf_at {S : MS} {a : Nat} {f : Nat → Int32} : (mf S a f).2.1 a = f := by
  show (bif Nat.beq a a then f else S.2.1 a) = f
  rw [show Nat.beq a a = true from Nat.beq_refl a]
  rfl
theorem mf_ne {S : MS} {a b : Nat} {f : Nat → Int32} (h : b ≠ a) : (mf S a f).2.1 b = S.2.1 b := by
  show (bif Nat.beq b a then f else S.2.1 b) = S.2.1 b
  rw [show Nat.beq b a = false from by cases e : Nat.beq b a with
    | false => rfl
    | true => exact absurd (Nat.eq_of_beq_eq_true e) h]
  rfl
theorem rt_mf {t : List (Nat × Int × Int)} {u u2 : List (Nat × Nat × Nat × Int × Int)} {S : MS} {a il ih k : Nat} {v : Int32} {lo hi : Int} (h : RT t u S) (h1 : il ≤ k) (h2 : k ≤ ih) (hv : rg v lo hi) (c : cMf u u2 a il ih lo hi = true) : RT t u2 (mf S a (upd (S.2.1 a) k v)) := by
  refine ⟨h.1, fun x hx i i1 i2 => ?_⟩
  rcases bor (List.all_eq_true.mp c x hx) with q | q
  · obtain ⟨q, q6⟩ := band q
    obtain ⟨q, q5⟩ := band q
    obtain ⟨q, q4⟩ := band q
    obtain ⟨q, q3⟩ := band q
    obtain ⟨q1, q2⟩ := band q
    have e := beq_iff_eq.mp q1
    have q2 := of_decide_eq_true q2
    have q3 := of_decide_eq_true q3
    have q4 := of_decide_eq_true q4
    rw [e, mf_at]
    have ek : i = k := by omega
    unfold upd
    rw [if_pos ek]
    exact rg_w hv (of_decide_eq_true q5) (of_decide_eq_true q6)
  · obtain ⟨q, w⟩ := band q
    obtain ⟨y, hy, w⟩ := List.any_eq_true.mp w
    obtain ⟨w, w5⟩ := band w
    obtain ⟨w, w4⟩ := band w
    obtain ⟨w, w3⟩ := band w
    obtain ⟨w1, w2⟩ := band w
    have old : rg (S.2.1 x.1 i) x.2.2.2.1 x.2.2.2.2 := by
      rw [← beq_iff_eq.mp w1]
      exact rg_w (h.2 y hy i (Nat.le_trans (of_decide_eq_true w2) i1) (Nat.lt_of_lt_of_le i2 (of_decide_eq_true w3))) (of_decide_eq_true w4) (of_decide_eq_true w5)
    by_cases e : x.1 = a
    · rw [e, mf_at]
      unfold upd
      by_cases ek : i = k
      · rw [if_pos ek]
        rcases bor q with q | q
        · rcases bor q with q | q
          · rcases bor q with q | q
            · exact absurd e (bne_iff_ne.mp q)
            · exact rg_w hv (of_decide_eq_true (band q).1) (of_decide_eq_true (band q).2)
          · have q := of_decide_eq_true q
            omega
        · have q := of_decide_eq_true q
          omega
      · rw [if_neg ek, ← e]
        exact old
    · rw [mf_ne e]
      exact old
/-- reads -/
theorem rt_s {t : List (Nat × Int × Int)} {u : List (Nat × Nat × Nat × Int × Int)} {S : MS} {lo hi : Int} (h : RT t u S) (k : Nat) (c : cS t [(k, lo, hi)] = true) : rg (S.1 k) lo hi := rS_w h.1 c (k, lo, hi) List.mem_cons_self
theorem rt_a {t : List (Nat × Int × Int)} {u : List (Nat × Nat × Nat × Int × Int)} {S : MS} {lo hi : Int} (h : RT t u S) (a : Nat) {k il ih : Nat} (h1 : il ≤ k) (h2 : k ≤ ih) (c : cA u [(a, il, ih + 1, lo, hi)] = true) : rg (S.2.1 a k) lo hi := rA_w h.2 c (a, il, ih + 1, lo, hi) List.mem_cons_self k h1 (Nat.lt_succ_of_le h2)
theorem rg_cl {x : Int32} {il ih : Nat} (hx : rg x il ih) : il ≤ x.toNatClampNeg ∧ x.toNatClampNeg ≤ ih := by
  have h1 := rg_clamp hx (Int.natCast_nonneg il)
  obtain ⟨h2, h3⟩ := hx
  omega
