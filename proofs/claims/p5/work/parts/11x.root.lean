/-! the root: not below what is squared -/
theorem root_step {n : Nat} {l0 l1 l2 : Int32} (h : ¬ l2 ≤ 0) : fr_root_b6 (n + 1) l0 l1 l2 = if 0 < lg_cmp ((l1 + l2).toInt64 * (l1 + l2).toInt64) l0.toInt64 then fr_root_b6 n l0 l1 (l2 / 2) else fr_root_b6 n l0 (l1 + l2) (l2 / 2) := by
  conv => lhs; unfold fr_root_b6
  rw [if_neg h]
  rfl
theorem bm64 {x : Int} (h1 : -9223372036854775808 ≤ x) (h2 : x ≤ 9223372036854775807) : x.bmod (2 ^ 64) = x := by
  rw [Int.bmod_def]
  omega
theorem root_cmp {l0 m : Int32} (h0 : 0 ≤ m.toInt) (h1 : m.toInt ≤ 65536) : 0 < lg_cmp (m.toInt64 * m.toInt64) l0.toInt64 ↔ l0.toInt < m.toInt * m.toInt := by
  have q := imul_nn h0 h1 h0 h1
  rw [lg_cmp_gt, Int64.lt_iff_toInt_lt, Int64.toInt_mul, Int32.toInt_toInt64, Int32.toInt_toInt64, bm64 (by omega) (by omega)]
theorem half {l2 : Int32} {c : Int} (h : l2.toInt = 2 * c) (h0 : 0 ≤ c) : (l2 / 2).toInt = c := by
  have h2 := Int32.toInt_lt l2
  have h9 : (2 : Int32).toInt = 2 := by decide
  rw [Int32.toInt_div, h9, h, Int.tdiv_eq_ediv_of_nonneg (by omega), bm32 (by omega) (by omega)]
  omega
theorem root_loop (l0 : Int32) : ∀ (k n : Nat) (l1 l2 : Int32), k + 2 ≤ n → l2.toInt = 2 ^ k → 0 ≤ l1.toInt → l1.toInt + 2 * 2 ^ k ≤ 65536 → l0.toInt < (l1.toInt + 2 * 2 ^ k) * (l1.toInt + 2 * 2 ^ k) → Tot (fr_root_b6 n l0 l1 l2) (fun x => 0 ≤ x.toInt ∧ x.toInt ≤ 65535 ∧ l0.toInt < (x.toInt + 1) * (x.toInt + 1)) := by
  intro k
  induction k with
  | zero =>
    intro n l1 l2 hn h2 h1 hs hv
    obtain ⟨n, rfl⟩ : ∃ j, n = j + 2 := ⟨n - 2, by omega⟩
    have h2 : l2.toInt = 1 := h2
    have hs : l1.toInt + 2 * 1 ≤ 65536 := hs
    have hv : l0.toInt < (l1.toInt + 2 * 1) * (l1.toInt + 2 * 1) := hv
    have h00 : (0 : Int32).toInt = 0 := by decide
    have hl : ¬ l2 ≤ 0 := fun q => by have := Int32.le_iff_toInt_le.mp q; omega
    have hz : (l2 / 2).toInt = 0 := by
      have h9 : (2 : Int32).toInt = 2 := by decide
      rw [Int32.toInt_div, h9, h2]
      decide
    have hz2 : l2 / 2 ≤ 0 := Int32.le_iff_toInt_le.mpr (by omega)
    have hm : (l1 + l2).toInt = l1.toInt + 1 := by rw [Int32.toInt_add, h2, bm32 (by omega) (by omega)]
    have last : ∀ x : Int32, fr_root_b6 (n + 1) l0 x (l2 / 2) = some x := fun x => by
      conv => lhs; unfold fr_root_b6
      rw [if_pos hz2]
    rw [root_step hl]
    refine tot_if (fun hc => ?_) (fun hc => ?_)
    · rw [last]
      have hc := (root_cmp (by omega) (by omega)).mp hc
      rw [hm] at hc
      exact tot_some ⟨h1, by omega, hc⟩
    · rw [last]
      refine tot_some ⟨by omega, by omega, ?_⟩
      rw [hm, show l1.toInt + 1 + 1 = l1.toInt + 2 * 1 by omega]
      exact hv
  | succ k ih =>
    intro n l1 l2 hn h2 h1 hs hv
    obtain ⟨n, rfl⟩ : ∃ j, n = j + 1 := ⟨n - 1, by omega⟩
    have hp : (2 : Int) ^ (k + 1) = 2 * 2 ^ k := by rw [Int.pow_succ, Int.mul_comm]
    have h0 : (0 : Int) < 2 ^ k := Int.pow_pos (by decide)
    rw [hp] at h2 hs hv
    generalize hb : (2 : Int) ^ k = b at h2 hs hv h0 ih
    have h00 : (0 : Int32).toInt = 0 := by decide
    have hl : ¬ l2 ≤ 0 := fun q => by have := Int32.le_iff_toInt_le.mp q; omega
    have hm : (l1 + l2).toInt = l1.toInt + 2 * b := by rw [Int32.toInt_add, h2, bm32 (by omega) (by omega)]
    rw [root_step hl]
    refine tot_if (fun hc => ?_) (fun hc => ?_)
    · have hc := (root_cmp (by omega) (by omega)).mp hc
      rw [hm] at hc
      exact ih n l1 (l2 / 2) (by omega) (half h2 (by omega)) h1 (by omega) hc
    · refine ih n (l1 + l2) (l2 / 2) (by omega) (half h2 (by omega)) (by omega) (by omega) ?_
      rw [hm, show l1.toInt + 2 * b + 2 * b = l1.toInt + 2 * (2 * b) by omega]
      exact hv
theorem z_root {a0 : Int32} {far : Int} (h0 : 0 ≤ far) (h : far * far ≤ a0.toInt) : Tot (fr_root a0) (fun x => far ≤ x.toInt ∧ x.toInt ≤ 65535) := by
  unfold fr_root
  have h2 := Int32.toInt_lt a0
  refine tot_w (root_loop a0 15 16384 0 32768 (by decide) (by decide) (by decide) (by decide) ?_) (fun x hx => ⟨?_, hx.2.1⟩)
  · have e : ((0 : Int32).toInt + 2 * 2 ^ 15) * ((0 : Int32).toInt + 2 * 2 ^ 15) = 4294967296 := by decide
    rw [e]
    omega
  · obtain ⟨x0, x1, x2⟩ := hx
    by_cases q : far ≤ x.toInt
    · exact q
    · have q1 : x.toInt + 1 ≤ far := by omega
      have q2 := (imul_nn (x := x.toInt + 1) (by omega) q1 (y := x.toInt + 1) (by omega) q1).2
      omega
