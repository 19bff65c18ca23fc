/-! answers of the scene alone: a delay to a point -/
section
variable {T T1 : AT} {S S1 : MS} {k1 : Nat} {r1 r2 : Int32}
theorem groot_step {n : Nat} {l0 l1 l2 : Int32} (h : ¬ l2 ≤ 0) : g_X11_root_b6 (n + 1) l0 l1 l2 = if l0 < (l1 + l2) * (l1 + l2) then g_X11_root_b6 n l0 l1 (l2 >>> (1 &&& 31)) else g_X11_root_b6 n l0 (l1 + l2) (l2 >>> (1 &&& 31)) := by
  conv => lhs; unfold g_X11_root_b6
  rw [if_neg h]
  rfl
theorem groot_cmp {l0 m : Int32} (h0 : 0 ≤ m.toInt) (h1 : m.toInt ≤ 32768) : l0 < m * m ↔ l0.toInt < m.toInt * m.toInt := by
  have q := imul_nn h0 h1 h0 h1
  rw [Int32.lt_iff_toInt_lt, Int32.toInt_mul, bm32 (by omega) (by omega)]
theorem shr_half {l2 : Int32} {c : Int} (h : l2.toInt = 2 * c) (h0 : 0 ≤ c) : l2 >>> (1 &&& 31) = l2 / 2 := by
  refine Int32.toInt_inj.mp ?_
  have q := i_shr (v := l2 >>> (1 &&& 31)) rfl
  have e := half h h0
  omega
theorem roots (l0 : Int32) : ∀ (k n n' : Nat) (l1 l2 : Int32), k + 2 ≤ n → k + 2 ≤ n' → l2.toInt = 2 ^ k → 0 ≤ l1.toInt → l1.toInt + 2 * 2 ^ k ≤ 32768 → fr_root_b6 n l0 l1 l2 = g_X11_root_b6 n' l0 l1 l2 := by
  intro k
  induction k with
  | zero =>
    intro n n' l1 l2 hn hn' h2 h1 hs
    obtain ⟨n, rfl⟩ : ∃ j, n = j + 2 := ⟨n - 2, by omega⟩
    obtain ⟨n', rfl⟩ : ∃ j, n' = j + 2 := ⟨n' - 2, by omega⟩
    have h2 : l2.toInt = 1 := h2
    have hs : l1.toInt + 2 * 1 ≤ 32768 := hs
    have e : l2 = 1 := Int32.toInt_inj.mp (by rw [h2]; decide)
    rw [e]
    have z1 : (1 : Int32).toInt = 1 := by decide
    have hm : (l1 + 1).toInt = l1.toInt + 1 := by rw [Int32.toInt_add, z1, bm32 (by omega) (by omega)]
    have la : ∀ x : Int32, fr_root_b6 (n + 1) l0 x 0 = some x := fun x => by
      conv => lhs; unfold fr_root_b6
      rw [if_pos (by decide)]
    have lb : ∀ x : Int32, g_X11_root_b6 (n' + 1) l0 x 0 = some x := fun x => by
      conv => lhs; unfold g_X11_root_b6
      rw [if_pos (by decide)]
    rw [root_step (by decide), groot_step (by decide), show (1 : Int32) / 2 = 0 by decide, show (1 : Int32) >>> (1 &&& 31) = 0 by decide, la, la, lb, lb]
    by_cases c : l0.toInt < (l1 + 1).toInt * (l1 + 1).toInt
    · rw [if_pos ((root_cmp (by omega) (by omega)).mpr c), if_pos ((groot_cmp (by omega) (by omega)).mpr c)]
    · rw [if_neg (fun q => c ((root_cmp (by omega) (by omega)).mp q)), if_neg (fun q => c ((groot_cmp (by omega) (by omega)).mp q))]
  | succ k ih =>
    intro n n' l1 l2 hn hn' h2 h1 hs
    obtain ⟨n, rfl⟩ : ∃ j, n = j + 1 := ⟨n - 1, by omega⟩
    obtain ⟨n', rfl⟩ : ∃ j, n' = j + 1 := ⟨n' - 1, by omega⟩
    have hp : (2 : Int) ^ (k + 1) = 2 * 2 ^ k := by rw [Int.pow_succ, Int.mul_comm]
    have h0 : (0 : Int) < 2 ^ k := Int.pow_pos (by decide)
    rw [hp] at h2 hs
    generalize hb : (2 : Int) ^ k = b at h2 hs h0 ih
    have h00 : (0 : Int32).toInt = 0 := by decide
    have hl : ¬ l2 ≤ 0 := fun q => by have := Int32.le_iff_toInt_le.mp q; omega
    have hm : (l1 + l2).toInt = l1.toInt + 2 * b := by rw [Int32.toInt_add, h2, bm32 (by omega) (by omega)]
    have hh := half h2 (by omega)
    rw [root_step hl, groot_step hl, shr_half h2 (by omega)]
    by_cases c : l0.toInt < (l1 + l2).toInt * (l1 + l2).toInt
    · rw [if_pos ((root_cmp (by omega) (by omega)).mpr c), if_pos ((groot_cmp (by omega) (by omega)).mpr c)]
      exact ih n n' l1 (l2 / 2) (by omega) (by omega) hh h1 (by omega)
    · rw [if_neg (fun q => c ((root_cmp (by omega) (by omega)).mp q)), if_neg (fun q => c ((groot_cmp (by omega) (by omega)).mp q))]
      exact ih n n' (l1 + l2) (l2 / 2) (by omega) (by omega) hh (by omega) (by omega)
theorem root_eq {a : Int32} (h : a.toInt < 1073741824) : fr_root a = g_X11_root a := by
  have e : fr_root a = fr_root_b6 (16383 + 1) a 0 32768 := rfl
  have z : ((0 : Int32) + 32768).toInt = 32768 := by decide
  rw [e, root_step (by decide), if_pos ((root_cmp (by decide) (by decide)).mpr (by rw [z]; exact h)), show (32768 : Int32) / 2 = 16384 by decide]
  exact roots a 14 16383 16384 0 16384 (by decide) (by decide) (by decide) (by decide) (by decide)
end
