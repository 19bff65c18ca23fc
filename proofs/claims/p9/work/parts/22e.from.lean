/-! answers of the scene alone: a delay to a point -/
section
variable {T T1 : AT} {S S1 : MS} {k1 : Nat} {r1 r2 : Int32}
theorem groot_step {n : Nat} {l0 l1 l2 : Int32} (h : ¬ l2 ≤ 0) : g_X11_root_b6 (n + 1) l0 l1 l2 = if l0 < (l1 + l2) * (l1 + l2) then g_X11_root_b6 n l0 l1 (l2 >>> (1 &&& 31)) else g_X11_root_b6 n l0 (l1 + l2) (l2 >>> (1 &&& 31)) := by
  conv => lhs; unfold g_X11_root_b6
  rw [if_neg h]
  rfl
theorem groot_cmp {l0 m : Int32} (h0 : 0 ≤ m.toInt) (h1 : m.toInt ≤ 32768) : l0 < m * m ↔ l0.toInt < m.toInt * m.toInt := by
  have q := imul_nn h0 h1 h0 h1
  rw [Int32.lt_iff_toInt_lt, Int32.toInt_mul, bm32 (by omega) (by omega)]
theorem shr_half {l2 : Int32} {c : Int} (h : l2.toInt = 2 * c) (h0 : 0 ≤ c) : l2 >>> (1 &&& 31) = l2 / 2 := by
  refine Int32.toInt_inj.mp ?_
  have q := i_shr (v := l2 >>> (1 &&& 31)) rfl
  have e := half h h0
  omega
theorem roots (l0 : Int32) : ∀ (k n n' : Nat) (l1 l2 : Int32), k + 2 ≤ n → k + 2 ≤ n' → l2.toInt = 2 ^ k → 0 ≤ l1.toInt → l1.toInt + 2 * 2 ^ k ≤ 32768 → fr_root_b6 n l0 l1 l2 = g_X11_root_b6 n' l0 l1 l2 := by
  intro k
  induction k with
  | zero =>
    intro n n' l1 l2 hn hn' h2 h1 hs
    obtain ⟨n, rfl⟩ : ∃ j, n = j + 2 := ⟨n - 2, by omega⟩
    obtain ⟨n', rfl⟩ : ∃ j, n' = j + 2 := ⟨n' - 2, by omega⟩
    have h2 : l2.toInt = 1 := h2
    have hs : l1.toInt + 2 * 1 ≤ 32768 := hs
    have e : l2 = 1 := Int32.toInt_inj.mp (by rw [h2]; decide)
    rw [e]
    have z1 : (1 : Int32).toInt = 1 := by decide
    have hm : (l1 + 1).toInt = l1.toInt + 1 := by rw [Int32.toInt_add, z1, bm32 (by omega) (by omega)]
    have la : ∀ x : Int32, fr_root_b6 (n + 1) l0 x 0 = some x := fun x => by
      conv => lhs; unfold fr_root_b6
      rw [if_pos (by decide)]
    have lb : ∀ x : Int32, g_X11_root_b6 (n' + 1) l0 x 0 = some x := fun x => by
      conv => lhs; unfold g_X11_root_b6
      rw [if_pos (by decide)]
    rw [root_step (by decide), groot_step (by decide), show (1 : Int32) / 2 = 0 by decide, show (1 : Int32) >>> (1 &&& 31) = 0 by decide, la, la, lb, lb]
    by_cases c : l0.toInt < (l1 + 1).toInt * (l1 + 1).toInt
    · rw [if_pos ((root_cmp (by omega) (by omega)).mpr c), if_pos ((groot_cmp (by omega) (by omega)).mpr c)]
    · rw [if_neg (fun q => c ((root_cmp (by omega) (by omega)).mp q)), if_neg (fun q => c ((groot_cmp (by omega) (by omega)).mp q))]
  | succ k ih =>
    intro n n' l1 l2 hn hn' h2 h1 hs
    obtain ⟨n, rfl⟩ : ∃ j, n = j + 1 := ⟨n - 1, by omega⟩
    obtain ⟨n', rfl⟩ : ∃ j, n' = j + 1 := ⟨n' - 1, by omega⟩
    have hp : (2 : Int) ^ (k + 1) = 2 * 2 ^ k := by rw [Int.pow_succ, Int.mul_comm]
    have h0 : (0 : Int) < 2 ^ k := Int.pow_pos (by decide)
    rw [hp] at h2 hs
    generalize hb : (2 : Int) ^ k = b at h2 hs h0 ih
    have h00 : (0 : Int32).toInt = 0 := by decide
    have hl : ¬ l2 ≤ 0 := fun q => by have := Int32.le_iff_toInt_le.mp q; omega
    have hm : (l1 + l2).toInt = l1.toInt + 2 * b := by rw [Int32.toInt_add, h2, bm32 (by omega) (by omega)]
    have hh := half h2 (by omega)
    rw [root_step hl, groot_step hl, shr_half h2 (by omega)]
    by_cases c : l0.toInt < (l1 + l2).toInt * (l1 + l2).toInt
    · rw [if_pos ((root_cmp (by omega) (by omega)).mpr c), if_pos ((groot_cmp (by omega) (by omega)).mpr c)]
      exact ih n n' l1 (l2 / 2) (by omega) (by omega) hh h1 (by omega)
    · rw [if_neg (fun q => c ((root_cmp (by omega) (by omega)).mp q)), if_neg (fun q => c ((groot_cmp (by omega) (by omega)).mp q))]
      exact ih n n' (l1 + l2) (l2 / 2) (by omega) (by omega) hh (by omega) (by omega)
theorem root_eq {a : Int32} (h : a.toInt < 1073741824) : fr_root a = g_X11_root a := by
  have e : fr_root a = fr_root_b6 (16383 + 1) a 0 32768 := rfl
  have z : ((0 : Int32) + 32768).toInt = 32768 := by decide
  rw [e, root_step (by decide), if_pos ((root_cmp (by decide) (by decide)).mpr (by rw [z]; exact h)), show (32768 : Int32) / 2 = 16384 by decide]
  exact roots a 14 16383 16384 0 16384 (by decide) (by decide) (by decide) (by decide) (by decide)
theorem k_from {s m : Nat} {a x y : Int32} (hP : PL (S.2.1 10)) (ha : 0 ≤ a.toInt) (ha2 : a.toInt < 12) (hx : -9999 ≤ x.toInt ∧ x.toInt ≤ 9999) (hy : -9999 ≤ y.toInt ∧ y.toInt ≤ 9999) (E0 : T.2.2.1 s 0 = S.2.1 10 0) (E1 : T.2.2.1 s 1 = S.2.1 10 1) (M0 : T.2.2.1 m 0 = S.2.1 10 (11 + a.toNatClampNeg)) (M1 : T.2.2.1 m 1 = S.2.1 10 (23 + a.toNatClampNeg)) (hg : g_X6_delayFrom T s m x y = some (r1, T1)) (hf : fr_delayFrom S a x y = some (r2, S1)) : S1 = S ∧ r1 = r2 := by
  unfold fr_delayFrom at hf
  obtain ⟨v2, d2, hf⟩ := elet_some hf
  obtain ⟨-, hf⟩ := oif_some hf
  obtain ⟨v4, d4, hf⟩ := elet_some hf
  rw [d2, cl_off (n := 11) (by decide) (by decide) ha (by omega)] at d4
  obtain ⟨v5, d5, hf⟩ := elet_some hf
  obtain ⟨v6, d6, hf⟩ := elet_some hf
  obtain ⟨-, hf⟩ := oif_some hf
  obtain ⟨v8, d8, hf⟩ := elet_some hf
  rw [d6, cl_off (n := 23) (by decide) (by decide) ha (by omega)] at d8
  obtain ⟨v9, d9, hf⟩ := elet_some hf
  obtain ⟨v10, d10, hf⟩ := elet_some hf
  obtain ⟨v11, d11, hf⟩ := elet_some hf
  obtain ⟨v12, d12, hf⟩ := elet_some hf
  obtain ⟨v13, d13, hf⟩ := elet_some hf
  obtain ⟨v14, d14, hf⟩ := elet_some hf
  obtain ⟨v15, d15, hf⟩ := elet_some hf
  obtain ⟨r16, f16, hf⟩ := obind_some hf
  obtain ⟨v18, d18, hf⟩ := elet_some hf
  obtain ⟨n18, hf⟩ := oif_some hf
  obtain ⟨v20, d20, hf⟩ := elet_some hf
  obtain ⟨v21, d21, hf⟩ := elet_some hf
  obtain ⟨n21, hf⟩ := oif_some hf
  obtain ⟨v23, d23, hf⟩ := elet_some hf
  obtain ⟨v24, d24, hf⟩ := elet_some hf
  have k0 := i_cl ha
  have b4 := hP.2.2.2.2.1 (11 + a.toNatClampNeg) (by omega) (by omega)
  have b8 := hP.2.2.2.2.1 (23 + a.toNatClampNeg) (by omega) (by omega)
  rw [← d4] at b4
  rw [← d8] at b8
  have b10 := hP.1.1
  rw [← d10] at b10
  have q5 := i_sub d5 (by omega) (by omega)
  have q9 := i_sub d9 (by omega) (by omega)
  have q11 := i_sq (b := 10499) d11 (by omega) (by omega) (by decide)
  have q12 := i_sq (b := 10499) d12 (by omega) (by omega) (by decide)
  have q14 := i_sq (b := 5000) d14 (by omega) (by omega) (by decide)
  have q13 := i_add d13 (by omega) (by omega)
  have q15 := i_add d15 (by omega) (by omega)
  rw [root_eq (by omega)] at f16
  unfold g_X6_delayFrom at hg
  obtain ⟨-, hg⟩ := oif_some hg
  obtain ⟨x3, t3, hg⟩ := elet_some hg
  obtain ⟨x4, t4, hg⟩ := elet_some hg
  obtain ⟨-, hg⟩ := oif_some hg
  obtain ⟨x6, t6, hg⟩ := elet_some hg
  obtain ⟨x7, t7, hg⟩ := elet_some hg
  obtain ⟨x8, t8, hg⟩ := elet_some hg
  obtain ⟨x9, t9, hg⟩ := elet_some hg
  obtain ⟨x10, t10, hg⟩ := elet_some hg
  obtain ⟨-, hg⟩ := oif_some hg
  obtain ⟨x12, t12, hg⟩ := elet_some hg
  obtain ⟨-, hg⟩ := oif_some hg
  obtain ⟨x14, t14, hg⟩ := elet_some hg
  obtain ⟨x15, t15, hg⟩ := elet_some hg
  obtain ⟨x16, t16, hg⟩ := elet_some hg
  obtain ⟨r17, g17, hg⟩ := obind_some hg
  obtain ⟨x19, t19, hg⟩ := elet_some hg
  obtain ⟨-, hg⟩ := oif_some hg
  obtain ⟨x21, t21, hg⟩ := elet_some hg
  obtain ⟨x22, t22, hg⟩ := elet_some hg
  obtain ⟨r23, g23, hg⟩ := obind_some hg
  obtain ⟨-, hg⟩ := oif_some hg
  obtain ⟨x26, t26, hg⟩ := elet_some hg
  obtain ⟨x27, t27, hg⟩ := elet_some hg
  obtain ⟨-, hg⟩ := oif_some hg
  obtain ⟨x29, t29, hg⟩ := elet_some hg
  obtain ⟨x30, t30, hg⟩ := elet_some hg
  obtain ⟨r31, g31, hg⟩ := obind_some hg
  obtain ⟨x33, t33, hg⟩ := elet_some hg
  obtain ⟨x34, t34, hg⟩ := elet_some hg
  have e4 : x4 = v5 := by rw [t4, t3, M0, d5, d4]
  have e7 : x7 = v9 := by rw [t7, t6, M1, d9, d8]
  have e16 : x16 = v15 := by rw [t16, t15, t14, t12, t10, t9, t8, e4, e7, E0, d15, d14, d13, d12, d11, d10]
  rw [e16, f16] at g17
  have e17 : r16 = r17 := Option.some.inj g17
  rw [t19, t22, t21, E1, ← d18, ← e17] at g23
  rw [t27, t26, t30, t29, E0, E1, ← d10, ← d21] at g31
  have u := a_quo n18 g23
  have w := a_quo n21 g31
  rw [← (osome2 hg).1, ← (osome2 hf).1, ← (osome2 hf).2, t34, t33, Int64.toInt32_sub, u, w, d24, d23, d20]
  exact ⟨rfl, rfl⟩
end
