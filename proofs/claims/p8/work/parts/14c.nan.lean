/-! the quotient that contrast answers is a number, as a double too -/
theorem nn_f2d {r : UInt32} (h : r &&& 0x7fffffff ≤ 0x7f800000) : vf_n64 (FP.f2d r) := by
  have h1 : FP.Core.fIsNaN r = false := by
    rw [← Bool.not_eq_true, FP.Core.isNaN_bits32]
    rw [UInt32.le_iff_toNat_le, UInt32.toNat_and, show (0x7fffffff : UInt32).toNat = 2 ^ 31 - 1 from by decide, show (0x7f800000 : UInt32).toNat = 2139095040 from by decide, Nat.and_two_pow_sub_one_eq_mod] at h
    omega
  have h2 : FP.Core.dIsNaN (FP.f2d r) = false := (FP.f2d_nan r).trans h1
  rw [← Bool.not_eq_true, FP.Core.isNaN_bits] at h2
  unfold vf_n64
  rw [UInt64.le_iff_toNat_le, UInt64.toNat_and, show (0x7fffffffffffffff : UInt64).toNat = 2 ^ 63 - 1 from by decide, show (0x7ff0000000000000 : UInt64).toNat = 9218868437227405312 from by decide, Nat.and_two_pow_sub_one_eq_mod]
  omega
theorem nn_ratio30 {r : UInt32} {T1 : AT} : ∀ (n : Nat) (T : AT) (l0 : Nat) (l1 : Int32) (l4 : UInt32) (l5 : Int32), l4 &&& 0x7fffffff ≤ 0x7f800000 → g_X10_ratio_b30 n T l0 l1 l4 l5 = some (r, T1) → r &&& 0x7fffffff ≤ 0x7f800000
  | 0, _, _, _, _, _, _, h => by
    unfold g_X10_ratio_b30 at h
    cases h
  | n + 1, T, l0, l1, l4, l5, h4, h => by
    have ih := nn_ratio30 (r := r) (T1 := T1) n
    unfold g_X10_ratio_b30 at h
    obtain ⟨-, h⟩ := oif_some h
    obtain ⟨r5, T3, -, h⟩ := obind2_some h
    by_cases c : r5 ≤ l5
    · rw [if_pos c] at h
      rw [← (osome2 h).1]
      exact h4
    · rw [if_neg c] at h
      obtain ⟨g, h⟩ := oif_some h
      obtain ⟨v9, e9, h⟩ := elet_some h
      obtain ⟨v10, -, h⟩ := elet_some h
      exact ih T3 l0 l1 v9 v10 (by rw [e9]; exact g) h
theorem nn_ratio {T : AT} {o : Nat} {a0 a1 : Int32} {r : UInt32} {T1 : AT} (h : g_X10_ratio T o a0 a1 = some (r, T1)) : r &&& 0x7fffffff ≤ 0x7f800000 := by
  unfold g_X10_ratio at h
  obtain ⟨-, h⟩ := oif_some h
  obtain ⟨r5, T3, -, h⟩ := obind2_some h
  obtain ⟨v7, -, h⟩ := elet_some h
  by_cases c : v7 = 0
  · rw [if_pos c] at h
    rw [← (osome2 h).1]
    decide
  · rw [if_neg c] at h
    obtain ⟨-, h⟩ := oif_some h
    obtain ⟨r12, T10, -, h⟩ := obind2_some h
    obtain ⟨g, h⟩ := oif_some h
    obtain ⟨v15, e15, h⟩ := elet_some h
    obtain ⟨-, h⟩ := oif_some h
    obtain ⟨r19, T17, -, h⟩ := obind2_some h
    exact nn_ratio30 _ _ _ _ _ _ (by rw [e15]; exact g) h
theorem nn_contrast {T : AT} {o : Nat} {r : UInt32} {T1 : AT} (h : g_X11_contrast T o = some (0, r, T1)) : vf_n64 (FP.f2d r) := by
  refine nn_f2d ?_
  unfold g_X11_contrast at h
  obtain ⟨-, h⟩ := oif_some h
  obtain ⟨r5, T3, -, h⟩ := othr_n h
  obtain ⟨-, h⟩ := oif_some h
  obtain ⟨r9, T8, -, h⟩ := obind2_some h
  obtain ⟨-, h⟩ := oif_some h
  unfold g_X11_contrast_b8 at h
  obtain ⟨-, h⟩ := oif_some h
  obtain ⟨n3, -, h⟩ := obind_some h
  obtain ⟨-, h⟩ := oif_some h
  obtain ⟨n5, -, h⟩ := obind_some h
  obtain ⟨-, h⟩ := oif_some h
  obtain ⟨r10, T7, -, h⟩ := obind2_some h
  obtain ⟨-, h⟩ := oif_some h
  obtain ⟨r14, T12, -, h⟩ := obind2_some h
  by_cases c : r14 = (-1)
  · rw [if_pos c] at h
    unfold g_X11_contrast_b45 at h
    rw [← (osome3 h).2.1]
    decide
  · rw [if_neg c] at h
    obtain ⟨-, h⟩ := oif_some h
    obtain ⟨n18, -, h⟩ := obind_some h
    obtain ⟨-, h⟩ := oif_some h
    obtain ⟨v20, -, h⟩ := elet_some h
    obtain ⟨-, h⟩ := oif_some h
    obtain ⟨r24, T22, e, h⟩ := obind2_some h
    unfold g_X11_contrast_b45 at h
    rw [← (osome3 h).2.1]
    exact nn_ratio e
