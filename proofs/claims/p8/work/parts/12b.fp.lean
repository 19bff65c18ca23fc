/-! the quotient of two whole numbers as floats is a number, where the divisor isn't 0 -/
theorem fp_ok (a b : Int64) (hb : ¬ b = 0) : FP.fdiv (FP.l2f a) (FP.l2f b) &&& 0x7fffffff ≤ 0x7f800000 := by
  have hi : ∀ x : Int64, x.toInt.natAbs ≤ 2 ^ 63 := fun x => by
    have h1 := Int64.le_toInt x
    have h2 := Int64.toInt_lt x
    omega
  have hl : ∀ x : Int64, (FP.Core.l2f x).toNat = FP.Core.fromInt FP.Core.b32 x.toInt := fun x => FP.Core.toNat_of32 (FP.Core.round_fits FP.Core.good_b32 _)
  have hb0 : b.toInt ≠ 0 := fun q => hb (Int64.toInt_inj.mp (by rw [q]; decide))
  have hx := FP.Core.int_mag FP.Core.good_b32 (K := 190) (hi a) (by decide) (by rw [FP.Core.p_b32, FP.Core.qmin_b32]; decide)
  have hy := FP.Core.int_mag FP.Core.good_b32 (K := 190) (hi b) (by decide) (by rw [FP.Core.p_b32, FP.Core.qmin_b32]; decide)
  have hz := FP.Core.int_mag_ge FP.Core.good_b32 (K := 127) hb0 (by decide) (by decide) (by rw [FP.Core.p_b32, FP.Core.qmin_b32]; decide)
  rw [← hl, FP.Core.tails_b32] at hx hy hz
  have h1 : (FP.Core.fdiv (FP.Core.l2f a) (FP.Core.l2f b)).toNat = FP.Core.div FP.Core.b32 (FP.Core.l2f a).toNat (FP.Core.l2f b).toNat := FP.Core.toNat_of32 (FP.Core.quotient_fits FP.Core.good_b32 _ _)
  have h2 := FP.Core.div_mag FP.Core.good_b32 (x := (FP.Core.l2f a).toNat) (y := (FP.Core.l2f b).toNat) (Ka := 191) (L := 127) (K := 191) (by rw [FP.Core.tails_b32]; omega) (by rw [FP.Core.tails_b32]; omega) (by rw [FP.Core.infBits_b32]; omega) (by decide) (by decide) (by decide) (by rw [FP.Core.p_b32, FP.Core.qmin_b32]; decide)
  rw [← h1, FP.Core.mag_toNat32, FP.Core.tails_b32] at h2
  show FP.Core.fdiv (FP.Core.l2f a) (FP.Core.l2f b) &&& 0x7fffffff ≤ 0x7f800000
  generalize FP.Core.fdiv (FP.Core.l2f a) (FP.Core.l2f b) = z at h2
  rw [UInt32.le_iff_toNat_le, UInt32.toNat_and]
  have h3 : (0x7fffffff : UInt32).toNat = 2 ^ 31 - 1 := by decide
  have h4 : (0x7f800000 : UInt32).toNat = 2139095040 := by decide
  rw [h3, h4, Nat.and_two_pow_sub_one_eq_mod]
  omega
