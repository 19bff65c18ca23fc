/-! Safety by hand: the last eight bits, four -/
theorem rg_and (x : Int32) : rg (x &&& 255) 0 255 := by
  have h1 : (x &&& 255).toBitVec.toNat ≤ 255 := by
    rw [Int32.toBitVec_and, BitVec.toNat_and]
    exact Nat.le_trans Nat.and_le_right (by decide)
  have h2 : (x &&& 255).toInt = ((x &&& 255).toBitVec.toNat : Int) := BitVec.toInt_eq_toNat_of_lt (by omega)
  unfold rg
  omega
theorem four_step {n : Nat} {S : MS} {l1 l2 : Int32} {b : Int} (hb : rg (S.1 2) 0 b) (h9 : b ≤ 999) (hl : ¬ l2 < 0) : fr_four_b3 (n + 1) S l1 l2 = fr_four_b3 n (mi (mf S 1 (upd (S.2.1 1) (S.1 2).toNatClampNeg (l1 >>> (l2 &&& 31) &&& 255))) 2 (S.1 2 + 1)) l1 (l2 + Int32.ofInt (-8)) := by
  have hi : inb (S.1 2) 1000 = true := rg_inb hb (Int.le_refl 0) (by omega)
  conv => lhs; unfold fr_four_b3
  rw [if_neg hl]
  show oif (inb (S.1 2) 1000 = true) _ = _
  unfold oif
  rw [if_pos hi]
  rfl
