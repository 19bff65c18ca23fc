theorem rtg_hi {r k : Nat} (h : 150 ≤ k) : rtg r k = 99 := by
  have b : ∀ m, m < 150 → Nat.beq k m = false := fun m hm => nbeq (by omega)
  have c : ∀ m, m < 150 → Nat.blt k m = false := fun m hm => by
    unfold Nat.blt
    exact Bool.eq_false_iff.mpr (fun q => by have := Nat.le_of_ble_eq_true q; omega)
  unfold rtg
  simp only [b _ (show 0 < 150 by decide), b _ (show 1 < 150 by decide), b _ (show 2 < 150 by decide), b _ (show 3 < 150 by decide), b _ (show 4 < 150 by decide), b _ (show 5 < 150 by decide), b _ (show 6 < 150 by decide), b _ (show 7 < 150 by decide), b _ (show 8 < 150 by decide), b _ (show 9 < 150 by decide), b _ (show 10 < 150 by decide), b _ (show 11 < 150 by decide), b _ (show 12 < 150 by decide), b _ (show 13 < 150 by decide), b _ (show 14 < 150 by decide), b _ (show 15 < 150 by decide), b _ (show 17 < 150 by decide), c _ (show 2 < 150 by decide), c _ (show 4 < 150 by decide), c _ (show 6 < 150 by decide), c _ (show 12 < 150 by decide), c _ (show 40 < 150 by decide), c _ (show 144 < 150 by decide), cond_false, Bool.cond_self]
def zR (p : Int × Int) : Prop := p.1 ≤ 0 ∧ 0 ≤ p.2
theorem zR_c {c : Bool} {a b : Int × Int} (h : zR a) (k : zR b) : zR (bif c then a else b) := by
  cases c
  · exact k
  · exact h
theorem iR_zero {r k : Nat} (h : isW r = false) : zR (iR r k) := by
  unfold iR
  rw [h]
  simp only [cond_false]
  repeat' first | (exact ⟨by decide, by decide⟩) | refine zR_c ?_ ?_
theorem fviR_ok (r k : Nat) : (iR r k).1 ≤ (fviR r k).toInt ∧ (fviR r k).toInt ≤ (iR r k).2 := by
  cases h : isW r with
  | true =>
    have hc : r = 101 ∨ r = 102 ∨ r = 103 ∨ r = 104 ∨ r = 105 := by
      unfold isW at h
      have b1 := Nat.le_of_ble_eq_true ((Bool.and_eq_true _ _).mp h).1
      have b2 := Nat.le_of_ble_eq_true ((Bool.and_eq_true _ _).mp h).2
      omega
    by_cases k0 : k = 0
    · subst k0
      rcases hc with rfl | rfl | rfl | rfl | rfl <;> decide
    · by_cases k2 : k = 2
      · subst k2
        rcases hc with rfl | rfl | rfl | rfl | rfl <;> decide
      · have e0 : Nat.beq k 0 = false := nbeq k0
        have e2 : Nat.beq k 2 = false := nbeq k2
        unfold iR fviR
        rw [h]
        simp only [cond_true]
        rw [e0, e2]
        simp only [cond_false]
        decide
  | false =>
    by_cases h3 : r = 3
    · subst h3
      by_cases k3 : k = 3
      · subst k3
        decide
      · have e3 : Nat.beq k 3 = false := nbeq k3
        have z : fviR 3 k = 0 := by
          show (bif Nat.beq k 3 then (-1 : Int32) else 0) = 0
          rw [e3]
          rfl
        rw [z]
        exact iR_zero h
    · have z : fviR r k = 0 := by
        unfold fviR
        rw [h, nbeq h3]
        rfl
      rw [z]
      exact iR_zero h
def aK1 : Nat := 1586 + zt aR0 aT0 w1 1586
def aK2 : Nat := sg aT0 + zt aR0 aT0 wC 1586
