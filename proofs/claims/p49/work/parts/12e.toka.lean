/-! Safety of the reference's tokens -/
def TK (S : MS) : Prop := ((0 ≤ (S.1 3).toInt ∧ (S.1 3).toInt ≤ 1000) ∧ 0 ≤ (S.1 4).toInt ∧ (S.1 4).toInt ≤ (S.1 3).toInt) ∧ (0 ≤ (S.1 5).toInt ∧ (S.1 5).toInt ≤ 5) ∧ (0 ≤ (S.1 7).toInt ∧ (S.1 7).toInt ≤ 4) ∧ 0 ≤ (S.1 8).toInt ∧ (S.1 8).toInt ≤ (S.1 4).toInt
def TKa (S : MS) : Prop := ((0 ≤ (S.1 3).toInt ∧ (S.1 3).toInt ≤ 1000) ∧ 0 ≤ (S.1 4).toInt ∧ (S.1 4).toInt ≤ (S.1 3).toInt) ∧ (0 ≤ (S.1 5).toInt ∧ (S.1 5).toInt ≤ 5) ∧ (0 ≤ (S.1 7).toInt ∧ (S.1 7).toInt ≤ 4)
