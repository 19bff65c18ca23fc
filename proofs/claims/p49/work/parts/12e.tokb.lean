theorem TK.a {S : MS} (h : TK S) : TKa S := ⟨h.1, h.2.1, h.2.2.1⟩
/-- what reading a token leaves: the scalars alone -/
def KS (S S1 : MS) : Prop := TK S1 ∧ ((0 < (S.1 5).toInt → 0 < (S1.1 5).toInt) ∧ (S.1 4).toInt ≤ (S1.1 4).toInt ∧ ((S1.1 7).toInt = 4 → (S.1 7).toInt = 4 ∨ (S.1 4).toInt < (S1.1 4).toInt))
def KP (S S1 : MS) : Prop := KS S S1 ∧ S1.2 = S.2
