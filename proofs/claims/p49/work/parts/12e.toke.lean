theorem tbytea {S : MS} (a0 : Int32) (h : TKa S) (g : 0 ≤ a0.toInt ∧ a0.toInt ≤ 1000) : Tot (fr_byteAt S a0) (fun r => r.2 = S ∧ ((S.1 3).toInt ≤ a0.toInt ∧ r.1.toInt = -1 ∨ a0.toInt < (S.1 3).toInt)) := by
  have z1 : (-1 : Int32).toInt = -1 := by decide
  unfold TKa at h
  unfold fr_byteAt
  refine tot_let (fun v2 e2 => ?_)
  have q2 := i_eq e2
  refine tot_if (fun c => ?_) (fun c => ?_)
  · replace c := i_le c
    exact tot_some ⟨rfl, .inl ⟨by omega, z1⟩⟩
  · replace c := i_nle c
    refine tot_oif (i_inb (by omega) (by omega)) ?_
    refine tot_let (fun v5 e5 => ?_)
    exact tot_some ⟨rfl, .inr (by omega)⟩
theorem tbyte {S : MS} (a0 : Int32) (h : TK S) (g : 0 ≤ a0.toInt ∧ a0.toInt ≤ 1000) : Tot (fr_byteAt S a0) (fun r => r.2 = S ∧ ((S.1 3).toInt ≤ a0.toInt ∧ r.1.toInt = -1 ∨ a0.toInt < (S.1 3).toInt)) := tbytea a0 h.a g
/-- as numbers -/
def TQ (S S1 : MS) (x4 x5 x7 x8 : Int) : Prop := (((S1.1 3).toInt = (S.1 3).toInt ∧ (S1.1 4).toInt = x4 ∧ (S1.1 5).toInt = x5) ∧ (S1.1 7).toInt = x7 ∧ (S1.1 8).toInt = x8) ∧ S1.2 = S.2
