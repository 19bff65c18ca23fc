/-- what nextToken gives where it works: the code stays, a sign costs a byte -/
def NX (S S1 : MS) : Prop := KP S S1 ∧ (S1.1 5).toInt = (S.1 5).toInt ∧ ((S1.1 7).toInt = 4 → (S.1 4).toInt < (S1.1 4).toInt)
theorem tfaults {S : MS} (a0 : Int32) (h : TK S) (g : 1 ≤ a0.toInt ∧ a0.toInt ≤ 5) : Tot (fr_faults S a0) (fun S1 => KP S S1 ∧ 0 < (S1.1 5).toInt) := by
  have z0 : (0 : Int32).toInt = 0 := by decide
  unfold fr_faults
  refine tot_let (fun v2 e2 => ?_)
  have q2 := i_eq e2
  refine tot_if (fun c => ?_) (fun c => ?_)
  · replace c := i_le c
    refine tot_let (fun S4 e4 => ?_)
    have q4 := tq_5 e4
    refine tot_let (fun v5 e5 => ?_)
    refine tot_let (fun S6 e6 => ?_)
    have q6 := tq_6 e6
    unfold TQ at q4 q6
    refine tot_some ⟨⟨⟨?_, ?_⟩, q6.2.trans q4.2⟩, ?_⟩
    · unfold TK at *; omega
    · omega
    · omega
  · replace c := i_nle c
    exact tot_some ⟨KP.rf h, by omega⟩
theorem tword : ∀ (n : Nat) (S : MS), TK S → 1000 - (S.1 4).toInt < (n : Int) → Tot (fr_nextToken_b79 n S) (fun S1 => NX S S1) := by
  have z0 : (0 : Int32).toInt = 0 := by decide
  have z1 : (1 : Int32).toInt = 1 := by decide
  have z2 : (2 : Int32).toInt = 2 := by decide
  have z8 : (8 : Int32).toInt = 8 := by decide
  have z97 : (97 : Int32).toInt = 97 := by decide
  have z122 : (122 : Int32).toInt = 122 := by decide
  intro n
  induction n with
  | zero =>
    intro S h hm
    unfold TK at h
    exfalso
    omega
  | succ n ih =>
    intro S h hm
    have h' := h
    unfold TK at h'
    unfold fr_nextToken_b79
    refine tot_let (fun v2 e2 => ?_)
    have q2 := i_eq e2
    refine tot_bindp (R := fun r : Int32 => (S.1 3).toInt ≤ v2.toInt ∧ r.toInt = -1 ∨ v2.toInt < (S.1 3).toInt) (tbyte v2 h (by omega)) (fun r6 d6 => ?_)
    replace d6 : (S.1 3).toInt ≤ v2.toInt ∧ r6.toInt = -1 ∨ v2.toInt < (S.1 3).toInt := d6
    refine tot_bind (tin r6 97 122) (fun r7 d7 => ?_)
    refine tot_if (fun c => ?_) (fun c => ?_)
    · refine tot_let (fun v10 e10 => ?_)
      refine tot_let (fun v11 e11 => ?_)
      refine tot_let (fun v12 e12 => ?_)
      refine tot_if (fun c => ?_) (fun c => ?_)
      · unfold fr_nextToken_b130 fr_nextToken_b292
        refine tot_let (fun S2 e => ?_)
        have q := tq_7 e
        unfold TQ at q
        refine tot_some ⟨⟨⟨?_, ?_⟩, q.2⟩, ?_⟩
        · unfold TK; omega
        · omega
        · omega
      · unfold fr_nextToken_b130 fr_nextToken_b292
        refine tot_let (fun S2 e => ?_)
        have q := tq_7 e
        unfold TQ at q
        refine tot_some ⟨⟨⟨?_, ?_⟩, q.2⟩, ?_⟩
        · unfold TK; omega
        · omega
        · omega
    · replace c := i_ne c
      refine tot_let (fun v14 e14 => ?_)
      have q14 := i_eq e14
      refine tot_let (fun v15 e15 => ?_)
      have q15 := i_add e15 (by omega) (by omega)
      refine tot_let (fun S16 e16 => ?_)
      have q16 := tq_4 e16
      unfold TQ at q16
      have h16 : TK S16 := by unfold TK; omega
      refine tot_w (ih S16 h16 (by omega)) (fun S1 k => ?_)
      refine ⟨KP.tr (S1 := S16) ⟨⟨h16, by omega⟩, q16.2⟩ k.1, ?_⟩
      have k1 := k.2
      omega
