/-! Safety of the reference's tokens -/
def TK (S : MS) : Prop := ((0 ≤ (S.1 3).toInt ∧ (S.1 3).toInt ≤ 1000) ∧ 0 ≤ (S.1 4).toInt ∧ (S.1 4).toInt ≤ (S.1 3).toInt) ∧ (0 ≤ (S.1 5).toInt ∧ (S.1 5).toInt ≤ 5) ∧ (0 ≤ (S.1 7).toInt ∧ (S.1 7).toInt ≤ 4) ∧ 0 ≤ (S.1 8).toInt ∧ (S.1 8).toInt ≤ (S.1 4).toInt
def TKa (S : MS) : Prop := ((0 ≤ (S.1 3).toInt ∧ (S.1 3).toInt ≤ 1000) ∧ 0 ≤ (S.1 4).toInt ∧ (S.1 4).toInt ≤ (S.1 3).toInt) ∧ (0 ≤ (S.1 5).toInt ∧ (S.1 5).toInt ≤ 5) ∧ (0 ≤ (S.1 7).toInt ∧ (S.1 7).toInt ≤ 4)
theorem TK.a {S : MS} (h : TK S) : TKa S := ⟨h.1, h.2.1, h.2.2.1⟩
/-- what reading a token leaves: the scalars alone -/
def KS (S S1 : MS) : Prop := TK S1 ∧ ((0 < (S.1 5).toInt → 0 < (S1.1 5).toInt) ∧ (S.1 4).toInt ≤ (S1.1 4).toInt ∧ ((S1.1 7).toInt = 4 → (S.1 7).toInt = 4 ∨ (S.1 4).toInt < (S1.1 4).toInt))
def KP (S S1 : MS) : Prop := KS S S1 ∧ S1.2 = S.2
theorem KS.tr {S S1 S2 : MS} (h : KS S S1) (k : KS S1 S2) : KS S S2 := ⟨k.1, by
  have h1 := h.2
  have k1 := k.2
  omega⟩
theorem KP.tr {S S1 S2 : MS} (h : KP S S1) (k : KP S1 S2) : KP S S2 := ⟨h.1.tr k.1, k.2.trans h.2⟩
theorem KS.rf {S : MS} (h : TK S) : KS S S := ⟨h, by omega⟩
theorem KP.rf {S : MS} (h : TK S) : KP S S := ⟨KS.rf h, rfl⟩
theorem tin (a0 a1 a2 : Int32) : Tot (fr_in a0 a1 a2) (fun r => r.toInt = 0 ∧ (a0.toInt < a1.toInt ∨ a2.toInt < a0.toInt) ∨ r.toInt = 1 ∧ a1.toInt ≤ a0.toInt ∧ a0.toInt ≤ a2.toInt) := by
  have z0 : (0 : Int32).toInt = 0 := by decide
  have z1 : (1 : Int32).toInt = 1 := by decide
  unfold fr_in fr_in_b14 fr_in_b15
  refine tot_if (fun c => ?_) (fun c => ?_)
  · replace c := i_lt c
    exact tot_oif (.inl rfl) (tot_some (by omega))
  · replace c := i_nlt c
    refine tot_if (fun c2 => ?_) (fun c2 => ?_)
    · replace c2 := i_lt c2
      exact tot_oif (.inl rfl) (tot_some (by omega))
    · replace c2 := i_nlt c2
      exact tot_oif (.inr rfl) (tot_some (by omega))
theorem tsign (a0 : Int32) : Tot (fr_isSign a0) (fun _ => True) := by
  have h1 : Tot (fr_isSign_b42) (fun _ => True) := by
    unfold fr_isSign_b42 fr_isSign_b47
    exact tot_oif (.inr rfl) (tot_some trivial)
  unfold fr_isSign
  refine tot_if (fun _ => h1) (fun _ => tot_if (fun _ => h1) (fun _ => tot_if (fun _ => h1) (fun _ => tot_if (fun _ => h1) (fun _ => tot_if (fun _ => h1) (fun _ => tot_if (fun _ => h1) (fun _ => tot_if (fun _ => h1) (fun _ => ?_)))))))
  unfold fr_isSign_b47
  exact tot_oif (.inl rfl) (tot_some trivial)
theorem tbytea {S : MS} (a0 : Int32) (h : TKa S) (g : 0 ≤ a0.toInt ∧ a0.toInt ≤ 1000) : Tot (fr_byteAt S a0) (fun r => r.2 = S ∧ ((S.1 3).toInt ≤ a0.toInt ∧ r.1.toInt = -1 ∨ a0.toInt < (S.1 3).toInt)) := by
  have z1 : (-1 : Int32).toInt = -1 := by decide
  unfold TKa at h
  unfold fr_byteAt
  refine tot_let (fun v2 e2 => ?_)
  have q2 := i_eq e2
  refine tot_if (fun c => ?_) (fun c => ?_)
  · replace c := i_le c
    exact tot_some ⟨rfl, .inl ⟨by omega, z1⟩⟩
  · replace c := i_nle c
    refine tot_oif (i_inb (by omega) (by omega)) ?_
    refine tot_let (fun v5 e5 => ?_)
    exact tot_some ⟨rfl, .inr (by omega)⟩
theorem tbyte {S : MS} (a0 : Int32) (h : TK S) (g : 0 ≤ a0.toInt ∧ a0.toInt ≤ 1000) : Tot (fr_byteAt S a0) (fun r => r.2 = S ∧ ((S.1 3).toInt ≤ a0.toInt ∧ r.1.toInt = -1 ∨ a0.toInt < (S.1 3).toInt)) := tbytea a0 h.a g
/-- as numbers -/
def TQ (S S1 : MS) (x4 x5 x7 x8 : Int) : Prop := (((S1.1 3).toInt = (S.1 3).toInt ∧ (S1.1 4).toInt = x4 ∧ (S1.1 5).toInt = x5) ∧ (S1.1 7).toInt = x7 ∧ (S1.1 8).toInt = x8) ∧ S1.2 = S.2
theorem tq_4 {S S1 : MS} {v : Int32} (e : S1 = mi S 4 v) : TQ S S1 v.toInt (S.1 5).toInt (S.1 7).toInt (S.1 8).toInt := by rw [e]; exact ⟨⟨⟨rfl, rfl, rfl⟩, rfl, rfl⟩, rfl⟩
theorem tq_5 {S S1 : MS} {v : Int32} (e : S1 = mi S 5 v) : TQ S S1 (S.1 4).toInt v.toInt (S.1 7).toInt (S.1 8).toInt := by rw [e]; exact ⟨⟨⟨rfl, rfl, rfl⟩, rfl, rfl⟩, rfl⟩
theorem tq_6 {S S1 : MS} {v : Int32} (e : S1 = mi S 6 v) : TQ S S1 (S.1 4).toInt (S.1 5).toInt (S.1 7).toInt (S.1 8).toInt := by rw [e]; exact ⟨⟨⟨rfl, rfl, rfl⟩, rfl, rfl⟩, rfl⟩
theorem tq_7 {S S1 : MS} {v : Int32} (e : S1 = mi S 7 v) : TQ S S1 (S.1 4).toInt (S.1 5).toInt v.toInt (S.1 8).toInt := by rw [e]; exact ⟨⟨⟨rfl, rfl, rfl⟩, rfl, rfl⟩, rfl⟩
theorem tq_8 {S S1 : MS} {v : Int32} (e : S1 = mi S 8 v) : TQ S S1 (S.1 4).toInt (S.1 5).toInt (S.1 7).toInt v.toInt := by rw [e]; exact ⟨⟨⟨rfl, rfl, rfl⟩, rfl, rfl⟩, rfl⟩
theorem tq_9 {S S1 : MS} {v : Int32} (e : S1 = mi S 9 v) : TQ S S1 (S.1 4).toInt (S.1 5).toInt (S.1 7).toInt (S.1 8).toInt := by rw [e]; exact ⟨⟨⟨rfl, rfl, rfl⟩, rfl, rfl⟩, rfl⟩
/-- what nextToken gives where it works: the code stays, a sign costs a byte -/
def NX (S S1 : MS) : Prop := KP S S1 ∧ (S1.1 5).toInt = (S.1 5).toInt ∧ ((S1.1 7).toInt = 4 → (S.1 4).toInt < (S1.1 4).toInt)
theorem tfaults {S : MS} (a0 : Int32) (h : TK S) (g : 1 ≤ a0.toInt ∧ a0.toInt ≤ 5) : Tot (fr_faults S a0) (fun S1 => KP S S1 ∧ 0 < (S1.1 5).toInt) := by
  have z0 : (0 : Int32).toInt = 0 := by decide
  unfold fr_faults
  refine tot_let (fun v2 e2 => ?_)
  have q2 := i_eq e2
  refine tot_if (fun c => ?_) (fun c => ?_)
  · replace c := i_le c
    refine tot_let (fun S4 e4 => ?_)
    have q4 := tq_5 e4
    refine tot_let (fun v5 e5 => ?_)
    refine tot_let (fun S6 e6 => ?_)
    have q6 := tq_6 e6
    unfold TQ at q4 q6
    refine tot_some ⟨⟨⟨?_, ?_⟩, q6.2.trans q4.2⟩, ?_⟩
    · unfold TK at *; omega
    · omega
    · omega
  · replace c := i_nle c
    exact tot_some ⟨KP.rf h, by omega⟩
theorem tword : ∀ (n : Nat) (S : MS), TK S → 1000 - (S.1 4).toInt < (n : Int) → Tot (fr_nextToken_b79 n S) (fun S1 => NX S S1) := by
  have z0 : (0 : Int32).toInt = 0 := by decide
  have z1 : (1 : Int32).toInt = 1 := by decide
  have z2 : (2 : Int32).toInt = 2 := by decide
  have z8 : (8 : Int32).toInt = 8 := by decide
  have z97 : (97 : Int32).toInt = 97 := by decide
  have z122 : (122 : Int32).toInt = 122 := by decide
  intro n
  induction n with
  | zero =>
    intro S h hm
    unfold TK at h
    exfalso
    omega
  | succ n ih =>
    intro S h hm
    have h' := h
    unfold TK at h'
    unfold fr_nextToken_b79
    refine tot_let (fun v2 e2 => ?_)
    have q2 := i_eq e2
    refine tot_bindp (R := fun r : Int32 => (S.1 3).toInt ≤ v2.toInt ∧ r.toInt = -1 ∨ v2.toInt < (S.1 3).toInt) (tbyte v2 h (by omega)) (fun r6 d6 => ?_)
    replace d6 : (S.1 3).toInt ≤ v2.toInt ∧ r6.toInt = -1 ∨ v2.toInt < (S.1 3).toInt := d6
    refine tot_bind (tin r6 97 122) (fun r7 d7 => ?_)
    refine tot_if (fun c => ?_) (fun c => ?_)
    · clear d6 d7
      refine tot_let (fun v10 e10 => ?_)
      refine tot_let (fun v11 e11 => ?_)
      refine tot_let (fun v12 e12 => ?_)
      refine tot_if (fun c => ?_) (fun c => ?_)
      · unfold fr_nextToken_b130 fr_nextToken_b292
        refine tot_let (fun S2 e => ?_)
        have q := tq_7 e
        unfold TQ at q
        refine tot_some ⟨⟨⟨?_, ?_⟩, q.2⟩, ?_⟩
        · unfold TK; omega
        · omega
        · omega
      · unfold fr_nextToken_b130 fr_nextToken_b292
        refine tot_let (fun S2 e => ?_)
        have q := tq_7 e
        unfold TQ at q
        refine tot_some ⟨⟨⟨?_, ?_⟩, q.2⟩, ?_⟩
        · unfold TK; omega
        · omega
        · omega
    · replace c := i_ne c
      have hlt : (S.1 4).toInt < (S.1 3).toInt := by omega
      clear d6 d7
      refine tot_let (fun v14 e14 => ?_)
      have q14 := i_eq e14
      refine tot_let (fun v15 e15 => ?_)
      have q15 := i_add e15 (by omega) (by omega)
      refine tot_let (fun S16 e16 => ?_)
      have q16 := tq_4 e16
      unfold TQ at q16
      have h16 : TK S16 := by unfold TK; omega
      refine tot_w (ih S16 h16 (by omega)) (fun S1 k => ?_)
      refine ⟨KP.tr (S1 := S16) ⟨⟨h16, by omega⟩, q16.2⟩ k.1, ?_⟩
      have k1 := k.2
      omega
theorem tnum : ∀ (n : Nat) (S : MS), TK S → 1000 - (S.1 4).toInt < (n : Int) → Tot (fr_nextToken_b159 n S) (fun S1 => NX S S1) := by
  have z0 : (0 : Int32).toInt = 0 := by decide
  have z1 : (1 : Int32).toInt = 1 := by decide
  have z3 : (3 : Int32).toInt = 3 := by decide
  have z48 : (48 : Int32).toInt = 48 := by decide
  have z57 : (57 : Int32).toInt = 57 := by decide
  intro n
  induction n with
  | zero =>
    intro S h hm
    unfold TK at h
    exfalso
    omega
  | succ n ih =>
    intro S h hm
    have step : ∀ T : MS, TQ S T (S.1 4).toInt (S.1 5).toInt (S.1 7).toInt (S.1 8).toInt → (S.1 4).toInt < (S.1 3).toInt → Tot (fr_nextToken_b213 (fr_nextToken_b159 n) T) (fun S1 => NX S S1) := by
      intro T hT hlt
      unfold TK at h
      unfold TQ at hT
      unfold fr_nextToken_b213
      refine tot_let (fun v14 e14 => ?_)
      have q14 := i_eq e14
      refine tot_let (fun v15 e15 => ?_)
      have q15 := i_add e15 (by omega) (by omega)
      refine tot_let (fun S16 e16 => ?_)
      have q16 := tq_4 e16
      unfold TQ at q16
      have h16 : TK S16 := by unfold TK; omega
      refine tot_w (ih S16 h16 (by omega)) (fun S1 k => ?_)
      refine ⟨KP.tr (S1 := S16) ⟨⟨h16, by omega⟩, q16.2.trans hT.2⟩ k.1, ?_⟩
      have k1 := k.2
      omega
    have h' := h
    unfold TK at h'
    unfold fr_nextToken_b159
    refine tot_let (fun v2 e2 => ?_)
    have q2 := i_eq e2
    refine tot_bindp (R := fun r : Int32 => (S.1 3).toInt ≤ v2.toInt ∧ r.toInt = -1 ∨ v2.toInt < (S.1 3).toInt) (tbyte v2 h (by omega)) (fun r6 d6 => ?_)
    replace d6 : (S.1 3).toInt ≤ v2.toInt ∧ r6.toInt = -1 ∨ v2.toInt < (S.1 3).toInt := d6
    refine tot_bind (tin r6 48 57) (fun r7 d7 => ?_)
    refine tot_if (fun c => ?_) (fun c => ?_)
    · clear d6 d7
      refine tot_let (fun v10 e10 => ?_)
      refine tot_let (fun v11 e11 => ?_)
      refine tot_let (fun v12 e12 => ?_)
      refine tot_if (fun c => ?_) (fun c => ?_)
      · unfold fr_nextToken_b245 fr_nextToken_b292
        refine tot_let (fun S2 e => ?_)
        have q := tq_7 e
        unfold TQ at q
        refine tot_some ⟨⟨⟨?_, ?_⟩, q.2⟩, ?_⟩
        · unfold TK; omega
        · omega
        · omega
      · unfold fr_nextToken_b245 fr_nextToken_b292
        refine tot_let (fun S2 e => ?_)
        have q := tq_7 e
        unfold TQ at q
        refine tot_some ⟨⟨⟨?_, ?_⟩, q.2⟩, ?_⟩
        · unfold TK; omega
        · omega
        · omega
    · replace c := i_ne c
      have hlt : (S.1 4).toInt < (S.1 3).toInt := by omega
      clear d6 d7
      refine tot_let (fun v14 e14 => ?_)
      refine tot_let (fun v15 e15 => ?_)
      refine tot_let (fun v16 e16 => ?_)
      refine tot_if (fun c => ?_) (fun c => ?_)
      · exact step S ⟨⟨⟨rfl, rfl, rfl⟩, rfl, rfl⟩, rfl⟩ hlt
      · refine tot_let (fun v18 e18 => ?_)
        refine tot_let (fun v19 e19 => ?_)
        refine tot_let (fun v20 e20 => ?_)
        have q20 := i_eq e20
        refine tot_bindp (R := fun r : Int32 => True) (tot_w (tbyte v20 h (by omega)) (fun r q => ⟨q.1, trivial⟩)) (fun r24 d24 => ?_)
        refine tot_let (fun v25 e25 => ?_)
        refine tot_let (fun v26 e26 => ?_)
        refine tot_let (fun S27 e27 => ?_)
        exact step S27 (tq_9 e27) hlt
theorem tspace : ∀ (n : Nat) (S : MS), TKa S → 1000 - (S.1 4).toInt < (n : Int) → Tot (fr_nextToken_b8 n S) (fun S1 => NX S S1) := by
  have z0 : (0 : Int32).toInt = 0 := by decide
  have z1 : (1 : Int32).toInt = 1 := by decide
  have z4 : (4 : Int32).toInt = 4 := by decide
  have z32 : (32 : Int32).toInt = 32 := by decide
  intro n
  induction n with
  | zero =>
    intro S h hm
    unfold TKa at h
    exfalso
    omega
  | succ n ih =>
    intro S h hm
    have h' := h
    unfold TKa at h'
    unfold fr_nextToken_b8
    refine tot_let (fun v2 e2 => ?_)
    have q2 := i_eq e2
    refine tot_bindp (R := fun r : Int32 => (S.1 3).toInt ≤ v2.toInt ∧ r.toInt = -1 ∨ v2.toInt < (S.1 3).toInt) (tbytea v2 h (by omega)) (fun r6 d6 => ?_)
    replace d6 : (S.1 3).toInt ≤ v2.toInt ∧ r6.toInt = -1 ∨ v2.toInt < (S.1 3).toInt := d6
    refine tot_if (fun c => ?_) (fun c => ?_)
    · replace c := i_eq c
      replace d6 : v2.toInt < (S.1 3).toInt := by omega
      refine tot_let (fun v14 e14 => ?_)
      have q14 := i_eq e14
      refine tot_let (fun v15 e15 => ?_)
      have q15 := i_add e15 (by omega) (by omega)
      refine tot_let (fun S16 e16 => ?_)
      have q16 := tq_4 e16
      unfold TQ at q16
      have h16 : TKa S16 := by unfold TKa; omega
      refine tot_w (ih S16 h16 (by omega)) (fun S1 k => ?_)
      have k1 := k.1.1.2
      have k2 := k.2
      exact ⟨⟨⟨k.1.1.1, by omega⟩, k.1.2.trans q16.2⟩, by omega, by omega⟩
    · clear d6
      refine tot_let (fun v11 e11 => ?_)
      have q11 := i_eq e11
      refine tot_let (fun S12 e12 => ?_)
      have q12 := tq_8 e12
      unfold TQ at q12
      have h12 : TK S12 := by unfold TK; omega
      have k12 : KP S S12 := ⟨⟨h12, by omega⟩, q12.2⟩
      refine tot_let (fun v13 e13 => ?_)
      have q13 := i_eq e13
      refine tot_let (fun v14 e14 => ?_)
      have q14 := i_eq e14
      refine tot_if (fun c => ?_) (fun c => ?_)
      · unfold fr_nextToken_b292
        refine tot_let (fun S16 e16 => ?_)
        have q := tq_7 e16
        unfold TQ at q
        refine tot_some ⟨⟨⟨?_, ?_⟩, q.2.trans q12.2⟩, ?_⟩
        · unfold TK; omega
        · omega
        · omega
      · replace c := i_ne c
        refine tot_let (fun v17 e17 => ?_)
        have q17 := i_eq e17
        refine tot_bindp (R := fun r : Int32 => True) (tot_w (tbyte v17 h12 (by omega)) (fun r q => ⟨q.1, trivial⟩)) (fun r21 _ => ?_)
        refine tot_bind (tin r21 97 122) (fun r22 d22 => ?_)
        clear d22
        refine tot_if (fun c => ?_) (fun c => ?_)
        · refine tot_let (fun v25 e25 => ?_)
          have q25 := i_eq e25
          refine tot_bindp (R := fun r : Int32 => True) (tot_w (tbyte v25 h12 (by omega)) (fun r q => ⟨q.1, trivial⟩)) (fun r29 _ => ?_)
          refine tot_bind (tin r29 48 57) (fun r30 d30 => ?_)
          clear d30
          refine tot_if (fun c => ?_) (fun c => ?_)
          · refine tot_let (fun v33 e33 => ?_)
            have q33 := i_eq e33
            refine tot_bindp (R := fun r : Int32 => True) (tot_w (tbyte v33 h12 (by omega)) (fun r q => ⟨q.1, trivial⟩)) (fun r37 _ => ?_)
            refine tot_let (fun S38 e38 => ?_)
            have q38 := tq_9 e38
            unfold TQ at q38
            refine tot_let (fun v39 e39 => ?_)
            refine tot_bind (tsign v39) (fun r40 _ => ?_)
            have last : ∀ s0 : Int32, 0 ≤ s0.toInt ∧ s0.toInt ≤ 4 → Tot (fr_nextToken_b279 S38 s0) (fun S1 => NX S S1) := by
              intro s0 g0
              unfold fr_nextToken_b279 fr_nextToken_b292
              refine tot_let (fun S2 e => ?_)
              have q2 := tq_7 e
              unfold TQ at q2
              refine tot_let (fun v3 e3 => ?_)
              have q3 := i_eq e3
              refine tot_let (fun v4 e4 => ?_)
              have q4 := i_add e4 (by omega) (by omega)
              refine tot_let (fun S5 e5 => ?_)
              have q5 := tq_4 e5
              unfold TQ at q5
              refine tot_some ⟨⟨⟨?_, ?_⟩, q5.2.trans (q2.2.trans (q38.2.trans q12.2))⟩, ?_⟩
              · unfold TK; omega
              · omega
              · omega
            refine tot_if (fun c => ?_) (fun c => ?_)
            · exact last 0 (by omega)
            · exact last 4 (by omega)
          · refine tot_let (fun S43 e43 => ?_)
            have q43 := tq_9 e43
            unfold TQ at q43
            have h43 : TK S43 := by unfold TK; omega
            refine tot_w (tnum 16384 S43 h43 (by omega)) (fun S1 k => ?_)
            refine ⟨(k12.tr (S2 := S43) ⟨⟨h43, by omega⟩, q43.2⟩).tr k.1, ?_⟩
            have k1 := k.2
            omega
        · refine tot_w (tword 16384 S12 h12 (by omega)) (fun S1 k => ?_)
          refine ⟨k12.tr k.1, ?_⟩
          have k1 := k.2
          omega
theorem tnext {S : MS} (h : TK S) : Tot (fr_nextToken S) (fun S1 => KP S S1 ∧ (S1.1 5).toInt = (S.1 5).toInt ∧ ((S.1 5).toInt ≤ 0 → (S1.1 7).toInt = 4 → (S.1 4).toInt < (S1.1 4).toInt)) := by
  have z0 : (0 : Int32).toInt = 0 := by decide
  unfold fr_nextToken
  refine tot_let (fun v2 e2 => ?_)
  have q2 := i_eq e2
  refine tot_if (fun c => ?_) (fun c => ?_)
  · exact tot_w (tspace 16384 S h.a (by unfold TK at h; omega)) (fun S1 k => ⟨k.1, k.2.1, fun _ => k.2.2⟩)
  · replace c := i_nle c
    exact tot_some ⟨KP.rf h, rfl, fun q => by omega⟩
theorem tnext0 {S : MS} (h : TKa S) (h5 : (S.1 5).toInt ≤ 0) : Tot (fr_nextToken S) (fun S1 => KP S S1) := by
  have z0 : (0 : Int32).toInt = 0 := by decide
  unfold fr_nextToken
  refine tot_let (fun v2 e2 => ?_)
  have q2 := i_eq e2
  refine tot_if (fun c => ?_) (fun c => ?_)
  · exact tot_w (tspace 16384 S h (by unfold TKa at h; omega)) (fun S1 k => k.1)
  · replace c := i_nle c
    exfalso
    omega
theorem tsignhere {S : MS} (a0 : Int32) : Tot (fr_isSignHere S a0) (fun r => r.2 = S ∧ (r.1.toInt = 0 ∨ r.1.toInt = 1 ∧ (S.1 5).toInt = 0 ∧ (S.1 7).toInt = 4)) := by
  have z0 : (0 : Int32).toInt = 0 := by decide
  have z1 : (1 : Int32).toInt = 1 := by decide
  have z4 : (4 : Int32).toInt = 4 := by decide
  have no : Tot (fr_isSignHere_b27 S) (fun r => r.2 = S ∧ (r.1.toInt = 0 ∨ r.1.toInt = 1 ∧ (S.1 5).toInt = 0 ∧ (S.1 7).toInt = 4)) := by
    unfold fr_isSignHere_b27 fr_isSignHere_b28
    exact tot_oif (.inl rfl) (tot_some ⟨rfl, .inl z0⟩)
  unfold fr_isSignHere
  refine tot_let (fun v2 e2 => ?_)
  have q2 := i_eq e2
  refine tot_if (fun c => ?_) (fun c => no)
  replace c := i_eq c
  refine tot_let (fun v4 e4 => ?_)
  have q4 := i_eq e4
  refine tot_if (fun c2 => ?_) (fun c => no)
  replace c2 := i_eq c2
  refine tot_let (fun v6 e6 => ?_)
  refine tot_if (fun c3 => ?_) (fun c => no)
  unfold fr_isSignHere_b28
  exact tot_oif (.inr rfl) (tot_some ⟨rfl, .inr ⟨z1, by omega, by omega⟩⟩)
theorem tisw {S : MS} (tx : Nat × (Nat → Int32)) (hl : (nI tx.1 >>> (0 &&& 31)).toInt = tx.1) (ht : tx.1 ≤ 20) (h : TK S) (hw : (S.1 4).toInt = (S.1 8).toInt + tx.1) : ∀ (n : Nat) (l2 : Int32), 0 ≤ l2.toInt ∧ l2.toInt ≤ tx.1 → 20 - l2.toInt < (n : Int) → Tot (fr_isWord_b35 tx n S l2) (fun r => r.2 = S ∧ (r.1.toInt = 0 ∨ r.1.toInt = 1)) := by
  have z0 : (0 : Int32).toInt = 0 := by decide
  have z1 : (1 : Int32).toInt = 1 := by decide
  have z2 : (Int32.ofInt (1) : Int32).toInt = 1 := by decide
  unfold TK at h
  intro n
  induction n with
  | zero =>
    intro l2 g hm
    exfalso
    omega
  | succ n ih =>
    intro l2 g hm
    unfold fr_isWord_b35
    refine tot_let (fun v3 e3 => ?_)
    have q3 := i_eq e3
    rw [hl] at q3
    refine tot_if (fun c => ?_) (fun c => ?_)
    · exact tot_some ⟨rfl, .inr z1⟩
    · replace c := i_nle c
      refine tot_let (fun v5 e5 => ?_)
      have q5 := i_eq e5
      refine tot_let (fun v6 e6 => ?_)
      have q6 := i_add e6 (by omega) (by omega)
      refine tot_oif (i_inb (by omega) (by omega)) ?_
      refine tot_let (fun v8 e8 => ?_)
      refine tot_oif (i_inb (by omega) (by omega)) ?_
      refine tot_let (fun v11 e11 => ?_)
      refine tot_if (fun c => ?_) (fun c => ?_)
      · refine tot_let (fun v13 e13 => ?_)
        have q13 := i_add e13 (by omega) (by omega)
        exact ih v13 (by omega) (by omega)
      · exact tot_some ⟨rfl, .inl z0⟩
theorem tword1 {S : MS} (tx : Nat × (Nat → Int32)) (hl : (nI tx.1 >>> (0 &&& 31)).toInt = tx.1) (ht : tx.1 ≤ 20) (h : TK S) : Tot (fr_isWord S tx) (fun r => r.2 = S ∧ (r.1.toInt = 0 ∨ r.1.toInt = 1 ∧ (S.1 5).toInt = 0 ∧ (S.1 7).toInt = 2)) := by
  have z0 : (0 : Int32).toInt = 0 := by decide
  have z2 : (2 : Int32).toInt = 2 := by decide
  have h' := h
  unfold TK at h'
  have no : Tot (fr_isWord_b31 tx S) (fun r => r.2 = S ∧ (r.1.toInt = 0 ∨ r.1.toInt = 1 ∧ (S.1 5).toInt = 0 ∧ (S.1 7).toInt = 2)) := by
    unfold fr_isWord_b31
    exact tot_some ⟨rfl, .inl z0⟩
  unfold fr_isWord
  refine tot_let (fun v2 e2 => ?_)
  have q2 := i_eq e2
  refine tot_if (fun c => no) (fun c => ?_)
  replace c := i_nlt c
  refine tot_let (fun v4 e4 => ?_)
  have q4 := i_eq e4
  refine tot_if (fun c2 => ?_) (fun c => no)
  replace c2 := i_eq c2
  refine tot_let (fun v6 e6 => ?_)
  have q6 := i_eq e6
  refine tot_let (fun v7 e7 => ?_)
  have q7 := i_eq e7
  refine tot_let (fun v8 e8 => ?_)
  have q8 := i_sub e8 (by omega) (by omega)
  refine tot_let (fun v10 e10 => ?_)
  have q10 := i_eq e10
  rw [hl] at q10
  refine tot_if (fun c3 => ?_) (fun c => no)
  replace c3 := i_eq c3
  refine tot_w (tisw tx hl ht h (by omega) 16384 0 (by omega) (by omega)) (fun r q => ⟨q.1, ?_⟩)
  have := q.2
  omega
theorem ttakes {S : MS} (tx : Nat × (Nat → Int32)) (hl : (nI tx.1 >>> (0 &&& 31)).toInt = tx.1) (ht : tx.1 ≤ 20) (h : TK S) : Tot (fr_takes S tx) (fun r => KP S r.2 ∧ (r.1.toInt = 0 ∨ r.1.toInt = 1)) := by
  unfold fr_takes
  refine tot_bindp (R := fun r : Int32 => r.toInt = 0 ∨ r.toInt = 1 ∧ (S.1 5).toInt = 0 ∧ (S.1 7).toInt = 2) (tword1 tx hl ht h) (fun r5 d5 => ?_)
  have d : r5.toInt = 0 ∨ r5.toInt = 1 := by
    replace d5 : r5.toInt = 0 ∨ r5.toInt = 1 ∧ (S.1 5).toInt = 0 ∧ (S.1 7).toInt = 2 := d5
    omega
  refine tot_if (fun c => ?_) (fun c => ?_)
  · unfold fr_takes_b14
    exact tot_oif (i_b01 d) (tot_some ⟨KP.rf h, d⟩)
  · refine tot_bind (tnext h) (fun S7 d7 => ?_)
    unfold fr_takes_b14
    exact tot_oif (i_b01 d) (tot_some ⟨d7.1, d⟩)
theorem tkeyword {S : MS} (tx : Nat × (Nat → Int32)) (hl : (nI tx.1 >>> (0 &&& 31)).toInt = tx.1) (ht : tx.1 ≤ 20) (h : TK S) : Tot (fr_keyword S tx) (fun S1 => KP S S1) := by
  have z1 : (1 : Int32).toInt = 1 := by decide
  unfold fr_keyword fr_keyword_b13
  refine tot_bind2 (ttakes tx hl ht h) (fun r5 S2 d5 => ?_)
  have k : KP S S2 := d5.1
  refine tot_if (fun c => ?_) (fun c => ?_)
  · refine tot_bind (tfaults 1 k.1.1 (by omega)) (fun S7 d7 => ?_)
    exact tot_some (k.tr d7.1)
  · exact tot_some k
/-- an answer that lies between, where there is anything between, or no fault is told -/
def BT (a b : Int32) (S1 : MS) (r : Int32) : Prop := (a.toInt ≤ b.toInt → a.toInt ≤ r.toInt ∧ r.toInt ≤ b.toInt) ∧ ((S1.1 5).toInt ≤ 0 → a.toInt ≤ r.toInt ∧ r.toInt ≤ b.toInt)
theorem tlook {S : MS} (a0 a1 : Int32) (h : TK S) : Tot (fr_look S a0 a1) (fun r => KP S r.2 ∧ BT a0 a1 r.2 r.1) := by
  have z0 : (0 : Int32).toInt = 0 := by decide
  have z1 : (1 : Int32).toInt = 1 := by decide
  have z2 : (2 : Int32).toInt = 2 := by decide
  have bad : ∀ S1 : MS, KP S S1 → 0 < (S1.1 5).toInt → Tot (fr_look_b42 S1 a0) (fun r => KP S r.2 ∧ BT a0 a1 r.2 r.1) := by
    intro S1 k q
    unfold fr_look_b42 fr_look_b57
    refine tot_let (fun v2 e2 => ?_)
    have q2 := i_eq e2
    refine tot_if (fun c => ?_) (fun c => ?_)
    · replace c := i_le c
      exfalso
      omega
    · exact tot_some ⟨k, fun q => ⟨Int.le_refl _, q⟩, fun w => by have w : (S1.1 5).toInt ≤ 0 := w; exfalso; omega⟩
  unfold fr_look
  refine tot_let (fun v2 e2 => ?_)
  have q2 := i_eq e2
  refine tot_if (fun c => ?_) (fun c => ?_)
  · replace c := i_le c
    refine tot_let (fun v4 e4 => ?_)
    refine tot_if (fun c2 => ?_) (fun c2 => ?_)
    · refine tot_let (fun v6 e6 => ?_)
      have q6 := i_eq e6
      refine tot_bind (tin v6 a0 a1) (fun r7 d7 => ?_)
      refine tot_if (fun c3 => ?_) (fun c3 => ?_)
      · refine tot_bind (tfaults 2 h (by omega)) (fun S7 d7 => ?_)
        exact bad S7 d7.1 d7.2
      · replace c3 := i_ne c3
        unfold fr_look_b42 fr_look_b57
        refine tot_let (fun v8 e8 => ?_)
        have q8 := i_eq e8
        refine tot_if (fun c => ?_) (fun c => ?_)
        · refine tot_let (fun v9 e9 => ?_)
          have q9 := i_eq e9
          have w : a0.toInt ≤ v9.toInt ∧ v9.toInt ≤ a1.toInt := by omega
          exact tot_some ⟨KP.rf h, fun _ => w, fun _ => w⟩
        · replace c := i_nle c
          exfalso
          omega
    · refine tot_bind (tfaults 1 h (by omega)) (fun S7 d7 => ?_)
      exact bad S7 d7.1 d7.2
  · replace c := i_nle c
    exact tot_some ⟨KP.rf h, fun q => ⟨Int.le_refl _, q⟩, fun w => by have w : (S.1 5).toInt ≤ 0 := w; exfalso; omega⟩
theorem tnumber {S : MS} (a0 a1 : Int32) (h : TK S) : Tot (fr_number S a0 a1) (fun r => KP S r.2 ∧ BT a0 a1 r.2 r.1) := by
  unfold fr_number
  refine tot_bind2 (tlook a0 a1 h) (fun r5 S2 d5 => ?_)
  have k : KP S S2 := d5.1
  have b : BT a0 a1 S2 r5 := d5.2
  refine tot_bind (tnext k.1.1) (fun S6 d6 => ?_)
  refine tot_some ⟨k.tr d6.1, b.1, fun w => b.2 ?_⟩
  have w : (S6.1 5).toInt ≤ 0 := w
  have := d6.2.1
  omega
theorem tgauge {S : MS} (tx : Nat × (Nat → Int32)) (hl : (nI tx.1 >>> (0 &&& 31)).toInt = tx.1) (ht : tx.1 ≤ 20) (a0 a1 : Int32) (h : TK S) : Tot (fr_gauge S tx a0 a1) (fun r => KP S r.2 ∧ BT a0 a1 r.2 r.1) := by
  unfold fr_gauge
  refine tot_bind (tkeyword tx hl ht h) (fun S2 k => ?_)
  refine tot_bind2 (tnumber a0 a1 k.1.1) (fun r5 S6 d5 => ?_)
  exact tot_some ⟨k.tr d5.1, d5.2⟩
theorem tsigned {S : MS} (a0 a1 : Int32) (g : -10000 ≤ a0.toInt ∧ a0.toInt ≤ a1.toInt ∧ a1.toInt ≤ 10000) (h : TK S) : Tot (fr_signed S a0 a1) (fun r => KP S r.2 ∧ (a0.toInt ≤ r.1.toInt ∧ r.1.toInt ≤ a1.toInt)) := by
  have z0 : (0 : Int32).toInt = 0 := by decide
  have go : ∀ (S1 : MS) (l3 : Int32), KP S S1 → Tot (fr_signed_b15 S1 a0 a1 l3) (fun r => KP S r.2 ∧ (a0.toInt ≤ r.1.toInt ∧ r.1.toInt ≤ a1.toInt)) := by
    intro S1 l3 k
    unfold fr_signed_b15 fr_signed_b37
    refine tot_if (fun c => ?_) (fun c => ?_)
    · refine tot_bind2 (tnumber a0 a1 k.1.1) (fun r5 S6 d5 => ?_)
      exact tot_some ⟨k.tr d5.1, d5.2.1 g.2.1⟩
    · refine tot_let (fun v7 e7 => ?_)
      have q7 := i_neg e7 (by omega)
      refine tot_let (fun v8 e8 => ?_)
      have q8 := i_neg e8 (by omega)
      refine tot_bind2 (tnumber v7 v8 k.1.1) (fun r5 S6 d5 => ?_)
      have b := d5.2.1 (by omega)
      have b1 : v7.toInt ≤ r5.toInt ∧ r5.toInt ≤ v8.toInt := b
      refine tot_let (fun v13 e13 => ?_)
      have q13 := i_neg e13 (by omega)
      exact tot_some ⟨k.tr d5.1, show a0.toInt ≤ v13.toInt ∧ v13.toInt ≤ a1.toInt from by omega⟩
  unfold fr_signed
  refine tot_bindp (R := fun r : Int32 => True) (tot_w (tsignhere 45) (fun r q => ⟨q.1, trivial⟩)) (fun r5 _ => ?_)
  refine tot_if (fun c => ?_) (fun c => ?_)
  · exact go S r5 (KP.rf h)
  · refine tot_bind (tnext h) (fun S7 d7 => ?_)
    exact go S7 r5 d7.1
