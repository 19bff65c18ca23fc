theorem tnum : ∀ (n : Nat) (S : MS), TK S → 1000 - (S.1 4).toInt < (n : Int) → Tot (fr_nextToken_b159 n S) (fun S1 => NX S S1) := by
  have z0 : (0 : Int32).toInt = 0 := by decide
  have z1 : (1 : Int32).toInt = 1 := by decide
  have z3 : (3 : Int32).toInt = 3 := by decide
  have z48 : (48 : Int32).toInt = 48 := by decide
  have z57 : (57 : Int32).toInt = 57 := by decide
  intro n
  induction n with
  | zero =>
    intro S h hm
    unfold TK at h
    exfalso
    omega
  | succ n ih =>
    intro S h hm
    have step : ∀ T : MS, TQ S T (S.1 4).toInt (S.1 5).toInt (S.1 7).toInt (S.1 8).toInt → (S.1 4).toInt < (S.1 3).toInt → Tot (fr_nextToken_b213 (fr_nextToken_b159 n) T) (fun S1 => NX S S1) := by
      intro T hT hlt
      unfold TK at h
      unfold TQ at hT
      unfold fr_nextToken_b213
      refine tot_let (fun v14 e14 => ?_)
      have q14 := i_eq e14
      refine tot_let (fun v15 e15 => ?_)
      have q15 := i_add e15 (by omega) (by omega)
      refine tot_let (fun S16 e16 => ?_)
      have q16 := tq_4 e16
      unfold TQ at q16
      have h16 : TK S16 := by unfold TK; omega
      refine tot_w (ih S16 h16 (by omega)) (fun S1 k => ?_)
      refine ⟨KP.tr (S1 := S16) ⟨⟨h16, by omega⟩, q16.2.trans hT.2⟩ k.1, ?_⟩
      have k1 := k.2
      omega
    have h' := h
    unfold TK at h'
    unfold fr_nextToken_b159
    refine tot_let (fun v2 e2 => ?_)
    have q2 := i_eq e2
    refine tot_bindp (R := fun r : Int32 => (S.1 3).toInt ≤ v2.toInt ∧ r.toInt = -1 ∨ v2.toInt < (S.1 3).toInt) (tbyte v2 h (by omega)) (fun r6 d6 => ?_)
    replace d6 : (S.1 3).toInt ≤ v2.toInt ∧ r6.toInt = -1 ∨ v2.toInt < (S.1 3).toInt := d6
    refine tot_bind (tin r6 48 57) (fun r7 d7 => ?_)
    refine tot_if (fun c => ?_) (fun c => ?_)
    · refine tot_let (fun v10 e10 => ?_)
      refine tot_let (fun v11 e11 => ?_)
      refine tot_let (fun v12 e12 => ?_)
      refine tot_if (fun c => ?_) (fun c => ?_)
      · unfold fr_nextToken_b245 fr_nextToken_b292
        refine tot_let (fun S2 e => ?_)
        have q := tq_7 e
        unfold TQ at q
        refine tot_some ⟨⟨⟨?_, ?_⟩, q.2⟩, ?_⟩
        · unfold TK; omega
        · omega
        · omega
      · unfold fr_nextToken_b245 fr_nextToken_b292
        refine tot_let (fun S2 e => ?_)
        have q := tq_7 e
        unfold TQ at q
        refine tot_some ⟨⟨⟨?_, ?_⟩, q.2⟩, ?_⟩
        · unfold TK; omega
        · omega
        · omega
    · replace c := i_ne c
      have hlt : (S.1 4).toInt < (S.1 3).toInt := by omega
      refine tot_let (fun v14 e14 => ?_)
      refine tot_let (fun v15 e15 => ?_)
      refine tot_let (fun v16 e16 => ?_)
      refine tot_if (fun c => ?_) (fun c => ?_)
      · exact step S ⟨⟨⟨rfl, rfl, rfl⟩, rfl, rfl⟩, rfl⟩ hlt
      · refine tot_let (fun v18 e18 => ?_)
        refine tot_let (fun v19 e19 => ?_)
        refine tot_let (fun v20 e20 => ?_)
        have q20 := i_eq e20
        refine tot_bindp (R := fun r : Int32 => True) (tot_w (tbyte v20 h (by omega)) (fun r q => ⟨q.1, trivial⟩)) (fun r24 d24 => ?_)
        refine tot_let (fun v25 e25 => ?_)
        refine tot_let (fun v26 e26 => ?_)
        refine tot_let (fun S27 e27 => ?_)
        exact step S27 (tq_9 e27) hlt
theorem tspace : ∀ (n : Nat) (S : MS), TKa S → 1000 - (S.1 4).toInt < (n : Int) → Tot (fr_nextToken_b8 n S) (fun S1 => NX S S1) := by
  have z0 : (0 : Int32).toInt = 0 := by decide
  have z1 : (1 : Int32).toInt = 1 := by decide
  have z4 : (4 : Int32).toInt = 4 := by decide
  have z32 : (32 : Int32).toInt = 32 := by decide
  intro n
  induction n with
  | zero =>
    intro S h hm
    unfold TKa at h
    exfalso
    omega
  | succ n ih =>
    intro S h hm
    have h' := h
    unfold TKa at h'
    unfold fr_nextToken_b8
    refine tot_let (fun v2 e2 => ?_)
    have q2 := i_eq e2
    refine tot_bindp (R := fun r : Int32 => (S.1 3).toInt ≤ v2.toInt ∧ r.toInt = -1 ∨ v2.toInt < (S.1 3).toInt) (tbytea v2 h (by omega)) (fun r6 d6 => ?_)
    replace d6 : (S.1 3).toInt ≤ v2.toInt ∧ r6.toInt = -1 ∨ v2.toInt < (S.1 3).toInt := d6
    refine tot_if (fun c => ?_) (fun c => ?_)
    · replace c := i_eq c
      refine tot_let (fun v14 e14 => ?_)
      have q14 := i_eq e14
      refine tot_let (fun v15 e15 => ?_)
      have q15 := i_add e15 (by omega) (by omega)
      refine tot_let (fun S16 e16 => ?_)
      have q16 := tq_4 e16
      unfold TQ at q16
      have h16 : TKa S16 := by unfold TKa; omega
      refine tot_w (ih S16 h16 (by omega)) (fun S1 k => ?_)
      have k1 := k.1.1.2
      have k2 := k.2
      exact ⟨⟨⟨k.1.1.1, by omega⟩, k.1.2.trans q16.2⟩, by omega, by omega⟩
    · refine tot_let (fun v11 e11 => ?_)
      have q11 := i_eq e11
      refine tot_let (fun S12 e12 => ?_)
      have q12 := tq_8 e12
      unfold TQ at q12
      have h12 : TK S12 := by unfold TK; omega
      have k12 : KP S S12 := ⟨⟨h12, by omega⟩, q12.2⟩
      refine tot_let (fun v13 e13 => ?_)
      have q13 := i_eq e13
      refine tot_let (fun v14 e14 => ?_)
      have q14 := i_eq e14
      refine tot_if (fun c => ?_) (fun c => ?_)
      · unfold fr_nextToken_b292
        refine tot_let (fun S16 e16 => ?_)
        have q := tq_7 e16
        unfold TQ at q
        refine tot_some ⟨⟨⟨?_, ?_⟩, q.2.trans q12.2⟩, ?_⟩
        · unfold TK; omega
        · omega
        · omega
      · replace c := i_ne c
        refine tot_let (fun v17 e17 => ?_)
        have q17 := i_eq e17
        refine tot_bindp (R := fun r : Int32 => True) (tot_w (tbyte v17 h12 (by omega)) (fun r q => ⟨q.1, trivial⟩)) (fun r21 _ => ?_)
        refine tot_bind (tin r21 97 122) (fun r22 d22 => ?_)
        refine tot_if (fun c => ?_) (fun c => ?_)
        · refine tot_let (fun v25 e25 => ?_)
          have q25 := i_eq e25
          refine tot_bindp (R := fun r : Int32 => True) (tot_w (tbyte v25 h12 (by omega)) (fun r q => ⟨q.1, trivial⟩)) (fun r29 _ => ?_)
          refine tot_bind (tin r29 48 57) (fun r30 d30 => ?_)
          refine tot_if (fun c => ?_) (fun c => ?_)
          · refine tot_let (fun v33 e33 => ?_)
            have q33 := i_eq e33
            refine tot_bindp (R := fun r : Int32 => True) (tot_w (tbyte v33 h12 (by omega)) (fun r q => ⟨q.1, trivial⟩)) (fun r37 _ => ?_)
            refine tot_let (fun S38 e38 => ?_)
            have q38 := tq_9 e38
            unfold TQ at q38
            refine tot_let (fun v39 e39 => ?_)
            refine tot_bind (tsign v39) (fun r40 _ => ?_)
            have last : ∀ s0 : Int32, 0 ≤ s0.toInt ∧ s0.toInt ≤ 4 → Tot (fr_nextToken_b279 S38 s0) (fun S1 => NX S S1) := by
              intro s0 g0
              unfold fr_nextToken_b279 fr_nextToken_b292
              refine tot_let (fun S2 e => ?_)
              have q2 := tq_7 e
              unfold TQ at q2
              refine tot_let (fun v3 e3 => ?_)
              have q3 := i_eq e3
              refine tot_let (fun v4 e4 => ?_)
              have q4 := i_add e4 (by omega) (by omega)
              refine tot_let (fun S5 e5 => ?_)
              have q5 := tq_4 e5
              unfold TQ at q5
              refine tot_some ⟨⟨⟨?_, ?_⟩, q5.2.trans (q2.2.trans (q38.2.trans q12.2))⟩, ?_⟩
              · unfold TK; omega
              · omega
              · omega
            refine tot_if (fun c => ?_) (fun c => ?_)
            · exact last 0 (by omega)
            · exact last 4 (by omega)
          · refine tot_let (fun S43 e43 => ?_)
            have q43 := tq_9 e43
            unfold TQ at q43
            have h43 : TK S43 := by unfold TK; omega
            refine tot_w (tnum 16384 S43 h43 (by omega)) (fun S1 k => ?_)
            refine ⟨(k12.tr (S2 := S43) ⟨⟨h43, by omega⟩, q43.2⟩).tr k.1, ?_⟩
            have k1 := k.2
            omega
        · refine tot_w (tword 16384 S12 h12 (by omega)) (fun S1 k => ?_)
          refine ⟨k12.tr k.1, ?_⟩
          have k1 := k.2
          omega
theorem tnext {S : MS} (h : TK S) : Tot (fr_nextToken S) (fun S1 => KP S S1 ∧ (S1.1 5).toInt = (S.1 5).toInt ∧ ((S.1 5).toInt ≤ 0 → (S1.1 7).toInt = 4 → (S.1 4).toInt < (S1.1 4).toInt)) := by
  have z0 : (0 : Int32).toInt = 0 := by decide
  unfold fr_nextToken
  refine tot_let (fun v2 e2 => ?_)
  have q2 := i_eq e2
  refine tot_if (fun c => ?_) (fun c => ?_)
  · exact tot_w (tspace 16384 S h.a (by unfold TK at h; omega)) (fun S1 k => ⟨k.1, k.2.1, fun _ => k.2.2⟩)
  · replace c := i_nle c
    exact tot_some ⟨KP.rf h, rfl, fun q => by omega⟩
