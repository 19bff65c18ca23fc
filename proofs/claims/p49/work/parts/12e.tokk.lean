theorem tword1 {S : MS} (tx : Nat × (Nat → Int32)) (hl : (nI tx.1 >>> (0 &&& 31)).toInt = tx.1) (ht : tx.1 ≤ 20) (h : TK S) : Tot (fr_isWord S tx) (fun r => r.2 = S ∧ (r.1.toInt = 0 ∨ r.1.toInt = 1 ∧ (S.1 5).toInt = 0 ∧ (S.1 7).toInt = 2)) := by
  have z0 : (0 : Int32).toInt = 0 := by decide
  have z2 : (2 : Int32).toInt = 2 := by decide
  have h' := h
  unfold TK at h'
  have no : Tot (fr_isWord_b31 tx S) (fun r => r.2 = S ∧ (r.1.toInt = 0 ∨ r.1.toInt = 1 ∧ (S.1 5).toInt = 0 ∧ (S.1 7).toInt = 2)) := by
    unfold fr_isWord_b31
    exact tot_some ⟨rfl, .inl z0⟩
  unfold fr_isWord
  refine tot_let (fun v2 e2 => ?_)
  have q2 := i_eq e2
  refine tot_if (fun c => no) (fun c => ?_)
  replace c := i_nlt c
  refine tot_let (fun v4 e4 => ?_)
  have q4 := i_eq e4
  refine tot_if (fun c2 => ?_) (fun c => no)
  replace c2 := i_eq c2
  refine tot_let (fun v6 e6 => ?_)
  have q6 := i_eq e6
  refine tot_let (fun v7 e7 => ?_)
  have q7 := i_eq e7
  refine tot_let (fun v8 e8 => ?_)
  have q8 := i_sub e8 (by omega) (by omega)
  refine tot_let (fun v10 e10 => ?_)
  have q10 := i_eq e10
  rw [hl] at q10
  refine tot_if (fun c3 => ?_) (fun c => no)
  replace c3 := i_eq c3
  refine tot_w (tisw tx hl ht h (by omega) 16384 0 (by omega) (by omega)) (fun r q => ⟨q.1, ?_⟩)
  have := q.2
  omega
theorem ttakes {S : MS} (tx : Nat × (Nat → Int32)) (hl : (nI tx.1 >>> (0 &&& 31)).toInt = tx.1) (ht : tx.1 ≤ 20) (h : TK S) : Tot (fr_takes S tx) (fun r => KP S r.2 ∧ (r.1.toInt = 0 ∨ r.1.toInt = 1)) := by
  unfold fr_takes
  refine tot_bindp (R := fun r : Int32 => r.toInt = 0 ∨ r.toInt = 1 ∧ (S.1 5).toInt = 0 ∧ (S.1 7).toInt = 2) (tword1 tx hl ht h) (fun r5 d5 => ?_)
  have d : r5.toInt = 0 ∨ r5.toInt = 1 := by
    replace d5 : r5.toInt = 0 ∨ r5.toInt = 1 ∧ (S.1 5).toInt = 0 ∧ (S.1 7).toInt = 2 := d5
    omega
  refine tot_if (fun c => ?_) (fun c => ?_)
  · unfold fr_takes_b14
    exact tot_oif (i_b01 d) (tot_some ⟨KP.rf h, d⟩)
  · refine tot_bind (tnext h) (fun S7 d7 => ?_)
    unfold fr_takes_b14
    exact tot_oif (i_b01 d) (tot_some ⟨d7.1, d⟩)
theorem tkeyword {S : MS} (tx : Nat × (Nat → Int32)) (hl : (nI tx.1 >>> (0 &&& 31)).toInt = tx.1) (ht : tx.1 ≤ 20) (h : TK S) : Tot (fr_keyword S tx) (fun S1 => KP S S1) := by
  have z1 : (1 : Int32).toInt = 1 := by decide
  unfold fr_keyword fr_keyword_b13
  refine tot_bind2 (ttakes tx hl ht h) (fun r5 S2 d5 => ?_)
  have k : KP S S2 := d5.1
  refine tot_if (fun c => ?_) (fun c => ?_)
  · refine tot_bind (tfaults 1 k.1.1 (by omega)) (fun S7 d7 => ?_)
    exact tot_some (k.tr d7.1)
  · exact tot_some k
