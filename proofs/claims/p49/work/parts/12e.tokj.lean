theorem tnext0 {S : MS} (h : TKa S) (h5 : (S.1 5).toInt ≤ 0) : Tot (fr_nextToken S) (fun S1 => KP S S1) := by
  have z0 : (0 : Int32).toInt = 0 := by decide
  unfold fr_nextToken
  refine tot_let (fun v2 e2 => ?_)
  have q2 := i_eq e2
  refine tot_if (fun c => ?_) (fun c => ?_)
  · exact tot_w (tspace 16384 S h (by unfold TKa at h; omega)) (fun S1 k => k.1)
  · replace c := i_nle c
    exfalso
    omega
theorem tsignhere {S : MS} (a0 : Int32) : Tot (fr_isSignHere S a0) (fun r => r.2 = S ∧ (r.1.toInt = 0 ∨ r.1.toInt = 1 ∧ (S.1 5).toInt = 0 ∧ (S.1 7).toInt = 4)) := by
  have z0 : (0 : Int32).toInt = 0 := by decide
  have z1 : (1 : Int32).toInt = 1 := by decide
  have z4 : (4 : Int32).toInt = 4 := by decide
  have no : Tot (fr_isSignHere_b27 S) (fun r => r.2 = S ∧ (r.1.toInt = 0 ∨ r.1.toInt = 1 ∧ (S.1 5).toInt = 0 ∧ (S.1 7).toInt = 4)) := by
    unfold fr_isSignHere_b27 fr_isSignHere_b28
    exact tot_oif (.inl rfl) (tot_some ⟨rfl, .inl z0⟩)
  unfold fr_isSignHere
  refine tot_let (fun v2 e2 => ?_)
  have q2 := i_eq e2
  refine tot_if (fun c => ?_) (fun c => no)
  replace c := i_eq c
  refine tot_let (fun v4 e4 => ?_)
  have q4 := i_eq e4
  refine tot_if (fun c2 => ?_) (fun c => no)
  replace c2 := i_eq c2
  refine tot_let (fun v6 e6 => ?_)
  refine tot_if (fun c3 => ?_) (fun c => no)
  unfold fr_isSignHere_b28
  exact tot_oif (.inr rfl) (tot_some ⟨rfl, .inr ⟨z1, by omega, by omega⟩⟩)
theorem tisw {S : MS} (tx : Nat × (Nat → Int32)) (hl : (nI tx.1 >>> (0 &&& 31)).toInt = tx.1) (ht : tx.1 ≤ 20) (h : TK S) (hw : (S.1 4).toInt = (S.1 8).toInt + tx.1) : ∀ (n : Nat) (l2 : Int32), 0 ≤ l2.toInt ∧ l2.toInt ≤ tx.1 → 20 - l2.toInt < (n : Int) → Tot (fr_isWord_b35 tx n S l2) (fun r => r.2 = S ∧ (r.1.toInt = 0 ∨ r.1.toInt = 1)) := by
  have z0 : (0 : Int32).toInt = 0 := by decide
  have z1 : (1 : Int32).toInt = 1 := by decide
  have z2 : (Int32.ofInt (1) : Int32).toInt = 1 := by decide
  unfold TK at h
  intro n
  induction n with
  | zero =>
    intro l2 g hm
    exfalso
    omega
  | succ n ih =>
    intro l2 g hm
    unfold fr_isWord_b35
    refine tot_let (fun v3 e3 => ?_)
    have q3 := i_eq e3
    rw [hl] at q3
    refine tot_if (fun c => ?_) (fun c => ?_)
    · exact tot_some ⟨rfl, .inr z1⟩
    · replace c := i_nle c
      refine tot_let (fun v5 e5 => ?_)
      have q5 := i_eq e5
      refine tot_let (fun v6 e6 => ?_)
      have q6 := i_add e6 (by omega) (by omega)
      refine tot_oif (i_inb (by omega) (by omega)) ?_
      refine tot_let (fun v8 e8 => ?_)
      refine tot_oif (i_inb (by omega) (by omega)) ?_
      refine tot_let (fun v11 e11 => ?_)
      refine tot_if (fun c => ?_) (fun c => ?_)
      · refine tot_let (fun v13 e13 => ?_)
        have q13 := i_add e13 (by omega) (by omega)
        exact ih v13 (by omega) (by omega)
      · exact tot_some ⟨rfl, .inl z0⟩
