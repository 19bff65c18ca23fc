theorem tgauge {S : MS} (tx : Nat × (Nat → Int32)) (hl : (nI tx.1 >>> (0 &&& 31)).toInt = tx.1) (ht : tx.1 ≤ 20) (a0 a1 : Int32) (h : TK S) : Tot (fr_gauge S tx a0 a1) (fun r => KP S r.2 ∧ BT a0 a1 r.2 r.1) := by
  unfold fr_gauge
  refine tot_bind (tkeyword tx hl ht h) (fun S2 k => ?_)
  refine tot_bind2 (tnumber a0 a1 k.1.1) (fun r5 S6 d5 => ?_)
  exact tot_some ⟨k.tr d5.1, d5.2⟩
theorem tsigned {S : MS} (a0 a1 : Int32) (g : -10000 ≤ a0.toInt ∧ a0.toInt ≤ a1.toInt ∧ a1.toInt ≤ 10000) (h : TK S) : Tot (fr_signed S a0 a1) (fun r => KP S r.2 ∧ (a0.toInt ≤ r.1.toInt ∧ r.1.toInt ≤ a1.toInt)) := by
  have z0 : (0 : Int32).toInt = 0 := by decide
  have go : ∀ (S1 : MS) (l3 : Int32), KP S S1 → Tot (fr_signed_b15 S1 a0 a1 l3) (fun r => KP S r.2 ∧ (a0.toInt ≤ r.1.toInt ∧ r.1.toInt ≤ a1.toInt)) := by
    intro S1 l3 k
    unfold fr_signed_b15 fr_signed_b37
    refine tot_if (fun c => ?_) (fun c => ?_)
    · refine tot_bind2 (tnumber a0 a1 k.1.1) (fun r5 S6 d5 => ?_)
      exact tot_some ⟨k.tr d5.1, d5.2.1 g.2.1⟩
    · refine tot_let (fun v7 e7 => ?_)
      have q7 := i_neg e7 (by omega)
      refine tot_let (fun v8 e8 => ?_)
      have q8 := i_neg e8 (by omega)
      refine tot_bind2 (tnumber v7 v8 k.1.1) (fun r5 S6 d5 => ?_)
      have b := d5.2.1 (by omega)
      have b1 : v7.toInt ≤ r5.toInt ∧ r5.toInt ≤ v8.toInt := b
      refine tot_let (fun v13 e13 => ?_)
      have q13 := i_neg e13 (by omega)
      exact tot_some ⟨k.tr d5.1, show a0.toInt ≤ v13.toInt ∧ v13.toInt ≤ a1.toInt from by omega⟩
  unfold fr_signed
  refine tot_bindp (R := fun r : Int32 => True) (tot_w (tsignhere 45) (fun r q => ⟨q.1, trivial⟩)) (fun r5 _ => ?_)
  refine tot_if (fun c => ?_) (fun c => ?_)
  · exact go S r5 (KP.rf h)
  · refine tot_bind (tnext h) (fun S7 d7 => ?_)
    exact go S7 r5 d7.1

