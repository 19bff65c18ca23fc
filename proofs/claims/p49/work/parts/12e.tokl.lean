/-- an answer that lies between, where there is anything between, or no fault is told -/
def BT (a b : Int32) (S1 : MS) (r : Int32) : Prop := (a.toInt ≤ b.toInt → a.toInt ≤ r.toInt ∧ r.toInt ≤ b.toInt) ∧ ((S1.1 5).toInt ≤ 0 → a.toInt ≤ r.toInt ∧ r.toInt ≤ b.toInt)
theorem tlook {S : MS} (a0 a1 : Int32) (h : TK S) : Tot (fr_look S a0 a1) (fun r => KP S r.2 ∧ BT a0 a1 r.2 r.1) := by
  have z0 : (0 : Int32).toInt = 0 := by decide
  have z1 : (1 : Int32).toInt = 1 := by decide
  have z2 : (2 : Int32).toInt = 2 := by decide
  have bad : ∀ S1 : MS, KP S S1 → 0 < (S1.1 5).toInt → Tot (fr_look_b42 S1 a0) (fun r => KP S r.2 ∧ BT a0 a1 r.2 r.1) := by
    intro S1 k q
    unfold fr_look_b42 fr_look_b57
    refine tot_let (fun v2 e2 => ?_)
    have q2 := i_eq e2
    refine tot_if (fun c => ?_) (fun c => ?_)
    · replace c := i_le c
      exfalso
      omega
    · exact tot_some ⟨k, fun q => ⟨Int.le_refl _, q⟩, fun w => by have w : (S1.1 5).toInt ≤ 0 := w; exfalso; omega⟩
  unfold fr_look
  refine tot_let (fun v2 e2 => ?_)
  have q2 := i_eq e2
  refine tot_if (fun c => ?_) (fun c => ?_)
  · replace c := i_le c
    refine tot_let (fun v4 e4 => ?_)
    refine tot_if (fun c2 => ?_) (fun c2 => ?_)
    · refine tot_let (fun v6 e6 => ?_)
      have q6 := i_eq e6
      refine tot_bind (tin v6 a0 a1) (fun r7 d7 => ?_)
      refine tot_if (fun c3 => ?_) (fun c3 => ?_)
      · refine tot_bind (tfaults 2 h (by omega)) (fun S7 d7 => ?_)
        exact bad S7 d7.1 d7.2
      · replace c3 := i_ne c3
        unfold fr_look_b42 fr_look_b57
        refine tot_let (fun v8 e8 => ?_)
        have q8 := i_eq e8
        refine tot_if (fun c => ?_) (fun c => ?_)
        · refine tot_let (fun v9 e9 => ?_)
          have q9 := i_eq e9
          have w : a0.toInt ≤ v9.toInt ∧ v9.toInt ≤ a1.toInt := by omega
          exact tot_some ⟨KP.rf h, fun _ => w, fun _ => w⟩
        · replace c := i_nle c
          exfalso
          omega
    · refine tot_bind (tfaults 1 h (by omega)) (fun S7 d7 => ?_)
      exact bad S7 d7.1 d7.2
  · replace c := i_nle c
    exact tot_some ⟨KP.rf h, fun q => ⟨Int.le_refl _, q⟩, fun w => by have w : (S.1 5).toInt ≤ 0 := w; exfalso; omega⟩
theorem tnumber {S : MS} (a0 a1 : Int32) (h : TK S) : Tot (fr_number S a0 a1) (fun r => KP S r.2 ∧ BT a0 a1 r.2 r.1) := by
  unfold fr_number
  refine tot_bind2 (tlook a0 a1 h) (fun r5 S2 d5 => ?_)
  have k : KP S S2 := d5.1
  have b : BT a0 a1 S2 r5 := d5.2
  refine tot_bind (tnext k.1.1) (fun S6 d6 => ?_)
  refine tot_some ⟨k.tr d6.1, b.1, fun w => b.2 ?_⟩
  have w : (S6.1 5).toInt ≤ 0 := w
  have := d6.2.1
  omega
