theorem st_b186 {S S1 : MS} {s0 l1 l2 l3 l4 l5 l6 l7 l8 l9 : Int32} (q : 0 < (S.1 5).toInt) (hf : fr_readSource_b186 S s0 l1 l2 l3 l4 l5 l6 l7 l8 l9 = some S1) : S1 = S := by
  unfold fr_readSource_b186 at hf
  obtain ⟨v, ev, hf⟩ := elet_some hf
  rw [if_neg (st_le q ev)] at hf
  exact (osome1 hf).symm
