theorem st_src2 {S S1 : MS} {r : Int32} {l1 l2 l3 l4 l5 l6 l7 l8 l9 : Int32} (q : 0 < (S.1 5).toInt) (hf : (if r = 0 then (fr_readSource_b186 S 0 l1 l2 l3 l4 l5 l6 l7 l8 l9) else (obind2 (fr_number S 0 199) fun r42 S39 => fr_readSource_b186 S39 r42 l1 l2 l3 l4 l5 l6 l7 l8 l9)) = some S1) : S1 = S := by
  by_cases c : r = 0
  · rw [if_pos c] at hf
    exact st_b186 q hf
  · rw [if_neg c] at hf
    obtain ⟨r42, S39, f, hf⟩ := obind2_some hf
    have e := st_number q f
    rw [e] at hf
    exact st_b186 q hf
