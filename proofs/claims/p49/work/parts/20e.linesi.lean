theorem st_b75 {S S1 : MS} {s0 l1 : Int32} (q : 0 < (S.1 5).toInt) (hf : fr_readSource_b75 S s0 l1 = some S1) : S1 = S := by
  unfold fr_readSource_b75 at hf
  by_cases c : s0 = -1
  · rw [if_pos c] at hf
    obtain ⟨S3, f3, hf⟩ := obind_some hf
    rw [st_faults q f3] at hf
    exact st_b86 q hf
  · rw [if_neg c] at hf
    exact st_b86 q hf
