theorem st_source {S S1 : MS} {l1 : Int32} (q : 0 < (S.1 5).toInt) (hf : (obind2 (fr_isWord S (sTx "square")) fun r9 S6 => if r9 = 0 then (obind2 (fr_isWord S6 (sTx "triangle")) fun r15 S12 => if r15 = 0 then (obind2 (fr_isWord S12 (sTx "pulse")) fun r21 S18 => if r21 = 0 then (obind2 (fr_isWord S18 (sTx "noise")) fun r27 S24 => if r27 = 0 then (fr_readSource_b75 S24 (-1) l1) else (fr_readSource_b75 S24 3 l1)) else (fr_readSource_b75 S18 2 l1)) else (fr_readSource_b75 S12 1 l1)) else (fr_readSource_b75 S6 0 l1)) = some S1) : S1 = S := by
  obtain ⟨r9, S6, f6, hf⟩ := obind2_some hf
  rw [if_pos (st_word q f6).1, (st_word q f6).2] at hf
  obtain ⟨r15, S12, f12, hf⟩ := obind2_some hf
  rw [if_pos (st_word q f12).1, (st_word q f12).2] at hf
  obtain ⟨r21, S18, f18, hf⟩ := obind2_some hf
  rw [if_pos (st_word q f18).1, (st_word q f18).2] at hf
  obtain ⟨r27, S24, f24, hf⟩ := obind2_some hf
  rw [if_pos (st_word q f24).1, (st_word q f24).2] at hf
  exact st_b75 q hf
