theorem st_b86 {S S1 : MS} {l1 l2 : Int32} (q : 0 < (S.1 5).toInt) (hf : fr_readSource_b86 S l1 l2 = some S1) : S1 = S := by
  unfold fr_readSource_b86 at hf
  obtain ⟨S2, f2, hf⟩ := obind_some hf
  rw [st_next q f2] at hf
  obtain ⟨r8, S5, f5, hf⟩ := obind2_some hf
  rw [st_signed q f5] at hf
  obtain ⟨r12, S9, f9, hf⟩ := obind2_some hf
  rw [st_signed q f9] at hf
  obtain ⟨r16, S13, f13, hf⟩ := obind2_some hf
  rw [st_signed q f13] at hf
  obtain ⟨r20, S17, f17, hf⟩ := obind2_some hf
  rw [st_signed q f17] at hf
  obtain ⟨r24, S21, f21, hf⟩ := obind2_some hf
  rw [st_number q f21] at hf
  obtain ⟨r28, S25, f25, hf⟩ := obind2_some hf
  rw [st_number q f25] at hf
  obtain ⟨r32, S29, f29, hf⟩ := obind2_some hf
  rw [st_number q f29] at hf
  obtain ⟨r37, S34, f34, hf⟩ := obind2_some hf
  rw [(st_takes q f34).2] at hf
  exact st_src2 q hf
