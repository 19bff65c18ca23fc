theorem tq_7 {S S1 : MS} {v : Int32} (e : S1 = mi S 7 v) : TQ S S1 (S.1 4).toInt (S.1 5).toInt v.toInt (S.1 8).toInt := by rw [e]; exact ⟨⟨⟨rfl, rfl, rfl⟩, rfl, rfl⟩, rfl⟩
theorem tq_8 {S S1 : MS} {v : Int32} (e : S1 = mi S 8 v) : TQ S S1 (S.1 4).toInt (S.1 5).toInt (S.1 7).toInt v.toInt := by rw [e]; exact ⟨⟨⟨rfl, rfl, rfl⟩, rfl, rfl⟩, rfl⟩
theorem tq_9 {S S1 : MS} {v : Int32} (e : S1 = mi S 9 v) : TQ S S1 (S.1 4).toInt (S.1 5).toInt (S.1 7).toInt (S.1 8).toInt := by rw [e]; exact ⟨⟨⟨rfl, rfl, rfl⟩, rfl, rfl⟩, rfl⟩
