theorem tq_4 {S S1 : MS} {v : Int32} (e : S1 = mi S 4 v) : TQ S S1 v.toInt (S.1 5).toInt (S.1 7).toInt (S.1 8).toInt := by rw [e]; exact ⟨⟨⟨rfl, rfl, rfl⟩, rfl, rfl⟩, rfl⟩
theorem tq_5 {S S1 : MS} {v : Int32} (e : S1 = mi S 5 v) : TQ S S1 (S.1 4).toInt v.toInt (S.1 7).toInt (S.1 8).toInt := by rw [e]; exact ⟨⟨⟨rfl, rfl, rfl⟩, rfl, rfl⟩, rfl⟩
theorem tq_6 {S S1 : MS} {v : Int32} (e : S1 = mi S 6 v) : TQ S S1 (S.1 4).toInt (S.1 5).toInt (S.1 7).toInt (S.1 8).toInt := by rw [e]; exact ⟨⟨⟨rfl, rfl, rfl⟩, rfl, rfl⟩, rfl⟩
