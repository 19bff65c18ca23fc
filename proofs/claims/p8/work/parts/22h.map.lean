/-! a cell's byte: both count one more -/
section
variable {T T1 : AT} {S S1 : MS}
theorem fk_rf : FKq S S := ⟨rfl, rfl, rfl, rfl, rfl, rfl⟩
end
