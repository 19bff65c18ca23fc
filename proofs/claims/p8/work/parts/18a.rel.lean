theorem tgo {α : Type} {x : Option α} {P : α → Prop} {a : α} (h : Tot x P) (e : x = some a) : P a := by
  obtain ⟨b, e2, q⟩ := h
  rw [e] at e2
  cases e2
  exact q