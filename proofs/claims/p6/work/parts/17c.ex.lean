def mS0 : MS := ((fun k => bif Nat.beq k 6 || Nat.beq k 21 then -1 else 0), (fun _ _ => 0), (fun _ _ => 0))
def vck (p0 p1 p2 : Int32) (k : Nat) : Int32 := match k with
  | 0 => 0
  | 1 => p0
  | 2 => p1
  | _ + 3 => p2
theorem tgo {α : Type} {x : Option α} {P : α → Prop} {a : α} (h : Tot x P) (e : x = some a) : P a := by
  obtain ⟨b, e2, q⟩ := h
  rw [e] at e2
  cases e2
  exact q
