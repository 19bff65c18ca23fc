def a_sta (n : Nat) : Bool := !(Nat.beq (aR0 n) 99) && !(Nat.beq (aR0 n) 30)
def a_hk (r : Nat) : Bool := isW r || (isRW r || (Nat.beq r 11 || (Nat.beq r 9 || (Nat.beq r 3 || (Nat.beq r 5 || (Nat.beq r 20 || (Nat.beq r 4 || (Nat.beq r 8 || (Nat.beq r 6 || (Nat.beq r 1 || (Nat.beq r 45 || (Nat.beq r 47 || (Nat.beq r 48 || (Nat.beq r 51 || (Nat.beq r 53 || (Nat.beq r 54 || Nat.beq r 60))))))))))))))))
theorem a_or {a b : Bool} (h : (a || b) = false) : a = false ∧ b = false := by
  cases a with
  | true => cases h
  | false => exact ⟨rfl, h⟩
theorem rtg_none {r : Nat} (h : a_hk r = false) (k : Nat) : rtg r k = 99 := by
  unfold a_hk at h
  obtain ⟨h1, h⟩ := a_or h
  obtain ⟨h2, h⟩ := a_or h
  obtain ⟨h3, h⟩ := a_or h
  obtain ⟨h4, h⟩ := a_or h
  obtain ⟨h5, h⟩ := a_or h
  obtain ⟨h6, h⟩ := a_or h
  obtain ⟨h7, h⟩ := a_or h
  obtain ⟨h8, h⟩ := a_or h
  obtain ⟨h9, h⟩ := a_or h
  obtain ⟨h10, h⟩ := a_or h
  obtain ⟨h11, h⟩ := a_or h
  obtain ⟨h12, h⟩ := a_or h
  obtain ⟨h13, h⟩ := a_or h
  obtain ⟨h14, h⟩ := a_or h
  obtain ⟨h15, h⟩ := a_or h
  obtain ⟨h16, h⟩ := a_or h
  obtain ⟨h17, h⟩ := a_or h
  unfold rtg
  rw [h1, h2, h3, h4, h5, h6, h7, h8, h9, h10, h11, h12, h13, h14, h15, h16, h17, h]
  rfl
theorem a_k150 {r : Nat} {g : Nat → Bool} (c : ((!(a_hk r)) || (List.range 150).all (fun k => Nat.beq (rtg r k) 99 || g k)) = true) : (List.range 150).all (fun k => Nat.beq (rtg r k) 99 || g k) = true := by
  cases h : a_hk r with
  | true =>
    rw [h, Bool.not_true, Bool.false_or] at c
    exact c
  | false =>
    refine List.all_eq_true.mpr (fun k _ => ?_)
    show (Nat.beq (rtg r k) 99 || g k) = true
    exact (congrArg (fun x => (Nat.beq x 99 || g k)) (rtg_none h k)).trans rfl
def a_chk (n : Nat) : Bool := (!(a_sta n)) || (decide (aT0.2.1 n = shp (aR0 n)) && (((!(a_hk (aR0 n))) || (List.range 150).all (fun k => Nat.beq (rtg (aR0 n) k) 99 || (match (arf n).getD k none with | some q => Nat.blt q 1586 && Nat.beq (aR0 q) (rtg (aR0 n) k) | none => false))) && ((!(isW (aR0 n))) || (match (arf n).getD 1 none with | some q => (match (arf q).getD 0 none with | some r => decide (aT0.2.1 r = (101, cnt (aR0 n))) | none => false) | none => true)) && ((!(isRW (aR0 n))) || (arf n).all (fun x => match x with | some r => Nat.blt r 1586 && (Nat.beq (aT0.2.1 r).1 101 && (Nat.beq (aT0.2.1 r).2 0 || Nat.beq (aT0.2.1 r).2 (wC (aR0 n)))) | none => true))))
set_option maxRecDepth 100000 in
theorem a_all : (List.range 1586).all a_chk = true := by decide +kernel
