abbrev AT : Type := Nat × (Nat → Nat × Nat) × (Nat → Nat → Int32) × (Nat → Nat → Int64) × (Nat → Nat → Option Nat)
def uI (T : AT) (n k : Nat) (v : Int32) : AT := (T.1, T.2.1, va_up T.2.2.1 n (upd (T.2.2.1 n) k v), T.2.2.2)
def uJ (T : AT) (n k : Nat) (v : Int64) : AT := (T.1, T.2.1, T.2.2.1, va_up T.2.2.2.1 n (vp_updL (T.2.2.2.1 n) k v), T.2.2.2.2)
def uR (T : AT) (n k q : Nat) : AT := (T.1, T.2.1, T.2.2.1, T.2.2.2.1, va_up T.2.2.2.2 n (va_up (T.2.2.2.2 n) k (some q)))
def oO (T : AT) (n c : Nat) : Bool := Nat.blt n T.1 && decide (T.2.1 n = (c, 0))
def aA (T : AT) (n c : Nat) : Bool := Nat.blt n T.1 && (decide ((T.2.1 n).1 = c) && Nat.blt (T.2.1 n).2 (2 ^ 31))
def SP (T T1 : AT) : Prop := T1.1 = T.1 ∧ T1.2.1 = T.2.1 ∧ T1.2.2.2.2 = T.2.2.2.2
def uC (T : AT) (a b k : Nat) : AT := (T.1, T.2.1, T.2.2.1, va_up T.2.2.2.1 b (va_cpy (T.2.2.2.1 a) (T.2.2.2.1 b) 0 0 k), T.2.2.2.2)
def RC (T : AT) : Prop := ∀ n k q, T.2.2.2.2 n k = some q → q < T.1
def newJ (T : AT) (K : Nat) : AT := (T.1 + 1, va_up T.2.1 T.1 (101, K), T.2.2.1, va_up T.2.2.2.1 T.1 (fun _ => 0), T.2.2.2.2)
def sgA (f : Nat → Nat × Nat) : Nat → Nat
  | 0 => 0
  | n + 1 => sgA f n + (f n).2
def sg (T : AT) : Nat := sgA T.2.1 T.1
def GL (T T1 : AT) : Prop := T.1 ≤ T1.1 ∧ (∀ n, n < T.1 → T1.2.1 n = T.2.1 n) ∧ (RC T → RC T1)
def othr {α β : Type} (x : Option (Nat × α × AT)) (z : β) (f : α → AT → Option (Nat × β × AT)) : Option (Nat × β × AT) := match x with
  | none => none
  | some (0, r, T) => f r T
  | some (k + 1, _, T) => some (k + 1, z, T)
