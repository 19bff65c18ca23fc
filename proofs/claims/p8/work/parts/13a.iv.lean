/-! The class: roles of its cells, and what holds of each (IV) -/
def isW (r : Nat) : Bool := Nat.ble 101 r && Nat.ble r 105
def isRW (r : Nat) : Bool := Nat.ble 111 r && Nat.ble r 115
def cnt (r : Nat) : Nat := bif Nat.beq r 101 then 1 else bif Nat.beq r 102 then 12 else bif Nat.beq r 103 then 144 else bif Nat.beq r 104 then 2400 else 7200
def shp (r : Nat) : Nat × Nat :=
  bif isW r then (10, 0) else bif isRW r then (107, 40) else
  bif Nat.ble r 12 then (r, 0) else bif Nat.beq r 20 then (0, 0) else
  bif Nat.beq r 41 then (100, 1000) else bif Nat.beq r 42 then (100, 1001) else bif Nat.beq r 43 then (100, 1001) else bif Nat.beq r 44 then (100, 1001) else
  bif Nat.beq r 45 then (106, 12) else bif Nat.beq r 46 then (100, 200) else bif Nat.beq r 47 then (105, 6) else bif Nat.beq r 48 then (105, 2) else
  bif Nat.beq r 49 then (102, 2) else bif Nat.beq r 50 then (100, 12) else bif Nat.beq r 51 then (106, 144) else bif Nat.beq r 52 then (100, 155) else
  bif Nat.beq r 53 then (103, 12) else bif Nat.beq r 54 then (104, 6) else bif Nat.beq r 55 then (100, 2) else bif Nat.beq r 56 then (100, 2) else
  bif Nat.beq r 57 then (100, 5) else bif Nat.beq r 58 then (100, 12) else bif Nat.beq r 59 then (100, 4) else bif Nat.beq r 60 then (106, 4) else
  bif Nat.beq r 61 then (100, 4) else bif Nat.beq r 62 then (102, 12) else bif Nat.beq r 63 then (100, 12) else bif Nat.beq r 64 then (102, 6) else
  bif Nat.beq r 65 then (100, 6) else bif Nat.beq r 66 then (100, 6) else bif Nat.beq r 67 then (100, 144) else (0, 0)
/-- where a reference leads: by role and place (99: no reference) -/
def rtg (r k : Nat) : Nat :=
  bif isW r then (bif Nat.beq k 1 then r + 10 else 99) else bif isRW r then (bif Nat.blt k 40 then 30 else 99) else
  bif Nat.beq r 11 then (bif Nat.beq k 0 then 9 else bif Nat.beq k 1 then 3 else bif Nat.beq k 2 then 5 else bif Nat.beq k 3 then 20 else bif Nat.beq k 4 then 4 else bif Nat.beq k 5 then 4 else bif Nat.beq k 6 then 8 else bif Nat.beq k 7 then 8 else bif Nat.beq k 8 then 47 else bif Nat.beq k 9 then 48 else bif Nat.beq k 10 then 49 else bif Nat.beq k 11 then 50 else bif Nat.beq k 12 then 102 else bif Nat.beq k 13 then 52 else bif Nat.beq k 14 then 6 else bif Nat.beq k 15 then 6 else 99) else
  bif Nat.beq r 9 then (bif Nat.beq k 0 then 41 else bif Nat.beq k 2 then 42 else bif Nat.beq k 3 then 43 else bif Nat.beq k 4 then 44 else 99) else
  bif Nat.beq r 3 then (bif Nat.beq k 0 then 9 else 99) else
  bif Nat.beq r 5 then (bif Nat.beq k 0 then 45 else bif Nat.beq k 1 then 7 else 99) else
  bif Nat.beq r 20 then (bif Nat.beq k 0 then 105 else 99) else
  bif Nat.beq r 4 then (bif Nat.beq k 1 then 103 else bif Nat.beq k 4 then 67 else bif Nat.beq k 5 then 103 else 99) else
  bif Nat.beq r 8 then (bif Nat.beq k 3 then 62 else bif Nat.beq k 4 then 63 else bif Nat.beq k 5 then 64 else bif Nat.beq k 6 then 65 else bif Nat.beq k 7 then 65 else bif Nat.beq k 8 then 66 else bif Nat.beq k 9 then 66 else bif Nat.beq k 10 then 104 else bif Nat.beq k 11 then 101 else 99) else
  bif Nat.beq r 6 then (bif Nat.beq k 4 then 53 else bif Nat.beq k 6 then 1 else bif Nat.beq k 7 then 54 else bif Nat.beq k 9 then 55 else bif Nat.beq k 10 then 56 else bif Nat.beq k 13 then 57 else bif Nat.beq k 15 then 58 else bif Nat.beq k 17 then 51 else 99) else
  bif Nat.beq r 1 then (bif Nat.beq k 5 then 59 else bif Nat.beq k 6 then 60 else bif Nat.beq k 8 then 61 else 99) else
  bif Nat.beq r 45 then (bif Nat.blt k 12 then 46 else 99) else bif Nat.beq r 47 then (bif Nat.blt k 6 then 8 else 99) else bif Nat.beq r 48 then (bif Nat.blt k 2 then 8 else 99) else
  bif Nat.beq r 51 then (bif Nat.blt k 144 then 50 else 99) else bif Nat.beq r 53 then (bif Nat.blt k 12 then 2 else 99) else bif Nat.beq r 54 then (bif Nat.blt k 6 then 7 else 99) else
  bif Nat.beq r 60 then (bif Nat.blt k 4 then 59 else 99) else 99
/-- between what an int lies -/
def iR (r k : Nat) : Int × Int :=
  bif isW r then (bif Nat.beq k 0 then ((cnt r : Int), (cnt r : Int)) else bif Nat.beq k 2 then (1, 40) else (-2147483648, 2147483647)) else
  bif Nat.beq r 11 then (bif Nat.beq k 16 then (0, 6) else bif Nat.beq k 17 then (0, 5) else bif Nat.beq k 18 then (0, 155) else (-2147483648, 2147483647)) else
  bif Nat.beq r 9 then (bif Nat.beq k 1 then (0, 1000) else bif Nat.beq k 5 then (0, 1001) else (-2147483648, 2147483647)) else
  bif Nat.beq r 3 then (bif Nat.beq k 1 then (0, 1001) else bif Nat.beq k 2 then (0, 6) else (-2147483648, 2147483647)) else
  bif Nat.beq r 4 then (bif Nat.beq k 0 then (0, 1) else bif Nat.beq k 2 then (0, 143) else bif Nat.beq k 3 then (0, 144) else (-2147483648, 2147483647)) else
  bif Nat.beq r 8 then (bif Nat.beq k 0 then (0, 12) else bif Nat.beq k 1 then (0, 200) else (-2147483648, 2147483647)) else
  bif Nat.beq r 6 then (bif Nat.beq k 0 then (0, 5000) else bif Nat.beq k 1 then (0, 99) else bif Nat.beq k 2 then (0, 200) else bif Nat.beq k 3 then (0, 9999) else bif Nat.beq k 5 then (0, 12) else bif Nat.beq k 8 then (0, 6) else bif Nat.beq k 11 then (0, 2) else bif Nat.beq k 12 then (0, 999) else bif Nat.beq k 14 then (0, 5) else bif Nat.beq k 16 then (0, 12) else (-2147483648, 2147483647)) else
  bif Nat.beq r 1 then (bif Nat.beq k 0 then (-999, 999) else bif Nat.beq k 1 then (-999, 999) else bif Nat.beq k 2 then (0, 99) else bif Nat.beq k 3 then (0, 12) else bif Nat.beq k 4 then (0, 12) else bif Nat.beq k 7 then (0, 4) else (-2147483648, 2147483647)) else
  bif Nat.beq r 2 then (bif Nat.beq k 0 then (-500, 500) else bif Nat.beq k 1 then (-500, 500) else bif Nat.beq k 2 then (0, 9) else bif Nat.beq k 3 then (0, 31) else (-2147483648, 2147483647)) else
  bif Nat.beq r 7 then (bif Nat.beq k 0 then (0, 3) else bif Nat.beq k 1 then (-2000, 2000) else bif Nat.beq k 2 then (-2000, 2000) else bif Nat.beq k 3 then (-999, 999) else bif Nat.beq k 4 then (-999, 999) else bif Nat.beq k 5 then (0, 999) else bif Nat.beq k 6 then (0, 99) else bif Nat.beq k 7 then (0, 99) else bif Nat.beq k 8 then (0, 199) else bif Nat.beq k 9 then (0, 1) else (-2147483648, 2147483647)) else
  bif Nat.beq r 43 then (0, 1000) else bif Nat.beq r 44 then (0, 1000) else bif Nat.beq r 49 then (0, 1) else bif Nat.beq r 62 then (0, 1) else bif Nat.beq r 64 then (0, 1) else
  bif Nat.beq r 59 then (0, 11) else bif Nat.beq r 61 then (bif Nat.blt k 2 then (0, 143) else (-1, 11)) else bif Nat.beq r 63 then (0, 9) else bif Nat.beq r 67 then (0, 143) else
  bif Nat.beq r 57 then (-9, 9) else bif Nat.beq r 58 then (0, 9) else bif Nat.beq r 55 then (-2000, 2000) else bif Nat.beq r 56 then (0, 100) else bif Nat.beq r 65 then (-2000, 2000) else bif Nat.beq r 66 then (-999, 999) else (-2147483648, 2147483647)
/-- the room that is still to be taken: rows of no length -/
def zr (T : AT) (n p : Nat) : Nat := match T.2.2.2.2 n p with
  | some q => if (T.2.1 q).2 = 0 then 1 else 0
  | none => 0
def zs (T : AT) (n : Nat) : Nat → Nat
  | 0 => 0
  | p + 1 => zs T n p + zr T n p
def zt (R : Nat → Nat) (T : AT) (w : Nat → Nat) : Nat → Nat
  | 0 => 0
  | n + 1 => zt R T w n + (bif isRW (R n) then zs T n 40 * w (R n) else 0)
def w1 (_ : Nat) : Nat := 1
def wC (r : Nat) : Nat := cnt (r - 10)
/-- a cell that is there from the start, of a known role -/
def sta (R : Nat → Nat) (B n : Nat) : Prop := n < B ∧ R n ≠ 99 ∧ R n ≠ 30

def IV (R : Nat → Nat) (B K1 K2 : Nat) (T : AT) : Prop :=
  ((∀ n, R n ≠ 99 → R n ≠ 30 → n < B) ∧ ((∀ n, R n = 9 → ∀ m, R m = 9 → n = m) ∧ ∀ n, B ≤ n → R n = 30) ∧ B ≤ T.1)
  ∧ (∀ n, sta R B n → T.2.1 n = shp (R n))
  ∧ (∀ n k, sta R B n → rtg (R n) k ≠ 99 → ∃ q, T.2.2.2.2 n k = some q ∧ q < T.1 ∧ R q = rtg (R n) k)
  ∧ (∀ n k, sta R B n → (iR (R n) k).1 ≤ (T.2.2.1 n k).toInt ∧ (T.2.2.1 n k).toInt ≤ (iR (R n) k).2)
  ∧ (∀ n, sta R B n → isW (R n) = true → ∀ q, T.2.2.2.2 n 1 = some q → ∀ p : Nat, (p : Int) < (T.2.2.1 n 2).toInt → ∃ r, T.2.2.2.2 q p = some r ∧ T.2.1 r = (101, cnt (R n)))
  ∧ (∀ n p r, sta R B n → isRW (R n) = true → T.2.2.2.2 n p = some r → r < T.1 ∧ (T.2.1 r).1 = 101 ∧ ((T.2.1 r).2 = 0 ∨ (T.2.1 r).2 = wC (R n)))
  ∧ (T.1 + zt R T w1 B = K1 ∧ sg T + zt R T wC B = K2)
section
variable {R : Nat → Nat} {B K1 K2 : Nat} {T : AT}
theorem iv_sta (h : IV R B K1 K2 T) {n r : Nat} (hr : R n = r) (h1 : r ≠ 99) (h2 : r ≠ 30) : sta R B n := ⟨h.1.1 n (by rw [hr]; exact h1) (by rw [hr]; exact h2), by rw [hr]; exact h1, by rw [hr]; exact h2⟩
theorem iv_lt (h : IV R B K1 K2 T) {n : Nat} (hs : sta R B n) : n < T.1 := Nat.lt_of_lt_of_le hs.1 h.1.2.2
theorem iv_oO (h : IV R B K1 K2 T) {n r c : Nat} (hr : R n = r) (h1 : r ≠ 99) (h2 : r ≠ 30) (hs : shp r = (c, 0)) : oO T n c = true := by
  have s := iv_sta h hr h1 h2
  unfold oO
  rw [h.2.1 n s, hr, hs, decide_eq_true rfl, show Nat.blt n T.1 = true from Nat.ble_eq_true_of_le (iv_lt h s)]
  rfl
theorem iv_aA (h : IV R B K1 K2 T) {n r c l : Nat} (hr : R n = r) (h1 : r ≠ 99) (h2 : r ≠ 30) (hs : shp r = (c, l)) (hl : Nat.blt l (2 ^ 31) = true) : aA T n c = true := by
  have s := iv_sta h hr h1 h2
  unfold aA
  rw [h.2.1 n s, hr, hs, show Nat.blt n T.1 = true from Nat.ble_eq_true_of_le (iv_lt h s)]
  show (true && (decide (c = c) && Nat.blt l (2 ^ 31))) = true
  rw [hl, decide_eq_true rfl]
  rfl
theorem iv_len (h : IV R B K1 K2 T) {n r c l : Nat} (hr : R n = r) (h1 : r ≠ 99) (h2 : r ≠ 30) (hs : shp r = (c, l)) : (T.2.1 n).2 = l := by
  rw [h.2.1 n (iv_sta h hr h1 h2), hr, hs]
theorem iv_int (h : IV R B K1 K2 T) {n r k : Nat} {v : Int32} {a b : Int} (hr : R n = r) (h1 : r ≠ 99) (h2 : r ≠ 30) (e : v = T.2.2.1 n k) (hi : iR r k = (a, b)) : a ≤ v.toInt ∧ v.toInt ≤ b := by
  have q := h.2.2.2.1 n k (iv_sta h hr h1 h2)
  rw [hr, hi] at q
  rw [e]
  exact q
theorem tot_ref {γ : Type} {P : γ → Prop} {f : Nat → Option γ} (h : IV R B K1 K2 T) {n r k r2 : Nat} (hr : R n = r) (h1 : r ≠ 99) (h2 : r ≠ 30) (ht : rtg r k = r2) (h9 : r2 ≠ 99) (kk : ∀ q, R q = r2 → T.2.2.2.2 n k = some q → Tot (f q) P) : Tot (obind (T.2.2.2.2 n k) f) P := by
  obtain ⟨q, e, hq, hR⟩ := h.2.2.1 n k (iv_sta h hr h1 h2) (by rw [hr, ht]; exact h9)
  rw [hr, ht] at hR
  rw [e]
  exact kk q hR e
theorem tot_ref1 {γ : Type} {P : γ → Prop} {f : Nat → Option γ} {o q0 : Nat} {k : Nat} (e0 : T.2.2.2.2 o k = some q0) (kk : Tot (f q0) P) : Tot (obind (T.2.2.2.2 o k) f) P := by
  rw [e0]
  exact kk
theorem zs_eq {T U : AT} {n : Nat} : ∀ P : Nat, (∀ p, p < P → zr T n p = zr U n p) → zs T n P = zs U n P
  | 0, _ => rfl
  | P + 1, h => by
    show zs T n P + zr T n P = zs U n P + zr U n P
    rw [zs_eq P (fun p hp => h p (Nat.lt_succ_of_lt hp)), h P (Nat.lt_succ_self P)]
theorem zt_eq {T U : AT} {w : Nat → Nat} : ∀ N : Nat, (∀ n, n < N → isRW (R n) = true → ∀ p, p < 40 → zr T n p = zr U n p) → zt R T w N = zt R U w N
  | 0, _ => rfl
  | N + 1, h => by
    show zt R T w N + _ = zt R U w N + _
    rw [zt_eq N (fun n hn => h n (Nat.lt_succ_of_lt hn))]
    cases e : isRW (R N) with
    | false => rfl
    | true => rw [zs_eq 40 (h N (Nat.lt_succ_self N) e)]
theorem iv_room {U : AT} (e1 : U.1 = T.1) (e2 : U.2.1 = T.2.1) (e3 : U.2.2.2.2 = T.2.2.2.2) (h : T.1 + zt R T w1 B = K1 ∧ sg T + zt R T wC B = K2) : U.1 + zt R U w1 B = K1 ∧ sg U + zt R U wC B = K2 := by
  have z : ∀ w, zt R U w B = zt R T w B := fun w => zt_eq B (fun m _ _ p _ => by unfold zr; rw [e3, e2])
  have s : sg U = sg T := by unfold sg; rw [e1, e2]
  rw [z, z, e1, s]
  exact h
/-- an int is written -/
theorem iv_uI (h : IV R B K1 K2 T) {n r k : Nat} {v : Int32} {a b : Int} (hr : R n = r) (h1 : r ≠ 99) (h2 : r ≠ 30) (hi : iR r k = (a, b)) (hv : a ≤ v.toInt ∧ v.toInt ≤ b) (hw : isW r = false ∨ k ≠ 2) : IV R B K1 K2 (uI T n k v) := by
  have key : ∀ m j, (uI T n k v).2.2.1 m j = if m = n ∧ j = k then v else T.2.2.1 m j := fun m j => by
    show va_up T.2.2.1 n (upd (T.2.2.1 n) k v) m j = _
    by_cases e : m = n
    · subst e
      rw [va_up_self]
      unfold upd
      by_cases e2 : j = k
      · rw [if_pos e2, if_pos ⟨rfl, e2⟩]
      · rw [if_neg e2, if_neg (fun q => e2 q.2)]
    · rw [va_up_ne _ _ e, if_neg (fun q => e q.1)]
  refine ⟨h.1, h.2.1, h.2.2.1, fun m j hs => ?_, fun m hs hW q hq p hp => ?_, h.2.2.2.2.2.1, iv_room (T := T) rfl rfl rfl h.2.2.2.2.2.2⟩
  · rw [key]
    by_cases e : m = n ∧ j = k
    · rw [if_pos e, e.1, e.2, hr, hi]
      exact hv
    · rw [if_neg e]
      exact h.2.2.2.1 m j hs
  · rw [key, if_neg (fun q => by
      rcases hw with hw | hw
      · rw [q.1, hr, hw] at hW; cases hW
      · exact hw q.2.symm)] at hp
    exact h.2.2.2.2.1 m hs hW q hq p hp
/-- how many parts: the rows must be there -/
theorem iv_used (h : IV R B K1 K2 T) {n r : Nat} {v : Int32} (hr : R n = r) (hW : isW r = true) (hv : 1 ≤ v.toInt ∧ v.toInt ≤ 40) (hrow : ∀ q, T.2.2.2.2 n 1 = some q → ∀ p : Nat, (p : Int) < v.toInt → ∃ x, T.2.2.2.2 q p = some x ∧ T.2.1 x = (101, cnt r)) : IV R B K1 K2 (uI T n 2 v) := by
  have key : ∀ m j, (uI T n 2 v).2.2.1 m j = if m = n ∧ j = 2 then v else T.2.2.1 m j := fun m j => by
    show va_up T.2.2.1 n (upd (T.2.2.1 n) 2 v) m j = _
    by_cases e : m = n
    · subst e
      rw [va_up_self]
      unfold upd
      by_cases e2 : j = 2
      · rw [if_pos e2, if_pos ⟨rfl, e2⟩]
      · rw [if_neg e2, if_neg (fun q => e2 q.2)]
    · rw [va_up_ne _ _ e, if_neg (fun q => e q.1)]
  refine ⟨h.1, h.2.1, h.2.2.1, fun m j hs => ?_, fun m hs hW2 q hq p hp => ?_, h.2.2.2.2.2.1, iv_room (T := T) rfl rfl rfl h.2.2.2.2.2.2⟩
  · rw [key]
    by_cases e : m = n ∧ j = 2
    · rw [if_pos e, e.1, e.2, hr]
      unfold iR
      rw [hW]
      exact hv
    · rw [if_neg e]
      exact h.2.2.2.1 m j hs
  · rw [key] at hp
    by_cases e : m = n
    · rw [if_pos ⟨e, rfl⟩] at hp
      subst e
      rw [hr]
      exact hrow q hq p hp
    · rw [if_neg (fun q => e q.1)] at hp
      exact h.2.2.2.2.1 m hs hW2 q hq p hp
theorem iv_uJ (h : IV R B K1 K2 T) (n k : Nat) (v : Int64) : IV R B K1 K2 (uJ T n k v) := ⟨h.1, h.2.1, h.2.2.1, h.2.2.2.1, h.2.2.2.2.1, h.2.2.2.2.2.1, iv_room (T := T) rfl rfl rfl h.2.2.2.2.2.2⟩
theorem iv_uC (h : IV R B K1 K2 T) (a b k : Nat) : IV R B K1 K2 (uC T a b k) := ⟨h.1, h.2.1, h.2.2.1, h.2.2.2.1, h.2.2.2.2.1, h.2.2.2.2.2.1, iv_room (T := T) rfl rfl rfl h.2.2.2.2.2.2⟩
/-- scene and spare change places -/
theorem iv_uR (h : IV R B K1 K2 T) {n r k q : Nat} (hr : R n = r) (h1 : r ≠ 99) (h2 : r ≠ 30) (hw : isW r = false) (hw2 : isRW r = false) (hq : R q = rtg r k) (hq2 : rtg r k ≠ 99 ∧ rtg r k ≠ 30) : IV R B K1 K2 (uR T n k q) := by
  have key : ∀ m j, m ≠ n → (uR T n k q).2.2.2.2 m j = T.2.2.2.2 m j := fun m j e => by
    show va_up T.2.2.2.2 n (va_up (T.2.2.2.2 n) k (some q)) m j = _
    rw [va_up_ne _ _ e]
  have kn : ∀ j, (uR T n k q).2.2.2.2 n j = if j = k then some q else T.2.2.2.2 n j := fun j => by
    show va_up T.2.2.2.2 n (va_up (T.2.2.2.2 n) k (some q)) n j = _
    rw [va_up_self]
    by_cases e : j = k
    · rw [if_pos e, e, va_up_self]
    · rw [if_neg e, va_up_ne _ _ e]
  have hql : q < T.1 := iv_lt h (iv_sta h hq hq2.1 hq2.2)
  have rowne : ∀ m, isRW (R m) = true → m ≠ n := fun m hm e => by rw [e, hr, hw2] at hm; cases hm
  have z : ∀ w, zt R (uR T n k q) w B = zt R T w B := fun w => zt_eq B (fun m _ hm p _ => by
    unfold zr
    rw [key m p (rowne m hm)]
    rfl)
  refine ⟨h.1, h.2.1, fun m j hs hj => ?_, h.2.2.2.1, fun m hs hW x hx p hp => ?_, fun m p x hs hW hx => ?_, ?_, ?_⟩
  · by_cases e : m = n
    · subst e
      rw [kn]
      by_cases e2 : j = k
      · rw [if_pos e2]
        exact ⟨q, rfl, hql, by rw [hq, hr, e2]⟩
      · rw [if_neg e2]
        exact h.2.2.1 m j hs hj
    · rw [key m j e]
      exact h.2.2.1 m j hs hj
  · have e : m ≠ n := fun e => by rw [e, hr, hw] at hW; cases hW
    rw [key m 1 e] at hx
    obtain ⟨y, y1, y2⟩ := h.2.2.2.2.1 m hs hW x hx p hp
    have hx2 := h.2.2.1 m 1 hs (by unfold rtg; rw [hW]; show R m + 10 ≠ 99; unfold isW at hW; have := Nat.le_of_ble_eq_true ((Bool.and_eq_true _ _).mp hW).1; omega)
    obtain ⟨x2, a1, a2, a3⟩ := hx2
    rw [hx] at a1
    cases a1
    have hxn : x ≠ n := rowne x (by
      rw [a3]
      unfold rtg
      rw [hW]
      unfold isW at hW
      have b1 := Nat.le_of_ble_eq_true ((Bool.and_eq_true _ _).mp hW).1
      have b2 := Nat.le_of_ble_eq_true ((Bool.and_eq_true _ _).mp hW).2
      show (Nat.ble 111 (R m + 10) && Nat.ble (R m + 10) 115) = true
      rw [Nat.ble_eq_true_of_le (show 111 ≤ R m + 10 by omega), Nat.ble_eq_true_of_le (show R m + 10 ≤ 115 by omega)]
      rfl)
    exact ⟨y, by rw [key x p hxn]; exact y1, y2⟩
  · rw [key m p (rowne m hW)] at hx
    exact h.2.2.2.2.2.1 m p x hs hW hx
  · rw [z]; exact h.2.2.2.2.2.2.1
  · rw [z]; exact h.2.2.2.2.2.2.2
end
