def aro : Nat → Nat → Nat := fun j => match j with
  | 0 => fo_X9
  | 1 => fo_X5
  | 2 => fo_X0
  | 3 => fo_X4
  | 4 => fo_X4
  | 5 => fo_X8
  | 6 => fo_X8
  | 7 => fo_K7
  | 8 => fo_K8
  | 9 => fo_X10_12
  | 10 => fo_K10
  | 11 => fo_X6
  | 12 => fo_X6
  | 13 => fo_X8
  | 14 => fo_X8
  | 15 => fo_X8
  | 16 => fo_X8
  | 17 => fo_X8
  | 18 => fo_X8
  | 19 => fo_X8
  | 20 => fo_X8
  | 21 => fo_S0
  | 22 => fo_S6
  | 23 => fo_S430
  | 24 => fo_S431
  | _ => fun _ => 30
def avr : Nat → Nat → List (Option Nat) := fun j => match j with
  | 0 => fv_X9
  | 1 => fv_X5
  | 2 => fv_X0
  | 3 => fv_X4
  | 4 => fv_X4
  | 5 => fv_X8
  | 6 => fv_X8
  | 7 => fv_K7
  | 8 => fv_K8
  | 9 => fv_X10_12
  | 10 => fv_K10
  | 11 => fv_X6
  | 12 => fv_X6
  | 13 => fv_X8
  | 14 => fv_X8
  | 15 => fv_X8
  | 16 => fv_X8
  | 17 => fv_X8
  | 18 => fv_X8
  | 19 => fv_X8
  | 20 => fv_X8
  | 21 => fv_S0
  | 22 => fv_S6
  | 23 => fv_S430
  | 24 => fv_S431
  | _ => fun _ => []
def aloc (n : Nat) : Nat × Nat := bif Nat.blt n 1 then (21, n - 0) else bif Nat.blt n 6 then (0, n - 1) else bif Nat.blt n 7 then (22, n - 6) else bif Nat.blt n 22 then (1, n - 7) else bif Nat.blt n 66 then (2, n - 22) else bif Nat.blt n 154 then (3, n - 66) else bif Nat.blt n 242 then (4, n - 154) else bif Nat.blt n 336 then (5, n - 242) else bif Nat.blt n 430 then (6, n - 336) else bif Nat.blt n 431 then (23, n - 430) else bif Nat.blt n 432 then (24, n - 431) else bif Nat.blt n 433 then (7, n - 432) else bif Nat.blt n 434 then (8, n - 433) else bif Nat.blt n 477 then (9, n - 434) else bif Nat.blt n 478 then (10, n - 477) else bif Nat.blt n 656 then (11, n - 478) else bif Nat.blt n 834 then (12, n - 656) else bif Nat.blt n 928 then (13, n - 834) else bif Nat.blt n 1022 then (14, n - 928) else bif Nat.blt n 1116 then (15, n - 1022) else bif Nat.blt n 1210 then (16, n - 1116) else bif Nat.blt n 1304 then (17, n - 1210) else bif Nat.blt n 1398 then (18, n - 1304) else bif Nat.blt n 1492 then (19, n - 1398) else bif Nat.blt n 1586 then (20, n - 1492) else (25, 0)
def aR0 (n : Nat) : Nat := aro (aloc n).1 (aloc n).2
def arf (n : Nat) : List (Option Nat) := (avr (aloc n).1 (aloc n).2).map (fun x => x.map (aoff (aloc n).1 + ·))
def aT0 : AT := (1586, fun n => ash (aloc n).1 (aloc n).2, fun n => fviR (aR0 n), fun _ _ => 0, fun n k => (arf n).getD k none)
theorem a_fin {n : Nat} {p : Nat → Bool} (h : (List.range n).all p = true) {i : Nat} (hi : i < n) : p i = true := List.all_eq_true.mp h i (List.mem_range.mpr hi)
