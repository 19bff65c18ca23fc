def fo_S430 : Nat → Nat := fun i => ([47] : List Nat).getD i 30
def fv_S430 : Nat → List (Option Nat) := fun i => ([(((((((List.replicate 6 none).set 0 (some 834)).set 1 (some 928)).set 2 (some 1022)).set 3 (some 1116)).set 4 (some 1210)).set 5 (some 1304))] : List (List (Option Nat))).getD i []
def fs_S431 : Nat → Nat × Nat := fun i => ([(105, 2)] : List (Nat × Nat)).getD i (0, 0)
def fo_S431 : Nat → Nat := fun i => ([48] : List Nat).getD i 30
def fv_S431 : Nat → List (Option Nat) := fun i => ([(((List.replicate 2 none).set 0 (some 1398)).set 1 (some 1492))] : List (List (Option Nat))).getD i []
def aoff : Nat → Nat := fun j => ([1, 7, 22, 66, 154, 242, 336, 432, 433, 434, 477, 478, 656, 834, 928, 1022, 1116, 1210, 1304, 1398, 1492, 0, 0, 0, 0] : List Nat).getD j 0
def ash : Nat → Nat → Nat × Nat := fun j => match j with
  | 0 => fs_X9
  | 1 => fs_X5
  | 2 => fs_X0
  | 3 => fs_X4
  | 4 => fs_X4
  | 5 => fs_X8
  | 6 => fs_X8
  | 7 => fs_K7
  | 8 => fs_K8
  | 9 => fs_X10_12
  | 10 => fs_K10
  | 11 => fs_X6
  | 12 => fs_X6
  | 13 => fs_X8
  | 14 => fs_X8
  | 15 => fs_X8
  | 16 => fs_X8
  | 17 => fs_X8
  | 18 => fs_X8
  | 19 => fs_X8
  | 20 => fs_X8
  | 21 => fs_S0
  | 22 => fs_S6
  | 23 => fs_S430
  | 24 => fs_S431
  | _ => fun _ => (0, 0)
