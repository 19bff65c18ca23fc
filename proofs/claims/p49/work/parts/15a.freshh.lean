def fs_S0 : Nat → Nat × Nat := fun i => ([(11, 0)] : List (Nat × Nat)).getD i (0, 0)
def fo_S0 : Nat → Nat := fun i => ([11] : List Nat).getD i 30
def fv_S0 : Nat → List (Option Nat) := fun i => ([[some 1, some 6, some 7, some 22, some 66, some 154, some 242, some 336, some 430, some 431, some 432, some 433, some 434, some 477, some 478, some 656, none, none, none]] : List (List (Option Nat))).getD i []
def fs_S6 : Nat → Nat × Nat := fun i => ([(3, 0)] : List (Nat × Nat)).getD i (0, 0)
def fo_S6 : Nat → Nat := fun i => ([3] : List Nat).getD i 30
def fv_S6 : Nat → List (Option Nat) := fun i => ([[some 1, none, none, none]] : List (List (Option Nat))).getD i []
def fs_S430 : Nat → Nat × Nat := fun i => ([(105, 6)] : List (Nat × Nat)).getD i (0, 0)
