theorem nbeq {a b : Nat} (h : a ≠ b) : Nat.beq a b = false := Bool.eq_false_iff.mpr (fun q => h (Nat.eq_of_beq_eq_true q))
def fviR (r : Nat) : Nat → Int32 := bif isW r then (fun k => bif Nat.beq k 0 then Int32.ofNat (cnt r) else bif Nat.beq k 2 then 1 else 0) else bif Nat.beq r 3 then (fun k => bif Nat.beq k 3 then -1 else 0) else fun _ => 0
def fs_X9 : Nat → Nat × Nat := fun i => ([(9, 0), (100, 1000), (100, 1001), (100, 1001), (100, 1001)] : List (Nat × Nat)).getD i (0, 0)
def fo_X9 : Nat → Nat := fun i => ([9, 41, 42, 43, 44] : List Nat).getD i 30
def fv_X9 : Nat → List (Option Nat) := fun i => ([[some 1, none, some 2, some 3, some 4, none], [], [], [], []] : List (List (Option Nat))).getD i []
set_option maxHeartbeats 4000000 in
set_option maxRecDepth 100000 in
theorem fk_X9 {cI cJ cZ cMic cSrc cSt cAI cAJ : ClassId} (b : Nat → Nat) {i : Nat} (hi : i < 5) : iX9 cI cJ cZ cMic cSrc cSt cAI cAJ b i = ccv cI cJ cZ cMic cSrc cSt cAI cAJ b (fs_X9 i) (fviR (fo_X9 i)) (fun _ => 0) (fun k => (fv_X9 i).getD k none) := by
  have h : ([.inr (9, [.ref (b 1), .int 0, .ref (b 2), .ref (b 3), .ref (b 4), .int 0]), .inl (cI, 1000, .inl (fun _ => 0)), .inl (cI, 1001, .inl (fun _ => 0)), .inl (cI, 1001, .inl (fun _ => 0)), .inl (cI, 1001, .inl (fun _ => 0))] : List va_E) = (List.range 5).map (fun i => ccv cI cJ cZ cMic cSrc cSt cAI cAJ b (fs_X9 i) (fviR (fo_X9 i)) (fun _ => 0) (fun k => (fv_X9 i).getD k none)) := (lc rfl (lc rfl (lc rfl (lc rfl (lc rfl rfl)))))
  exact (congrArg (fun l => List.getD l i (.inr (0, []))) h).trans (fr_getD hi)
def fs_X5 : Nat → Nat × Nat := fun i => ([(5, 0), (106, 12), (100, 200), (100, 200), (100, 200), (100, 200), (100, 200), (100, 200), (100, 200), (100, 200), (100, 200), (100, 200), (100, 200), (100, 200), (7, 0)] : List (Nat × Nat)).getD i (0, 0)
