def fo_K8 : Nat → Nat := fun i => ([50] : List Nat).getD i 30
def fv_K8 : Nat → List (Option Nat) := fun i => ([[]] : List (List (Option Nat))).getD i []
set_option maxHeartbeats 4000000 in
set_option maxRecDepth 100000 in
theorem fk_K8 {cI cJ cZ cMic cSrc cSt cAI cAJ : ClassId} (b : Nat → Nat) {i : Nat} (hi : i < 1) : (.inl (cI, 12, .inl (fun _ => 0)) : va_E) = ccv cI cJ cZ cMic cSrc cSt cAI cAJ b (fs_K8 i) (fviR (fo_K8 i)) (fun _ => 0) (fun k => (fv_K8 i).getD k none) := by
  have e : i = 0 := by omega
  subst e
  rfl
def fs_K10 : Nat → Nat × Nat := fun i => ([(100, 155)] : List (Nat × Nat)).getD i (0, 0)
def fo_K10 : Nat → Nat := fun i => ([52] : List Nat).getD i 30
def fv_K10 : Nat → List (Option Nat) := fun i => ([[]] : List (List (Option Nat))).getD i []
set_option maxHeartbeats 4000000 in
set_option maxRecDepth 100000 in
theorem fk_K10 {cI cJ cZ cMic cSrc cSt cAI cAJ : ClassId} (b : Nat → Nat) {i : Nat} (hi : i < 1) : (.inl (cI, 155, .inl (fun _ => 0)) : va_E) = ccv cI cJ cZ cMic cSrc cSt cAI cAJ b (fs_K10 i) (fviR (fo_K10 i)) (fun _ => 0) (fun k => (fv_K10 i).getD k none) := by
  have e : i = 0 := by omega
  subst e
  rfl
