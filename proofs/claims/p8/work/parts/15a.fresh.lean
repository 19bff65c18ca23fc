/-! the class after its constructor, as numbers (AT), and what holds of it (IV) -/
theorem lc {α : Type} {a a' : α} {l l' : List α} (h : a = a') (k : l = l') : a :: l = a' :: l' := by rw [h, k]
theorem fr_getD {α : Type} {n i : Nat} {F : Nat → α} {d : α} (h : i < n) : ((List.range n).map F).getD i d = F i := by
  rw [List.getD_eq_getElem?_getD, List.getElem?_map, List.getElem?_range h]
  rfl
theorem fl_none (b : Nat → Nat) (n : Nat) : (fun i => ((List.replicate n (none : Option Nat)).getD i none).map b) = fun _ => none := by
  funext i
  rw [List.getD_eq_getElem?_getD, List.getElem?_replicate]
  split <;> rfl
theorem fl_ite (b : Nat → Nat) (n c : Nat) : (fun i => (((List.range n).map (fun i => some (c + i))).getD i none).map b) = fun i => if i < n then some (b (c + i)) else none := by
  funext i
  by_cases h : i < n
  · rw [fr_getD h, if_pos h]
    rfl
  · rw [List.getD_eq_getElem?_getD, List.getElem?_eq_none (by rw [List.length_map, List.length_range]; exact Nat.not_lt.mp h), if_neg h]
    rfl
theorem fl_up (b : Nat → Nat) {l : List (Option Nat)} {g : Nat → Option Nat} (n q : Nat) (hn : n < l.length) (h : (fun i => (l.getD i none).map b) = g) : (fun i => ((l.set n (some q)).getD i none).map b) = va_up g n (some (b q)) := by
  funext i
  rw [← h, List.getD_eq_getElem?_getD, List.getElem?_set]
  by_cases e : n = i
  · subst e
    rw [va_up_self, if_pos rfl, if_pos hn]
    rfl
  · rw [va_up_ne _ _ (fun q => e q.symm), if_neg e, ← List.getD_eq_getElem?_getD]
theorem ccv_map {cI cJ cZ cMic cSrc cSt cAI cAJ : ClassId} {b ad : Nat → Nat} {sh : Nat × Nat} {vi : Nat → Int32} {vj : Nat → Int64} {r r' : Nat → Option Nat} (h : ∀ k, (r k).map b = (r' k).map ad) : ccv cI cJ cZ cMic cSrc cSt cAI cAJ b sh vi vj r = ccv cI cJ cZ cMic cSrc cSt cAI cAJ ad sh vi vj r' := by
  unfold ccv
  simp only [h]
theorem nbeq {a b : Nat} (h : a ≠ b) : Nat.beq a b = false := Bool.eq_false_iff.mpr (fun q => h (Nat.eq_of_beq_eq_true q))
def fviR (r : Nat) : Nat → Int32 := bif isW r then (fun k => bif Nat.beq k 0 then Int32.ofNat (cnt r) else bif Nat.beq k 2 then 1 else 0) else bif Nat.beq r 3 then (fun k => bif Nat.beq k 3 then -1 else 0) else fun _ => 0
def fs_X9 : Nat → Nat × Nat := fun i => ([(9, 0), (100, 1000), (100, 1001), (100, 1001), (100, 1001)] : List (Nat × Nat)).getD i (0, 0)
def fo_X9 : Nat → Nat := fun i => ([9, 41, 42, 43, 44] : List Nat).getD i 30
def fv_X9 : Nat → List (Option Nat) := fun i => ([[some 1, none, some 2, some 3, some 4, none], [], [], [], []] : List (List (Option Nat))).getD i []
set_option maxHeartbeats 4000000 in
set_option maxRecDepth 100000 in
theorem fk_X9 {cI cJ cZ cMic cSrc cSt cAI cAJ : ClassId} (b : Nat → Nat) {i : Nat} (hi : i < 5) : iX9 cI cJ cZ cMic cSrc cSt cAI cAJ b i = ccv cI cJ cZ cMic cSrc cSt cAI cAJ b (fs_X9 i) (fviR (fo_X9 i)) (fun _ => 0) (fun k => (fv_X9 i).getD k none) := by
  have h : ([.inr (9, [.ref (b 1), .int 0, .ref (b 2), .ref (b 3), .ref (b 4), .int 0]), .inl (cI, 1000, .inl (fun _ => 0)), .inl (cI, 1001, .inl (fun _ => 0)), .inl (cI, 1001, .inl (fun _ => 0)), .inl (cI, 1001, .inl (fun _ => 0))] : List va_E) = (List.range 5).map (fun i => ccv cI cJ cZ cMic cSrc cSt cAI cAJ b (fs_X9 i) (fviR (fo_X9 i)) (fun _ => 0) (fun k => (fv_X9 i).getD k none)) := (lc rfl (lc rfl (lc rfl (lc rfl (lc rfl rfl)))))
  exact (congrArg (fun l => List.getD l i (.inr (0, []))) h).trans (fr_getD hi)
def fs_X5 : Nat → Nat × Nat := fun i => ([(5, 0), (106, 12), (100, 200), (100, 200), (100, 200), (100, 200), (100, 200), (100, 200), (100, 200), (100, 200), (100, 200), (100, 200), (100, 200), (100, 200), (7, 0)] : List (Nat × Nat)).getD i (0, 0)
def fo_X5 : Nat → Nat := fun i => ([5, 45, 46, 46, 46, 46, 46, 46, 46, 46, 46, 46, 46, 46, 7] : List Nat).getD i 30
def fv_X5 : Nat → List (Option Nat) := fun i => ([[some 1, some 14], ((List.range 12).map (fun i => some (2 + i))), [], [], [], [], [], [], [], [], [], [], [], [], [none, none, none, none, none, none, none, none, none, none]] : List (List (Option Nat))).getD i []
set_option maxHeartbeats 4000000 in
set_option maxRecDepth 100000 in
theorem fk_X5 {cI cJ cZ cMic cSrc cSt cAI cAJ : ClassId} (b : Nat → Nat) {i : Nat} (hi : i < 15) : iX5 cI cJ cZ cMic cSrc cSt cAI cAJ b i = ccv cI cJ cZ cMic cSrc cSt cAI cAJ b (fs_X5 i) (fviR (fo_X5 i)) (fun _ => 0) (fun k => (fv_X5 i).getD k none) := by
  have h : ([.inr (5, [.ref (b 1), .ref (b 14)]), .inl (cAI, 12, .inr (.inr (.inr (.inr (fun i => if i < 12 then some (b (2 + i)) else none))))), .inl (cI, 200, .inl (fun _ => 0)), .inl (cI, 200, .inl (fun _ => 0)), .inl (cI, 200, .inl (fun _ => 0)), .inl (cI, 200, .inl (fun _ => 0)), .inl (cI, 200, .inl (fun _ => 0)), .inl (cI, 200, .inl (fun _ => 0)), .inl (cI, 200, .inl (fun _ => 0)), .inl (cI, 200, .inl (fun _ => 0)), .inl (cI, 200, .inl (fun _ => 0)), .inl (cI, 200, .inl (fun _ => 0)), .inl (cI, 200, .inl (fun _ => 0)), .inl (cI, 200, .inl (fun _ => 0)), .inr (7, [.int 0, .int 0, .int 0, .int 0, .int 0, .int 0, .int 0, .int 0, .int 0, .int 0])] : List va_E) = (List.range 15).map (fun i => ccv cI cJ cZ cMic cSrc cSt cAI cAJ b (fs_X5 i) (fviR (fo_X5 i)) (fun _ => 0) (fun k => (fv_X5 i).getD k none)) := (lc rfl (lc (congrArg (fun x => (Sum.inl (cAI, 12, Sum.inr (Sum.inr (Sum.inr (Sum.inr x)))) : va_E)) (fl_ite b 12 2).symm) (lc rfl (lc rfl (lc rfl (lc rfl (lc rfl (lc rfl (lc rfl (lc rfl (lc rfl (lc rfl (lc rfl (lc rfl (lc rfl rfl)))))))))))))))
  exact (congrArg (fun l => List.getD l i (.inr (0, []))) h).trans (fr_getD hi)
def fs_X0 : Nat → Nat × Nat := fun i => ([(0, 0), (10, 0), (107, 40), (101, 0), (101, 0), (101, 0), (101, 0), (101, 0), (101, 0), (101, 0), (101, 0), (101, 0), (101, 0), (101, 0), (101, 0), (101, 0), (101, 0), (101, 0), (101, 0), (101, 0), (101, 0), (101, 0), (101, 0), (101, 0), (101, 0), (101, 0), (101, 0), (101, 0), (101, 0), (101, 0), (101, 0), (101, 0), (101, 0), (101, 0), (101, 0), (101, 0), (101, 0), (101, 0), (101, 0), (101, 0), (101, 0), (101, 0), (101, 0), (101, 7200)] : List (Nat × Nat)).getD i (0, 0)
def fo_X0 : Nat → Nat := fun i => ([20, 105, 115, 30, 30, 30, 30, 30, 30, 30, 30, 30, 30, 30, 30, 30, 30, 30, 30, 30, 30, 30, 30, 30, 30, 30, 30, 30, 30, 30, 30, 30, 30, 30, 30, 30, 30, 30, 30, 30, 30, 30, 30, 30] : List Nat).getD i 30
def fv_X0 : Nat → List (Option Nat) := fun i => ([[some 1], [none, some 2, none], (((List.range 40).map (fun i => some (3 + i))).set 0 (some 43)), [], [], [], [], [], [], [], [], [], [], [], [], [], [], [], [], [], [], [], [], [], [], [], [], [], [], [], [], [], [], [], [], [], [], [], [], [], [], [], [], []] : List (List (Option Nat))).getD i []
set_option maxHeartbeats 4000000 in
set_option maxRecDepth 100000 in
theorem fk_X0 {cI cJ cZ cMic cSrc cSt cAI cAJ : ClassId} (b : Nat → Nat) {i : Nat} (hi : i < 44) : iX0 cI cJ cZ cMic cSrc cSt cAI cAJ b i = ccv cI cJ cZ cMic cSrc cSt cAI cAJ b (fs_X0 i) (fviR (fo_X0 i)) (fun _ => 0) (fun k => (fv_X0 i).getD k none) := by
  have h : ([.inr (0, [.ref (b 1)]), .inr (10, [.int 7200, .ref (b 2), .int 1]), .inl (cAJ, 40, .inr (.inr (.inr (.inr (va_up (fun i => if i < 40 then some (b (3 + i)) else none) 0 (some (b 43))))))), .inl (cJ, 0, .inr (.inl (fun _ => 0))), .inl (cJ, 0, .inr (.inl (fun _ => 0))), .inl (cJ, 0, .inr (.inl (fun _ => 0))), .inl (cJ, 0, .inr (.inl (fun _ => 0))), .inl (cJ, 0, .inr (.inl (fun _ => 0))), .inl (cJ, 0, .inr (.inl (fun _ => 0))), .inl (cJ, 0, .inr (.inl (fun _ => 0))), .inl (cJ, 0, .inr (.inl (fun _ => 0))), .inl (cJ, 0, .inr (.inl (fun _ => 0))), .inl (cJ, 0, .inr (.inl (fun _ => 0))), .inl (cJ, 0, .inr (.inl (fun _ => 0))), .inl (cJ, 0, .inr (.inl (fun _ => 0))), .inl (cJ, 0, .inr (.inl (fun _ => 0))), .inl (cJ, 0, .inr (.inl (fun _ => 0))), .inl (cJ, 0, .inr (.inl (fun _ => 0))), .inl (cJ, 0, .inr (.inl (fun _ => 0))), .inl (cJ, 0, .inr (.inl (fun _ => 0))), .inl (cJ, 0, .inr (.inl (fun _ => 0))), .inl (cJ, 0, .inr (.inl (fun _ => 0))), .inl (cJ, 0, .inr (.inl (fun _ => 0))), .inl (cJ, 0, .inr (.inl (fun _ => 0))), .inl (cJ, 0, .inr (.inl (fun _ => 0))), .inl (cJ, 0, .inr (.inl (fun _ => 0))), .inl (cJ, 0, .inr (.inl (fun _ => 0))), .inl (cJ, 0, .inr (.inl (fun _ => 0))), .inl (cJ, 0, .inr (.inl (fun _ => 0))), .inl (cJ, 0, .inr (.inl (fun _ => 0))), .inl (cJ, 0, .inr (.inl (fun _ => 0))), .inl (cJ, 0, .inr (.inl (fun _ => 0))), .inl (cJ, 0, .inr (.inl (fun _ => 0))), .inl (cJ, 0, .inr (.inl (fun _ => 0))), .inl (cJ, 0, .inr (.inl (fun _ => 0))), .inl (cJ, 0, .inr (.inl (fun _ => 0))), .inl (cJ, 0, .inr (.inl (fun _ => 0))), .inl (cJ, 0, .inr (.inl (fun _ => 0))), .inl (cJ, 0, .inr (.inl (fun _ => 0))), .inl (cJ, 0, .inr (.inl (fun _ => 0))), .inl (cJ, 0, .inr (.inl (fun _ => 0))), .inl (cJ, 0, .inr (.inl (fun _ => 0))), .inl (cJ, 0, .inr (.inl (fun _ => 0))), .inl (cJ, 7200, .inr (.inl (fun _ => 0)))] : List va_E) = (List.range 44).map (fun i => ccv cI cJ cZ cMic cSrc cSt cAI cAJ b (fs_X0 i) (fviR (fo_X0 i)) (fun _ => 0) (fun k => (fv_X0 i).getD k none)) := (lc rfl (lc rfl (lc (congrArg (fun x => (Sum.inl (cAJ, 40, Sum.inr (Sum.inr (Sum.inr (Sum.inr x)))) : va_E)) (fl_up b 0 43 (by decide) (fl_ite b 40 3)).symm) (lc rfl (lc rfl (lc rfl (lc rfl (lc rfl (lc rfl (lc rfl (lc rfl (lc rfl (lc rfl (lc rfl (lc rfl (lc rfl (lc rfl (lc rfl (lc rfl (lc rfl (lc rfl (lc rfl (lc rfl (lc rfl (lc rfl (lc rfl (lc rfl (lc rfl (lc rfl (lc rfl (lc rfl (lc rfl (lc rfl (lc rfl (lc rfl (lc rfl (lc rfl (lc rfl (lc rfl (lc rfl (lc rfl (lc rfl (lc rfl (lc rfl rfl))))))))))))))))))))))))))))))))))))))))))))
  exact (congrArg (fun l => List.getD l i (.inr (0, []))) h).trans (fr_getD hi)
def fs_X4 : Nat → Nat × Nat := fun i => ([(4, 0), (10, 0), (107, 40), (101, 0), (101, 0), (101, 0), (101, 0), (101, 0), (101, 0), (101, 0), (101, 0), (101, 0), (101, 0), (101, 0), (101, 0), (101, 0), (101, 0), (101, 0), (101, 0), (101, 0), (101, 0), (101, 0), (101, 0), (101, 0), (101, 0), (101, 0), (101, 0), (101, 0), (101, 0), (101, 0), (101, 0), (101, 0), (101, 0), (101, 0), (101, 0), (101, 0), (101, 0), (101, 0), (101, 0), (101, 0), (101, 0), (101, 0), (101, 0), (101, 144), (100, 144), (10, 0), (107, 40), (101, 0), (101, 0), (101, 0), (101, 0), (101, 0), (101, 0), (101, 0), (101, 0), (101, 0), (101, 0), (101, 0), (101, 0), (101, 0), (101, 0), (101, 0), (101, 0), (101, 0), (101, 0), (101, 0), (101, 0), (101, 0), (101, 0), (101, 0), (101, 0), (101, 0), (101, 0), (101, 0), (101, 0), (101, 0), (101, 0), (101, 0), (101, 0), (101, 0), (101, 0), (101, 0), (101, 0), (101, 0), (101, 0), (101, 0), (101, 0), (101, 144)] : List (Nat × Nat)).getD i (0, 0)
def fo_X4 : Nat → Nat := fun i => ([4, 103, 113, 30, 30, 30, 30, 30, 30, 30, 30, 30, 30, 30, 30, 30, 30, 30, 30, 30, 30, 30, 30, 30, 30, 30, 30, 30, 30, 30, 30, 30, 30, 30, 30, 30, 30, 30, 30, 30, 30, 30, 30, 30, 67, 103, 113, 30, 30, 30, 30, 30, 30, 30, 30, 30, 30, 30, 30, 30, 30, 30, 30, 30, 30, 30, 30, 30, 30, 30, 30, 30, 30, 30, 30, 30, 30, 30, 30, 30, 30, 30, 30, 30, 30, 30, 30, 30] : List Nat).getD i 30
def fv_X4 : Nat → List (Option Nat) := fun i => ([[none, some 1, none, none, some 44, some 45], [none, some 2, none], (((List.range 40).map (fun i => some (3 + i))).set 0 (some 43)), [], [], [], [], [], [], [], [], [], [], [], [], [], [], [], [], [], [], [], [], [], [], [], [], [], [], [], [], [], [], [], [], [], [], [], [], [], [], [], [], [], [], [none, some 46, none], (((List.range 40).map (fun i => some (47 + i))).set 0 (some 87)), [], [], [], [], [], [], [], [], [], [], [], [], [], [], [], [], [], [], [], [], [], [], [], [], [], [], [], [], [], [], [], [], [], [], [], [], [], [], [], [], []] : List (List (Option Nat))).getD i []
set_option maxHeartbeats 4000000 in
set_option maxRecDepth 100000 in
theorem fk_X4 {cI cJ cZ cMic cSrc cSt cAI cAJ : ClassId} (b : Nat → Nat) {i : Nat} (hi : i < 88) : iX4 cI cJ cZ cMic cSrc cSt cAI cAJ b i = ccv cI cJ cZ cMic cSrc cSt cAI cAJ b (fs_X4 i) (fviR (fo_X4 i)) (fun _ => 0) (fun k => (fv_X4 i).getD k none) := by
  have h : ([.inr (4, [.int 0, .ref (b 1), .int 0, .int 0, .ref (b 44), .ref (b 45)]), .inr (10, [.int 144, .ref (b 2), .int 1]), .inl (cAJ, 40, .inr (.inr (.inr (.inr (va_up (fun i => if i < 40 then some (b (3 + i)) else none) 0 (some (b 43))))))), .inl (cJ, 0, .inr (.inl (fun _ => 0))), .inl (cJ, 0, .inr (.inl (fun _ => 0))), .inl (cJ, 0, .inr (.inl (fun _ => 0))), .inl (cJ, 0, .inr (.inl (fun _ => 0))), .inl (cJ, 0, .inr (.inl (fun _ => 0))), .inl (cJ, 0, .inr (.inl (fun _ => 0))), .inl (cJ, 0, .inr (.inl (fun _ => 0))), .inl (cJ, 0, .inr (.inl (fun _ => 0))), .inl (cJ, 0, .inr (.inl (fun _ => 0))), .inl (cJ, 0, .inr (.inl (fun _ => 0))), .inl (cJ, 0, .inr (.inl (fun _ => 0))), .inl (cJ, 0, .inr (.inl (fun _ => 0))), .inl (cJ, 0, .inr (.inl (fun _ => 0))), .inl (cJ, 0, .inr (.inl (fun _ => 0))), .inl (cJ, 0, .inr (.inl (fun _ => 0))), .inl (cJ, 0, .inr (.inl (fun _ => 0))), .inl (cJ, 0, .inr (.inl (fun _ => 0))), .inl (cJ, 0, .inr (.inl (fun _ => 0))), .inl (cJ, 0, .inr (.inl (fun _ => 0))), .inl (cJ, 0, .inr (.inl (fun _ => 0))), .inl (cJ, 0, .inr (.inl (fun _ => 0))), .inl (cJ, 0, .inr (.inl (fun _ => 0))), .inl (cJ, 0, .inr (.inl (fun _ => 0))), .inl (cJ, 0, .inr (.inl (fun _ => 0))), .inl (cJ, 0, .inr (.inl (fun _ => 0))), .inl (cJ, 0, .inr (.inl (fun _ => 0))), .inl (cJ, 0, .inr (.inl (fun _ => 0))), .inl (cJ, 0, .inr (.inl (fun _ => 0))), .inl (cJ, 0, .inr (.inl (fun _ => 0))), .inl (cJ, 0, .inr (.inl (fun _ => 0))), .inl (cJ, 0, .inr (.inl (fun _ => 0))), .inl (cJ, 0, .inr (.inl (fun _ => 0))), .inl (cJ, 0, .inr (.inl (fun _ => 0))), .inl (cJ, 0, .inr (.inl (fun _ => 0))), .inl (cJ, 0, .inr (.inl (fun _ => 0))), .inl (cJ, 0, .inr (.inl (fun _ => 0))), .inl (cJ, 0, .inr (.inl (fun _ => 0))), .inl (cJ, 0, .inr (.inl (fun _ => 0))), .inl (cJ, 0, .inr (.inl (fun _ => 0))), .inl (cJ, 0, .inr (.inl (fun _ => 0))), .inl (cJ, 144, .inr (.inl (fun _ => 0))), .inl (cI, 144, .inl (fun _ => 0)), .inr (10, [.int 144, .ref (b 46), .int 1]), .inl (cAJ, 40, .inr (.inr (.inr (.inr (va_up (fun i => if i < 40 then some (b (47 + i)) else none) 0 (some (b 87))))))), .inl (cJ, 0, .inr (.inl (fun _ => 0))), .inl (cJ, 0, .inr (.inl (fun _ => 0))), .inl (cJ, 0, .inr (.inl (fun _ => 0))), .inl (cJ, 0, .inr (.inl (fun _ => 0))), .inl (cJ, 0, .inr (.inl (fun _ => 0))), .inl (cJ, 0, .inr (.inl (fun _ => 0))), .inl (cJ, 0, .inr (.inl (fun _ => 0))), .inl (cJ, 0, .inr (.inl (fun _ => 0))), .inl (cJ, 0, .inr (.inl (fun _ => 0))), .inl (cJ, 0, .inr (.inl (fun _ => 0))), .inl (cJ, 0, .inr (.inl (fun _ => 0))), .inl (cJ, 0, .inr (.inl (fun _ => 0))), .inl (cJ, 0, .inr (.inl (fun _ => 0))), .inl (cJ, 0, .inr (.inl (fun _ => 0))), .inl (cJ, 0, .inr (.inl (fun _ => 0))), .inl (cJ, 0, .inr (.inl (fun _ => 0))), .inl (cJ, 0, .inr (.inl (fun _ => 0))), .inl (cJ, 0, .inr (.inl (fun _ => 0))), .inl (cJ, 0, .inr (.inl (fun _ => 0))), .inl (cJ, 0, .inr (.inl (fun _ => 0))), .inl (cJ, 0, .inr (.inl (fun _ => 0))), .inl (cJ, 0, .inr (.inl (fun _ => 0))), .inl (cJ, 0, .inr (.inl (fun _ => 0))), .inl (cJ, 0, .inr (.inl (fun _ => 0))), .inl (cJ, 0, .inr (.inl (fun _ => 0))), .inl (cJ, 0, .inr (.inl (fun _ => 0))), .inl (cJ, 0, .inr (.inl (fun _ => 0))), .inl (cJ, 0, .inr (.inl (fun _ => 0))), .inl (cJ, 0, .inr (.inl (fun _ => 0))), .inl (cJ, 0, .inr (.inl (fun _ => 0))), .inl (cJ, 0, .inr (.inl (fun _ => 0))), .inl (cJ, 0, .inr (.inl (fun _ => 0))), .inl (cJ, 0, .inr (.inl (fun _ => 0))), .inl (cJ, 0, .inr (.inl (fun _ => 0))), .inl (cJ, 0, .inr (.inl (fun _ => 0))), .inl (cJ, 0, .inr (.inl (fun _ => 0))), .inl (cJ, 0, .inr (.inl (fun _ => 0))), .inl (cJ, 0, .inr (.inl (fun _ => 0))), .inl (cJ, 0, .inr (.inl (fun _ => 0))), .inl (cJ, 0, .inr (.inl (fun _ => 0))), .inl (cJ, 144, .inr (.inl (fun _ => 0)))] : List va_E) = (List.range 88).map (fun i => ccv cI cJ cZ cMic cSrc cSt cAI cAJ b (fs_X4 i) (fviR (fo_X4 i)) (fun _ => 0) (fun k => (fv_X4 i).getD k none)) := (lc rfl (lc rfl (lc (congrArg (fun x => (Sum.inl (cAJ, 40, Sum.inr (Sum.inr (Sum.inr (Sum.inr x)))) : va_E)) (fl_up b 0 43 (by decide) (fl_ite b 40 3)).symm) (lc rfl (lc rfl (lc rfl (lc rfl (lc rfl (lc rfl (lc rfl (lc rfl (lc rfl (lc rfl (lc rfl (lc rfl (lc rfl (lc rfl (lc rfl (lc rfl (lc rfl (lc rfl (lc rfl (lc rfl (lc rfl (lc rfl (lc rfl (lc rfl (lc rfl (lc rfl (lc rfl (lc rfl (lc rfl (lc rfl (lc rfl (lc rfl (lc rfl (lc rfl (lc rfl (lc rfl (lc rfl (lc rfl (lc rfl (lc rfl (lc rfl (lc rfl (lc rfl (lc (congrArg (fun x => (Sum.inl (cAJ, 40, Sum.inr (Sum.inr (Sum.inr (Sum.inr x)))) : va_E)) (fl_up b 0 87 (by decide) (fl_ite b 40 47)).symm) (lc rfl (lc rfl (lc rfl (lc rfl (lc rfl (lc rfl (lc rfl (lc rfl (lc rfl (lc rfl (lc rfl (lc rfl (lc rfl (lc rfl (lc rfl (lc rfl (lc rfl (lc rfl (lc rfl (lc rfl (lc rfl (lc rfl (lc rfl (lc rfl (lc rfl (lc rfl (lc rfl (lc rfl (lc rfl (lc rfl (lc rfl (lc rfl (lc rfl (lc rfl (lc rfl (lc rfl (lc rfl (lc rfl (lc rfl (lc rfl (lc rfl rfl))))))))))))))))))))))))))))))))))))))))))))))))))))))))))))))))))))))))))))))))))))))))
  exact (congrArg (fun l => List.getD l i (.inr (0, []))) h).trans (fr_getD hi)
def fs_X8 : Nat → Nat × Nat := fun i => ([(8, 0), (102, 12), (100, 12), (102, 6), (100, 6), (100, 6), (100, 6), (100, 6), (10, 0), (107, 40), (101, 0), (101, 0), (101, 0), (101, 0), (101, 0), (101, 0), (101, 0), (101, 0), (101, 0), (101, 0), (101, 0), (101, 0), (101, 0), (101, 0), (101, 0), (101, 0), (101, 0), (101, 0), (101, 0), (101, 0), (101, 0), (101, 0), (101, 0), (101, 0), (101, 0), (101, 0), (101, 0), (101, 0), (101, 0), (101, 0), (101, 0), (101, 0), (101, 0), (101, 0), (101, 0), (101, 0), (101, 0), (101, 0), (101, 0), (101, 0), (101, 2400), (10, 0), (107, 40), (101, 0), (101, 0), (101, 0), (101, 0), (101, 0), (101, 0), (101, 0), (101, 0), (101, 0), (101, 0), (101, 0), (101, 0), (101, 0), (101, 0), (101, 0), (101, 0), (101, 0), (101, 0), (101, 0), (101, 0), (101, 0), (101, 0), (101, 0), (101, 0), (101, 0), (101, 0), (101, 0), (101, 0), (101, 0), (101, 0), (101, 0), (101, 0), (101, 0), (101, 0), (101, 0), (101, 0), (101, 0), (101, 0), (101, 0), (101, 0), (101, 1)] : List (Nat × Nat)).getD i (0, 0)
def fo_X8 : Nat → Nat := fun i => ([8, 62, 63, 64, 65, 65, 66, 66, 104, 114, 30, 30, 30, 30, 30, 30, 30, 30, 30, 30, 30, 30, 30, 30, 30, 30, 30, 30, 30, 30, 30, 30, 30, 30, 30, 30, 30, 30, 30, 30, 30, 30, 30, 30, 30, 30, 30, 30, 30, 30, 30, 101, 111, 30, 30, 30, 30, 30, 30, 30, 30, 30, 30, 30, 30, 30, 30, 30, 30, 30, 30, 30, 30, 30, 30, 30, 30, 30, 30, 30, 30, 30, 30, 30, 30, 30, 30, 30, 30, 30, 30, 30, 30, 30] : List Nat).getD i 30
def fv_X8 : Nat → List (Option Nat) := fun i => ([[none, none, none, some 1, some 2, some 3, some 4, some 5, some 6, some 7, some 8, some 51], [], [], [], [], [], [], [], [none, some 9, none], (((List.range 40).map (fun i => some (10 + i))).set 0 (some 50)), [], [], [], [], [], [], [], [], [], [], [], [], [], [], [], [], [], [], [], [], [], [], [], [], [], [], [], [], [], [], [], [], [], [], [], [], [], [], [], [], [], [none, some 52, none], (((List.range 40).map (fun i => some (53 + i))).set 0 (some 93)), [], [], [], [], [], [], [], [], [], [], [], [], [], [], [], [], [], [], [], [], [], [], [], [], [], [], [], [], [], [], [], [], [], [], [], [], [], [], [], [], []] : List (List (Option Nat))).getD i []
set_option maxHeartbeats 4000000 in
set_option maxRecDepth 100000 in
theorem fk_X8 {cI cJ cZ cMic cSrc cSt cAI cAJ : ClassId} (b : Nat → Nat) {i : Nat} (hi : i < 94) : iX8 cI cJ cZ cMic cSrc cSt cAI cAJ b i = ccv cI cJ cZ cMic cSrc cSt cAI cAJ b (fs_X8 i) (fviR (fo_X8 i)) (fun _ => 0) (fun k => (fv_X8 i).getD k none) := by
  have h : ([.inr (8, [.int 0, .int 0, .int 0, .ref (b 1), .ref (b 2), .ref (b 3), .ref (b 4), .ref (b 5), .ref (b 6), .ref (b 7), .ref (b 8), .ref (b 51)]), .inl (cZ, 12, .inl (fun _ => 0)), .inl (cI, 12, .inl (fun _ => 0)), .inl (cZ, 6, .inl (fun _ => 0)), .inl (cI, 6, .inl (fun _ => 0)), .inl (cI, 6, .inl (fun _ => 0)), .inl (cI, 6, .inl (fun _ => 0)), .inl (cI, 6, .inl (fun _ => 0)), .inr (10, [.int 2400, .ref (b 9), .int 1]), .inl (cAJ, 40, .inr (.inr (.inr (.inr (va_up (fun i => if i < 40 then some (b (10 + i)) else none) 0 (some (b 50))))))), .inl (cJ, 0, .inr (.inl (fun _ => 0))), .inl (cJ, 0, .inr (.inl (fun _ => 0))), .inl (cJ, 0, .inr (.inl (fun _ => 0))), .inl (cJ, 0, .inr (.inl (fun _ => 0))), .inl (cJ, 0, .inr (.inl (fun _ => 0))), .inl (cJ, 0, .inr (.inl (fun _ => 0))), .inl (cJ, 0, .inr (.inl (fun _ => 0))), .inl (cJ, 0, .inr (.inl (fun _ => 0))), .inl (cJ, 0, .inr (.inl (fun _ => 0))), .inl (cJ, 0, .inr (.inl (fun _ => 0))), .inl (cJ, 0, .inr (.inl (fun _ => 0))), .inl (cJ, 0, .inr (.inl (fun _ => 0))), .inl (cJ, 0, .inr (.inl (fun _ => 0))), .inl (cJ, 0, .inr (.inl (fun _ => 0))), .inl (cJ, 0, .inr (.inl (fun _ => 0))), .inl (cJ, 0, .inr (.inl (fun _ => 0))), .inl (cJ, 0, .inr (.inl (fun _ => 0))), .inl (cJ, 0, .inr (.inl (fun _ => 0))), .inl (cJ, 0, .inr (.inl (fun _ => 0))), .inl (cJ, 0, .inr (.inl (fun _ => 0))), .inl (cJ, 0, .inr (.inl (fun _ => 0))), .inl (cJ, 0, .inr (.inl (fun _ => 0))), .inl (cJ, 0, .inr (.inl (fun _ => 0))), .inl (cJ, 0, .inr (.inl (fun _ => 0))), .inl (cJ, 0, .inr (.inl (fun _ => 0))), .inl (cJ, 0, .inr (.inl (fun _ => 0))), .inl (cJ, 0, .inr (.inl (fun _ => 0))), .inl (cJ, 0, .inr (.inl (fun _ => 0))), .inl (cJ, 0, .inr (.inl (fun _ => 0))), .inl (cJ, 0, .inr (.inl (fun _ => 0))), .inl (cJ, 0, .inr (.inl (fun _ => 0))), .inl (cJ, 0, .inr (.inl (fun _ => 0))), .inl (cJ, 0, .inr (.inl (fun _ => 0))), .inl (cJ, 0, .inr (.inl (fun _ => 0))), .inl (cJ, 0, .inr (.inl (fun _ => 0))), .inl (cJ, 0, .inr (.inl (fun _ => 0))), .inl (cJ, 0, .inr (.inl (fun _ => 0))), .inl (cJ, 0, .inr (.inl (fun _ => 0))), .inl (cJ, 0, .inr (.inl (fun _ => 0))), .inl (cJ, 0, .inr (.inl (fun _ => 0))), .inl (cJ, 2400, .inr (.inl (fun _ => 0))), .inr (10, [.int 1, .ref (b 52), .int 1]), .inl (cAJ, 40, .inr (.inr (.inr (.inr (va_up (fun i => if i < 40 then some (b (53 + i)) else none) 0 (some (b 93))))))), .inl (cJ, 0, .inr (.inl (fun _ => 0))), .inl (cJ, 0, .inr (.inl (fun _ => 0))), .inl (cJ, 0, .inr (.inl (fun _ => 0))), .inl (cJ, 0, .inr (.inl (fun _ => 0))), .inl (cJ, 0, .inr (.inl (fun _ => 0))), .inl (cJ, 0, .inr (.inl (fun _ => 0))), .inl (cJ, 0, .inr (.inl (fun _ => 0))), .inl (cJ, 0, .inr (.inl (fun _ => 0))), .inl (cJ, 0, .inr (.inl (fun _ => 0))), .inl (cJ, 0, .inr (.inl (fun _ => 0))), .inl (cJ, 0, .inr (.inl (fun _ => 0))), .inl (cJ, 0, .inr (.inl (fun _ => 0))), .inl (cJ, 0, .inr (.inl (fun _ => 0))), .inl (cJ, 0, .inr (.inl (fun _ => 0))), .inl (cJ, 0, .inr (.inl (fun _ => 0))), .inl (cJ, 0, .inr (.inl (fun _ => 0))), .inl (cJ, 0, .inr (.inl (fun _ => 0))), .inl (cJ, 0, .inr (.inl (fun _ => 0))), .inl (cJ, 0, .inr (.inl (fun _ => 0))), .inl (cJ, 0, .inr (.inl (fun _ => 0))), .inl (cJ, 0, .inr (.inl (fun _ => 0))), .inl (cJ, 0, .inr (.inl (fun _ => 0))), .inl (cJ, 0, .inr (.inl (fun _ => 0))), .inl (cJ, 0, .inr (.inl (fun _ => 0))), .inl (cJ, 0, .inr (.inl (fun _ => 0))), .inl (cJ, 0, .inr (.inl (fun _ => 0))), .inl (cJ, 0, .inr (.inl (fun _ => 0))), .inl (cJ, 0, .inr (.inl (fun _ => 0))), .inl (cJ, 0, .inr (.inl (fun _ => 0))), .inl (cJ, 0, .inr (.inl (fun _ => 0))), .inl (cJ, 0, .inr (.inl (fun _ => 0))), .inl (cJ, 0, .inr (.inl (fun _ => 0))), .inl (cJ, 0, .inr (.inl (fun _ => 0))), .inl (cJ, 0, .inr (.inl (fun _ => 0))), .inl (cJ, 0, .inr (.inl (fun _ => 0))), .inl (cJ, 0, .inr (.inl (fun _ => 0))), .inl (cJ, 0, .inr (.inl (fun _ => 0))), .inl (cJ, 0, .inr (.inl (fun _ => 0))), .inl (cJ, 0, .inr (.inl (fun _ => 0))), .inl (cJ, 0, .inr (.inl (fun _ => 0))), .inl (cJ, 1, .inr (.inl (fun _ => 0)))] : List va_E) = (List.range 94).map (fun i => ccv cI cJ cZ cMic cSrc cSt cAI cAJ b (fs_X8 i) (fviR (fo_X8 i)) (fun _ => 0) (fun k => (fv_X8 i).getD k none)) := (lc rfl (lc rfl (lc rfl (lc rfl (lc rfl (lc rfl (lc rfl (lc rfl (lc rfl (lc (congrArg (fun x => (Sum.inl (cAJ, 40, Sum.inr (Sum.inr (Sum.inr (Sum.inr x)))) : va_E)) (fl_up b 0 50 (by decide) (fl_ite b 40 10)).symm) (lc rfl (lc rfl (lc rfl (lc rfl (lc rfl (lc rfl (lc rfl (lc rfl (lc rfl (lc rfl (lc rfl (lc rfl (lc rfl (lc rfl (lc rfl (lc rfl (lc rfl (lc rfl (lc rfl (lc rfl (lc rfl (lc rfl (lc rfl (lc rfl (lc rfl (lc rfl (lc rfl (lc rfl (lc rfl (lc rfl (lc rfl (lc rfl (lc rfl (lc rfl (lc rfl (lc rfl (lc rfl (lc rfl (lc rfl (lc rfl (lc rfl (lc rfl (lc (congrArg (fun x => (Sum.inl (cAJ, 40, Sum.inr (Sum.inr (Sum.inr (Sum.inr x)))) : va_E)) (fl_up b 0 93 (by decide) (fl_ite b 40 53)).symm) (lc rfl (lc rfl (lc rfl (lc rfl (lc rfl (lc rfl (lc rfl (lc rfl (lc rfl (lc rfl (lc rfl (lc rfl (lc rfl (lc rfl (lc rfl (lc rfl (lc rfl (lc rfl (lc rfl (lc rfl (lc rfl (lc rfl (lc rfl (lc rfl (lc rfl (lc rfl (lc rfl (lc rfl (lc rfl (lc rfl (lc rfl (lc rfl (lc rfl (lc rfl (lc rfl (lc rfl (lc rfl (lc rfl (lc rfl (lc rfl (lc rfl rfl))))))))))))))))))))))))))))))))))))))))))))))))))))))))))))))))))))))))))))))))))))))))))))))
  exact (congrArg (fun l => List.getD l i (.inr (0, []))) h).trans (fr_getD hi)
def fs_X10_12 : Nat → Nat × Nat := fun i => ([(10, 0), (107, 40), (101, 0), (101, 0), (101, 0), (101, 0), (101, 0), (101, 0), (101, 0), (101, 0), (101, 0), (101, 0), (101, 0), (101, 0), (101, 0), (101, 0), (101, 0), (101, 0), (101, 0), (101, 0), (101, 0), (101, 0), (101, 0), (101, 0), (101, 0), (101, 0), (101, 0), (101, 0), (101, 0), (101, 0), (101, 0), (101, 0), (101, 0), (101, 0), (101, 0), (101, 0), (101, 0), (101, 0), (101, 0), (101, 0), (101, 0), (101, 0), (101, 12)] : List (Nat × Nat)).getD i (0, 0)
def fo_X10_12 : Nat → Nat := fun i => ([102, 112, 30, 30, 30, 30, 30, 30, 30, 30, 30, 30, 30, 30, 30, 30, 30, 30, 30, 30, 30, 30, 30, 30, 30, 30, 30, 30, 30, 30, 30, 30, 30, 30, 30, 30, 30, 30, 30, 30, 30, 30, 30] : List Nat).getD i 30
def fv_X10_12 : Nat → List (Option Nat) := fun i => ([[none, some 1, none], (((List.range 40).map (fun i => some (2 + i))).set 0 (some 42)), [], [], [], [], [], [], [], [], [], [], [], [], [], [], [], [], [], [], [], [], [], [], [], [], [], [], [], [], [], [], [], [], [], [], [], [], [], [], [], [], []] : List (List (Option Nat))).getD i []
set_option maxHeartbeats 4000000 in
set_option maxRecDepth 100000 in
theorem fk_X10_12 {cI cJ cZ cMic cSrc cSt cAI cAJ : ClassId} (b : Nat → Nat) {i : Nat} (hi : i < 43) : iX10_12 cI cJ cZ cMic cSrc cSt cAI cAJ b i = ccv cI cJ cZ cMic cSrc cSt cAI cAJ b (fs_X10_12 i) (fviR (fo_X10_12 i)) (fun _ => 0) (fun k => (fv_X10_12 i).getD k none) := by
  have h : ([.inr (10, [.int 12, .ref (b 1), .int 1]), .inl (cAJ, 40, .inr (.inr (.inr (.inr (va_up (fun i => if i < 40 then some (b (2 + i)) else none) 0 (some (b 42))))))), .inl (cJ, 0, .inr (.inl (fun _ => 0))), .inl (cJ, 0, .inr (.inl (fun _ => 0))), .inl (cJ, 0, .inr (.inl (fun _ => 0))), .inl (cJ, 0, .inr (.inl (fun _ => 0))), .inl (cJ, 0, .inr (.inl (fun _ => 0))), .inl (cJ, 0, .inr (.inl (fun _ => 0))), .inl (cJ, 0, .inr (.inl (fun _ => 0))), .inl (cJ, 0, .inr (.inl (fun _ => 0))), .inl (cJ, 0, .inr (.inl (fun _ => 0))), .inl (cJ, 0, .inr (.inl (fun _ => 0))), .inl (cJ, 0, .inr (.inl (fun _ => 0))), .inl (cJ, 0, .inr (.inl (fun _ => 0))), .inl (cJ, 0, .inr (.inl (fun _ => 0))), .inl (cJ, 0, .inr (.inl (fun _ => 0))), .inl (cJ, 0, .inr (.inl (fun _ => 0))), .inl (cJ, 0, .inr (.inl (fun _ => 0))), .inl (cJ, 0, .inr (.inl (fun _ => 0))), .inl (cJ, 0, .inr (.inl (fun _ => 0))), .inl (cJ, 0, .inr (.inl (fun _ => 0))), .inl (cJ, 0, .inr (.inl (fun _ => 0))), .inl (cJ, 0, .inr (.inl (fun _ => 0))), .inl (cJ, 0, .inr (.inl (fun _ => 0))), .inl (cJ, 0, .inr (.inl (fun _ => 0))), .inl (cJ, 0, .inr (.inl (fun _ => 0))), .inl (cJ, 0, .inr (.inl (fun _ => 0))), .inl (cJ, 0, .inr (.inl (fun _ => 0))), .inl (cJ, 0, .inr (.inl (fun _ => 0))), .inl (cJ, 0, .inr (.inl (fun _ => 0))), .inl (cJ, 0, .inr (.inl (fun _ => 0))), .inl (cJ, 0, .inr (.inl (fun _ => 0))), .inl (cJ, 0, .inr (.inl (fun _ => 0))), .inl (cJ, 0, .inr (.inl (fun _ => 0))), .inl (cJ, 0, .inr (.inl (fun _ => 0))), .inl (cJ, 0, .inr (.inl (fun _ => 0))), .inl (cJ, 0, .inr (.inl (fun _ => 0))), .inl (cJ, 0, .inr (.inl (fun _ => 0))), .inl (cJ, 0, .inr (.inl (fun _ => 0))), .inl (cJ, 0, .inr (.inl (fun _ => 0))), .inl (cJ, 0, .inr (.inl (fun _ => 0))), .inl (cJ, 0, .inr (.inl (fun _ => 0))), .inl (cJ, 12, .inr (.inl (fun _ => 0)))] : List va_E) = (List.range 43).map (fun i => ccv cI cJ cZ cMic cSrc cSt cAI cAJ b (fs_X10_12 i) (fviR (fo_X10_12 i)) (fun _ => 0) (fun k => (fv_X10_12 i).getD k none)) := (lc rfl (lc (congrArg (fun x => (Sum.inl (cAJ, 40, Sum.inr (Sum.inr (Sum.inr (Sum.inr x)))) : va_E)) (fl_up b 0 42 (by decide) (fl_ite b 40 2)).symm) (lc rfl (lc rfl (lc rfl (lc rfl (lc rfl (lc rfl (lc rfl (lc rfl (lc rfl (lc rfl (lc rfl (lc rfl (lc rfl (lc rfl (lc rfl (lc rfl (lc rfl (lc rfl (lc rfl (lc rfl (lc rfl (lc rfl (lc rfl (lc rfl (lc rfl (lc rfl (lc rfl (lc rfl (lc rfl (lc rfl (lc rfl (lc rfl (lc rfl (lc rfl (lc rfl (lc rfl (lc rfl (lc rfl (lc rfl (lc rfl (lc rfl rfl)))))))))))))))))))))))))))))))))))))))))))
  exact (congrArg (fun l => List.getD l i (.inr (0, []))) h).trans (fr_getD hi)
def fs_X6 : Nat → Nat × Nat := fun i => ([(6, 0), (103, 12), (1, 0), (100, 4), (106, 4), (100, 4), (100, 4), (100, 4), (100, 4), (100, 4), (104, 6), (100, 2), (100, 2), (100, 5), (100, 12), (106, 144), (100, 12), (100, 12), (100, 12), (100, 12), (100, 12), (100, 12), (100, 12), (100, 12), (100, 12), (100, 12), (100, 12), (100, 12), (100, 12), (100, 12), (100, 12), (100, 12), (100, 12), (100, 12), (100, 12), (100, 12), (100, 12), (100, 12), (100, 12), (100, 12), (100, 12), (100, 12), (100, 12), (100, 12), (100, 12), (100, 12), (100, 12), (100, 12), (100, 12), (100, 12), (100, 12), (100, 12), (100, 12), (100, 12), (100, 12), (100, 12), (100, 12), (100, 12), (100, 12), (100, 12), (100, 12), (100, 12), (100, 12), (100, 12), (100, 12), (100, 12), (100, 12), (100, 12), (100, 12), (100, 12), (100, 12), (100, 12), (100, 12), (100, 12), (100, 12), (100, 12), (100, 12), (100, 12), (100, 12), (100, 12), (100, 12), (100, 12), (100, 12), (100, 12), (100, 12), (100, 12), (100, 12), (100, 12), (100, 12), (100, 12), (100, 12), (100, 12), (100, 12), (100, 12), (100, 12), (100, 12), (100, 12), (100, 12), (100, 12), (100, 12), (100, 12), (100, 12), (100, 12), (100, 12), (100, 12), (100, 12), (100, 12), (100, 12), (100, 12), (100, 12), (100, 12), (100, 12), (100, 12), (100, 12), (100, 12), (100, 12), (100, 12), (100, 12), (100, 12), (100, 12), (100, 12), (100, 12), (100, 12), (100, 12), (100, 12), (100, 12), (100, 12), (100, 12), (100, 12), (100, 12), (100, 12), (100, 12), (100, 12), (100, 12), (100, 12), (100, 12), (100, 12), (100, 12), (100, 12), (100, 12), (100, 12), (100, 12), (100, 12), (100, 12), (100, 12), (100, 12), (100, 12), (100, 12), (100, 12), (100, 12), (100, 12), (100, 12), (100, 12), (100, 12), (100, 12), (100, 12), (100, 12), (100, 12), (100, 12), (100, 12), (2, 0), (2, 0), (2, 0), (2, 0), (2, 0), (2, 0), (2, 0), (2, 0), (2, 0), (2, 0), (2, 0), (2, 0), (7, 0), (7, 0), (7, 0), (7, 0), (7, 0), (7, 0)] : List (Nat × Nat)).getD i (0, 0)
def fo_X6 : Nat → Nat := fun i => ([6, 53, 1, 59, 60, 59, 59, 59, 59, 61, 54, 55, 56, 57, 58, 51, 50, 50, 50, 50, 50, 50, 50, 50, 50, 50, 50, 50, 50, 50, 50, 50, 50, 50, 50, 50, 50, 50, 50, 50, 50, 50, 50, 50, 50, 50, 50, 50, 50, 50, 50, 50, 50, 50, 50, 50, 50, 50, 50, 50, 50, 50, 50, 50, 50, 50, 50, 50, 50, 50, 50, 50, 50, 50, 50, 50, 50, 50, 50, 50, 50, 50, 50, 50, 50, 50, 50, 50, 50, 50, 50, 50, 50, 50, 50, 50, 50, 50, 50, 50, 50, 50, 50, 50, 50, 50, 50, 50, 50, 50, 50, 50, 50, 50, 50, 50, 50, 50, 50, 50, 50, 50, 50, 50, 50, 50, 50, 50, 50, 50, 50, 50, 50, 50, 50, 50, 50, 50, 50, 50, 50, 50, 50, 50, 50, 50, 50, 50, 50, 50, 50, 50, 50, 50, 50, 50, 50, 50, 50, 50, 2, 2, 2, 2, 2, 2, 2, 2, 2, 2, 2, 2, 7, 7, 7, 7, 7, 7] : List Nat).getD i 30
def fv_X6 : Nat → List (Option Nat) := fun i => ([[none, none, none, none, some 1, none, some 2, some 10, none, some 11, some 12, none, none, some 13, none, some 14, none, some 15], (((((((((((((List.replicate 12 none).set 0 (some 160)).set 1 (some 161)).set 2 (some 162)).set 3 (some 163)).set 4 (some 164)).set 5 (some 165)).set 6 (some 166)).set 7 (some 167)).set 8 (some 168)).set 9 (some 169)).set 10 (some 170)).set 11 (some 171)), [none, none, none, none, none, some 3, some 4, none, some 9], [], ((List.range 4).map (fun i => some (5 + i))), [], [], [], [], [], (((((((List.replicate 6 none).set 0 (some 172)).set 1 (some 173)).set 2 (some 174)).set 3 (some 175)).set 4 (some 176)).set 5 (some 177)), [], [], [], [], ((List.range 144).map (fun i => some (16 + i))), [], [], [], [], [], [], [], [], [], [], [], [], [], [], [], [], [], [], [], [], [], [], [], [], [], [], [], [], [], [], [], [], [], [], [], [], [], [], [], [], [], [], [], [], [], [], [], [], [], [], [], [], [], [], [], [], [], [], [], [], [], [], [], [], [], [], [], [], [], [], [], [], [], [], [], [], [], [], [], [], [], [], [], [], [], [], [], [], [], [], [], [], [], [], [], [], [], [], [], [], [], [], [], [], [], [], [], [], [], [], [], [], [], [], [], [], [], [], [], [], [], [], [], [], [], [], [], [], [], [], [], [], [], [], [], [], [], [], [], [], [], [], [], [], [none, none, none, none], [none, none, none, none], [none, none, none, none], [none, none, none, none], [none, none, none, none], [none, none, none, none], [none, none, none, none], [none, none, none, none], [none, none, none, none], [none, none, none, none], [none, none, none, none], [none, none, none, none], [none, none, none, none, none, none, none, none, none, none], [none, none, none, none, none, none, none, none, none, none], [none, none, none, none, none, none, none, none, none, none], [none, none, none, none, none, none, none, none, none, none], [none, none, none, none, none, none, none, none, none, none], [none, none, none, none, none, none, none, none, none, none]] : List (List (Option Nat))).getD i []
set_option maxHeartbeats 4000000 in
set_option maxRecDepth 100000 in
theorem fk_X6 {cI cJ cZ cMic cSrc cSt cAI cAJ : ClassId} (b : Nat → Nat) {i : Nat} (hi : i < 178) : iX6 cI cJ cZ cMic cSrc cSt cAI cAJ b i = ccv cI cJ cZ cMic cSrc cSt cAI cAJ b (fs_X6 i) (fviR (fo_X6 i)) (fun _ => 0) (fun k => (fv_X6 i).getD k none) := by
  have h : ([.inr (6, [.int 0, .int 0, .int 0, .int 0, .ref (b 1), .int 0, .ref (b 2), .ref (b 10), .int 0, .ref (b 11), .ref (b 12), .int 0, .int 0, .ref (b 13), .int 0, .ref (b 14), .int 0, .ref (b 15)]), .inl (cMic, 12, .inr (.inr (.inr (.inr (va_up (va_up (va_up (va_up (va_up (va_up (va_up (va_up (va_up (va_up (va_up (va_up (fun _ => none) 0 (some (b 160))) 1 (some (b 161))) 2 (some (b 162))) 3 (some (b 163))) 4 (some (b 164))) 5 (some (b 165))) 6 (some (b 166))) 7 (some (b 167))) 8 (some (b 168))) 9 (some (b 169))) 10 (some (b 170))) 11 (some (b 171))))))), .inr (1, [.int 0, .int 0, .int 0, .int 0, .int 0, .ref (b 3), .ref (b 4), .int 0, .ref (b 9)]), .inl (cI, 4, .inl (fun _ => 0)), .inl (cAI, 4, .inr (.inr (.inr (.inr (fun i => if i < 4 then some (b (5 + i)) else none))))), .inl (cI, 4, .inl (fun _ => 0)), .inl (cI, 4, .inl (fun _ => 0)), .inl (cI, 4, .inl (fun _ => 0)), .inl (cI, 4, .inl (fun _ => 0)), .inl (cI, 4, .inl (fun _ => 0)), .inl (cSrc, 6, .inr (.inr (.inr (.inr (va_up (va_up (va_up (va_up (va_up (va_up (fun _ => none) 0 (some (b 172))) 1 (some (b 173))) 2 (some (b 174))) 3 (some (b 175))) 4 (some (b 176))) 5 (some (b 177))))))), .inl (cI, 2, .inl (fun _ => 0)), .inl (cI, 2, .inl (fun _ => 0)), .inl (cI, 5, .inl (fun _ => 0)), .inl (cI, 12, .inl (fun _ => 0)), .inl (cAI, 144, .inr (.inr (.inr (.inr (fun i => if i < 144 then some (b (16 + i)) else none))))), .inl (cI, 12, .inl (fun _ => 0)), .inl (cI, 12, .inl (fun _ => 0)), .inl (cI, 12, .inl (fun _ => 0)), .inl (cI, 12, .inl (fun _ => 0)), .inl (cI, 12, .inl (fun _ => 0)), .inl (cI, 12, .inl (fun _ => 0)), .inl (cI, 12, .inl (fun _ => 0)), .inl (cI, 12, .inl (fun _ => 0)), .inl (cI, 12, .inl (fun _ => 0)), .inl (cI, 12, .inl (fun _ => 0)), .inl (cI, 12, .inl (fun _ => 0)), .inl (cI, 12, .inl (fun _ => 0)), .inl (cI, 12, .inl (fun _ => 0)), .inl (cI, 12, .inl (fun _ => 0)), .inl (cI, 12, .inl (fun _ => 0)), .inl (cI, 12, .inl (fun _ => 0)), .inl (cI, 12, .inl (fun _ => 0)), .inl (cI, 12, .inl (fun _ => 0)), .inl (cI, 12, .inl (fun _ => 0)), .inl (cI, 12, .inl (fun _ => 0)), .inl (cI, 12, .inl (fun _ => 0)), .inl (cI, 12, .inl (fun _ => 0)), .inl (cI, 12, .inl (fun _ => 0)), .inl (cI, 12, .inl (fun _ => 0)), .inl (cI, 12, .inl (fun _ => 0)), .inl (cI, 12, .inl (fun _ => 0)), .inl (cI, 12, .inl (fun _ => 0)), .inl (cI, 12, .inl (fun _ => 0)), .inl (cI, 12, .inl (fun _ => 0)), .inl (cI, 12, .inl (fun _ => 0)), .inl (cI, 12, .inl (fun _ => 0)), .inl (cI, 12, .inl (fun _ => 0)), .inl (cI, 12, .inl (fun _ => 0)), .inl (cI, 12, .inl (fun _ => 0)), .inl (cI, 12, .inl (fun _ => 0)), .inl (cI, 12, .inl (fun _ => 0)), .inl (cI, 12, .inl (fun _ => 0)), .inl (cI, 12, .inl (fun _ => 0)), .inl (cI, 12, .inl (fun _ => 0)), .inl (cI, 12, .inl (fun _ => 0)), .inl (cI, 12, .inl (fun _ => 0)), .inl (cI, 12, .inl (fun _ => 0)), .inl (cI, 12, .inl (fun _ => 0)), .inl (cI, 12, .inl (fun _ => 0)), .inl (cI, 12, .inl (fun _ => 0)), .inl (cI, 12, .inl (fun _ => 0)), .inl (cI, 12, .inl (fun _ => 0)), .inl (cI, 12, .inl (fun _ => 0)), .inl (cI, 12, .inl (fun _ => 0)), .inl (cI, 12, .inl (fun _ => 0)), .inl (cI, 12, .inl (fun _ => 0)), .inl (cI, 12, .inl (fun _ => 0)), .inl (cI, 12, .inl (fun _ => 0)), .inl (cI, 12, .inl (fun _ => 0)), .inl (cI, 12, .inl (fun _ => 0)), .inl (cI, 12, .inl (fun _ => 0)), .inl (cI, 12, .inl (fun _ => 0)), .inl (cI, 12, .inl (fun _ => 0)), .inl (cI, 12, .inl (fun _ => 0)), .inl (cI, 12, .inl (fun _ => 0)), .inl (cI, 12, .inl (fun _ => 0)), .inl (cI, 12, .inl (fun _ => 0)), .inl (cI, 12, .inl (fun _ => 0)), .inl (cI, 12, .inl (fun _ => 0)), .inl (cI, 12, .inl (fun _ => 0)), .inl (cI, 12, .inl (fun _ => 0)), .inl (cI, 12, .inl (fun _ => 0)), .inl (cI, 12, .inl (fun _ => 0)), .inl (cI, 12, .inl (fun _ => 0)), .inl (cI, 12, .inl (fun _ => 0)), .inl (cI, 12, .inl (fun _ => 0)), .inl (cI, 12, .inl (fun _ => 0)), .inl (cI, 12, .inl (fun _ => 0)), .inl (cI, 12, .inl (fun _ => 0)), .inl (cI, 12, .inl (fun _ => 0)), .inl (cI, 12, .inl (fun _ => 0)), .inl (cI, 12, .inl (fun _ => 0)), .inl (cI, 12, .inl (fun _ => 0)), .inl (cI, 12, .inl (fun _ => 0)), .inl (cI, 12, .inl (fun _ => 0)), .inl (cI, 12, .inl (fun _ => 0)), .inl (cI, 12, .inl (fun _ => 0)), .inl (cI, 12, .inl (fun _ => 0)), .inl (cI, 12, .inl (fun _ => 0)), .inl (cI, 12, .inl (fun _ => 0)), .inl (cI, 12, .inl (fun _ => 0)), .inl (cI, 12, .inl (fun _ => 0)), .inl (cI, 12, .inl (fun _ => 0)), .inl (cI, 12, .inl (fun _ => 0)), .inl (cI, 12, .inl (fun _ => 0)), .inl (cI, 12, .inl (fun _ => 0)), .inl (cI, 12, .inl (fun _ => 0)), .inl (cI, 12, .inl (fun _ => 0)), .inl (cI, 12, .inl (fun _ => 0)), .inl (cI, 12, .inl (fun _ => 0)), .inl (cI, 12, .inl (fun _ => 0)), .inl (cI, 12, .inl (fun _ => 0)), .inl (cI, 12, .inl (fun _ => 0)), .inl (cI, 12, .inl (fun _ => 0)), .inl (cI, 12, .inl (fun _ => 0)), .inl (cI, 12, .inl (fun _ => 0)), .inl (cI, 12, .inl (fun _ => 0)), .inl (cI, 12, .inl (fun _ => 0)), .inl (cI, 12, .inl (fun _ => 0)), .inl (cI, 12, .inl (fun _ => 0)), .inl (cI, 12, .inl (fun _ => 0)), .inl (cI, 12, .inl (fun _ => 0)), .inl (cI, 12, .inl (fun _ => 0)), .inl (cI, 12, .inl (fun _ => 0)), .inl (cI, 12, .inl (fun _ => 0)), .inl (cI, 12, .inl (fun _ => 0)), .inl (cI, 12, .inl (fun _ => 0)), .inl (cI, 12, .inl (fun _ => 0)), .inl (cI, 12, .inl (fun _ => 0)), .inl (cI, 12, .inl (fun _ => 0)), .inl (cI, 12, .inl (fun _ => 0)), .inl (cI, 12, .inl (fun _ => 0)), .inl (cI, 12, .inl (fun _ => 0)), .inl (cI, 12, .inl (fun _ => 0)), .inl (cI, 12, .inl (fun _ => 0)), .inl (cI, 12, .inl (fun _ => 0)), .inl (cI, 12, .inl (fun _ => 0)), .inl (cI, 12, .inl (fun _ => 0)), .inl (cI, 12, .inl (fun _ => 0)), .inl (cI, 12, .inl (fun _ => 0)), .inl (cI, 12, .inl (fun _ => 0)), .inl (cI, 12, .inl (fun _ => 0)), .inl (cI, 12, .inl (fun _ => 0)), .inl (cI, 12, .inl (fun _ => 0)), .inl (cI, 12, .inl (fun _ => 0)), .inl (cI, 12, .inl (fun _ => 0)), .inl (cI, 12, .inl (fun _ => 0)), .inl (cI, 12, .inl (fun _ => 0)), .inl (cI, 12, .inl (fun _ => 0)), .inl (cI, 12, .inl (fun _ => 0)), .inl (cI, 12, .inl (fun _ => 0)), .inl (cI, 12, .inl (fun _ => 0)), .inl (cI, 12, .inl (fun _ => 0)), .inl (cI, 12, .inl (fun _ => 0)), .inl (cI, 12, .inl (fun _ => 0)), .inl (cI, 12, .inl (fun _ => 0)), .inl (cI, 12, .inl (fun _ => 0)), .inl (cI, 12, .inl (fun _ => 0)), .inl (cI, 12, .inl (fun _ => 0)), .inr (2, [.int 0, .int 0, .int 0, .int 0]), .inr (2, [.int 0, .int 0, .int 0, .int 0]), .inr (2, [.int 0, .int 0, .int 0, .int 0]), .inr (2, [.int 0, .int 0, .int 0, .int 0]), .inr (2, [.int 0, .int 0, .int 0, .int 0]), .inr (2, [.int 0, .int 0, .int 0, .int 0]), .inr (2, [.int 0, .int 0, .int 0, .int 0]), .inr (2, [.int 0, .int 0, .int 0, .int 0]), .inr (2, [.int 0, .int 0, .int 0, .int 0]), .inr (2, [.int 0, .int 0, .int 0, .int 0]), .inr (2, [.int 0, .int 0, .int 0, .int 0]), .inr (2, [.int 0, .int 0, .int 0, .int 0]), .inr (7, [.int 0, .int 0, .int 0, .int 0, .int 0, .int 0, .int 0, .int 0, .int 0, .int 0]), .inr (7, [.int 0, .int 0, .int 0, .int 0, .int 0, .int 0, .int 0, .int 0, .int 0, .int 0]), .inr (7, [.int 0, .int 0, .int 0, .int 0, .int 0, .int 0, .int 0, .int 0, .int 0, .int 0]), .inr (7, [.int 0, .int 0, .int 0, .int 0, .int 0, .int 0, .int 0, .int 0, .int 0, .int 0]), .inr (7, [.int 0, .int 0, .int 0, .int 0, .int 0, .int 0, .int 0, .int 0, .int 0, .int 0]), .inr (7, [.int 0, .int 0, .int 0, .int 0, .int 0, .int 0, .int 0, .int 0, .int 0, .int 0])] : List va_E) = (List.range 178).map (fun i => ccv cI cJ cZ cMic cSrc cSt cAI cAJ b (fs_X6 i) (fviR (fo_X6 i)) (fun _ => 0) (fun k => (fv_X6 i).getD k none)) := (lc rfl (lc (congrArg (fun x => (Sum.inl (cMic, 12, Sum.inr (Sum.inr (Sum.inr (Sum.inr x)))) : va_E)) (fl_up b 11 171 (by decide) (fl_up b 10 170 (by decide) (fl_up b 9 169 (by decide) (fl_up b 8 168 (by decide) (fl_up b 7 167 (by decide) (fl_up b 6 166 (by decide) (fl_up b 5 165 (by decide) (fl_up b 4 164 (by decide) (fl_up b 3 163 (by decide) (fl_up b 2 162 (by decide) (fl_up b 1 161 (by decide) (fl_up b 0 160 (by decide) (fl_none b 12))))))))))))).symm) (lc rfl (lc rfl (lc (congrArg (fun x => (Sum.inl (cAI, 4, Sum.inr (Sum.inr (Sum.inr (Sum.inr x)))) : va_E)) (fl_ite b 4 5).symm) (lc rfl (lc rfl (lc rfl (lc rfl (lc rfl (lc (congrArg (fun x => (Sum.inl (cSrc, 6, Sum.inr (Sum.inr (Sum.inr (Sum.inr x)))) : va_E)) (fl_up b 5 177 (by decide) (fl_up b 4 176 (by decide) (fl_up b 3 175 (by decide) (fl_up b 2 174 (by decide) (fl_up b 1 173 (by decide) (fl_up b 0 172 (by decide) (fl_none b 6))))))).symm) (lc rfl (lc rfl (lc rfl (lc rfl (lc (congrArg (fun x => (Sum.inl (cAI, 144, Sum.inr (Sum.inr (Sum.inr (Sum.inr x)))) : va_E)) (fl_ite b 144 16).symm) (lc rfl (lc rfl (lc rfl (lc rfl (lc rfl (lc rfl (lc rfl (lc rfl (lc rfl (lc rfl (lc rfl (lc rfl (lc rfl (lc rfl (lc rfl (lc rfl (lc rfl (lc rfl (lc rfl (lc rfl (lc rfl (lc rfl (lc rfl (lc rfl (lc rfl (lc rfl (lc rfl (lc rfl (lc rfl (lc rfl (lc rfl (lc rfl (lc rfl (lc rfl (lc rfl (lc rfl (lc rfl (lc rfl (lc rfl (lc rfl (lc rfl (lc rfl (lc rfl (lc rfl (lc rfl (lc rfl (lc rfl (lc rfl (lc rfl (lc rfl (lc rfl (lc rfl (lc rfl (lc rfl (lc rfl (lc rfl (lc rfl (lc rfl (lc rfl (lc rfl (lc rfl (lc rfl (lc rfl (lc rfl (lc rfl (lc rfl (lc rfl (lc rfl (lc rfl (lc rfl (lc rfl (lc rfl (lc rfl (lc rfl (lc rfl (lc rfl (lc rfl (lc rfl (lc rfl (lc rfl (lc rfl (lc rfl (lc rfl (lc rfl (lc rfl (lc rfl (lc rfl (lc rfl (lc rfl (lc rfl (lc rfl (lc rfl (lc rfl (lc rfl (lc rfl (lc rfl (lc rfl (lc rfl (lc rfl (lc rfl (lc rfl (lc rfl (lc rfl (lc rfl (lc rfl (lc rfl (lc rfl (lc rfl (lc rfl (lc rfl (lc rfl (lc rfl (lc rfl (lc rfl (lc rfl (lc rfl (lc rfl (lc rfl (lc rfl (lc rfl (lc rfl (lc rfl (lc rfl (lc rfl (lc rfl (lc rfl (lc rfl (lc rfl (lc rfl (lc rfl (lc rfl (lc rfl (lc rfl (lc rfl (lc rfl (lc rfl (lc rfl (lc rfl (lc rfl (lc rfl (lc rfl (lc rfl (lc rfl (lc rfl (lc rfl (lc rfl (lc rfl (lc rfl (lc rfl (lc rfl (lc rfl (lc rfl (lc rfl (lc rfl (lc rfl (lc rfl (lc rfl (lc rfl (lc rfl (lc rfl (lc rfl (lc rfl rfl))))))))))))))))))))))))))))))))))))))))))))))))))))))))))))))))))))))))))))))))))))))))))))))))))))))))))))))))))))))))))))))))))))))))))))))))))))))))))))))))))))))))))))))))))
  exact (congrArg (fun l => List.getD l i (.inr (0, []))) h).trans (fr_getD hi)
def fs_K7 : Nat → Nat × Nat := fun i => ([(102, 2)] : List (Nat × Nat)).getD i (0, 0)
def fo_K7 : Nat → Nat := fun i => ([49] : List Nat).getD i 30
def fv_K7 : Nat → List (Option Nat) := fun i => ([[]] : List (List (Option Nat))).getD i []
set_option maxHeartbeats 4000000 in
set_option maxRecDepth 100000 in
theorem fk_K7 {cI cJ cZ cMic cSrc cSt cAI cAJ : ClassId} (b : Nat → Nat) {i : Nat} (hi : i < 1) : (.inl (cZ, 2, .inl (fun _ => 0)) : va_E) = ccv cI cJ cZ cMic cSrc cSt cAI cAJ b (fs_K7 i) (fviR (fo_K7 i)) (fun _ => 0) (fun k => (fv_K7 i).getD k none) := by
  have e : i = 0 := by omega
  subst e
  rfl
def fs_K8 : Nat → Nat × Nat := fun i => ([(100, 12)] : List (Nat × Nat)).getD i (0, 0)
def fo_K8 : Nat → Nat := fun i => ([50] : List Nat).getD i 30
def fv_K8 : Nat → List (Option Nat) := fun i => ([[]] : List (List (Option Nat))).getD i []
set_option maxHeartbeats 4000000 in
set_option maxRecDepth 100000 in
theorem fk_K8 {cI cJ cZ cMic cSrc cSt cAI cAJ : ClassId} (b : Nat → Nat) {i : Nat} (hi : i < 1) : (.inl (cI, 12, .inl (fun _ => 0)) : va_E) = ccv cI cJ cZ cMic cSrc cSt cAI cAJ b (fs_K8 i) (fviR (fo_K8 i)) (fun _ => 0) (fun k => (fv_K8 i).getD k none) := by
  have e : i = 0 := by omega
  subst e
  rfl
def fs_K10 : Nat → Nat × Nat := fun i => ([(100, 155)] : List (Nat × Nat)).getD i (0, 0)
def fo_K10 : Nat → Nat := fun i => ([52] : List Nat).getD i 30
def fv_K10 : Nat → List (Option Nat) := fun i => ([[]] : List (List (Option Nat))).getD i []
set_option maxHeartbeats 4000000 in
set_option maxRecDepth 100000 in
theorem fk_K10 {cI cJ cZ cMic cSrc cSt cAI cAJ : ClassId} (b : Nat → Nat) {i : Nat} (hi : i < 1) : (.inl (cI, 155, .inl (fun _ => 0)) : va_E) = ccv cI cJ cZ cMic cSrc cSt cAI cAJ b (fs_K10 i) (fviR (fo_K10 i)) (fun _ => 0) (fun k => (fv_K10 i).getD k none) := by
  have e : i = 0 := by omega
  subst e
  rfl
def fs_S0 : Nat → Nat × Nat := fun i => ([(11, 0)] : List (Nat × Nat)).getD i (0, 0)
def fo_S0 : Nat → Nat := fun i => ([11] : List Nat).getD i 30
def fv_S0 : Nat → List (Option Nat) := fun i => ([[some 1, some 6, some 7, some 22, some 66, some 154, some 242, some 336, some 430, some 431, some 432, some 433, some 434, some 477, some 478, some 656, none, none, none]] : List (List (Option Nat))).getD i []
def fs_S6 : Nat → Nat × Nat := fun i => ([(3, 0)] : List (Nat × Nat)).getD i (0, 0)
def fo_S6 : Nat → Nat := fun i => ([3] : List Nat).getD i 30
def fv_S6 : Nat → List (Option Nat) := fun i => ([[some 1, none, none, none]] : List (List (Option Nat))).getD i []
def fs_S430 : Nat → Nat × Nat := fun i => ([(105, 6)] : List (Nat × Nat)).getD i (0, 0)
def fo_S430 : Nat → Nat := fun i => ([47] : List Nat).getD i 30
def fv_S430 : Nat → List (Option Nat) := fun i => ([(((((((List.replicate 6 none).set 0 (some 834)).set 1 (some 928)).set 2 (some 1022)).set 3 (some 1116)).set 4 (some 1210)).set 5 (some 1304))] : List (List (Option Nat))).getD i []
def fs_S431 : Nat → Nat × Nat := fun i => ([(105, 2)] : List (Nat × Nat)).getD i (0, 0)
def fo_S431 : Nat → Nat := fun i => ([48] : List Nat).getD i 30
def fv_S431 : Nat → List (Option Nat) := fun i => ([(((List.replicate 2 none).set 0 (some 1398)).set 1 (some 1492))] : List (List (Option Nat))).getD i []
def aoff : Nat → Nat := fun j => ([1, 7, 22, 66, 154, 242, 336, 432, 433, 434, 477, 478, 656, 834, 928, 1022, 1116, 1210, 1304, 1398, 1492, 0, 0, 0, 0] : List Nat).getD j 0
def ash : Nat → Nat → Nat × Nat := fun j => match j with
  | 0 => fs_X9
  | 1 => fs_X5
  | 2 => fs_X0
  | 3 => fs_X4
  | 4 => fs_X4
  | 5 => fs_X8
  | 6 => fs_X8
  | 7 => fs_K7
  | 8 => fs_K8
  | 9 => fs_X10_12
  | 10 => fs_K10
  | 11 => fs_X6
  | 12 => fs_X6
  | 13 => fs_X8
  | 14 => fs_X8
  | 15 => fs_X8
  | 16 => fs_X8
  | 17 => fs_X8
  | 18 => fs_X8
  | 19 => fs_X8
  | 20 => fs_X8
  | 21 => fs_S0
  | 22 => fs_S6
  | 23 => fs_S430
  | 24 => fs_S431
  | _ => fun _ => (0, 0)
def aro : Nat → Nat → Nat := fun j => match j with
  | 0 => fo_X9
  | 1 => fo_X5
  | 2 => fo_X0
  | 3 => fo_X4
  | 4 => fo_X4
  | 5 => fo_X8
  | 6 => fo_X8
  | 7 => fo_K7
  | 8 => fo_K8
  | 9 => fo_X10_12
  | 10 => fo_K10
  | 11 => fo_X6
  | 12 => fo_X6
  | 13 => fo_X8
  | 14 => fo_X8
  | 15 => fo_X8
  | 16 => fo_X8
  | 17 => fo_X8
  | 18 => fo_X8
  | 19 => fo_X8
  | 20 => fo_X8
  | 21 => fo_S0
  | 22 => fo_S6
  | 23 => fo_S430
  | 24 => fo_S431
  | _ => fun _ => 30
def avr : Nat → Nat → List (Option Nat) := fun j => match j with
  | 0 => fv_X9
  | 1 => fv_X5
  | 2 => fv_X0
  | 3 => fv_X4
  | 4 => fv_X4
  | 5 => fv_X8
  | 6 => fv_X8
  | 7 => fv_K7
  | 8 => fv_K8
  | 9 => fv_X10_12
  | 10 => fv_K10
  | 11 => fv_X6
  | 12 => fv_X6
  | 13 => fv_X8
  | 14 => fv_X8
  | 15 => fv_X8
  | 16 => fv_X8
  | 17 => fv_X8
  | 18 => fv_X8
  | 19 => fv_X8
  | 20 => fv_X8
  | 21 => fv_S0
  | 22 => fv_S6
  | 23 => fv_S430
  | 24 => fv_S431
  | _ => fun _ => []
def aloc (n : Nat) : Nat × Nat := (bif Nat.blt n 434 then (bif Nat.blt n 242 then (bif Nat.blt n 22 then (bif Nat.blt n 6 then (bif Nat.blt n 1 then (21, n - 0) else (0, n - 1)) else (bif Nat.blt n 7 then (22, n - 6) else (1, n - 7))) else (bif Nat.blt n 154 then (bif Nat.blt n 66 then (2, n - 22) else (3, n - 66)) else (4, n - 154))) else (bif Nat.blt n 431 then (bif Nat.blt n 430 then (bif Nat.blt n 336 then (5, n - 242) else (6, n - 336)) else (23, n - 430)) else (bif Nat.blt n 433 then (bif Nat.blt n 432 then (24, n - 431) else (7, n - 432)) else (8, n - 433)))) else (bif Nat.blt n 1116 then (bif Nat.blt n 834 then (bif Nat.blt n 478 then (bif Nat.blt n 477 then (9, n - 434) else (10, n - 477)) else (bif Nat.blt n 656 then (11, n - 478) else (12, n - 656))) else (bif Nat.blt n 1022 then (bif Nat.blt n 928 then (13, n - 834) else (14, n - 928)) else (15, n - 1022))) else (bif Nat.blt n 1398 then (bif Nat.blt n 1304 then (bif Nat.blt n 1210 then (16, n - 1116) else (17, n - 1210)) else (18, n - 1304)) else (bif Nat.blt n 1586 then (bif Nat.blt n 1492 then (19, n - 1398) else (20, n - 1492)) else (25, 0)))))
def aR0 (n : Nat) : Nat := aro (aloc n).1 (aloc n).2
def arf (n : Nat) : List (Option Nat) := (avr (aloc n).1 (aloc n).2).map (fun x => x.map (aoff (aloc n).1 + ·))
def aT0 : AT := (1586, fun n => ash (aloc n).1 (aloc n).2, fun n => fviR (aR0 n), fun _ _ => 0, fun n k => (arf n).getD k none)
theorem a_fin {n : Nat} {p : Nat → Bool} (h : (List.range n).all p = true) {i : Nat} (hi : i < n) : p i = true := List.all_eq_true.mp h i (List.mem_range.mpr hi)
theorem a_loc : (List.range 21).all (fun j => (List.range (n3len j)).all (fun i => decide (aloc (n3off j + i) = (j, i)) && (avr j i).all (fun x => match x with | some q => Nat.blt q (n3len j) | none => true))) = true := by decide +kernel
theorem a_off {j : Nat} (hj : j < 21) : aoff j = n3off j := of_decide_eq_true (a_fin (p := fun j => decide (aoff j = n3off j)) (n := 21) (by decide +kernel) hj)
theorem arf_get (n k : Nat) : (arf n).getD k none = ((avr (aloc n).1 (aloc n).2).getD k none).map (aoff (aloc n).1 + ·) := by
  unfold arf
  rw [List.getD_eq_getElem?_getD, List.getD_eq_getElem?_getD, List.getElem?_map]
  cases (avr (aloc n).1 (aloc n).2)[k]? with
  | none => rfl
  | some x => rfl
theorem a_in {l : List (Option Nat)} {k q N : Nat} (h : l.all (fun x => match x with | some q => Nat.blt q N | none => true) = true) (e : l.getD k none = some q) : q < N := by
  rw [List.getD_eq_getElem?_getD] at e
  cases hk : l[k]? with
  | none => rw [hk] at e; cases e
  | some x =>
    rw [hk] at e
    have e : x = some q := e
    subst e
    exact Nat.le_of_ble_eq_true (List.all_eq_true.mp h _ (List.mem_of_getElem? hk))
set_option maxHeartbeats 4000000 in
set_option maxRecDepth 100000 in
theorem n3_ccv {cI cJ cZ cMic cSrc cSt cAI cAJ : ClassId} {j : Nat} (hj : j < 21) (b : Nat → Nat) {i : Nat} (hi : i < n3len j) : n3blk cI cJ cZ cMic cSrc cSt cAI cAJ j b i = ccv cI cJ cZ cMic cSrc cSt cAI cAJ b (ash j i) (fviR (aro j i)) (fun _ => 0) (fun k => (avr j i).getD k none) := by
  match j, hj with
  | 0, _ => exact fk_X9 b hi
  | 1, _ => exact fk_X5 b hi
  | 2, _ => exact fk_X0 b hi
  | 3, _ => exact fk_X4 b hi
  | 4, _ => exact fk_X4 b hi
  | 5, _ => exact fk_X8 b hi
  | 6, _ => exact fk_X8 b hi
  | 7, _ => exact fk_K7 b hi
  | 8, _ => exact fk_K8 b hi
  | 9, _ => exact fk_X10_12 b hi
  | 10, _ => exact fk_K10 b hi
  | 11, _ => exact fk_X6 b hi
  | 12, _ => exact fk_X6 b hi
  | 13, _ => exact fk_X8 b hi
  | 14, _ => exact fk_X8 b hi
  | 15, _ => exact fk_X8 b hi
  | 16, _ => exact fk_X8 b hi
  | 17, _ => exact fk_X8 b hi
  | 18, _ => exact fk_X8 b hi
  | 19, _ => exact fk_X8 b hi
  | 20, _ => exact fk_X8 b hi
  | (n + 21), h => exact absurd h (by omega)
set_option maxRecDepth 100000 in
theorem a_blk {cI cJ cZ cMic cSrc cSt cAI cAJ : ClassId} {ad : Nat → Nat} {S : Nat → va_E} {bs : Nat → Nat → Nat} (h : BL cI cJ cZ cMic cSrc cSt cAI cAJ 21 ad S bs) {j i : Nat} (hj : j < 21) (hi : i < n3len j) : S (n3off j + i) = cc cI cJ cZ cMic cSrc cSt cAI cAJ ad aT0 (n3off j + i) := by
  obtain ⟨h1, h2⟩ := (Bool.and_eq_true _ _).mp (a_fin (a_fin a_loc hj) hi)
  have h1 : aloc (n3off j + i) = (j, i) := of_decide_eq_true h1
  rw [(h j hj i hi).1, n3_ccv hj (bs j) hi]
  show _ = ccv cI cJ cZ cMic cSrc cSt cAI cAJ ad (ash (aloc (n3off j + i)).1 (aloc (n3off j + i)).2) (fviR (aro (aloc (n3off j + i)).1 (aloc (n3off j + i)).2)) (fun _ => 0) (fun k => (arf (n3off j + i)).getD k none)
  rw [h1]
  refine ccv_map (fun k => ?_)
  rw [arf_get, h1]
  cases e : (avr j i).getD k none with
  | none => rfl
  | some q =>
    have hq := a_in h2 e
    show some (bs j q) = some (ad (aoff j + q))
    rw [a_off hj, (h j hj q hq).2]
set_option maxHeartbeats 4000000 in
set_option maxRecDepth 100000 in
theorem a_cells {cI cJ cZ cMic cSrc cSt cAI cAJ : ClassId} {ad : Nat → Nat} {S : Nat → va_E} (h : S 0 = iX11_0 cI cJ cZ cMic cSrc cSt cAI cAJ ad ∧ S 6 = iX11_6 cI cJ cZ cMic cSrc cSt cAI cAJ ad ∧ S 430 = iX11_430 cI cJ cZ cMic cSrc cSt cAI cAJ ad ∧ S 431 = iX11_431 cI cJ cZ cMic cSrc cSt cAI cAJ ad ∧ ∃ bs, BL cI cJ cZ cMic cSrc cSt cAI cAJ 21 ad S bs) : ∀ n, n < 1586 → S n = cc cI cJ cZ cMic cSrc cSt cAI cAJ ad aT0 n := by
  obtain ⟨h0, h6, h430, h431, bs, hB⟩ := h
  intro n hn
  by_cases e0 : n = 0
  · subst e0
    rw [h0]
    rfl
  by_cases e6 : n = 6
  · subst e6
    rw [h6]
    rfl
  by_cases e430 : n = 430
  · subst e430
    rw [h430]
    refine Eq.trans (congrArg (fun x => (Sum.inl (cSt, 6, Sum.inr (Sum.inr (Sum.inr (Sum.inr x)))) : va_E)) (fl_up ad 5 1304 (by decide) (fl_up ad 4 1210 (by decide) (fl_up ad 3 1116 (by decide) (fl_up ad 2 1022 (by decide) (fl_up ad 1 928 (by decide) (fl_up ad 0 834 (by decide) (fl_none ad 6))))))).symm) ?_
    have e : ∀ k, (((avr 23 0).getD k none : Option Nat)).map ad = ((arf 430).getD k none).map ad := fun k => by
      rw [arf_get 430 k]
      show _ = (((avr 23 0).getD k none).map (0 + ·)).map ad
      cases (avr 23 0).getD k none with
      | none => rfl
      | some q => show some (ad q) = some (ad (0 + q)); rw [Nat.zero_add]
    exact congrArg (fun x => (Sum.inl (cSt, 6, Sum.inr (Sum.inr (Sum.inr (Sum.inr x)))) : va_E)) (funext e)
  by_cases e431 : n = 431
  · subst e431
    rw [h431]
    refine Eq.trans (congrArg (fun x => (Sum.inl (cSt, 2, Sum.inr (Sum.inr (Sum.inr (Sum.inr x)))) : va_E)) (fl_up ad 1 1492 (by decide) (fl_up ad 0 1398 (by decide) (fl_none ad 2))).symm) ?_
    have e : ∀ k, (((avr 24 0).getD k none : Option Nat)).map ad = ((arf 431).getD k none).map ad := fun k => by
      rw [arf_get 431 k]
      show _ = (((avr 24 0).getD k none).map (0 + ·)).map ad
      cases (avr 24 0).getD k none with
      | none => rfl
      | some q => show some (ad q) = some (ad (0 + q)); rw [Nat.zero_add]
    exact congrArg (fun x => (Sum.inl (cSt, 2, Sum.inr (Sum.inr (Sum.inr (Sum.inr x)))) : va_E)) (funext e)
  have key : ∃ j i, j < 21 ∧ i < n3len j ∧ n = n3off j + i := by
    have c := a_fin (p := fun n => (n == 0 || n == 6 || n == 430 || n == 431) || (Nat.blt (aloc n).1 21 && Nat.blt (aloc n).2 (n3len (aloc n).1) && n == n3off (aloc n).1 + (aloc n).2)) (n := 1586) (by decide +kernel) hn
    simp only [Bool.or_eq_true, Bool.and_eq_true, beq_iff_eq] at c
    rcases c with c | ⟨⟨c1, c2⟩, c3⟩
    · omega
    · exact ⟨_, _, Nat.le_of_ble_eq_true c1, Nat.le_of_ble_eq_true c2, c3⟩
  obtain ⟨j, i, hj, hi, rfl⟩ := key
  exact a_blk hB hj hi
theorem rtg_hi {r k : Nat} (h : 150 ≤ k) : rtg r k = 99 := by
  have b : ∀ m, m < 150 → Nat.beq k m = false := fun m hm => nbeq (by omega)
  have c : ∀ m, m < 150 → Nat.blt k m = false := fun m hm => by
    unfold Nat.blt
    exact Bool.eq_false_iff.mpr (fun q => by have := Nat.le_of_ble_eq_true q; omega)
  unfold rtg
  simp only [b _ (show 0 < 150 by decide), b _ (show 1 < 150 by decide), b _ (show 2 < 150 by decide), b _ (show 3 < 150 by decide), b _ (show 4 < 150 by decide), b _ (show 5 < 150 by decide), b _ (show 6 < 150 by decide), b _ (show 7 < 150 by decide), b _ (show 8 < 150 by decide), b _ (show 9 < 150 by decide), b _ (show 10 < 150 by decide), b _ (show 11 < 150 by decide), b _ (show 12 < 150 by decide), b _ (show 13 < 150 by decide), b _ (show 14 < 150 by decide), b _ (show 15 < 150 by decide), b _ (show 17 < 150 by decide), c _ (show 2 < 150 by decide), c _ (show 4 < 150 by decide), c _ (show 6 < 150 by decide), c _ (show 12 < 150 by decide), c _ (show 40 < 150 by decide), c _ (show 144 < 150 by decide), cond_false, Bool.cond_self]
def zR (p : Int × Int) : Prop := p.1 ≤ 0 ∧ 0 ≤ p.2
theorem zR_c {c : Bool} {a b : Int × Int} (h : zR a) (k : zR b) : zR (bif c then a else b) := by
  cases c
  · exact k
  · exact h
theorem iR_zero {r k : Nat} (h : isW r = false) : zR (iR r k) := by
  unfold iR
  rw [h]
  simp only [cond_false]
  repeat' first | (exact ⟨by decide, by decide⟩) | refine zR_c ?_ ?_
theorem fviR_ok (r k : Nat) : (iR r k).1 ≤ (fviR r k).toInt ∧ (fviR r k).toInt ≤ (iR r k).2 := by
  cases h : isW r with
  | true =>
    have hc : r = 101 ∨ r = 102 ∨ r = 103 ∨ r = 104 ∨ r = 105 := by
      unfold isW at h
      have b1 := Nat.le_of_ble_eq_true ((Bool.and_eq_true _ _).mp h).1
      have b2 := Nat.le_of_ble_eq_true ((Bool.and_eq_true _ _).mp h).2
      omega
    by_cases k0 : k = 0
    · subst k0
      rcases hc with rfl | rfl | rfl | rfl | rfl <;> decide
    · by_cases k2 : k = 2
      · subst k2
        rcases hc with rfl | rfl | rfl | rfl | rfl <;> decide
      · have e0 : Nat.beq k 0 = false := nbeq k0
        have e2 : Nat.beq k 2 = false := nbeq k2
        unfold iR fviR
        rw [h]
        simp only [cond_true]
        rw [e0, e2]
        simp only [cond_false]
        decide
  | false =>
    by_cases h3 : r = 3
    · subst h3
      by_cases k3 : k = 3
      · subst k3
        decide
      · have e3 : Nat.beq k 3 = false := nbeq k3
        have z : fviR 3 k = 0 := by
          show (bif Nat.beq k 3 then (-1 : Int32) else 0) = 0
          rw [e3]
          rfl
        rw [z]
        exact iR_zero h
    · have z : fviR r k = 0 := by
        unfold fviR
        rw [h, nbeq h3]
        rfl
      rw [z]
      exact iR_zero h
def aKf (a z : Nat) : Nat := a + z
theorem aKf_e (a z : Nat) : a + z = aKf a z := rfl
def aK1 : Nat := aKf 1586 (zt aR0 aT0 w1 1586)
def aK2 : Nat := aKf (sg aT0) (zt aR0 aT0 wC 1586)
def a_sta (n : Nat) : Bool := !(Nat.beq (aR0 n) 99) && !(Nat.beq (aR0 n) 30)
def a_hk (r : Nat) : Bool := isW r || (isRW r || (Nat.beq r 11 || (Nat.beq r 9 || (Nat.beq r 3 || (Nat.beq r 5 || (Nat.beq r 20 || (Nat.beq r 4 || (Nat.beq r 8 || (Nat.beq r 6 || (Nat.beq r 1 || (Nat.beq r 45 || (Nat.beq r 47 || (Nat.beq r 48 || (Nat.beq r 51 || (Nat.beq r 53 || (Nat.beq r 54 || Nat.beq r 60))))))))))))))))
theorem a_or {a b : Bool} (h : (a || b) = false) : a = false ∧ b = false := by
  cases a with
  | true => cases h
  | false => exact ⟨rfl, h⟩
theorem rtg_none {r : Nat} (h : a_hk r = false) (k : Nat) : rtg r k = 99 := by
  unfold a_hk at h
  obtain ⟨h1, h⟩ := a_or h
  obtain ⟨h2, h⟩ := a_or h
  obtain ⟨h3, h⟩ := a_or h
  obtain ⟨h4, h⟩ := a_or h
  obtain ⟨h5, h⟩ := a_or h
  obtain ⟨h6, h⟩ := a_or h
  obtain ⟨h7, h⟩ := a_or h
  obtain ⟨h8, h⟩ := a_or h
  obtain ⟨h9, h⟩ := a_or h
  obtain ⟨h10, h⟩ := a_or h
  obtain ⟨h11, h⟩ := a_or h
  obtain ⟨h12, h⟩ := a_or h
  obtain ⟨h13, h⟩ := a_or h
  obtain ⟨h14, h⟩ := a_or h
  obtain ⟨h15, h⟩ := a_or h
  obtain ⟨h16, h⟩ := a_or h
  obtain ⟨h17, h⟩ := a_or h
  unfold rtg
  rw [h1, h2, h3, h4, h5, h6, h7, h8, h9, h10, h11, h12, h13, h14, h15, h16, h17, h]
  rfl
theorem a_k150 {r : Nat} {g : Nat → Bool} (c : ((!(a_hk r)) || (List.range 150).all (fun k => Nat.beq (rtg r k) 99 || g k)) = true) : (List.range 150).all (fun k => Nat.beq (rtg r k) 99 || g k) = true := by
  cases h : a_hk r with
  | true =>
    rw [h, Bool.not_true, Bool.false_or] at c
    exact c
  | false =>
    refine List.all_eq_true.mpr (fun k _ => ?_)
    show (Nat.beq (rtg r k) 99 || g k) = true
    exact (congrArg (fun x => (Nat.beq x 99 || g k)) (rtg_none h k)).trans rfl
def a_chk (n : Nat) : Bool := (!(a_sta n)) || (decide (aT0.2.1 n = shp (aR0 n)) && (((!(a_hk (aR0 n))) || (List.range 150).all (fun k => Nat.beq (rtg (aR0 n) k) 99 || (match (arf n).getD k none with | some q => Nat.blt q 1586 && Nat.beq (aR0 q) (rtg (aR0 n) k) | none => false))) && ((!(isW (aR0 n))) || (match (arf n).getD 1 none with | some q => (match (arf q).getD 0 none with | some r => decide (aT0.2.1 r = (101, cnt (aR0 n))) | none => false) | none => true)) && ((!(isRW (aR0 n))) || (arf n).all (fun x => match x with | some r => Nat.blt r 1586 && (Nat.beq (aT0.2.1 r).1 101 && (Nat.beq (aT0.2.1 r).2 0 || Nat.beq (aT0.2.1 r).2 (wC (aR0 n)))) | none => true))))
set_option maxRecDepth 100000 in
theorem a_all : (List.range 1586).all a_chk = true := by decide +kernel
set_option maxRecDepth 100000 in
theorem a_rc : (List.range 1586).all (fun n => (arf n).all (fun x => match x with | some q => Nat.blt q 1586 | none => true)) = true := by decide +kernel
set_option maxRecDepth 100000 in
theorem a_nine : (List.range 1586).all (fun n => !(Nat.beq (aR0 n) 9) || Nat.beq n 1) = true := by decide +kernel
set_option maxRecDepth 100000 in
theorem a_room : aK1 + 3000 ≤ 600000 ∧ aK2 + 200000 ≤ 7200000 := by decide +kernel
theorem a_hi {n : Nat} (h : 1586 ≤ n) : aloc n = (25, 0) := by
  have c : ∀ m, m ≤ 1586 → Nat.blt n m = false := fun m hm => by
    unfold Nat.blt
    exact Bool.eq_false_iff.mpr (fun q => by have := Nat.le_of_ble_eq_true q; omega)
  unfold aloc
  simp only [c _ (show 1 ≤ 1586 by decide), c _ (show 6 ≤ 1586 by decide), c _ (show 7 ≤ 1586 by decide), c _ (show 22 ≤ 1586 by decide), c _ (show 66 ≤ 1586 by decide), c _ (show 154 ≤ 1586 by decide), c _ (show 242 ≤ 1586 by decide), c _ (show 336 ≤ 1586 by decide), c _ (show 430 ≤ 1586 by decide), c _ (show 431 ≤ 1586 by decide), c _ (show 432 ≤ 1586 by decide), c _ (show 433 ≤ 1586 by decide), c _ (show 434 ≤ 1586 by decide), c _ (show 477 ≤ 1586 by decide), c _ (show 478 ≤ 1586 by decide), c _ (show 656 ≤ 1586 by decide), c _ (show 834 ≤ 1586 by decide), c _ (show 928 ≤ 1586 by decide), c _ (show 1022 ≤ 1586 by decide), c _ (show 1116 ≤ 1586 by decide), c _ (show 1210 ≤ 1586 by decide), c _ (show 1304 ≤ 1586 by decide), c _ (show 1398 ≤ 1586 by decide), c _ (show 1492 ≤ 1586 by decide), c _ (show 1586 ≤ 1586 by decide), cond_false]
theorem aR0_hi {n : Nat} (h : 1586 ≤ n) : aR0 n = 30 := by
  unfold aR0
  rw [a_hi h]
  rfl
theorem a_RC : RC aT0 := by
  intro n k q h
  have h : (arf n).getD k none = some q := h
  by_cases hn : n < 1586
  · exact a_in (a_fin a_rc hn) h
  · have e : arf n = [] := by
      unfold arf
      rw [a_hi (Nat.not_lt.mp hn)]
      rfl
    rw [e] at h
    cases h
set_option maxHeartbeats 4000000 in
set_option maxRecDepth 100000 in
theorem a_IVx (z1 z2 : Nat) (e1 : zt aR0 aT0 w1 1586 = z1) (e2 : zt aR0 aT0 wC 1586 = z2) : IV aR0 1586 (aKf 1586 z1) (aKf (sg aT0) z2) aT0 := by
  have e0 : aT0.1 = 1586 := rfl
  have hs : ∀ n, sta aR0 1586 n → a_sta n = true := fun n h => by
    unfold a_sta
    rw [nbeq h.2.1, nbeq h.2.2]
    rfl
  have key : ∀ n, sta aR0 1586 n → aT0.2.1 n = shp (aR0 n) ∧ ((List.range 150).all (fun k => Nat.beq (rtg (aR0 n) k) 99 || (match (arf n).getD k none with | some q => Nat.blt q 1586 && Nat.beq (aR0 q) (rtg (aR0 n) k) | none => false)) = true) ∧ (isW (aR0 n) = true → (match (arf n).getD 1 none with | some q => (match (arf q).getD 0 none with | some r => decide (aT0.2.1 r = (101, cnt (aR0 n))) | none => false) | none => true) = true) ∧ (isRW (aR0 n) = true → (arf n).all (fun x => match x with | some r => Nat.blt r 1586 && (Nat.beq (aT0.2.1 r).1 101 && (Nat.beq (aT0.2.1 r).2 0 || Nat.beq (aT0.2.1 r).2 (wC (aR0 n)))) | none => true) = true) := fun n h => by
    have c := a_fin a_all h.1
    unfold a_chk at c
    rw [hs n h] at c
    simp only [Bool.not_true, Bool.false_or, Bool.and_eq_true, decide_eq_true_eq] at c
    refine ⟨c.1, a_k150 c.2.1.1, fun w => ?_, fun w => ?_⟩
    · have c2 := c.2.1.2
      rw [w] at c2
      exact c2
    · have c2 := c.2.2
      rw [w] at c2
      exact c2
  refine ⟨⟨fun n h1 h2 => ?_, ⟨fun n h1 m h2 => ?_, fun n h => aR0_hi h⟩, Nat.le_refl _⟩, fun n h => (key n h).1, fun n k h hk => ?_, fun n k h => fviR_ok (aR0 n) k, fun n h hW q hq p hp => ?_, fun n p r h hW hr => ?_, by rw [e0, e1]; exact aKf_e _ _, by rw [e2]; exact aKf_e _ _⟩
  · exact Nat.lt_of_not_le (fun q => h2 (aR0_hi q))
  · have nine : ∀ n, aR0 n = 9 → n = 1 := fun n h => by
      by_cases hn : n < 1586
      · have c := a_fin a_nine hn
        rw [h] at c
        exact Nat.eq_of_beq_eq_true c
      · rw [aR0_hi (Nat.not_lt.mp hn)] at h
        cases h
    rw [nine n h1, nine m h2]
  · by_cases h150 : k < 150
    · have c := a_fin (key n h).2.1 h150
      rw [nbeq hk, Bool.false_or] at c
      show ∃ q, (arf n).getD k none = some q ∧ _
      cases e : (arf n).getD k none with
      | none => rw [e] at c; cases c
      | some q =>
        rw [e] at c
        obtain ⟨c1, c2⟩ := (Bool.and_eq_true _ _).mp c
        exact ⟨q, rfl, Nat.le_of_ble_eq_true c1, Nat.eq_of_beq_eq_true c2⟩
    · exact absurd (rtg_hi (Nat.not_lt.mp h150)) hk
  · have c := (key n h).2.2.1 hW
    have hq : (arf n).getD 1 none = some q := hq
    rw [hq] at c
    have c : (match (arf q).getD 0 none with | some r => decide (aT0.2.1 r = (101, cnt (aR0 n))) | none => false) = true := c
    have hp0 : p = 0 := by
      have hi := fviR_ok (aR0 n) 2
      have e : (aT0.2.2.1 n 2).toInt = 1 := by
        show (fviR (aR0 n) 2).toInt = 1
        unfold fviR
        rw [hW]
        rfl
      rw [e] at hp
      omega
    subst hp0
    show ∃ r, (arf q).getD 0 none = some r ∧ _
    cases e : (arf q).getD 0 none with
    | none => rw [e] at c; cases c
    | some r =>
      rw [e] at c
      exact ⟨r, rfl, of_decide_eq_true c⟩
  · have c := (key n h).2.2.2 hW
    have hr : (arf n).getD p none = some r := hr
    have hm : some r ∈ arf n := by
      rw [List.getD_eq_getElem?_getD] at hr
      cases hk : (arf n)[p]? with
      | none => rw [hk] at hr; cases hr
      | some x =>
        rw [hk] at hr
        have e : x = some r := hr
        rw [← e]
        exact List.mem_of_getElem? hk
    have c := List.all_eq_true.mp c _ hm
    obtain ⟨c1, c2⟩ := (Bool.and_eq_true _ _).mp c
    obtain ⟨c3, c4⟩ := (Bool.and_eq_true _ _).mp c2
    refine ⟨Nat.le_of_ble_eq_true c1, Nat.eq_of_beq_eq_true c3, ?_⟩
    rcases (Bool.or_eq_true _ _).mp c4 with c5 | c5
    · exact .inl (Nat.eq_of_beq_eq_true c5)
    · exact .inr (Nat.eq_of_beq_eq_true c5)
theorem a_IV : IV aR0 1586 aK1 aK2 aT0 := by
  delta aK1 aK2
  exact a_IVx (zt aR0 aT0 w1 1586) (zt aR0 aT0 wC 1586) rfl rfl
