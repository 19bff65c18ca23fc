/-! the class after its constructor, as numbers (AT), and what holds of it (IV) -/
theorem lc {α : Type} {a a' : α} {l l' : List α} (h : a = a') (k : l = l') : a :: l = a' :: l' := by rw [h, k]
theorem fr_getD {α : Type} {n i : Nat} {F : Nat → α} {d : α} (h : i < n) : ((List.range n).map F).getD i d = F i := by
  rw [List.getD_eq_getElem?_getD, List.getElem?_map, List.getElem?_range h]
  rfl
theorem fl_none (b : Nat → Nat) (n : Nat) : (fun i => ((List.replicate n (none : Option Nat)).getD i none).map b) = fun _ => none := by
  funext i
  rw [List.getD_eq_getElem?_getD, List.getElem?_replicate]
  split <;> rfl
theorem fl_ite (b : Nat → Nat) (n c : Nat) : (fun i => (((List.range n).map (fun i => some (c + i))).getD i none).map b) = fun i => if i < n then some (b (c + i)) else none := by
  funext i
  by_cases h : i < n
  · rw [fr_getD h, if_pos h]
    rfl
  · rw [List.getD_eq_getElem?_getD, List.getElem?_eq_none (by rw [List.length_map, List.length_range]; exact Nat.not_lt.mp h), if_neg h]
    rfl
theorem fl_up (b : Nat → Nat) {l : List (Option Nat)} {g : Nat → Option Nat} (n q : Nat) (hn : n < l.length) (h : (fun i => (l.getD i none).map b) = g) : (fun i => ((l.set n (some q)).getD i none).map b) = va_up g n (some (b q)) := by
  funext i
  rw [← h, List.getD_eq_getElem?_getD, List.getElem?_set]
  by_cases e : n = i
  · subst e
    rw [va_up_self, if_pos rfl, if_pos hn]
    rfl
  · rw [va_up_ne _ _ (fun q => e q.symm), if_neg e, ← List.getD_eq_getElem?_getD]
theorem ccv_map {cI cJ cZ cMic cSrc cSt cAI cAJ : ClassId} {b ad : Nat → Nat} {sh : Nat × Nat} {vi : Nat → Int32} {vj : Nat → Int64} {r r' : Nat → Option Nat} (h : ∀ k, (r k).map b = (r' k).map ad) : ccv cI cJ cZ cMic cSrc cSt cAI cAJ b sh vi vj r = ccv cI cJ cZ cMic cSrc cSt cAI cAJ ad sh vi vj r' := by
  unfold ccv
  simp only [h]
