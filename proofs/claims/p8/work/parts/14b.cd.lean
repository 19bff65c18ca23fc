/-! the codes that a throwing method may give -/
def CD {α : Type} (S : List Nat) (x : Option (Nat × α × AT)) : Prop := ∀ k r T, x = some (k, r, T) → k ∈ S
section
variable {α β : Type} {S : List Nat}
theorem cd_none : CD (α := α) S none := fun _ _ _ h => by cases h
theorem cd_some {k : Nat} {r : α} {T : AT} (h : k ∈ S) : CD S (some (k, r, T)) := fun _ _ _ e => by rw [← (osome3 e).1]; exact h
theorem cd_oif {c : Prop} [Decidable c] {x : Option (Nat × α × AT)} (h : CD S x) : CD S (oif c x) := fun k r T e => by
  unfold oif at e
  split at e
  · exact h k r T e
  · cases e
theorem cd_elet {γ : Type} {v : γ} {f : γ → Option (Nat × α × AT)} (h : ∀ v, CD S (f v)) : CD S (elet v f) := h v
theorem cd_obind {γ : Type} {x : Option γ} {f : γ → Option (Nat × α × AT)} (h : ∀ v, CD S (f v)) : CD S (obind x f) := fun k r T e => by
  obtain ⟨v, -, e⟩ := obind_some e
  exact h v k r T e
theorem cd_obind2 {γ δ : Type} {x : Option (γ × δ)} {f : γ → δ → Option (Nat × α × AT)} (h : ∀ v w, CD S (f v w)) : CD S (obind2 x f) := fun k r T e => by
  obtain ⟨v, w, -, e⟩ := obind2_some e
  exact h v w k r T e
theorem cd_othr {x : Option (Nat × α × AT)} {z : β} {f : α → AT → Option (Nat × β × AT)} (h0 : CD S x) (h : ∀ v w, CD S (f v w)) : CD S (othr x z f) := fun k r T e => by
  rcases othr_s e with ⟨k9, r9, e9, e1⟩ | ⟨r9, T9, -, e1⟩
  · rw [e1]; exact h0 _ _ _ e9
  · exact h r9 T9 k r T e1
theorem cd_ite {c : Prop} [Decidable c] {x y : Option (Nat × α × AT)} (h1 : CD S x) (h2 : CD S y) : CD S (if c then x else y) := by
  split
  · exact h1
  · exact h2
end
set_option maxRecDepth 100000 in
theorem cd_g_X3_failAt_b34 {S : List Nat} (hS : ∀ k, k ∈ ([3] : List Nat) → k ∈ S) (T : AT) (s0 : Int32) (s1 : Nat) : CD S (g_X3_failAt_b34 T s0 s1) := by
  unfold g_X3_failAt_b34
  refine cd_oif ?_
  refine cd_elet (fun T3 => ?_)
  exact cd_some (hS _ (by decide))
set_option maxRecDepth 100000 in
theorem cd_g_X3_failAt_b33 {S : List Nat} (hS : ∀ k, k ∈ ([3] : List Nat) → k ∈ S) (T : AT) (s0 : Nat) : CD S (g_X3_failAt_b33 T s0) := by
  unfold g_X3_failAt_b33
  exact cd_g_X3_failAt_b34 (fun k h => hS k ((by decide : ∀ k, k ∈ ([3] : List Nat) → k ∈ ([3] : List Nat)) k h)) _ _ _
set_option maxRecDepth 100000 in
theorem cd_g_X3_failAt {S : List Nat} (hS : ∀ k, k ∈ ([3] : List Nat) → k ∈ S) (T : AT) (o : Nat) (a0 : Int32) (a1 : Int32) : CD S (g_X3_failAt T o a0 a1) := by
  unfold g_X3_failAt
  refine cd_oif ?_
  refine cd_elet (fun T3 => ?_)
  refine cd_ite ?_ ?_
  · exact cd_g_X3_failAt_b33 (fun k h => hS k ((by decide : ∀ k, k ∈ ([3] : List Nat) → k ∈ ([3] : List Nat)) k h)) _ _
  · refine cd_oif ?_
    refine cd_obind (fun n6 => ?_)
    refine cd_oif ?_
    refine cd_elet (fun v8 => ?_)
    refine cd_ite ?_ ?_
    · exact cd_g_X3_failAt_b33 (fun k h => hS k ((by decide : ∀ k, k ∈ ([3] : List Nat) → k ∈ ([3] : List Nat)) k h)) _ _
    · refine cd_oif ?_
      refine cd_obind (fun n11 => ?_)
      refine cd_oif ?_
      refine cd_obind (fun n13 => ?_)
      refine cd_oif ?_
      refine cd_oif ?_
      refine cd_elet (fun v16 => ?_)
      exact cd_g_X3_failAt_b34 (fun k h => hS k ((by decide : ∀ k, k ∈ ([3] : List Nat) → k ∈ ([3] : List Nat)) k h)) _ _ _
set_option maxRecDepth 100000 in
theorem cd_g_X3_takeWord_b17 {S : List Nat} (hS : ∀ k, k ∈ ([0] : List Nat) → k ∈ S) (tx : Nat × (Nat → Int32)) (T : AT) (l0 : Nat) : CD S (g_X3_takeWord_b17 tx T l0) := by
  unfold g_X3_takeWord_b17
  refine cd_oif ?_
  refine cd_elet (fun v3 => ?_)
  refine cd_elet (fun v4 => ?_)
  refine cd_oif ?_
  refine cd_elet (fun T6 => ?_)
  exact cd_some (hS _ (by decide))
set_option maxRecDepth 100000 in
theorem cd_g_X3_takeWord {S : List Nat} (hS : ∀ k, k ∈ ([0, 3] : List Nat) → k ∈ S) (T : AT) (tx : Nat × (Nat → Int32)) (o : Nat) : CD S (g_X3_takeWord T tx o) := by
  unfold g_X3_takeWord
  refine cd_oif ?_
  refine cd_obind2 (fun r5 T3 => ?_)
  refine cd_ite ?_ ?_
  · refine cd_oif ?_
    refine cd_elet (fun v9 => ?_)
    refine cd_oif ?_
    refine cd_othr (cd_g_X3_failAt (fun k h => hS k ((by decide : ∀ k, k ∈ ([3] : List Nat) → k ∈ ([0, 3] : List Nat)) k h)) _ _ _ _) (fun r13 T11 => ?_)
    exact cd_g_X3_takeWord_b17 (fun k h => hS k ((by decide : ∀ k, k ∈ ([0] : List Nat) → k ∈ ([0, 3] : List Nat)) k h)) _ _ _
  · exact cd_g_X3_takeWord_b17 (fun k h => hS k ((by decide : ∀ k, k ∈ ([0] : List Nat) → k ∈ ([0, 3] : List Nat)) k h)) _ _ _
set_option maxRecDepth 100000 in
theorem cd_g_X3_number_b41 {S : List Nat} (hS : ∀ k, k ∈ ([0] : List Nat) → k ∈ S) (T : AT) (l0 : Nat) (l3 : Int32) : CD S (g_X3_number_b41 T l0 l3) := by
  unfold g_X3_number_b41
  refine cd_oif ?_
  refine cd_elet (fun v3 => ?_)
  refine cd_elet (fun v4 => ?_)
  refine cd_oif ?_
  refine cd_elet (fun T6 => ?_)
  exact cd_some (hS _ (by decide))
set_option maxRecDepth 100000 in
theorem cd_g_X3_number_b32 {S : List Nat} (hS : ∀ k, k ∈ ([0, 3] : List Nat) → k ∈ S) (T : AT) (l0 : Nat) (l3 : Int32) : CD S (g_X3_number_b32 T l0 l3) := by
  unfold g_X3_number_b32
  refine cd_oif ?_
  refine cd_elet (fun v3 => ?_)
  refine cd_oif ?_
  refine cd_othr (cd_g_X3_failAt (fun k h => hS k ((by decide : ∀ k, k ∈ ([3] : List Nat) → k ∈ ([0, 3] : List Nat)) k h)) _ _ _ _) (fun r7 T5 => ?_)
  exact cd_g_X3_number_b41 (fun k h => hS k ((by decide : ∀ k, k ∈ ([0] : List Nat) → k ∈ ([0, 3] : List Nat)) k h)) _ _ _
set_option maxRecDepth 100000 in
theorem cd_g_X3_number_b17 {S : List Nat} (hS : ∀ k, k ∈ ([0, 3] : List Nat) → k ∈ S) (T : AT) (l0 : Nat) (l1 : Int32) (l2 : Int32) : CD S (g_X3_number_b17 T l0 l1 l2) := by
  unfold g_X3_number_b17
  refine cd_oif ?_
  refine cd_obind2 (fun r5 T3 => ?_)
  refine cd_ite ?_ ?_
  · exact cd_g_X3_number_b32 (fun k h => hS k ((by decide : ∀ k, k ∈ ([0, 3] : List Nat) → k ∈ ([0, 3] : List Nat)) k h)) _ _ _
  · refine cd_ite ?_ ?_
    · exact cd_g_X3_number_b41 (fun k h => hS k ((by decide : ∀ k, k ∈ ([0] : List Nat) → k ∈ ([0, 3] : List Nat)) k h)) _ _ _
    · exact cd_g_X3_number_b32 (fun k h => hS k ((by decide : ∀ k, k ∈ ([0, 3] : List Nat) → k ∈ ([0, 3] : List Nat)) k h)) _ _ _
set_option maxRecDepth 100000 in
theorem cd_g_X3_number {S : List Nat} (hS : ∀ k, k ∈ ([0, 3] : List Nat) → k ∈ S) (T : AT) (o : Nat) (a0 : Int32) (a1 : Int32) : CD S (g_X3_number T o a0 a1) := by
  unfold g_X3_number
  refine cd_oif ?_
  refine cd_obind2 (fun r5 T3 => ?_)
  refine cd_ite ?_ ?_
  · exact cd_g_X3_number_b17 (fun k h => hS k ((by decide : ∀ k, k ∈ ([0, 3] : List Nat) → k ∈ ([0, 3] : List Nat)) k h)) _ _ _ _
  · refine cd_oif ?_
    refine cd_elet (fun v9 => ?_)
    refine cd_oif ?_
    refine cd_othr (cd_g_X3_failAt (fun k h => hS k ((by decide : ∀ k, k ∈ ([3] : List Nat) → k ∈ ([0, 3] : List Nat)) k h)) _ _ _ _) (fun r13 T11 => ?_)
    exact cd_g_X3_number_b17 (fun k h => hS k ((by decide : ∀ k, k ∈ ([0, 3] : List Nat) → k ∈ ([0, 3] : List Nat)) k h)) _ _ _ _
set_option maxRecDepth 100000 in
theorem cd_g_X3_parseHead {S : List Nat} (hS : ∀ k, k ∈ ([0, 3] : List Nat) → k ∈ S) (T : AT) (o : Nat) (a0 : Nat) : CD S (g_X3_parseHead T o a0) := by
  unfold g_X3_parseHead
  refine cd_oif ?_
  refine cd_othr (cd_g_X3_takeWord (fun k h => hS k ((by decide : ∀ k, k ∈ ([0, 3] : List Nat) → k ∈ ([0, 3] : List Nat)) k h)) _ _ _) (fun r6 T4 => ?_)
  refine cd_oif ?_
  refine cd_othr (cd_g_X3_takeWord (fun k h => hS k ((by decide : ∀ k, k ∈ ([0, 3] : List Nat) → k ∈ ([0, 3] : List Nat)) k h)) _ _ _) (fun r12 T10 => ?_)
  refine cd_oif ?_
  refine cd_othr (cd_g_X3_number (fun k h => hS k ((by decide : ∀ k, k ∈ ([0, 3] : List Nat) → k ∈ ([0, 3] : List Nat)) k h)) _ _ _ _) (fun r17 T15 => ?_)
  refine cd_oif ?_
  refine cd_elet (fun T20 => ?_)
  refine cd_oif ?_
  refine cd_othr (cd_g_X3_takeWord (fun k h => hS k ((by decide : ∀ k, k ∈ ([0, 3] : List Nat) → k ∈ ([0, 3] : List Nat)) k h)) _ _ _) (fun r25 T23 => ?_)
  refine cd_oif ?_
  refine cd_othr (cd_g_X3_number (fun k h => hS k ((by decide : ∀ k, k ∈ ([0, 3] : List Nat) → k ∈ ([0, 3] : List Nat)) k h)) _ _ _ _) (fun r30 T28 => ?_)
  refine cd_oif ?_
  refine cd_elet (fun T33 => ?_)
  refine cd_oif ?_
  refine cd_othr (cd_g_X3_takeWord (fun k h => hS k ((by decide : ∀ k, k ∈ ([0, 3] : List Nat) → k ∈ ([0, 3] : List Nat)) k h)) _ _ _) (fun r38 T36 => ?_)
  refine cd_oif ?_
  refine cd_othr (cd_g_X3_number (fun k h => hS k ((by decide : ∀ k, k ∈ ([0, 3] : List Nat) → k ∈ ([0, 3] : List Nat)) k h)) _ _ _ _) (fun r43 T41 => ?_)
  refine cd_oif ?_
  refine cd_elet (fun T46 => ?_)
  refine cd_oif ?_
  refine cd_othr (cd_g_X3_takeWord (fun k h => hS k ((by decide : ∀ k, k ∈ ([0, 3] : List Nat) → k ∈ ([0, 3] : List Nat)) k h)) _ _ _) (fun r51 T49 => ?_)
  refine cd_oif ?_
  refine cd_othr (cd_g_X3_number (fun k h => hS k ((by decide : ∀ k, k ∈ ([0, 3] : List Nat) → k ∈ ([0, 3] : List Nat)) k h)) _ _ _ _) (fun r56 T54 => ?_)
  refine cd_oif ?_
  refine cd_elet (fun T59 => ?_)
  exact cd_some (hS _ (by decide))
set_option maxRecDepth 100000 in
theorem cd_g_X3_startLine_b13 {S : List Nat} (hS : ∀ k, k ∈ ([0] : List Nat) → k ∈ S) (T : AT) (l0 : Nat) : CD S (g_X3_startLine_b13 T l0) := by
  unfold g_X3_startLine_b13
  refine cd_oif ?_
  refine cd_elet (fun v3 => ?_)
  refine cd_elet (fun v4 => ?_)
  refine cd_oif ?_
  refine cd_elet (fun T6 => ?_)
  exact cd_some (hS _ (by decide))
set_option maxRecDepth 100000 in
theorem cd_g_X3_startLine {S : List Nat} (hS : ∀ k, k ∈ ([0, 3] : List Nat) → k ∈ S) (T : AT) (o : Nat) (a0 : Int32) (a1 : Int32) : CD S (g_X3_startLine T o a0 a1) := by
  unfold g_X3_startLine
  refine cd_ite ?_ ?_
  · exact cd_g_X3_startLine_b13 (fun k h => hS k ((by decide : ∀ k, k ∈ ([0] : List Nat) → k ∈ ([0, 3] : List Nat)) k h)) _ _
  · refine cd_oif ?_
    refine cd_elet (fun v4 => ?_)
    refine cd_oif ?_
    refine cd_othr (cd_g_X3_failAt (fun k h => hS k ((by decide : ∀ k, k ∈ ([3] : List Nat) → k ∈ ([0, 3] : List Nat)) k h)) _ _ _ _) (fun r8 T6 => ?_)
    exact cd_g_X3_startLine_b13 (fun k h => hS k ((by decide : ∀ k, k ∈ ([0] : List Nat) → k ∈ ([0, 3] : List Nat)) k h)) _ _
set_option maxRecDepth 100000 in
theorem cd_g_X3_parseOff_b41 {S : List Nat} (hS : ∀ k, k ∈ ([0] : List Nat) → k ∈ S) (T : AT) (l1 : Nat) (l2 : Int32) : CD S (g_X3_parseOff_b41 T l1 l2) := by
  unfold g_X3_parseOff_b41
  refine cd_oif ?_
  refine cd_obind (fun n3 => ?_)
  refine cd_oif ?_
  refine cd_oif ?_
  refine cd_obind (fun n6 => ?_)
  refine cd_oif ?_
  refine cd_elet (fun T8 => ?_)
  exact cd_some (hS _ (by decide))
set_option maxRecDepth 100000 in
theorem cd_g_X3_parseOff {S : List Nat} (hS : ∀ k, k ∈ ([0, 3] : List Nat) → k ∈ S) (T : AT) (o : Nat) (a0 : Nat) : CD S (g_X3_parseOff T o a0) := by
  unfold g_X3_parseOff
  refine cd_oif ?_
  refine cd_othr (cd_g_X3_startLine (fun k h => hS k ((by decide : ∀ k, k ∈ ([0, 3] : List Nat) → k ∈ ([0, 3] : List Nat)) k h)) _ _ _ _) (fun r5 T3 => ?_)
  refine cd_oif ?_
  refine cd_elet (fun v8 => ?_)
  refine cd_elet (fun v9 => ?_)
  refine cd_oif ?_
  refine cd_othr (cd_g_X3_number (fun k h => hS k ((by decide : ∀ k, k ∈ ([0, 3] : List Nat) → k ∈ ([0, 3] : List Nat)) k h)) _ _ _ _) (fun r13 T11 => ?_)
  refine cd_oif ?_
  refine cd_obind (fun n16 => ?_)
  refine cd_oif ?_
  refine cd_oif ?_
  refine cd_obind (fun n19 => ?_)
  refine cd_oif ?_
  refine cd_elet (fun v21 => ?_)
  refine cd_ite ?_ ?_
  · exact cd_g_X3_parseOff_b41 (fun k h => hS k ((by decide : ∀ k, k ∈ ([0] : List Nat) → k ∈ ([0, 3] : List Nat)) k h)) _ _ _
  · refine cd_oif ?_
    refine cd_elet (fun v24 => ?_)
    refine cd_elet (fun v25 => ?_)
    refine cd_oif ?_
    refine cd_othr (cd_g_X3_failAt (fun k h => hS k ((by decide : ∀ k, k ∈ ([3] : List Nat) → k ∈ ([0, 3] : List Nat)) k h)) _ _ _ _) (fun r29 T27 => ?_)
    exact cd_g_X3_parseOff_b41 (fun k h => hS k ((by decide : ∀ k, k ∈ ([0] : List Nat) → k ∈ ([0, 3] : List Nat)) k h)) _ _ _
set_option maxRecDepth 100000 in
theorem cd_g_X3_failAsTooMany_b26 {S : List Nat} (hS : ∀ k, k ∈ ([0, 3] : List Nat) → k ∈ S) (T : AT) (s0 : Int32) (s1 : Int32) (s2 : Nat) : CD S (g_X3_failAsTooMany_b26 T s0 s1 s2) := by
  unfold g_X3_failAsTooMany_b26
  refine cd_oif ?_
  refine cd_othr (cd_g_X3_failAt (fun k h => hS k ((by decide : ∀ k, k ∈ ([3] : List Nat) → k ∈ ([0, 3] : List Nat)) k h)) _ _ _ _) (fun r5 T3 => ?_)
  exact cd_some (hS _ (by decide))
set_option maxRecDepth 100000 in
theorem cd_g_X3_failAsTooMany_b25 {S : List Nat} (hS : ∀ k, k ∈ ([0, 3] : List Nat) → k ∈ S) (T : AT) (s0 : Int32) (s1 : Nat) : CD S (g_X3_failAsTooMany_b25 T s0 s1) := by
  unfold g_X3_failAsTooMany_b25
  exact cd_g_X3_failAsTooMany_b26 (fun k h => hS k ((by decide : ∀ k, k ∈ ([0, 3] : List Nat) → k ∈ ([0, 3] : List Nat)) k h)) _ _ _ _
set_option maxRecDepth 100000 in
theorem cd_g_X3_failAsTooMany {S : List Nat} (hS : ∀ k, k ∈ ([0, 3] : List Nat) → k ∈ S) (T : AT) (o : Nat) (a0 : Int32) : CD S (g_X3_failAsTooMany T o a0) := by
  unfold g_X3_failAsTooMany
  refine cd_oif ?_
  refine cd_elet (fun v3 => ?_)
  refine cd_oif ?_
  refine cd_obind2 (fun r7 T5 => ?_)
  refine cd_ite ?_ ?_
  · refine cd_oif ?_
    refine cd_obind2 (fun r13 T11 => ?_)
    refine cd_ite ?_ ?_
    · exact cd_g_X3_failAsTooMany_b25 (fun k h => hS k ((by decide : ∀ k, k ∈ ([0, 3] : List Nat) → k ∈ ([0, 3] : List Nat)) k h)) _ _ _
    · exact cd_g_X3_failAsTooMany_b26 (fun k h => hS k ((by decide : ∀ k, k ∈ ([0, 3] : List Nat) → k ∈ ([0, 3] : List Nat)) k h)) _ _ _ _
  · exact cd_g_X3_failAsTooMany_b25 (fun k h => hS k ((by decide : ∀ k, k ∈ ([0, 3] : List Nat) → k ∈ ([0, 3] : List Nat)) k h)) _ _ _
set_option maxRecDepth 100000 in
theorem cd_g_X3_parseShade_b73 {S : List Nat} (hS : ∀ k, k ∈ ([0] : List Nat) → k ∈ S) (T : AT) : CD S (g_X3_parseShade_b73 T) := by
  unfold g_X3_parseShade_b73
  exact cd_some (hS _ (by decide))
set_option maxRecDepth 100000 in
theorem cd_g_X3_parseShade_b56 {S : List Nat} (hS : ∀ k, k ∈ ([0, 3] : List Nat) → k ∈ S) {k30 : AT → Nat → Nat → Int32 → Option (Nat × Int32 × AT)} (hk30 : ∀ (x0 : AT) (x1 : Nat) (x2 : Nat) (x3 : Int32), CD S (k30 x0 x1 x2 x3)) (T : AT) (l0 : Nat) (l1 : Nat) (l2 : Int32) : CD S (g_X3_parseShade_b56 k30 T l0 l1 l2) := by
  unfold g_X3_parseShade_b56
  refine cd_oif ?_
  refine cd_othr (cd_g_X3_number (fun k h => hS k ((by decide : ∀ k, k ∈ ([0, 3] : List Nat) → k ∈ ([0, 3] : List Nat)) k h)) _ _ _ _) (fun r5 T3 => ?_)
  refine cd_oif ?_
  refine cd_obind (fun T8 => ?_)
  refine cd_elet (fun v10 => ?_)
  exact hk30 _ _ _ _
set_option maxRecDepth 100000 in
theorem cd_g_X3_parseShade_b30 {S : List Nat} (hS : ∀ k, k ∈ ([0, 3] : List Nat) → k ∈ S) : ∀ (n : Nat) (T : AT) (l0 : Nat) (l1 : Nat) (l2 : Int32), CD S (g_X3_parseShade_b30 n T l0 l1 l2)
  | 0, _, _, _, _ => cd_none
  | n + 1, T, l0, l1, l2 => by
    have ih := cd_g_X3_parseShade_b30 hS n
    unfold g_X3_parseShade_b30
    refine cd_ite ?_ ?_
    · exact cd_g_X3_parseShade_b73 (fun k h => hS k ((by decide : ∀ k, k ∈ ([0] : List Nat) → k ∈ ([0, 3] : List Nat)) k h)) _
    · refine cd_oif ?_
      refine cd_obind2 (fun r6 T4 => ?_)
      refine cd_ite ?_ ?_
      · refine cd_ite ?_ ?_
        · refine cd_oif ?_
          refine cd_othr (cd_g_X3_failAsTooMany (fun k h => hS k ((by decide : ∀ k, k ∈ ([0, 3] : List Nat) → k ∈ ([0, 3] : List Nat)) k h)) _ _ _) (fun r13 T11 => ?_)
          exact cd_g_X3_parseShade_b56 (fun k h => hS k ((by decide : ∀ k, k ∈ ([0, 3] : List Nat) → k ∈ ([0, 3] : List Nat)) k h)) ih _ _ _ _
        · exact cd_g_X3_parseShade_b56 (fun k h => hS k ((by decide : ∀ k, k ∈ ([0, 3] : List Nat) → k ∈ ([0, 3] : List Nat)) k h)) ih _ _ _ _
      · exact cd_g_X3_parseShade_b73 (fun k h => hS k ((by decide : ∀ k, k ∈ ([0] : List Nat) → k ∈ ([0, 3] : List Nat)) k h)) _
set_option maxRecDepth 100000 in
theorem cd_g_X3_parseShade_b13 {S : List Nat} (hS : ∀ k, k ∈ ([0, 3] : List Nat) → k ∈ S) (T : AT) (s0 : Int32) (s1 : Nat) (l0 : Nat) (l1 : Nat) : CD S (g_X3_parseShade_b13 T s0 s1 l0 l1) := by
  unfold g_X3_parseShade_b13
  refine cd_oif ?_
  refine cd_othr (cd_g_X3_startLine (fun k h => hS k ((by decide : ∀ k, k ∈ ([0, 3] : List Nat) → k ∈ ([0, 3] : List Nat)) k h)) _ _ _ _) (fun r5 T3 => ?_)
  refine cd_oif ?_
  refine cd_othr (cd_g_X3_number (fun k h => hS k ((by decide : ∀ k, k ∈ ([0, 3] : List Nat) → k ∈ ([0, 3] : List Nat)) k h)) _ _ _ _) (fun r10 T8 => ?_)
  refine cd_oif ?_
  refine cd_obind (fun T13 => ?_)
  exact cd_g_X3_parseShade_b30 (fun k h => hS k ((by decide : ∀ k, k ∈ ([0, 3] : List Nat) → k ∈ ([0, 3] : List Nat)) k h)) _ _ _ _ _
set_option maxRecDepth 100000 in
theorem cd_g_X3_parseShade {S : List Nat} (hS : ∀ k, k ∈ ([0, 3] : List Nat) → k ∈ S) (T : AT) (o : Nat) (a0 : Nat) : CD S (g_X3_parseShade T o a0) := by
  unfold g_X3_parseShade
  refine cd_oif ?_
  refine cd_elet (fun v3 => ?_)
  refine cd_ite ?_ ?_
  · exact cd_g_X3_parseShade_b13 (fun k h => hS k ((by decide : ∀ k, k ∈ ([0, 3] : List Nat) → k ∈ ([0, 3] : List Nat)) k h)) _ _ _ _ _
  · exact cd_g_X3_parseShade_b13 (fun k h => hS k ((by decide : ∀ k, k ∈ ([0, 3] : List Nat) → k ∈ ([0, 3] : List Nat)) k h)) _ _ _ _ _
set_option maxRecDepth 100000 in
theorem cd_g_X3_parseZone_b14 {S : List Nat} (hS : ∀ k, k ∈ ([0, 3] : List Nat) → k ∈ S) (T : AT) (s0 : Int32) (s1 : Nat) (l0 : Nat) (l1 : Nat) : CD S (g_X3_parseZone_b14 T s0 s1 l0 l1) := by
  unfold g_X3_parseZone_b14
  refine cd_oif ?_
  refine cd_othr (cd_g_X3_startLine (fun k h => hS k ((by decide : ∀ k, k ∈ ([0, 3] : List Nat) → k ∈ ([0, 3] : List Nat)) k h)) _ _ _ _) (fun r5 T3 => ?_)
  refine cd_oif ?_
  refine cd_obind (fun n8 => ?_)
  refine cd_oif ?_
  refine cd_elet (fun v10 => ?_)
  refine cd_oif ?_
  refine cd_oif ?_
  refine cd_obind (fun n13 => ?_)
  refine cd_oif ?_
  refine cd_elet (fun v15 => ?_)
  refine cd_elet (fun v16 => ?_)
  refine cd_oif ?_
  refine cd_othr (cd_g_X3_number (fun k h => hS k ((by decide : ∀ k, k ∈ ([0, 3] : List Nat) → k ∈ ([0, 3] : List Nat)) k h)) _ _ _ _) (fun r20 T18 => ?_)
  refine cd_oif ?_
  refine cd_oif ?_
  refine cd_elet (fun T24 => ?_)
  refine cd_oif ?_
  refine cd_elet (fun v26 => ?_)
  refine cd_elet (fun v27 => ?_)
  refine cd_oif ?_
  refine cd_othr (cd_g_X3_number (fun k h => hS k ((by decide : ∀ k, k ∈ ([0, 3] : List Nat) → k ∈ ([0, 3] : List Nat)) k h)) _ _ _ _) (fun r31 T29 => ?_)
  refine cd_oif ?_
  refine cd_oif ?_
  refine cd_elet (fun T35 => ?_)
  refine cd_oif ?_
  refine cd_oif ?_
  refine cd_elet (fun v38 => ?_)
  refine cd_oif ?_
  refine cd_elet (fun v40 => ?_)
  refine cd_elet (fun v41 => ?_)
  refine cd_oif ?_
  refine cd_othr (cd_g_X3_number (fun k h => hS k ((by decide : ∀ k, k ∈ ([0, 3] : List Nat) → k ∈ ([0, 3] : List Nat)) k h)) _ _ _ _) (fun r45 T43 => ?_)
  refine cd_oif ?_
  refine cd_oif ?_
  refine cd_elet (fun T49 => ?_)
  refine cd_oif ?_
  refine cd_oif ?_
  refine cd_elet (fun v52 => ?_)
  refine cd_oif ?_
  refine cd_elet (fun v54 => ?_)
  refine cd_elet (fun v55 => ?_)
  refine cd_oif ?_
  refine cd_othr (cd_g_X3_number (fun k h => hS k ((by decide : ∀ k, k ∈ ([0, 3] : List Nat) → k ∈ ([0, 3] : List Nat)) k h)) _ _ _ _) (fun r59 T57 => ?_)
  refine cd_oif ?_
  refine cd_oif ?_
  refine cd_elet (fun T63 => ?_)
  refine cd_oif ?_
  refine cd_elet (fun v65 => ?_)
  refine cd_elet (fun v66 => ?_)
  refine cd_oif ?_
  refine cd_elet (fun T68 => ?_)
  exact cd_some (hS _ (by decide))
set_option maxRecDepth 100000 in
theorem cd_g_X3_parseZone {S : List Nat} (hS : ∀ k, k ∈ ([0, 3] : List Nat) → k ∈ S) (T : AT) (o : Nat) (a0 : Nat) : CD S (g_X3_parseZone T o a0) := by
  unfold g_X3_parseZone
  refine cd_oif ?_
  refine cd_elet (fun v3 => ?_)
  refine cd_ite ?_ ?_
  · exact cd_g_X3_parseZone_b14 (fun k h => hS k ((by decide : ∀ k, k ∈ ([0, 3] : List Nat) → k ∈ ([0, 3] : List Nat)) k h)) _ _ _ _ _
  · exact cd_g_X3_parseZone_b14 (fun k h => hS k ((by decide : ∀ k, k ∈ ([0, 3] : List Nat) → k ∈ ([0, 3] : List Nat)) k h)) _ _ _ _ _
set_option maxRecDepth 100000 in
theorem cd_g_X3_parseClock_b41 {S : List Nat} (hS : ∀ k, k ∈ ([0, 3] : List Nat) → k ∈ S) (T : AT) (l0 : Nat) (l1 : Nat) (l2 : Int32) : CD S (g_X3_parseClock_b41 T l0 l1 l2) := by
  unfold g_X3_parseClock_b41
  refine cd_oif ?_
  refine cd_obind (fun n3 => ?_)
  refine cd_oif ?_
  refine cd_oif ?_
  refine cd_obind (fun n6 => ?_)
  refine cd_oif ?_
  refine cd_othr (cd_g_X3_number (fun k h => hS k ((by decide : ∀ k, k ∈ ([0, 3] : List Nat) → k ∈ ([0, 3] : List Nat)) k h)) _ _ _ _) (fun r10 T8 => ?_)
  refine cd_oif ?_
  refine cd_elet (fun T13 => ?_)
  exact cd_some (hS _ (by decide))
set_option maxRecDepth 100000 in
theorem cd_g_X3_parseClock {S : List Nat} (hS : ∀ k, k ∈ ([0, 3] : List Nat) → k ∈ S) (T : AT) (o : Nat) (a0 : Nat) : CD S (g_X3_parseClock T o a0) := by
  unfold g_X3_parseClock
  refine cd_oif ?_
  refine cd_othr (cd_g_X3_startLine (fun k h => hS k ((by decide : ∀ k, k ∈ ([0, 3] : List Nat) → k ∈ ([0, 3] : List Nat)) k h)) _ _ _ _) (fun r5 T3 => ?_)
  refine cd_oif ?_
  refine cd_elet (fun v8 => ?_)
  refine cd_elet (fun v9 => ?_)
  refine cd_oif ?_
  refine cd_othr (cd_g_X3_number (fun k h => hS k ((by decide : ∀ k, k ∈ ([0, 3] : List Nat) → k ∈ ([0, 3] : List Nat)) k h)) _ _ _ _) (fun r13 T11 => ?_)
  refine cd_oif ?_
  refine cd_obind (fun n16 => ?_)
  refine cd_oif ?_
  refine cd_oif ?_
  refine cd_obind (fun n19 => ?_)
  refine cd_oif ?_
  refine cd_elet (fun v21 => ?_)
  refine cd_ite ?_ ?_
  · exact cd_g_X3_parseClock_b41 (fun k h => hS k ((by decide : ∀ k, k ∈ ([0, 3] : List Nat) → k ∈ ([0, 3] : List Nat)) k h)) _ _ _ _
  · refine cd_oif ?_
    refine cd_elet (fun v24 => ?_)
    refine cd_elet (fun v25 => ?_)
    refine cd_oif ?_
    refine cd_othr (cd_g_X3_failAt (fun k h => hS k ((by decide : ∀ k, k ∈ ([3] : List Nat) → k ∈ ([0, 3] : List Nat)) k h)) _ _ _ _) (fun r29 T27 => ?_)
    exact cd_g_X3_parseClock_b41 (fun k h => hS k ((by decide : ∀ k, k ∈ ([0, 3] : List Nat) → k ∈ ([0, 3] : List Nat)) k h)) _ _ _ _
set_option maxRecDepth 100000 in
theorem cd_g_X3_signed {S : List Nat} (hS : ∀ k, k ∈ ([0, 3] : List Nat) → k ∈ S) (T : AT) (o : Nat) (a0 : Int32) (a1 : Int32) : CD S (g_X3_signed T o a0 a1) := by
  unfold g_X3_signed
  refine cd_oif ?_
  refine cd_obind2 (fun r5 T3 => ?_)
  refine cd_ite ?_ ?_
  · refine cd_oif ?_
    refine cd_elet (fun v9 => ?_)
    refine cd_elet (fun v10 => ?_)
    refine cd_oif ?_
    refine cd_elet (fun T12 => ?_)
    refine cd_elet (fun v13 => ?_)
    refine cd_elet (fun v14 => ?_)
    refine cd_oif ?_
    refine cd_othr (cd_g_X3_number (fun k h => hS k ((by decide : ∀ k, k ∈ ([0, 3] : List Nat) → k ∈ ([0, 3] : List Nat)) k h)) _ _ _ _) (fun r18 T16 => ?_)
    refine cd_elet (fun v20 => ?_)
    exact cd_some (hS _ (by decide))
  · refine cd_oif ?_
    refine cd_othr (cd_g_X3_number (fun k h => hS k ((by decide : ∀ k, k ∈ ([0, 3] : List Nat) → k ∈ ([0, 3] : List Nat)) k h)) _ _ _ _) (fun r24 T22 => ?_)
    exact cd_some (hS _ (by decide))
set_option maxRecDepth 100000 in
theorem cd_g_X3_parseFilter_b81 {S : List Nat} (hS : ∀ k, k ∈ ([0] : List Nat) → k ∈ S) (T : AT) : CD S (g_X3_parseFilter_b81 T) := by
  unfold g_X3_parseFilter_b81
  exact cd_some (hS _ (by decide))
set_option maxRecDepth 100000 in
theorem cd_g_X3_parseFilter_b63 {S : List Nat} (hS : ∀ k, k ∈ ([0, 3] : List Nat) → k ∈ S) {k31 : AT → Nat → Nat → Int32 → Option (Nat × Int32 × AT)} (hk31 : ∀ (x0 : AT) (x1 : Nat) (x2 : Nat) (x3 : Int32), CD S (k31 x0 x1 x2 x3)) (T : AT) (l0 : Nat) (l1 : Nat) (l2 : Int32) : CD S (g_X3_parseFilter_b63 k31 T l0 l1 l2) := by
  unfold g_X3_parseFilter_b63
  refine cd_oif ?_
  refine cd_othr (cd_g_X3_signed (fun k h => hS k ((by decide : ∀ k, k ∈ ([0, 3] : List Nat) → k ∈ ([0, 3] : List Nat)) k h)) _ _ _ _) (fun r5 T3 => ?_)
  refine cd_oif ?_
  refine cd_obind (fun T8 => ?_)
  refine cd_elet (fun v10 => ?_)
  exact hk31 _ _ _ _
set_option maxRecDepth 100000 in
theorem cd_g_X3_parseFilter_b52 {S : List Nat} (hS : ∀ k, k ∈ ([0, 3] : List Nat) → k ∈ S) {k31 : AT → Nat → Nat → Int32 → Option (Nat × Int32 × AT)} (hk31 : ∀ (x0 : AT) (x1 : Nat) (x2 : Nat) (x3 : Int32), CD S (k31 x0 x1 x2 x3)) (T : AT) (l0 : Nat) (l1 : Nat) (l2 : Int32) : CD S (g_X3_parseFilter_b52 k31 T l0 l1 l2) := by
  unfold g_X3_parseFilter_b52
  refine cd_ite ?_ ?_
  · refine cd_oif ?_
    refine cd_othr (cd_g_X3_failAsTooMany (fun k h => hS k ((by decide : ∀ k, k ∈ ([0, 3] : List Nat) → k ∈ ([0, 3] : List Nat)) k h)) _ _ _) (fun r6 T4 => ?_)
    exact cd_g_X3_parseFilter_b63 (fun k h => hS k ((by decide : ∀ k, k ∈ ([0, 3] : List Nat) → k ∈ ([0, 3] : List Nat)) k h)) hk31 _ _ _ _
  · exact cd_g_X3_parseFilter_b63 (fun k h => hS k ((by decide : ∀ k, k ∈ ([0, 3] : List Nat) → k ∈ ([0, 3] : List Nat)) k h)) hk31 _ _ _ _
set_option maxRecDepth 100000 in
theorem cd_g_X3_parseFilter_b31 {S : List Nat} (hS : ∀ k, k ∈ ([0, 3] : List Nat) → k ∈ S) : ∀ (n : Nat) (T : AT) (l0 : Nat) (l1 : Nat) (l2 : Int32), CD S (g_X3_parseFilter_b31 n T l0 l1 l2)
  | 0, _, _, _, _ => cd_none
  | n + 1, T, l0, l1, l2 => by
    have ih := cd_g_X3_parseFilter_b31 hS n
    unfold g_X3_parseFilter_b31
    refine cd_ite ?_ ?_
    · exact cd_g_X3_parseFilter_b81 (fun k h => hS k ((by decide : ∀ k, k ∈ ([0] : List Nat) → k ∈ ([0, 3] : List Nat)) k h)) _
    · refine cd_oif ?_
      refine cd_obind2 (fun r6 T4 => ?_)
      refine cd_ite ?_ ?_
      · exact cd_g_X3_parseFilter_b52 (fun k h => hS k ((by decide : ∀ k, k ∈ ([0, 3] : List Nat) → k ∈ ([0, 3] : List Nat)) k h)) ih _ _ _ _
      · refine cd_oif ?_
        refine cd_obind2 (fun r12 T10 => ?_)
        refine cd_ite ?_ ?_
        · exact cd_g_X3_parseFilter_b52 (fun k h => hS k ((by decide : ∀ k, k ∈ ([0, 3] : List Nat) → k ∈ ([0, 3] : List Nat)) k h)) ih _ _ _ _
        · exact cd_g_X3_parseFilter_b81 (fun k h => hS k ((by decide : ∀ k, k ∈ ([0] : List Nat) → k ∈ ([0, 3] : List Nat)) k h)) _
set_option maxRecDepth 100000 in
theorem cd_g_X3_parseFilter_b13 {S : List Nat} (hS : ∀ k, k ∈ ([0, 3] : List Nat) → k ∈ S) (T : AT) (s0 : Int32) (s1 : Nat) (l0 : Nat) (l1 : Nat) : CD S (g_X3_parseFilter_b13 T s0 s1 l0 l1) := by
  unfold g_X3_parseFilter_b13
  refine cd_oif ?_
  refine cd_othr (cd_g_X3_startLine (fun k h => hS k ((by decide : ∀ k, k ∈ ([0, 3] : List Nat) → k ∈ ([0, 3] : List Nat)) k h)) _ _ _ _) (fun r5 T3 => ?_)
  refine cd_oif ?_
  refine cd_othr (cd_g_X3_signed (fun k h => hS k ((by decide : ∀ k, k ∈ ([0, 3] : List Nat) → k ∈ ([0, 3] : List Nat)) k h)) _ _ _ _) (fun r10 T8 => ?_)
  refine cd_oif ?_
  refine cd_obind (fun T13 => ?_)
  exact cd_g_X3_parseFilter_b31 (fun k h => hS k ((by decide : ∀ k, k ∈ ([0, 3] : List Nat) → k ∈ ([0, 3] : List Nat)) k h)) _ _ _ _ _
set_option maxRecDepth 100000 in
theorem cd_g_X3_parseFilter {S : List Nat} (hS : ∀ k, k ∈ ([0, 3] : List Nat) → k ∈ S) (T : AT) (o : Nat) (a0 : Nat) : CD S (g_X3_parseFilter T o a0) := by
  unfold g_X3_parseFilter
  refine cd_oif ?_
  refine cd_elet (fun v3 => ?_)
  refine cd_ite ?_ ?_
  · exact cd_g_X3_parseFilter_b13 (fun k h => hS k ((by decide : ∀ k, k ∈ ([0, 3] : List Nat) → k ∈ ([0, 3] : List Nat)) k h)) _ _ _ _ _
  · exact cd_g_X3_parseFilter_b13 (fun k h => hS k ((by decide : ∀ k, k ∈ ([0, 3] : List Nat) → k ∈ ([0, 3] : List Nat)) k h)) _ _ _ _ _
set_option maxRecDepth 100000 in
theorem cd_g_X3_parseWall_b14 {S : List Nat} (hS : ∀ k, k ∈ ([0, 3] : List Nat) → k ∈ S) (T : AT) (s0 : Int32) (s1 : Nat) (l0 : Nat) (l1 : Nat) : CD S (g_X3_parseWall_b14 T s0 s1 l0 l1) := by
  unfold g_X3_parseWall_b14
  refine cd_oif ?_
  refine cd_othr (cd_g_X3_startLine (fun k h => hS k ((by decide : ∀ k, k ∈ ([0, 3] : List Nat) → k ∈ ([0, 3] : List Nat)) k h)) _ _ _ _) (fun r5 T3 => ?_)
  refine cd_oif ?_
  refine cd_obind (fun n8 => ?_)
  refine cd_oif ?_
  refine cd_elet (fun v10 => ?_)
  refine cd_oif ?_
  refine cd_othr (cd_g_X3_signed (fun k h => hS k ((by decide : ∀ k, k ∈ ([0, 3] : List Nat) → k ∈ ([0, 3] : List Nat)) k h)) _ _ _ _) (fun r14 T12 => ?_)
  refine cd_oif ?_
  refine cd_oif ?_
  refine cd_elet (fun T18 => ?_)
  refine cd_oif ?_
  refine cd_obind (fun n20 => ?_)
  refine cd_oif ?_
  refine cd_elet (fun v22 => ?_)
  refine cd_oif ?_
  refine cd_othr (cd_g_X3_number (fun k h => hS k ((by decide : ∀ k, k ∈ ([0, 3] : List Nat) → k ∈ ([0, 3] : List Nat)) k h)) _ _ _ _) (fun r26 T24 => ?_)
  refine cd_oif ?_
  refine cd_oif ?_
  refine cd_elet (fun T30 => ?_)
  refine cd_oif ?_
  refine cd_elet (fun v32 => ?_)
  refine cd_elet (fun v33 => ?_)
  refine cd_oif ?_
  refine cd_elet (fun T35 => ?_)
  exact cd_some (hS _ (by decide))
set_option maxRecDepth 100000 in
theorem cd_g_X3_parseWall {S : List Nat} (hS : ∀ k, k ∈ ([0, 3] : List Nat) → k ∈ S) (T : AT) (o : Nat) (a0 : Nat) : CD S (g_X3_parseWall T o a0) := by
  unfold g_X3_parseWall
  refine cd_oif ?_
  refine cd_elet (fun v3 => ?_)
  refine cd_ite ?_ ?_
  · exact cd_g_X3_parseWall_b14 (fun k h => hS k ((by decide : ∀ k, k ∈ ([0, 3] : List Nat) → k ∈ ([0, 3] : List Nat)) k h)) _ _ _ _ _
  · exact cd_g_X3_parseWall_b14 (fun k h => hS k ((by decide : ∀ k, k ∈ ([0, 3] : List Nat) → k ∈ ([0, 3] : List Nat)) k h)) _ _ _ _ _
set_option maxRecDepth 100000 in
theorem cd_g_X3_shape_b62 {S : List Nat} (hS : ∀ k, k ∈ ([0] : List Nat) → k ∈ S) (T : AT) (l0 : Nat) (l1 : Int32) : CD S (g_X3_shape_b62 T l0 l1) := by
  unfold g_X3_shape_b62
  refine cd_oif ?_
  refine cd_elet (fun v3 => ?_)
  refine cd_elet (fun v4 => ?_)
  refine cd_oif ?_
  refine cd_elet (fun T6 => ?_)
  exact cd_some (hS _ (by decide))
set_option maxRecDepth 100000 in
theorem cd_g_X3_shape {S : List Nat} (hS : ∀ k, k ∈ ([0, 3] : List Nat) → k ∈ S) (T : AT) (o : Nat) : CD S (g_X3_shape T o) := by
  unfold g_X3_shape
  refine cd_oif ?_
  refine cd_obind2 (fun r6 T4 => ?_)
  refine cd_ite ?_ ?_
  · refine cd_oif ?_
    refine cd_obind2 (fun r13 T11 => ?_)
    refine cd_ite ?_ ?_
    · refine cd_oif ?_
      refine cd_obind2 (fun r20 T18 => ?_)
      refine cd_ite ?_ ?_
      · refine cd_oif ?_
        refine cd_obind2 (fun r27 T25 => ?_)
        refine cd_ite ?_ ?_
        · refine cd_oif ?_
          refine cd_elet (fun v31 => ?_)
          refine cd_oif ?_
          refine cd_othr (cd_g_X3_failAt (fun k h => hS k ((by decide : ∀ k, k ∈ ([3] : List Nat) → k ∈ ([0, 3] : List Nat)) k h)) _ _ _ _) (fun r35 T33 => ?_)
          exact cd_g_X3_shape_b62 (fun k h => hS k ((by decide : ∀ k, k ∈ ([0] : List Nat) → k ∈ ([0, 3] : List Nat)) k h)) _ _ _
        · exact cd_g_X3_shape_b62 (fun k h => hS k ((by decide : ∀ k, k ∈ ([0] : List Nat) → k ∈ ([0, 3] : List Nat)) k h)) _ _ _
      · exact cd_g_X3_shape_b62 (fun k h => hS k ((by decide : ∀ k, k ∈ ([0] : List Nat) → k ∈ ([0, 3] : List Nat)) k h)) _ _ _
    · exact cd_g_X3_shape_b62 (fun k h => hS k ((by decide : ∀ k, k ∈ ([0] : List Nat) → k ∈ ([0, 3] : List Nat)) k h)) _ _ _
  · exact cd_g_X3_shape_b62 (fun k h => hS k ((by decide : ∀ k, k ∈ ([0] : List Nat) → k ∈ ([0, 3] : List Nat)) k h)) _ _ _
set_option maxRecDepth 100000 in
theorem cd_g_X3_parseSource_b168 {S : List Nat} (hS : ∀ k, k ∈ ([0] : List Nat) → k ∈ S) (T : AT) (l1 : Nat) : CD S (g_X3_parseSource_b168 T l1) := by
  unfold g_X3_parseSource_b168
  refine cd_oif ?_
  refine cd_elet (fun v3 => ?_)
  refine cd_elet (fun v4 => ?_)
  refine cd_oif ?_
  refine cd_elet (fun T6 => ?_)
  exact cd_some (hS _ (by decide))
set_option maxRecDepth 100000 in
theorem cd_g_X3_parseSource_b15 {S : List Nat} (hS : ∀ k, k ∈ ([0, 3] : List Nat) → k ∈ S) (T : AT) (s0 : Int32) (s1 : Nat) (l0 : Nat) (l1 : Nat) : CD S (g_X3_parseSource_b15 T s0 s1 l0 l1) := by
  unfold g_X3_parseSource_b15
  refine cd_oif ?_
  refine cd_othr (cd_g_X3_startLine (fun k h => hS k ((by decide : ∀ k, k ∈ ([0, 3] : List Nat) → k ∈ ([0, 3] : List Nat)) k h)) _ _ _ _) (fun r5 T3 => ?_)
  refine cd_oif ?_
  refine cd_obind (fun n8 => ?_)
  refine cd_oif ?_
  refine cd_elet (fun v10 => ?_)
  refine cd_oif ?_
  refine cd_oif ?_
  refine cd_obind (fun n13 => ?_)
  refine cd_oif ?_
  refine cd_othr (cd_g_X3_shape (fun k h => hS k ((by decide : ∀ k, k ∈ ([0, 3] : List Nat) → k ∈ ([0, 3] : List Nat)) k h)) _ _) (fun r17 T15 => ?_)
  refine cd_oif ?_
  refine cd_elet (fun T20 => ?_)
  refine cd_oif ?_
  refine cd_othr (cd_g_X3_signed (fun k h => hS k ((by decide : ∀ k, k ∈ ([0, 3] : List Nat) → k ∈ ([0, 3] : List Nat)) k h)) _ _ _ _) (fun r24 T22 => ?_)
  refine cd_oif ?_
  refine cd_elet (fun T27 => ?_)
  refine cd_oif ?_
  refine cd_othr (cd_g_X3_signed (fun k h => hS k ((by decide : ∀ k, k ∈ ([0, 3] : List Nat) → k ∈ ([0, 3] : List Nat)) k h)) _ _ _ _) (fun r31 T29 => ?_)
  refine cd_oif ?_
  refine cd_elet (fun T34 => ?_)
  refine cd_oif ?_
  refine cd_othr (cd_g_X3_signed (fun k h => hS k ((by decide : ∀ k, k ∈ ([0, 3] : List Nat) → k ∈ ([0, 3] : List Nat)) k h)) _ _ _ _) (fun r38 T36 => ?_)
  refine cd_oif ?_
  refine cd_elet (fun T41 => ?_)
  refine cd_oif ?_
  refine cd_othr (cd_g_X3_signed (fun k h => hS k ((by decide : ∀ k, k ∈ ([0, 3] : List Nat) → k ∈ ([0, 3] : List Nat)) k h)) _ _ _ _) (fun r45 T43 => ?_)
  refine cd_oif ?_
  refine cd_elet (fun T48 => ?_)
  refine cd_oif ?_
  refine cd_othr (cd_g_X3_number (fun k h => hS k ((by decide : ∀ k, k ∈ ([0, 3] : List Nat) → k ∈ ([0, 3] : List Nat)) k h)) _ _ _ _) (fun r52 T50 => ?_)
  refine cd_oif ?_
  refine cd_elet (fun T55 => ?_)
  refine cd_oif ?_
  refine cd_othr (cd_g_X3_number (fun k h => hS k ((by decide : ∀ k, k ∈ ([0, 3] : List Nat) → k ∈ ([0, 3] : List Nat)) k h)) _ _ _ _) (fun r59 T57 => ?_)
  refine cd_oif ?_
  refine cd_elet (fun T62 => ?_)
  refine cd_oif ?_
  refine cd_othr (cd_g_X3_number (fun k h => hS k ((by decide : ∀ k, k ∈ ([0, 3] : List Nat) → k ∈ ([0, 3] : List Nat)) k h)) _ _ _ _) (fun r66 T64 => ?_)
  refine cd_oif ?_
  refine cd_elet (fun T69 => ?_)
  refine cd_oif ?_
  refine cd_elet (fun T71 => ?_)
  refine cd_oif ?_
  refine cd_elet (fun T73 => ?_)
  refine cd_oif ?_
  refine cd_obind2 (fun r78 T76 => ?_)
  refine cd_ite ?_ ?_
  · exact cd_g_X3_parseSource_b168 (fun k h => hS k ((by decide : ∀ k, k ∈ ([0] : List Nat) → k ∈ ([0, 3] : List Nat)) k h)) _ _
  · refine cd_oif ?_
    refine cd_elet (fun v82 => ?_)
    refine cd_elet (fun v83 => ?_)
    refine cd_oif ?_
    refine cd_elet (fun T85 => ?_)
    refine cd_oif ?_
    refine cd_othr (cd_g_X3_number (fun k h => hS k ((by decide : ∀ k, k ∈ ([0, 3] : List Nat) → k ∈ ([0, 3] : List Nat)) k h)) _ _ _ _) (fun r89 T87 => ?_)
    refine cd_oif ?_
    refine cd_elet (fun T92 => ?_)
    exact cd_g_X3_parseSource_b168 (fun k h => hS k ((by decide : ∀ k, k ∈ ([0] : List Nat) → k ∈ ([0, 3] : List Nat)) k h)) _ _
set_option maxRecDepth 100000 in
theorem cd_g_X3_parseSource {S : List Nat} (hS : ∀ k, k ∈ ([0, 3] : List Nat) → k ∈ S) (T : AT) (o : Nat) (a0 : Nat) : CD S (g_X3_parseSource T o a0) := by
  unfold g_X3_parseSource
  refine cd_oif ?_
  refine cd_elet (fun v3 => ?_)
  refine cd_ite ?_ ?_
  · exact cd_g_X3_parseSource_b15 (fun k h => hS k ((by decide : ∀ k, k ∈ ([0, 3] : List Nat) → k ∈ ([0, 3] : List Nat)) k h)) _ _ _ _ _
  · exact cd_g_X3_parseSource_b15 (fun k h => hS k ((by decide : ∀ k, k ∈ ([0, 3] : List Nat) → k ∈ ([0, 3] : List Nat)) k h)) _ _ _ _ _
set_option maxRecDepth 100000 in
theorem cd_g_X3_parseMap_b13 {S : List Nat} (hS : ∀ k, k ∈ ([0, 3] : List Nat) → k ∈ S) (T : AT) (s0 : Int32) (s1 : Nat) (l0 : Nat) (l1 : Nat) : CD S (g_X3_parseMap_b13 T s0 s1 l0 l1) := by
  unfold g_X3_parseMap_b13
  refine cd_oif ?_
  refine cd_othr (cd_g_X3_startLine (fun k h => hS k ((by decide : ∀ k, k ∈ ([0, 3] : List Nat) → k ∈ ([0, 3] : List Nat)) k h)) _ _ _ _) (fun r5 T3 => ?_)
  refine cd_oif ?_
  refine cd_othr (cd_g_X3_signed (fun k h => hS k ((by decide : ∀ k, k ∈ ([0, 3] : List Nat) → k ∈ ([0, 3] : List Nat)) k h)) _ _ _ _) (fun r10 T8 => ?_)
  refine cd_oif ?_
  refine cd_elet (fun T13 => ?_)
  refine cd_oif ?_
  refine cd_othr (cd_g_X3_signed (fun k h => hS k ((by decide : ∀ k, k ∈ ([0, 3] : List Nat) → k ∈ ([0, 3] : List Nat)) k h)) _ _ _ _) (fun r17 T15 => ?_)
  refine cd_oif ?_
  refine cd_elet (fun T20 => ?_)
  refine cd_oif ?_
  refine cd_othr (cd_g_X3_number (fun k h => hS k ((by decide : ∀ k, k ∈ ([0, 3] : List Nat) → k ∈ ([0, 3] : List Nat)) k h)) _ _ _ _) (fun r24 T22 => ?_)
  refine cd_oif ?_
  refine cd_elet (fun T27 => ?_)
  refine cd_oif ?_
  refine cd_othr (cd_g_X3_number (fun k h => hS k ((by decide : ∀ k, k ∈ ([0, 3] : List Nat) → k ∈ ([0, 3] : List Nat)) k h)) _ _ _ _) (fun r31 T29 => ?_)
  refine cd_oif ?_
  refine cd_othr (cd_g_X3_number (fun k h => hS k ((by decide : ∀ k, k ∈ ([0, 3] : List Nat) → k ∈ ([0, 3] : List Nat)) k h)) _ _ _ _) (fun r36 T34 => ?_)
  refine cd_oif ?_
  refine cd_obind (fun T39 => ?_)
  exact cd_some (hS _ (by decide))
set_option maxRecDepth 100000 in
theorem cd_g_X3_parseMap {S : List Nat} (hS : ∀ k, k ∈ ([0, 3] : List Nat) → k ∈ S) (T : AT) (o : Nat) (a0 : Nat) : CD S (g_X3_parseMap T o a0) := by
  unfold g_X3_parseMap
  refine cd_oif ?_
  refine cd_elet (fun v3 => ?_)
  refine cd_ite ?_ ?_
  · exact cd_g_X3_parseMap_b13 (fun k h => hS k ((by decide : ∀ k, k ∈ ([0, 3] : List Nat) → k ∈ ([0, 3] : List Nat)) k h)) _ _ _ _ _
  · exact cd_g_X3_parseMap_b13 (fun k h => hS k ((by decide : ∀ k, k ∈ ([0, 3] : List Nat) → k ∈ ([0, 3] : List Nat)) k h)) _ _ _ _ _
set_option maxRecDepth 100000 in
theorem cd_g_X3_parseMic_b15 {S : List Nat} (hS : ∀ k, k ∈ ([0, 3] : List Nat) → k ∈ S) (T : AT) (s0 : Int32) (s1 : Nat) (l0 : Nat) (l1 : Nat) : CD S (g_X3_parseMic_b15 T s0 s1 l0 l1) := by
  unfold g_X3_parseMic_b15
  refine cd_oif ?_
  refine cd_othr (cd_g_X3_startLine (fun k h => hS k ((by decide : ∀ k, k ∈ ([0, 3] : List Nat) → k ∈ ([0, 3] : List Nat)) k h)) _ _ _ _) (fun r5 T3 => ?_)
  refine cd_oif ?_
  refine cd_obind (fun n8 => ?_)
  refine cd_oif ?_
  refine cd_elet (fun v10 => ?_)
  refine cd_oif ?_
  refine cd_oif ?_
  refine cd_obind (fun n13 => ?_)
  refine cd_oif ?_
  refine cd_othr (cd_g_X3_signed (fun k h => hS k ((by decide : ∀ k, k ∈ ([0, 3] : List Nat) → k ∈ ([0, 3] : List Nat)) k h)) _ _ _ _) (fun r17 T15 => ?_)
  refine cd_oif ?_
  refine cd_elet (fun T20 => ?_)
  refine cd_oif ?_
  refine cd_othr (cd_g_X3_signed (fun k h => hS k ((by decide : ∀ k, k ∈ ([0, 3] : List Nat) → k ∈ ([0, 3] : List Nat)) k h)) _ _ _ _) (fun r24 T22 => ?_)
  refine cd_oif ?_
  refine cd_elet (fun T27 => ?_)
  refine cd_oif ?_
  refine cd_othr (cd_g_X3_number (fun k h => hS k ((by decide : ∀ k, k ∈ ([0, 3] : List Nat) → k ∈ ([0, 3] : List Nat)) k h)) _ _ _ _) (fun r31 T29 => ?_)
  refine cd_oif ?_
  refine cd_elet (fun T34 => ?_)
  refine cd_oif ?_
  refine cd_elet (fun T36 => ?_)
  refine cd_oif ?_
  refine cd_elet (fun v38 => ?_)
  refine cd_elet (fun v39 => ?_)
  refine cd_oif ?_
  refine cd_elet (fun T41 => ?_)
  exact cd_some (hS _ (by decide))
set_option maxRecDepth 100000 in
theorem cd_g_X3_parseMic {S : List Nat} (hS : ∀ k, k ∈ ([0, 3] : List Nat) → k ∈ S) (T : AT) (o : Nat) (a0 : Nat) : CD S (g_X3_parseMic T o a0) := by
  unfold g_X3_parseMic
  refine cd_oif ?_
  refine cd_elet (fun v3 => ?_)
  refine cd_ite ?_ ?_
  · exact cd_g_X3_parseMic_b15 (fun k h => hS k ((by decide : ∀ k, k ∈ ([0, 3] : List Nat) → k ∈ ([0, 3] : List Nat)) k h)) _ _ _ _ _
  · exact cd_g_X3_parseMic_b15 (fun k h => hS k ((by decide : ∀ k, k ∈ ([0, 3] : List Nat) → k ∈ ([0, 3] : List Nat)) k h)) _ _ _ _ _
set_option maxRecDepth 100000 in
theorem cd_g_X3_parseLine_b209 {S : List Nat} (hS : ∀ k, k ∈ ([0] : List Nat) → k ∈ S) (T : AT) : CD S (g_X3_parseLine_b209 T) := by
  unfold g_X3_parseLine_b209
  exact cd_some (hS _ (by decide))
set_option maxRecDepth 100000 in
theorem cd_g_X3_parseLine_b93 {S : List Nat} (hS : ∀ k, k ∈ ([0, 3] : List Nat) → k ∈ S) (T : AT) (s0 : Int32) (s1 : Nat) (l0 : Nat) (l1 : Nat) : CD S (g_X3_parseLine_b93 T s0 s1 l0 l1) := by
  unfold g_X3_parseLine_b93
  refine cd_oif ?_
  refine cd_othr (cd_g_X3_startLine (fun k h => hS k ((by decide : ∀ k, k ∈ ([0, 3] : List Nat) → k ∈ ([0, 3] : List Nat)) k h)) _ _ _ _) (fun r5 T3 => ?_)
  refine cd_oif ?_
  refine cd_othr (cd_g_X3_number (fun k h => hS k ((by decide : ∀ k, k ∈ ([0, 3] : List Nat) → k ∈ ([0, 3] : List Nat)) k h)) _ _ _ _) (fun r10 T8 => ?_)
  refine cd_oif ?_
  refine cd_elet (fun T13 => ?_)
  exact cd_g_X3_parseLine_b209 (fun k h => hS k ((by decide : ∀ k, k ∈ ([0] : List Nat) → k ∈ ([0, 3] : List Nat)) k h)) _
set_option maxRecDepth 100000 in
theorem cd_g_X3_parseLine {S : List Nat} (hS : ∀ k, k ∈ ([0, 3] : List Nat) → k ∈ S) (T : AT) (o : Nat) (a0 : Nat) : CD S (g_X3_parseLine T o a0) := by
  unfold g_X3_parseLine
  refine cd_oif ?_
  refine cd_obind2 (fun r6 T4 => ?_)
  refine cd_ite ?_ ?_
  · refine cd_oif ?_
    refine cd_obind2 (fun r13 T11 => ?_)
    refine cd_ite ?_ ?_
    · refine cd_oif ?_
      refine cd_obind2 (fun r20 T18 => ?_)
      refine cd_ite ?_ ?_
      · refine cd_oif ?_
        refine cd_obind2 (fun r27 T25 => ?_)
        refine cd_ite ?_ ?_
        · refine cd_oif ?_
          refine cd_obind2 (fun r34 T32 => ?_)
          refine cd_ite ?_ ?_
          · refine cd_oif ?_
            refine cd_obind2 (fun r41 T39 => ?_)
            refine cd_ite ?_ ?_
            · refine cd_oif ?_
              refine cd_obind2 (fun r48 T46 => ?_)
              refine cd_ite ?_ ?_
              · refine cd_oif ?_
                refine cd_obind2 (fun r55 T53 => ?_)
                refine cd_ite ?_ ?_
                · refine cd_oif ?_
                  refine cd_obind2 (fun r62 T60 => ?_)
                  refine cd_ite ?_ ?_
                  · refine cd_oif ?_
                    refine cd_obind2 (fun r69 T67 => ?_)
                    refine cd_ite ?_ ?_
                    · refine cd_oif ?_
                      refine cd_elet (fun v73 => ?_)
                      refine cd_oif ?_
                      refine cd_othr (cd_g_X3_failAt (fun k h => hS k ((by decide : ∀ k, k ∈ ([3] : List Nat) → k ∈ ([0, 3] : List Nat)) k h)) _ _ _ _) (fun r77 T75 => ?_)
                      exact cd_g_X3_parseLine_b209 (fun k h => hS k ((by decide : ∀ k, k ∈ ([0] : List Nat) → k ∈ ([0, 3] : List Nat)) k h)) _
                    · refine cd_oif ?_
                      refine cd_othr (cd_g_X3_parseOff (fun k h => hS k ((by decide : ∀ k, k ∈ ([0, 3] : List Nat) → k ∈ ([0, 3] : List Nat)) k h)) _ _ _) (fun r82 T80 => ?_)
                      exact cd_g_X3_parseLine_b209 (fun k h => hS k ((by decide : ∀ k, k ∈ ([0] : List Nat) → k ∈ ([0, 3] : List Nat)) k h)) _
                  · refine cd_oif ?_
                    refine cd_othr (cd_g_X3_parseShade (fun k h => hS k ((by decide : ∀ k, k ∈ ([0, 3] : List Nat) → k ∈ ([0, 3] : List Nat)) k h)) _ _ _) (fun r87 T85 => ?_)
                    exact cd_g_X3_parseLine_b209 (fun k h => hS k ((by decide : ∀ k, k ∈ ([0] : List Nat) → k ∈ ([0, 3] : List Nat)) k h)) _
                · refine cd_oif ?_
                  refine cd_obind (fun n90 => ?_)
                  refine cd_oif ?_
                  refine cd_othr (cd_g_X3_parseZone (fun k h => hS k ((by decide : ∀ k, k ∈ ([0, 3] : List Nat) → k ∈ ([0, 3] : List Nat)) k h)) _ _ _) (fun r94 T92 => ?_)
                  exact cd_g_X3_parseLine_b209 (fun k h => hS k ((by decide : ∀ k, k ∈ ([0] : List Nat) → k ∈ ([0, 3] : List Nat)) k h)) _
              · refine cd_oif ?_
                refine cd_othr (cd_g_X3_parseClock (fun k h => hS k ((by decide : ∀ k, k ∈ ([0, 3] : List Nat) → k ∈ ([0, 3] : List Nat)) k h)) _ _ _) (fun r99 T97 => ?_)
                exact cd_g_X3_parseLine_b209 (fun k h => hS k ((by decide : ∀ k, k ∈ ([0] : List Nat) → k ∈ ([0, 3] : List Nat)) k h)) _
            · refine cd_oif ?_
              refine cd_othr (cd_g_X3_parseFilter (fun k h => hS k ((by decide : ∀ k, k ∈ ([0, 3] : List Nat) → k ∈ ([0, 3] : List Nat)) k h)) _ _ _) (fun r104 T102 => ?_)
              exact cd_g_X3_parseLine_b209 (fun k h => hS k ((by decide : ∀ k, k ∈ ([0] : List Nat) → k ∈ ([0, 3] : List Nat)) k h)) _
          · refine cd_oif ?_
            refine cd_elet (fun v107 => ?_)
            refine cd_ite ?_ ?_
            · exact cd_g_X3_parseLine_b93 (fun k h => hS k ((by decide : ∀ k, k ∈ ([0, 3] : List Nat) → k ∈ ([0, 3] : List Nat)) k h)) _ _ _ _ _
            · exact cd_g_X3_parseLine_b93 (fun k h => hS k ((by decide : ∀ k, k ∈ ([0, 3] : List Nat) → k ∈ ([0, 3] : List Nat)) k h)) _ _ _ _ _
        · refine cd_oif ?_
          refine cd_othr (cd_g_X3_parseWall (fun k h => hS k ((by decide : ∀ k, k ∈ ([0, 3] : List Nat) → k ∈ ([0, 3] : List Nat)) k h)) _ _ _) (fun r112 T110 => ?_)
          exact cd_g_X3_parseLine_b209 (fun k h => hS k ((by decide : ∀ k, k ∈ ([0] : List Nat) → k ∈ ([0, 3] : List Nat)) k h)) _
      · refine cd_oif ?_
        refine cd_othr (cd_g_X3_parseSource (fun k h => hS k ((by decide : ∀ k, k ∈ ([0, 3] : List Nat) → k ∈ ([0, 3] : List Nat)) k h)) _ _ _) (fun r117 T115 => ?_)
        exact cd_g_X3_parseLine_b209 (fun k h => hS k ((by decide : ∀ k, k ∈ ([0] : List Nat) → k ∈ ([0, 3] : List Nat)) k h)) _
    · refine cd_oif ?_
      refine cd_obind (fun n120 => ?_)
      refine cd_oif ?_
      refine cd_othr (cd_g_X3_parseMap (fun k h => hS k ((by decide : ∀ k, k ∈ ([0, 3] : List Nat) → k ∈ ([0, 3] : List Nat)) k h)) _ _ _) (fun r124 T122 => ?_)
      exact cd_g_X3_parseLine_b209 (fun k h => hS k ((by decide : ∀ k, k ∈ ([0] : List Nat) → k ∈ ([0, 3] : List Nat)) k h)) _
  · refine cd_oif ?_
    refine cd_othr (cd_g_X3_parseMic (fun k h => hS k ((by decide : ∀ k, k ∈ ([0, 3] : List Nat) → k ∈ ([0, 3] : List Nat)) k h)) _ _ _) (fun r129 T127 => ?_)
    exact cd_g_X3_parseLine_b209 (fun k h => hS k ((by decide : ∀ k, k ∈ ([0] : List Nat) → k ∈ ([0, 3] : List Nat)) k h)) _
set_option maxRecDepth 100000 in
theorem cd_g_X3_parse_b107 {S : List Nat} (hS : ∀ k, k ∈ ([0] : List Nat) → k ∈ S) (T : AT) (l0 : Nat) : CD S (g_X3_parse_b107 T l0) := by
  unfold g_X3_parse_b107
  refine cd_oif ?_
  refine cd_elet (fun T3 => ?_)
  refine cd_oif ?_
  refine cd_elet (fun T5 => ?_)
  exact cd_some (hS _ (by decide))
set_option maxRecDepth 100000 in
theorem cd_g_X3_parse_b98 {S : List Nat} (hS : ∀ k, k ∈ ([0, 3] : List Nat) → k ∈ S) (T : AT) (l0 : Nat) : CD S (g_X3_parse_b98 T l0) := by
  unfold g_X3_parse_b98
  refine cd_oif ?_
  refine cd_elet (fun v3 => ?_)
  refine cd_oif ?_
  refine cd_othr (cd_g_X3_failAt (fun k h => hS k ((by decide : ∀ k, k ∈ ([3] : List Nat) → k ∈ ([0, 3] : List Nat)) k h)) _ _ _ _) (fun r7 T5 => ?_)
  exact cd_g_X3_parse_b107 (fun k h => hS k ((by decide : ∀ k, k ∈ ([0] : List Nat) → k ∈ ([0, 3] : List Nat)) k h)) _ _
set_option maxRecDepth 100000 in
theorem cd_g_X3_parse_b81 {S : List Nat} (hS : ∀ k, k ∈ ([0, 3] : List Nat) → k ∈ S) (T : AT) (l0 : Nat) (l2 : Nat) : CD S (g_X3_parse_b81 T l0 l2) := by
  unfold g_X3_parse_b81
  refine cd_oif ?_
  refine cd_elet (fun v3 => ?_)
  refine cd_ite ?_ ?_
  · exact cd_g_X3_parse_b98 (fun k h => hS k ((by decide : ∀ k, k ∈ ([0, 3] : List Nat) → k ∈ ([0, 3] : List Nat)) k h)) _ _
  · refine cd_oif ?_
    refine cd_obind (fun n6 => ?_)
    refine cd_oif ?_
    refine cd_elet (fun v8 => ?_)
    refine cd_ite ?_ ?_
    · exact cd_g_X3_parse_b98 (fun k h => hS k ((by decide : ∀ k, k ∈ ([0, 3] : List Nat) → k ∈ ([0, 3] : List Nat)) k h)) _ _
    · exact cd_g_X3_parse_b107 (fun k h => hS k ((by decide : ∀ k, k ∈ ([0] : List Nat) → k ∈ ([0, 3] : List Nat)) k h)) _ _
set_option maxRecDepth 100000 in
theorem cd_g_X3_parse_b60 {S : List Nat} (hS : ∀ k, k ∈ ([0, 3] : List Nat) → k ∈ S) {k24 : AT → Nat → Nat → Int32 → Option (Nat × Int32 × AT)} (hk24 : ∀ (x0 : AT) (x1 : Nat) (x2 : Nat) (x3 : Int32), CD S (k24 x0 x1 x2 x3)) (T : AT) (l0 : Nat) (l2 : Nat) (l3 : Int32) : CD S (g_X3_parse_b60 k24 T l0 l2 l3) := by
  unfold g_X3_parse_b60
  refine cd_oif ?_
  refine cd_elet (fun v3 => ?_)
  refine cd_elet (fun v4 => ?_)
  refine cd_oif ?_
  refine cd_elet (fun T6 => ?_)
  refine cd_oif ?_
  refine cd_othr (cd_g_X3_parseLine (fun k h => hS k ((by decide : ∀ k, k ∈ ([0, 3] : List Nat) → k ∈ ([0, 3] : List Nat)) k h)) _ _ _) (fun r10 T8 => ?_)
  refine cd_elet (fun v12 => ?_)
  exact hk24 _ _ _ _
set_option maxRecDepth 100000 in
theorem cd_g_X3_parse_b24 {S : List Nat} (hS : ∀ k, k ∈ ([0, 3] : List Nat) → k ∈ S) : ∀ (n : Nat) (T : AT) (l0 : Nat) (l2 : Nat) (l3 : Int32), CD S (g_X3_parse_b24 n T l0 l2 l3)
  | 0, _, _, _, _ => cd_none
  | n + 1, T, l0, l2, l3 => by
    have ih := cd_g_X3_parse_b24 hS n
    unfold g_X3_parse_b24
    refine cd_oif ?_
    refine cd_obind (fun n3 => ?_)
    refine cd_oif ?_
    refine cd_elet (fun v5 => ?_)
    refine cd_ite ?_ ?_
    · exact cd_g_X3_parse_b81 (fun k h => hS k ((by decide : ∀ k, k ∈ ([0, 3] : List Nat) → k ∈ ([0, 3] : List Nat)) k h)) _ _ _
    · refine cd_oif ?_
      refine cd_obind2 (fun r10 T8 => ?_)
      refine cd_ite ?_ ?_
      · exact cd_g_X3_parse_b81 (fun k h => hS k ((by decide : ∀ k, k ∈ ([0, 3] : List Nat) → k ∈ ([0, 3] : List Nat)) k h)) _ _ _
      · refine cd_oif ?_
        refine cd_obind2 (fun r16 T14 => ?_)
        refine cd_ite ?_ ?_
        · exact cd_g_X3_parse_b60 (fun k h => hS k ((by decide : ∀ k, k ∈ ([0, 3] : List Nat) → k ∈ ([0, 3] : List Nat)) k h)) ih _ _ _ _
        · refine cd_oif ?_
          refine cd_elet (fun v20 => ?_)
          refine cd_oif ?_
          refine cd_othr (cd_g_X3_failAt (fun k h => hS k ((by decide : ∀ k, k ∈ ([3] : List Nat) → k ∈ ([0, 3] : List Nat)) k h)) _ _ _ _) (fun r24 T22 => ?_)
          exact cd_g_X3_parse_b60 (fun k h => hS k ((by decide : ∀ k, k ∈ ([0, 3] : List Nat) → k ∈ ([0, 3] : List Nat)) k h)) ih _ _ _ _
set_option maxRecDepth 100000 in
theorem cd_g_X3_parse {S : List Nat} (hS : ∀ k, k ∈ ([0, 3] : List Nat) → k ∈ S) (T : AT) (o : Nat) (a0 : Int32) (a1 : Nat) : CD S (g_X3_parse T o a0 a1) := by
  unfold g_X3_parse
  refine cd_oif ?_
  refine cd_obind (fun n3 => ?_)
  refine cd_oif ?_
  refine cd_obind (fun T5 => ?_)
  refine cd_oif ?_
  refine cd_elet (fun T8 => ?_)
  refine cd_oif ?_
  refine cd_obind (fun T10 => ?_)
  refine cd_oif ?_
  refine cd_othr (cd_g_X3_parseHead (fun k h => hS k ((by decide : ∀ k, k ∈ ([0, 3] : List Nat) → k ∈ ([0, 3] : List Nat)) k h)) _ _ _) (fun r15 T13 => ?_)
  exact cd_g_X3_parse_b24 (fun k h => hS k ((by decide : ∀ k, k ∈ ([0, 3] : List Nat) → k ∈ ([0, 3] : List Nat)) k h)) _ _ _ _ _
set_option maxRecDepth 100000 in
theorem cd_g_X11_load_b15 {S : List Nat} (hS : ∀ k, k ∈ ([2] : List Nat) → k ∈ S) (T : AT) : CD S (g_X11_load_b15 T) := by
  unfold g_X11_load_b15
  exact cd_some (hS _ (by decide))
set_option maxRecDepth 100000 in
theorem cd_g_X11_load_b65 {S : List Nat} (hS : ∀ k, k ∈ ([0] : List Nat) → k ∈ S) (T : AT) (l0 : Nat) : CD S (g_X11_load_b65 T l0) := by
  unfold g_X11_load_b65
  refine cd_oif ?_
  refine cd_obind (fun n3 => ?_)
  refine cd_oif ?_
  refine cd_obind (fun n5 => ?_)
  refine cd_oif ?_
  refine cd_obind2 (fun r9 T7 => ?_)
  exact cd_some (hS _ (by decide))
set_option maxRecDepth 100000 in
theorem cd_g_X11_load {S : List Nat} (hS : ∀ k, k ∈ ([0, 2, 3] : List Nat) → k ∈ S) (T : AT) (o : Nat) (a0 : Int32) : CD S (g_X11_load T o a0) := by
  unfold g_X11_load
  refine cd_ite ?_ ?_
  · exact cd_g_X11_load_b15 (fun k h => hS k ((by decide : ∀ k, k ∈ ([2] : List Nat) → k ∈ ([0, 2, 3] : List Nat)) k h)) _
  · refine cd_oif ?_
    refine cd_obind (fun n4 => ?_)
    refine cd_oif ?_
    refine cd_elet (fun v6 => ?_)
    refine cd_ite ?_ ?_
    · refine cd_oif ?_
      refine cd_obind (fun n9 => ?_)
      refine cd_oif ?_
      refine cd_elet (fun T11 => ?_)
      refine cd_oif ?_
      refine cd_obind (fun n13 => ?_)
      refine cd_oif ?_
      refine cd_obind (fun n15 => ?_)
      refine cd_oif ?_
      refine cd_othr (cd_g_X3_parse (fun k h => hS k ((by decide : ∀ k, k ∈ ([0, 3] : List Nat) → k ∈ ([0, 2, 3] : List Nat)) k h)) _ _ _ _) (fun r19 T17 => ?_)
      refine cd_oif ?_
      refine cd_obind (fun n22 => ?_)
      refine cd_oif ?_
      refine cd_obind (fun n24 => ?_)
      refine cd_oif ?_
      refine cd_oif ?_
      refine cd_elet (fun T27 => ?_)
      refine cd_oif ?_
      refine cd_oif ?_
      refine cd_elet (fun T30 => ?_)
      refine cd_oif ?_
      refine cd_obind (fun T32 => ?_)
      exact cd_g_X11_load_b65 (fun k h => hS k ((by decide : ∀ k, k ∈ ([0] : List Nat) → k ∈ ([0, 2, 3] : List Nat)) k h)) _ _
    · exact cd_g_X11_load_b15 (fun k h => hS k ((by decide : ∀ k, k ∈ ([2] : List Nat) → k ∈ ([0, 2, 3] : List Nat)) k h)) _
set_option maxRecDepth 100000 in
theorem cd_g_X11_needCamera {S : List Nat} (hS : ∀ k, k ∈ ([0, 1] : List Nat) → k ∈ S) (T : AT) (o : Nat) : CD S (g_X11_needCamera T o) := by
  unfold g_X11_needCamera
  refine cd_oif ?_
  refine cd_obind (fun n3 => ?_)
  refine cd_oif ?_
  refine cd_elet (fun v5 => ?_)
  refine cd_ite ?_ ?_
  · exact cd_some (hS _ (by decide))
  · exact cd_some (hS _ (by decide))
set_option maxRecDepth 100000 in
theorem cd_g_X11_needIndex_b9 {S : List Nat} (hS : ∀ k, k ∈ ([2] : List Nat) → k ∈ S) (T : AT) : CD S (g_X11_needIndex_b9 T) := by
  unfold g_X11_needIndex_b9
  exact cd_some (hS _ (by decide))
set_option maxRecDepth 100000 in
theorem cd_g_X11_needIndex {S : List Nat} (hS : ∀ k, k ∈ ([0, 2] : List Nat) → k ∈ S) (T : AT) (a0 : Int32) (a1 : Int32) : CD S (g_X11_needIndex T a0 a1) := by
  unfold g_X11_needIndex
  refine cd_ite ?_ ?_
  · exact cd_g_X11_needIndex_b9 (fun k h => hS k ((by decide : ∀ k, k ∈ ([2] : List Nat) → k ∈ ([0, 2] : List Nat)) k h)) _
  · refine cd_ite ?_ ?_
    · exact cd_some (hS _ (by decide))
    · exact cd_g_X11_needIndex_b9 (fun k h => hS k ((by decide : ∀ k, k ∈ ([2] : List Nat) → k ∈ ([0, 2] : List Nat)) k h)) _
set_option maxRecDepth 100000 in
theorem cd_g_X11_needMic {S : List Nat} (hS : ∀ k, k ∈ ([0, 2] : List Nat) → k ∈ S) (T : AT) (o : Nat) (a0 : Int32) : CD S (g_X11_needMic T o a0) := by
  unfold g_X11_needMic
  refine cd_oif ?_
  refine cd_obind (fun n3 => ?_)
  refine cd_oif ?_
  refine cd_elet (fun v5 => ?_)
  refine cd_othr (cd_g_X11_needIndex (fun k h => hS k ((by decide : ∀ k, k ∈ ([0, 2] : List Nat) → k ∈ ([0, 2] : List Nat)) k h)) _ _ _) (fun r8 T6 => ?_)
  exact cd_some (hS _ (by decide))
set_option maxRecDepth 100000 in
theorem cd_g_X11_needRange_b10 {S : List Nat} (hS : ∀ k, k ∈ ([3] : List Nat) → k ∈ S) (T : AT) : CD S (g_X11_needRange_b10 T) := by
  unfold g_X11_needRange_b10
  exact cd_some (hS _ (by decide))
set_option maxRecDepth 100000 in
theorem cd_g_X11_needRange {S : List Nat} (hS : ∀ k, k ∈ ([0, 3] : List Nat) → k ∈ S) (T : AT) (a0 : Int32) (a1 : Int32) (a2 : Int32) : CD S (g_X11_needRange T a0 a1 a2) := by
  unfold g_X11_needRange
  refine cd_ite ?_ ?_
  · exact cd_g_X11_needRange_b10 (fun k h => hS k ((by decide : ∀ k, k ∈ ([3] : List Nat) → k ∈ ([0, 3] : List Nat)) k h)) _
  · refine cd_ite ?_ ?_
    · exact cd_some (hS _ (by decide))
    · exact cd_g_X11_needRange_b10 (fun k h => hS k ((by decide : ∀ k, k ∈ ([3] : List Nat) → k ∈ ([0, 3] : List Nat)) k h)) _
set_option maxRecDepth 100000 in
theorem cd_g_X11_isMuted {S : List Nat} (hS : ∀ k, k ∈ ([0, 1, 2] : List Nat) → k ∈ S) (T : AT) (o : Nat) (a0 : Int32) : CD S (g_X11_isMuted T o a0) := by
  unfold g_X11_isMuted
  refine cd_oif ?_
  refine cd_othr (cd_g_X11_needCamera (fun k h => hS k ((by decide : ∀ k, k ∈ ([0, 1] : List Nat) → k ∈ ([0, 1, 2] : List Nat)) k h)) _ _) (fun r5 T3 => ?_)
  refine cd_oif ?_
  refine cd_othr (cd_g_X11_needMic (fun k h => hS k ((by decide : ∀ k, k ∈ ([0, 2] : List Nat) → k ∈ ([0, 1, 2] : List Nat)) k h)) _ _ _) (fun r10 T8 => ?_)
  refine cd_oif ?_
  refine cd_obind (fun n13 => ?_)
  refine cd_oif ?_
  refine cd_obind (fun n15 => ?_)
  refine cd_oif ?_
  refine cd_oif ?_
  refine cd_elet (fun v18 => ?_)
  refine cd_oif ?_
  exact cd_some (hS _ (by decide))
set_option maxRecDepth 100000 in
theorem cd_g_X11_needCell {S : List Nat} (hS : ∀ k, k ∈ ([0, 2] : List Nat) → k ∈ S) (T : AT) (o : Nat) (a0 : Int32) : CD S (g_X11_needCell T o a0) := by
  unfold g_X11_needCell
  refine cd_oif ?_
  refine cd_obind (fun n3 => ?_)
  refine cd_oif ?_
  refine cd_obind (fun n5 => ?_)
  refine cd_oif ?_
  refine cd_obind2 (fun r9 T7 => ?_)
  refine cd_othr (cd_g_X11_needIndex (fun k h => hS k ((by decide : ∀ k, k ∈ ([0, 2] : List Nat) → k ∈ ([0, 2] : List Nat)) k h)) _ _ _) (fun r13 T11 => ?_)
  exact cd_some (hS _ (by decide))
set_option maxRecDepth 100000 in
theorem cd_g_X11_needSource {S : List Nat} (hS : ∀ k, k ∈ ([0, 2] : List Nat) → k ∈ S) (T : AT) (o : Nat) (a0 : Int32) : CD S (g_X11_needSource T o a0) := by
  unfold g_X11_needSource
  refine cd_oif ?_
  refine cd_obind (fun n3 => ?_)
  refine cd_oif ?_
  refine cd_elet (fun v5 => ?_)
  refine cd_othr (cd_g_X11_needIndex (fun k h => hS k ((by decide : ∀ k, k ∈ ([0, 2] : List Nat) → k ∈ ([0, 2] : List Nat)) k h)) _ _ _) (fun r8 T6 => ?_)
  exact cd_some (hS _ (by decide))
set_option maxRecDepth 100000 in
theorem cd_g_X11_isOn {S : List Nat} (hS : ∀ k, k ∈ ([0, 1, 2] : List Nat) → k ∈ S) (T : AT) (o : Nat) (a0 : Int32) : CD S (g_X11_isOn T o a0) := by
  unfold g_X11_isOn
  refine cd_oif ?_
  refine cd_othr (cd_g_X11_needCamera (fun k h => hS k ((by decide : ∀ k, k ∈ ([0, 1] : List Nat) → k ∈ ([0, 1, 2] : List Nat)) k h)) _ _) (fun r5 T3 => ?_)
  refine cd_oif ?_
  refine cd_othr (cd_g_X11_needSource (fun k h => hS k ((by decide : ∀ k, k ∈ ([0, 2] : List Nat) → k ∈ ([0, 1, 2] : List Nat)) k h)) _ _ _) (fun r10 T8 => ?_)
  refine cd_oif ?_
  refine cd_obind (fun n13 => ?_)
  refine cd_oif ?_
  refine cd_obind (fun n15 => ?_)
  refine cd_oif ?_
  refine cd_oif ?_
  refine cd_elet (fun v18 => ?_)
  refine cd_oif ?_
  exact cd_some (hS _ (by decide))
set_option maxRecDepth 100000 in
theorem cd_g_X11_delay {S : List Nat} (hS : ∀ k, k ∈ ([0, 1, 2] : List Nat) → k ∈ S) (T : AT) (o : Nat) (a0 : Int32) (a1 : Int32) : CD S (g_X11_delay T o a0 a1) := by
  unfold g_X11_delay
  refine cd_oif ?_
  refine cd_othr (cd_g_X11_needCamera (fun k h => hS k ((by decide : ∀ k, k ∈ ([0, 1] : List Nat) → k ∈ ([0, 1, 2] : List Nat)) k h)) _ _) (fun r5 T3 => ?_)
  refine cd_oif ?_
  refine cd_othr (cd_g_X11_needMic (fun k h => hS k ((by decide : ∀ k, k ∈ ([0, 2] : List Nat) → k ∈ ([0, 1, 2] : List Nat)) k h)) _ _ _) (fun r10 T8 => ?_)
  refine cd_oif ?_
  refine cd_othr (cd_g_X11_needCell (fun k h => hS k ((by decide : ∀ k, k ∈ ([0, 2] : List Nat) → k ∈ ([0, 1, 2] : List Nat)) k h)) _ _ _) (fun r15 T13 => ?_)
  refine cd_oif ?_
  refine cd_obind (fun n18 => ?_)
  refine cd_oif ?_
  refine cd_obind (fun n20 => ?_)
  refine cd_oif ?_
  refine cd_oif ?_
  refine cd_obind (fun n23 => ?_)
  refine cd_oif ?_
  refine cd_oif ?_
  refine cd_elet (fun v26 => ?_)
  exact cd_some (hS _ (by decide))
set_option maxRecDepth 100000 in
theorem cd_g_X11_spread {S : List Nat} (hS : ∀ k, k ∈ ([0, 1, 2] : List Nat) → k ∈ S) (T : AT) (o : Nat) (a0 : Int32) : CD S (g_X11_spread T o a0) := by
  unfold g_X11_spread
  refine cd_oif ?_
  refine cd_othr (cd_g_X11_needCamera (fun k h => hS k ((by decide : ∀ k, k ∈ ([0, 1] : List Nat) → k ∈ ([0, 1, 2] : List Nat)) k h)) _ _) (fun r5 T3 => ?_)
  refine cd_oif ?_
  refine cd_othr (cd_g_X11_needCell (fun k h => hS k ((by decide : ∀ k, k ∈ ([0, 2] : List Nat) → k ∈ ([0, 1, 2] : List Nat)) k h)) _ _ _) (fun r10 T8 => ?_)
  refine cd_oif ?_
  refine cd_obind (fun n13 => ?_)
  refine cd_oif ?_
  refine cd_obind (fun n15 => ?_)
  refine cd_oif ?_
  refine cd_oif ?_
  refine cd_obind (fun n18 => ?_)
  refine cd_oif ?_
  refine cd_obind (fun n20 => ?_)
  refine cd_oif ?_
  refine cd_obind2 (fun r24 T22 => ?_)
  refine cd_oif ?_
  refine cd_obind (fun n27 => ?_)
  refine cd_oif ?_
  refine cd_obind2 (fun r31 T29 => ?_)
  refine cd_elet (fun v33 => ?_)
  exact cd_some (hS _ (by decide))
set_option maxRecDepth 100000 in
theorem cd_g_X11_window {S : List Nat} (hS : ∀ k, k ∈ ([0, 1, 2] : List Nat) → k ∈ S) (T : AT) (o : Nat) (a0 : Int32) : CD S (g_X11_window T o a0) := by
  unfold g_X11_window
  refine cd_oif ?_
  refine cd_othr (cd_g_X11_needCamera (fun k h => hS k ((by decide : ∀ k, k ∈ ([0, 1] : List Nat) → k ∈ ([0, 1, 2] : List Nat)) k h)) _ _) (fun r5 T3 => ?_)
  refine cd_oif ?_
  refine cd_othr (cd_g_X11_needCell (fun k h => hS k ((by decide : ∀ k, k ∈ ([0, 2] : List Nat) → k ∈ ([0, 1, 2] : List Nat)) k h)) _ _ _) (fun r10 T8 => ?_)
  refine cd_oif ?_
  refine cd_obind (fun n13 => ?_)
  refine cd_oif ?_
  refine cd_obind (fun n15 => ?_)
  refine cd_oif ?_
  refine cd_obind (fun n17 => ?_)
  refine cd_oif ?_
  refine cd_oif ?_
  refine cd_obind (fun n20 => ?_)
  refine cd_oif ?_
  refine cd_obind2 (fun r24 T22 => ?_)
  exact cd_some (hS _ (by decide))
set_option maxRecDepth 100000 in
theorem cd_g_X11_power_b13 {S : List Nat} (hS : ∀ k, k ∈ ([0] : List Nat) → k ∈ S) (T : AT) (s0 : Nat) (l1 : Int32) : CD S (g_X11_power_b13 T s0 l1) := by
  unfold g_X11_power_b13
  refine cd_oif ?_
  refine cd_obind (fun n3 => ?_)
  refine cd_oif ?_
  refine cd_obind2 (fun r7 T5 => ?_)
  exact cd_some (hS _ (by decide))
set_option maxRecDepth 100000 in
theorem cd_g_X11_power {S : List Nat} (hS : ∀ k, k ∈ ([0, 1, 2] : List Nat) → k ∈ S) (T : AT) (o : Nat) (a0 : Int32) : CD S (g_X11_power T o a0) := by
  unfold g_X11_power
  refine cd_oif ?_
  refine cd_othr (cd_g_X11_needCamera (fun k h => hS k ((by decide : ∀ k, k ∈ ([0, 1] : List Nat) → k ∈ ([0, 1, 2] : List Nat)) k h)) _ _) (fun r5 T3 => ?_)
  refine cd_oif ?_
  refine cd_othr (cd_g_X11_needCell (fun k h => hS k ((by decide : ∀ k, k ∈ ([0, 2] : List Nat) → k ∈ ([0, 1, 2] : List Nat)) k h)) _ _ _) (fun r10 T8 => ?_)
  refine cd_oif ?_
  refine cd_obind2 (fun r14 T13 => ?_)
  refine cd_oif ?_
  exact cd_g_X11_power_b13 (fun k h => hS k ((by decide : ∀ k, k ∈ ([0] : List Nat) → k ∈ ([0, 1, 2] : List Nat)) k h)) _ _ _
set_option maxRecDepth 100000 in
theorem cd_g_X11_powerAt_b53 {S : List Nat} (hS : ∀ k, k ∈ ([0] : List Nat) → k ∈ S) (T : AT) (l0 : Nat) : CD S (g_X11_powerAt_b53 T l0) := by
  unfold g_X11_powerAt_b53
  refine cd_oif ?_
  refine cd_obind (fun n3 => ?_)
  refine cd_oif ?_
  refine cd_obind2 (fun r7 T5 => ?_)
  exact cd_some (hS _ (by decide))
set_option maxRecDepth 100000 in
theorem cd_g_X11_powerAt {S : List Nat} (hS : ∀ k, k ∈ ([0, 1, 3] : List Nat) → k ∈ S) (T : AT) (o : Nat) (a0 : Int32) (a1 : Int32) : CD S (g_X11_powerAt T o a0 a1) := by
  unfold g_X11_powerAt
  refine cd_oif ?_
  refine cd_othr (cd_g_X11_needCamera (fun k h => hS k ((by decide : ∀ k, k ∈ ([0, 1] : List Nat) → k ∈ ([0, 1, 3] : List Nat)) k h)) _ _) (fun r5 T3 => ?_)
  refine cd_othr (cd_g_X11_needRange (fun k h => hS k ((by decide : ∀ k, k ∈ ([0, 3] : List Nat) → k ∈ ([0, 1, 3] : List Nat)) k h)) _ _ _ _) (fun r9 T7 => ?_)
  refine cd_othr (cd_g_X11_needRange (fun k h => hS k ((by decide : ∀ k, k ∈ ([0, 3] : List Nat) → k ∈ ([0, 1, 3] : List Nat)) k h)) _ _ _ _) (fun r13 T11 => ?_)
  refine cd_oif ?_
  refine cd_obind (fun n16 => ?_)
  refine cd_oif ?_
  refine cd_obind (fun n18 => ?_)
  refine cd_oif ?_
  refine cd_obind (fun T20 => ?_)
  refine cd_oif ?_
  refine cd_obind (fun n23 => ?_)
  refine cd_oif ?_
  refine cd_obind (fun n25 => ?_)
  refine cd_oif ?_
  refine cd_obind (fun n27 => ?_)
  refine cd_oif ?_
  refine cd_obind (fun T29 => ?_)
  exact cd_g_X11_powerAt_b53 (fun k h => hS k ((by decide : ∀ k, k ∈ ([0] : List Nat) → k ∈ ([0, 1, 3] : List Nat)) k h)) _ _
set_option maxRecDepth 100000 in
theorem cd_g_X11_best_b8 {S : List Nat} (hS : ∀ k, k ∈ ([0] : List Nat) → k ∈ S) (T : AT) (s0 : Nat) : CD S (g_X11_best_b8 T s0) := by
  unfold g_X11_best_b8
  refine cd_oif ?_
  refine cd_elet (fun v3 => ?_)
  exact cd_some (hS _ (by decide))
set_option maxRecDepth 100000 in
theorem cd_g_X11_best {S : List Nat} (hS : ∀ k, k ∈ ([0, 1] : List Nat) → k ∈ S) (T : AT) (o : Nat) : CD S (g_X11_best T o) := by
  unfold g_X11_best
  refine cd_oif ?_
  refine cd_othr (cd_g_X11_needCamera (fun k h => hS k ((by decide : ∀ k, k ∈ ([0, 1] : List Nat) → k ∈ ([0, 1] : List Nat)) k h)) _ _) (fun r5 T3 => ?_)
  refine cd_oif ?_
  refine cd_obind2 (fun r9 T8 => ?_)
  refine cd_oif ?_
  exact cd_g_X11_best_b8 (fun k h => hS k ((by decide : ∀ k, k ∈ ([0] : List Nat) → k ∈ ([0, 1] : List Nat)) k h)) _ _
set_option maxRecDepth 100000 in
theorem cd_g_X11_bestPower_b8 {S : List Nat} (hS : ∀ k, k ∈ ([0] : List Nat) → k ∈ S) (T : AT) (s0 : Nat) : CD S (g_X11_bestPower_b8 T s0) := by
  unfold g_X11_bestPower_b8
  refine cd_oif ?_
  refine cd_obind (fun n3 => ?_)
  refine cd_oif ?_
  refine cd_elet (fun v5 => ?_)
  refine cd_oif ?_
  refine cd_obind2 (fun r9 T7 => ?_)
  exact cd_some (hS _ (by decide))
set_option maxRecDepth 100000 in
theorem cd_g_X11_bestPower {S : List Nat} (hS : ∀ k, k ∈ ([0, 1] : List Nat) → k ∈ S) (T : AT) (o : Nat) : CD S (g_X11_bestPower T o) := by
  unfold g_X11_bestPower
  refine cd_oif ?_
  refine cd_othr (cd_g_X11_needCamera (fun k h => hS k ((by decide : ∀ k, k ∈ ([0, 1] : List Nat) → k ∈ ([0, 1] : List Nat)) k h)) _ _) (fun r5 T3 => ?_)
  refine cd_oif ?_
  refine cd_obind2 (fun r9 T8 => ?_)
  refine cd_oif ?_
  exact cd_g_X11_bestPower_b8 (fun k h => hS k ((by decide : ∀ k, k ∈ ([0] : List Nat) → k ∈ ([0, 1] : List Nat)) k h)) _ _
set_option maxRecDepth 100000 in
theorem cd_g_X11_meanPower_b51 {S : List Nat} (hS : ∀ k, k ∈ ([0] : List Nat) → k ∈ S) (T : AT) (l0 : Nat) : CD S (g_X11_meanPower_b51 T l0) := by
  unfold g_X11_meanPower_b51
  refine cd_oif ?_
  refine cd_obind (fun n3 => ?_)
  refine cd_oif ?_
  refine cd_obind2 (fun r7 T5 => ?_)
  exact cd_some (hS _ (by decide))
set_option maxRecDepth 100000 in
theorem cd_g_X11_meanPower_b33 {S : List Nat} (hS : ∀ k, k ∈ ([0] : List Nat) → k ∈ S) (T : AT) (l0 : Nat) : CD S (g_X11_meanPower_b33 T l0) := by
  unfold g_X11_meanPower_b33
  refine cd_oif ?_
  refine cd_obind (fun n3 => ?_)
  refine cd_oif ?_
  refine cd_obind (fun n5 => ?_)
  refine cd_oif ?_
  refine cd_obind (fun n7 => ?_)
  refine cd_oif ?_
  refine cd_obind2 (fun r11 T9 => ?_)
  refine cd_oif ?_
  refine cd_obind (fun T14 => ?_)
  exact cd_g_X11_meanPower_b51 (fun k h => hS k ((by decide : ∀ k, k ∈ ([0] : List Nat) → k ∈ ([0] : List Nat)) k h)) _ _
set_option maxRecDepth 100000 in
theorem cd_g_X11_meanPower_b8 {S : List Nat} (hS : ∀ k, k ∈ ([0] : List Nat) → k ∈ S) (T : AT) (s0 : Nat) (l0 : Nat) : CD S (g_X11_meanPower_b8 T s0 l0) := by
  unfold g_X11_meanPower_b8
  refine cd_oif ?_
  refine cd_obind (fun n3 => ?_)
  refine cd_oif ?_
  refine cd_obind (fun n5 => ?_)
  refine cd_oif ?_
  refine cd_obind (fun n7 => ?_)
  refine cd_oif ?_
  refine cd_obind (fun n9 => ?_)
  refine cd_oif ?_
  refine cd_obind (fun n11 => ?_)
  refine cd_oif ?_
  refine cd_obind (fun n13 => ?_)
  refine cd_oif ?_
  refine cd_obind (fun T15 => ?_)
  exact cd_g_X11_meanPower_b33 (fun k h => hS k ((by decide : ∀ k, k ∈ ([0] : List Nat) → k ∈ ([0] : List Nat)) k h)) _ _
set_option maxRecDepth 100000 in
theorem cd_g_X11_meanPower {S : List Nat} (hS : ∀ k, k ∈ ([0, 1] : List Nat) → k ∈ S) (T : AT) (o : Nat) : CD S (g_X11_meanPower T o) := by
  unfold g_X11_meanPower
  refine cd_oif ?_
  refine cd_othr (cd_g_X11_needCamera (fun k h => hS k ((by decide : ∀ k, k ∈ ([0, 1] : List Nat) → k ∈ ([0, 1] : List Nat)) k h)) _ _) (fun r5 T3 => ?_)
  refine cd_oif ?_
  refine cd_obind2 (fun r9 T8 => ?_)
  refine cd_oif ?_
  exact cd_g_X11_meanPower_b8 (fun k h => hS k ((by decide : ∀ k, k ∈ ([0] : List Nat) → k ∈ ([0, 1] : List Nat)) k h)) _ _ _
set_option maxRecDepth 100000 in
theorem cd_g_X11_peaks_b8 {S : List Nat} (hS : ∀ k, k ∈ ([0] : List Nat) → k ∈ S) (T : AT) (s0 : Nat) : CD S (g_X11_peaks_b8 T s0) := by
  unfold g_X11_peaks_b8
  refine cd_oif ?_
  refine cd_elet (fun v3 => ?_)
  exact cd_some (hS _ (by decide))
set_option maxRecDepth 100000 in
theorem cd_g_X11_peaks {S : List Nat} (hS : ∀ k, k ∈ ([0, 1] : List Nat) → k ∈ S) (T : AT) (o : Nat) : CD S (g_X11_peaks T o) := by
  unfold g_X11_peaks
  refine cd_oif ?_
  refine cd_othr (cd_g_X11_needCamera (fun k h => hS k ((by decide : ∀ k, k ∈ ([0, 1] : List Nat) → k ∈ ([0, 1] : List Nat)) k h)) _ _) (fun r5 T3 => ?_)
  refine cd_oif ?_
  refine cd_obind2 (fun r9 T8 => ?_)
  refine cd_oif ?_
  exact cd_g_X11_peaks_b8 (fun k h => hS k ((by decide : ∀ k, k ∈ ([0] : List Nat) → k ∈ ([0, 1] : List Nat)) k h)) _ _
set_option maxRecDepth 100000 in
theorem cd_g_X11_peakAt_b8 {S : List Nat} (hS : ∀ k, k ∈ ([0, 2] : List Nat) → k ∈ S) (T : AT) (s0 : Nat) (l1 : Int32) : CD S (g_X11_peakAt_b8 T s0 l1) := by
  unfold g_X11_peakAt_b8
  refine cd_oif ?_
  refine cd_elet (fun v3 => ?_)
  refine cd_othr (cd_g_X11_needIndex (fun k h => hS k ((by decide : ∀ k, k ∈ ([0, 2] : List Nat) → k ∈ ([0, 2] : List Nat)) k h)) _ _ _) (fun r6 T4 => ?_)
  refine cd_oif ?_
  refine cd_obind2 (fun r11 T9 => ?_)
  exact cd_some (hS _ (by decide))
set_option maxRecDepth 100000 in
theorem cd_g_X11_peakAt {S : List Nat} (hS : ∀ k, k ∈ ([0, 1, 2] : List Nat) → k ∈ S) (T : AT) (o : Nat) (a0 : Int32) : CD S (g_X11_peakAt T o a0) := by
  unfold g_X11_peakAt
  refine cd_oif ?_
  refine cd_othr (cd_g_X11_needCamera (fun k h => hS k ((by decide : ∀ k, k ∈ ([0, 1] : List Nat) → k ∈ ([0, 1, 2] : List Nat)) k h)) _ _) (fun r5 T3 => ?_)
  refine cd_oif ?_
  refine cd_obind2 (fun r9 T8 => ?_)
  refine cd_oif ?_
  exact cd_g_X11_peakAt_b8 (fun k h => hS k ((by decide : ∀ k, k ∈ ([0, 2] : List Nat) → k ∈ ([0, 1, 2] : List Nat)) k h)) _ _ _
set_option maxRecDepth 100000 in
theorem cd_g_X11_isPeak_b13 {S : List Nat} (hS : ∀ k, k ∈ ([0] : List Nat) → k ∈ S) (T : AT) (s0 : Nat) (l0 : Nat) (l1 : Int32) : CD S (g_X11_isPeak_b13 T s0 l0 l1) := by
  unfold g_X11_isPeak_b13
  refine cd_oif ?_
  refine cd_obind (fun n3 => ?_)
  refine cd_oif ?_
  refine cd_obind (fun n5 => ?_)
  refine cd_oif ?_
  refine cd_obind2 (fun r9 T7 => ?_)
  refine cd_oif ?_
  exact cd_some (hS _ (by decide))
set_option maxRecDepth 100000 in
theorem cd_g_X11_isPeak {S : List Nat} (hS : ∀ k, k ∈ ([0, 1, 2] : List Nat) → k ∈ S) (T : AT) (o : Nat) (a0 : Int32) : CD S (g_X11_isPeak T o a0) := by
  unfold g_X11_isPeak
  refine cd_oif ?_
  refine cd_othr (cd_g_X11_needCamera (fun k h => hS k ((by decide : ∀ k, k ∈ ([0, 1] : List Nat) → k ∈ ([0, 1, 2] : List Nat)) k h)) _ _) (fun r5 T3 => ?_)
  refine cd_oif ?_
  refine cd_othr (cd_g_X11_needCell (fun k h => hS k ((by decide : ∀ k, k ∈ ([0, 2] : List Nat) → k ∈ ([0, 1, 2] : List Nat)) k h)) _ _ _) (fun r10 T8 => ?_)
  refine cd_oif ?_
  refine cd_obind2 (fun r14 T13 => ?_)
  refine cd_oif ?_
  exact cd_g_X11_isPeak_b13 (fun k h => hS k ((by decide : ∀ k, k ∈ ([0] : List Nat) → k ∈ ([0, 1, 2] : List Nat)) k h)) _ _ _ _
set_option maxRecDepth 100000 in
theorem cd_g_X11_zonePower_b49 {S : List Nat} (hS : ∀ k, k ∈ ([0] : List Nat) → k ∈ S) (T : AT) (l0 : Nat) : CD S (g_X11_zonePower_b49 T l0) := by
  unfold g_X11_zonePower_b49
  refine cd_oif ?_
  refine cd_obind (fun n3 => ?_)
  refine cd_oif ?_
  refine cd_obind2 (fun r7 T5 => ?_)
  exact cd_some (hS _ (by decide))
set_option maxRecDepth 100000 in
theorem cd_g_X11_zonePower_b22 {S : List Nat} (hS : ∀ k, k ∈ ([0] : List Nat) → k ∈ S) (T : AT) (s0 : Nat) (l0 : Nat) (l1 : Int32) : CD S (g_X11_zonePower_b22 T s0 l0 l1) := by
  unfold g_X11_zonePower_b22
  refine cd_oif ?_
  refine cd_obind (fun n3 => ?_)
  refine cd_oif ?_
  refine cd_obind (fun n5 => ?_)
  refine cd_oif ?_
  refine cd_obind (fun n7 => ?_)
  refine cd_oif ?_
  refine cd_oif ?_
  refine cd_obind (fun n10 => ?_)
  refine cd_oif ?_
  refine cd_obind (fun n12 => ?_)
  refine cd_oif ?_
  refine cd_obind (fun n14 => ?_)
  refine cd_oif ?_
  refine cd_obind (fun n16 => ?_)
  refine cd_oif ?_
  refine cd_obind (fun T18 => ?_)
  exact cd_g_X11_zonePower_b49 (fun k h => hS k ((by decide : ∀ k, k ∈ ([0] : List Nat) → k ∈ ([0] : List Nat)) k h)) _ _
set_option maxRecDepth 100000 in
theorem cd_g_X11_zonePower {S : List Nat} (hS : ∀ k, k ∈ ([0, 1, 2] : List Nat) → k ∈ S) (T : AT) (o : Nat) (a0 : Int32) : CD S (g_X11_zonePower T o a0) := by
  unfold g_X11_zonePower
  refine cd_oif ?_
  refine cd_othr (cd_g_X11_needCamera (fun k h => hS k ((by decide : ∀ k, k ∈ ([0, 1] : List Nat) → k ∈ ([0, 1, 2] : List Nat)) k h)) _ _) (fun r5 T3 => ?_)
  refine cd_oif ?_
  refine cd_obind (fun n8 => ?_)
  refine cd_oif ?_
  refine cd_obind (fun n10 => ?_)
  refine cd_oif ?_
  refine cd_elet (fun v12 => ?_)
  refine cd_othr (cd_g_X11_needIndex (fun k h => hS k ((by decide : ∀ k, k ∈ ([0, 2] : List Nat) → k ∈ ([0, 1, 2] : List Nat)) k h)) _ _ _) (fun r15 T13 => ?_)
  refine cd_oif ?_
  refine cd_obind2 (fun r19 T18 => ?_)
  refine cd_oif ?_
  exact cd_g_X11_zonePower_b22 (fun k h => hS k ((by decide : ∀ k, k ∈ ([0] : List Nat) → k ∈ ([0, 1, 2] : List Nat)) k h)) _ _ _ _
set_option maxRecDepth 100000 in
theorem cd_g_X11_zoneBest_b41 {S : List Nat} (hS : ∀ k, k ∈ ([0] : List Nat) → k ∈ S) (T : AT) (s0 : Nat) (s1 : Nat) (s2 : Nat) : CD S (g_X11_zoneBest_b41 T s0 s1 s2) := by
  unfold g_X11_zoneBest_b41
  refine cd_oif ?_
  refine cd_obind (fun n3 => ?_)
  refine cd_oif ?_
  refine cd_obind2 (fun r7 T5 => ?_)
  exact cd_some (hS _ (by decide))
set_option maxRecDepth 100000 in
theorem cd_g_X11_zoneBest {S : List Nat} (hS : ∀ k, k ∈ ([0, 1, 2] : List Nat) → k ∈ S) (T : AT) (o : Nat) (a0 : Int32) : CD S (g_X11_zoneBest T o a0) := by
  unfold g_X11_zoneBest
  refine cd_oif ?_
  refine cd_othr (cd_g_X11_needCamera (fun k h => hS k ((by decide : ∀ k, k ∈ ([0, 1] : List Nat) → k ∈ ([0, 1, 2] : List Nat)) k h)) _ _) (fun r5 T3 => ?_)
  refine cd_oif ?_
  refine cd_obind (fun n8 => ?_)
  refine cd_oif ?_
  refine cd_obind (fun n10 => ?_)
  refine cd_oif ?_
  refine cd_elet (fun v12 => ?_)
  refine cd_othr (cd_g_X11_needIndex (fun k h => hS k ((by decide : ∀ k, k ∈ ([0, 2] : List Nat) → k ∈ ([0, 1, 2] : List Nat)) k h)) _ _ _) (fun r15 T13 => ?_)
  refine cd_oif ?_
  refine cd_obind (fun n18 => ?_)
  refine cd_oif ?_
  refine cd_obind (fun n20 => ?_)
  refine cd_oif ?_
  refine cd_obind (fun n22 => ?_)
  refine cd_oif ?_
  refine cd_obind (fun n24 => ?_)
  refine cd_oif ?_
  refine cd_obind (fun n26 => ?_)
  refine cd_oif ?_
  refine cd_oif ?_
  refine cd_obind (fun n29 => ?_)
  refine cd_oif ?_
  refine cd_obind2 (fun r32 T31 => ?_)
  refine cd_oif ?_
  exact cd_g_X11_zoneBest_b41 (fun k h => hS k ((by decide : ∀ k, k ∈ ([0] : List Nat) → k ∈ ([0, 1, 2] : List Nat)) k h)) _ _ _ _
set_option maxRecDepth 100000 in
theorem cd_g_X11_contrast_b45 {S : List Nat} (hS : ∀ k, k ∈ ([0] : List Nat) → k ∈ S) (T : AT) (s0 : UInt32) : CD S (g_X11_contrast_b45 T s0) := by
  unfold g_X11_contrast_b45
  exact cd_some (hS _ (by decide))
set_option maxRecDepth 100000 in
theorem cd_g_X11_contrast_b8 {S : List Nat} (hS : ∀ k, k ∈ ([0] : List Nat) → k ∈ S) (T : AT) (s0 : Nat) (l0 : Nat) : CD S (g_X11_contrast_b8 T s0 l0) := by
  unfold g_X11_contrast_b8
  refine cd_oif ?_
  refine cd_obind (fun n3 => ?_)
  refine cd_oif ?_
  refine cd_obind (fun n5 => ?_)
  refine cd_oif ?_
  refine cd_obind2 (fun r9 T7 => ?_)
  refine cd_oif ?_
  refine cd_obind2 (fun r14 T12 => ?_)
  refine cd_ite ?_ ?_
  · exact cd_g_X11_contrast_b45 (fun k h => hS k ((by decide : ∀ k, k ∈ ([0] : List Nat) → k ∈ ([0] : List Nat)) k h)) _ _
  · refine cd_oif ?_
    refine cd_obind (fun n18 => ?_)
    refine cd_oif ?_
    refine cd_elet (fun v20 => ?_)
    refine cd_oif ?_
    refine cd_obind2 (fun r24 T22 => ?_)
    exact cd_g_X11_contrast_b45 (fun k h => hS k ((by decide : ∀ k, k ∈ ([0] : List Nat) → k ∈ ([0] : List Nat)) k h)) _ _
set_option maxRecDepth 100000 in
theorem cd_g_X11_contrast {S : List Nat} (hS : ∀ k, k ∈ ([0, 1] : List Nat) → k ∈ S) (T : AT) (o : Nat) : CD S (g_X11_contrast T o) := by
  unfold g_X11_contrast
  refine cd_oif ?_
  refine cd_othr (cd_g_X11_needCamera (fun k h => hS k ((by decide : ∀ k, k ∈ ([0, 1] : List Nat) → k ∈ ([0, 1] : List Nat)) k h)) _ _) (fun r5 T3 => ?_)
  refine cd_oif ?_
  refine cd_obind2 (fun r9 T8 => ?_)
  refine cd_oif ?_
  exact cd_g_X11_contrast_b8 (fun k h => hS k ((by decide : ∀ k, k ∈ ([0] : List Nat) → k ∈ ([0, 1] : List Nat)) k h)) _ _ _
set_option maxRecDepth 100000 in
theorem cd_g_X11_aliases_b59 {S : List Nat} (hS : ∀ k, k ∈ ([] : List Nat) → k ∈ S) {k29 : AT → Nat → Int32 → Int32 → Nat → Int32 → Int32 → Option (Nat × Int32 × AT)} (hk29 : ∀ (x0 : AT) (x1 : Nat) (x2 : Int32) (x3 : Int32) (x4 : Nat) (x5 : Int32) (x6 : Int32), CD S (k29 x0 x1 x2 x3 x4 x5 x6)) (T : AT) (l0 : Nat) (l1 : Int32) (l2 : Int32) (l3 : Nat) (l4 : Int32) (l5 : Int32) : CD S (g_X11_aliases_b59 k29 T l0 l1 l2 l3 l4 l5) := by
  unfold g_X11_aliases_b59
  refine cd_elet (fun v2 => ?_)
  exact hk29 _ _ _ _ _ _ _
set_option maxRecDepth 100000 in
theorem cd_g_X11_aliases_b29 {S : List Nat} (hS : ∀ k, k ∈ ([0] : List Nat) → k ∈ S) : ∀ (n : Nat) (T : AT) (l0 : Nat) (l1 : Int32) (l2 : Int32) (l3 : Nat) (l4 : Int32) (l5 : Int32), CD S (g_X11_aliases_b29 n T l0 l1 l2 l3 l4 l5)
  | 0, _, _, _, _, _, _, _ => cd_none
  | n + 1, T, l0, l1, l2, l3, l4, l5 => by
    have ih := cd_g_X11_aliases_b29 hS n
    unfold g_X11_aliases_b29
    refine cd_oif ?_
    refine cd_obind (fun n3 => ?_)
    refine cd_oif ?_
    refine cd_obind (fun n5 => ?_)
    refine cd_oif ?_
    refine cd_obind2 (fun r9 T7 => ?_)
    refine cd_ite ?_ ?_
    · exact cd_some (hS _ (by decide))
    · refine cd_oif ?_
      refine cd_obind2 (fun r15 T13 => ?_)
      refine cd_ite ?_ ?_
      · exact cd_g_X11_aliases_b59 (fun k h => hS k ((by decide : ∀ k, k ∈ ([] : List Nat) → k ∈ ([0] : List Nat)) k h)) ih _ _ _ _ _ _ _
      · refine cd_elet (fun v18 => ?_)
        exact cd_g_X11_aliases_b59 (fun k h => hS k ((by decide : ∀ k, k ∈ ([] : List Nat) → k ∈ ([0] : List Nat)) k h)) ih _ _ _ _ _ _ _
set_option maxRecDepth 100000 in
theorem cd_g_X11_aliases_b22 {S : List Nat} (hS : ∀ k, k ∈ ([0] : List Nat) → k ∈ S) (T : AT) (s0 : Nat) (l0 : Nat) (l1 : Int32) (l2 : Int32) : CD S (g_X11_aliases_b22 T s0 l0 l1 l2) := by
  unfold g_X11_aliases_b22
  exact cd_g_X11_aliases_b29 (fun k h => hS k ((by decide : ∀ k, k ∈ ([0] : List Nat) → k ∈ ([0] : List Nat)) k h)) _ _ _ _ _ _ _ _
set_option maxRecDepth 100000 in
theorem cd_g_X11_aliases {S : List Nat} (hS : ∀ k, k ∈ ([0, 1, 3] : List Nat) → k ∈ S) (T : AT) (o : Nat) (a0 : Int32) (a1 : Int32) : CD S (g_X11_aliases T o a0 a1) := by
  unfold g_X11_aliases
  refine cd_oif ?_
  refine cd_othr (cd_g_X11_needCamera (fun k h => hS k ((by decide : ∀ k, k ∈ ([0, 1] : List Nat) → k ∈ ([0, 1, 3] : List Nat)) k h)) _ _) (fun r5 T3 => ?_)
  refine cd_othr (cd_g_X11_needRange (fun k h => hS k ((by decide : ∀ k, k ∈ ([0, 3] : List Nat) → k ∈ ([0, 1, 3] : List Nat)) k h)) _ _ _ _) (fun r9 T7 => ?_)
  refine cd_othr (cd_g_X11_needRange (fun k h => hS k ((by decide : ∀ k, k ∈ ([0, 3] : List Nat) → k ∈ ([0, 1, 3] : List Nat)) k h)) _ _ _ _) (fun r13 T11 => ?_)
  refine cd_oif ?_
  refine cd_obind2 (fun r17 T16 => ?_)
  refine cd_oif ?_
  exact cd_g_X11_aliases_b22 (fun k h => hS k ((by decide : ∀ k, k ∈ ([0] : List Nat) → k ∈ ([0, 1, 3] : List Nat)) k h)) _ _ _ _ _
set_option maxRecDepth 100000 in
theorem cd_g_X11_blockBest_b47 {S : List Nat} (hS : ∀ k, k ∈ ([0] : List Nat) → k ∈ S) (T : AT) (s0 : Int32) : CD S (g_X11_blockBest_b47 T s0) := by
  unfold g_X11_blockBest_b47
  exact cd_some (hS _ (by decide))
set_option maxRecDepth 100000 in
theorem cd_g_X11_blockBest {S : List Nat} (hS : ∀ k, k ∈ ([0, 1, 3] : List Nat) → k ∈ S) (T : AT) (o : Nat) (a0 : Int32) (a1 : Int32) : CD S (g_X11_blockBest T o a0 a1) := by
  unfold g_X11_blockBest
  refine cd_oif ?_
  refine cd_othr (cd_g_X11_needCamera (fun k h => hS k ((by decide : ∀ k, k ∈ ([0, 1] : List Nat) → k ∈ ([0, 1, 3] : List Nat)) k h)) _ _) (fun r5 T3 => ?_)
  refine cd_oif ?_
  refine cd_obind (fun n8 => ?_)
  refine cd_oif ?_
  refine cd_elet (fun v10 => ?_)
  refine cd_elet (fun v11 => ?_)
  refine cd_othr (cd_g_X11_needRange (fun k h => hS k ((by decide : ∀ k, k ∈ ([0, 3] : List Nat) → k ∈ ([0, 1, 3] : List Nat)) k h)) _ _ _ _) (fun r14 T12 => ?_)
  refine cd_oif ?_
  refine cd_obind (fun n17 => ?_)
  refine cd_oif ?_
  refine cd_elet (fun v19 => ?_)
  refine cd_othr (cd_g_X11_needRange (fun k h => hS k ((by decide : ∀ k, k ∈ ([0, 3] : List Nat) → k ∈ ([0, 1, 3] : List Nat)) k h)) _ _ _ _) (fun r22 T20 => ?_)
  refine cd_oif ?_
  refine cd_obind (fun n25 => ?_)
  refine cd_oif ?_
  refine cd_obind (fun n27 => ?_)
  refine cd_oif ?_
  refine cd_obind (fun n29 => ?_)
  refine cd_oif ?_
  refine cd_obind2 (fun r32 T31 => ?_)
  exact cd_g_X11_blockBest_b47 (fun k h => hS k ((by decide : ∀ k, k ∈ ([0] : List Nat) → k ∈ ([0, 1, 3] : List Nat)) k h)) _ _
set_option maxRecDepth 100000 in
theorem cd_g_X11_path_b85 {S : List Nat} (hS : ∀ k, k ∈ ([] : List Nat) → k ∈ S) {k39 : AT → Nat → Int32 → Int32 → Int32 → Int32 → Option (Nat × Int32 × AT)} (hk39 : ∀ (x0 : AT) (x1 : Nat) (x2 : Int32) (x3 : Int32) (x4 : Int32) (x5 : Int32), CD S (k39 x0 x1 x2 x3 x4 x5)) (T : AT) (s0 : Int32) (s1 : Int32) (l0 : Nat) (l1 : Int32) (l4 : Int32) (l5 : Int32) : CD S (g_X11_path_b85 k39 T s0 s1 l0 l1 l4 l5) := by
  unfold g_X11_path_b85
  refine cd_elet (fun v2 => ?_)
  refine cd_elet (fun v3 => ?_)
  refine cd_elet (fun v4 => ?_)
  exact hk39 _ _ _ _ _ _
set_option maxRecDepth 100000 in
theorem cd_g_X11_path_b71 {S : List Nat} (hS : ∀ k, k ∈ ([] : List Nat) → k ∈ S) {k39 : AT → Nat → Int32 → Int32 → Int32 → Int32 → Option (Nat × Int32 × AT)} (hk39 : ∀ (x0 : AT) (x1 : Nat) (x2 : Int32) (x3 : Int32) (x4 : Int32) (x5 : Int32), CD S (k39 x0 x1 x2 x3 x4 x5)) (T : AT) (s0 : Int32) (l0 : Nat) (l1 : Int32) (l2 : Int32) (l3 : Int32) (l4 : Int32) : CD S (g_X11_path_b71 k39 T s0 l0 l1 l2 l3 l4) := by
  unfold g_X11_path_b71
  refine cd_ite ?_ ?_
  · exact cd_g_X11_path_b85 (fun k h => hS k ((by decide : ∀ k, k ∈ ([] : List Nat) → k ∈ ([] : List Nat)) k h)) hk39 _ _ _ _ _ _ _
  · exact cd_g_X11_path_b85 (fun k h => hS k ((by decide : ∀ k, k ∈ ([] : List Nat) → k ∈ ([] : List Nat)) k h)) hk39 _ _ _ _ _ _ _
set_option maxRecDepth 100000 in
theorem cd_g_X11_path_b39 {S : List Nat} (hS : ∀ k, k ∈ ([0] : List Nat) → k ∈ S) : ∀ (n : Nat) (T : AT) (l0 : Nat) (l1 : Int32) (l2 : Int32) (l3 : Int32) (l4 : Int32), CD S (g_X11_path_b39 n T l0 l1 l2 l3 l4)
  | 0, _, _, _, _, _, _ => cd_none
  | n + 1, T, l0, l1, l2, l3, l4 => by
    have ih := cd_g_X11_path_b39 hS n
    unfold g_X11_path_b39
    refine cd_elet (fun v2 => ?_)
    refine cd_oif ?_
    refine cd_obind (fun n4 => ?_)
    refine cd_oif ?_
    refine cd_elet (fun v6 => ?_)
    refine cd_ite ?_ ?_
    · exact cd_some (hS _ (by decide))
    · refine cd_oif ?_
      refine cd_obind (fun n9 => ?_)
      refine cd_oif ?_
      refine cd_obind (fun n11 => ?_)
      refine cd_oif ?_
      refine cd_obind (fun n13 => ?_)
      refine cd_oif ?_
      refine cd_obind2 (fun r16 T15 => ?_)
      exact cd_g_X11_path_b71 (fun k h => hS k ((by decide : ∀ k, k ∈ ([] : List Nat) → k ∈ ([0] : List Nat)) k h)) ih _ _ _ _ _ _ _
set_option maxRecDepth 100000 in
theorem cd_g_X11_path_b35 {S : List Nat} (hS : ∀ k, k ∈ ([0] : List Nat) → k ∈ S) (T : AT) (s0 : Int32) (l0 : Nat) (l1 : Int32) (l2 : Int32) : CD S (g_X11_path_b35 T s0 l0 l1 l2) := by
  unfold g_X11_path_b35
  exact cd_g_X11_path_b39 (fun k h => hS k ((by decide : ∀ k, k ∈ ([0] : List Nat) → k ∈ ([0] : List Nat)) k h)) _ _ _ _ _ _ _
set_option maxRecDepth 100000 in
theorem cd_g_X11_path {S : List Nat} (hS : ∀ k, k ∈ ([0, 1, 3] : List Nat) → k ∈ S) (T : AT) (o : Nat) (a0 : Int32) : CD S (g_X11_path T o a0) := by
  unfold g_X11_path
  refine cd_oif ?_
  refine cd_othr (cd_g_X11_needCamera (fun k h => hS k ((by decide : ∀ k, k ∈ ([0, 1] : List Nat) → k ∈ ([0, 1, 3] : List Nat)) k h)) _ _) (fun r5 T3 => ?_)
  refine cd_oif ?_
  refine cd_obind (fun n8 => ?_)
  refine cd_oif ?_
  refine cd_elet (fun v10 => ?_)
  refine cd_othr (cd_g_X11_needRange (fun k h => hS k ((by decide : ∀ k, k ∈ ([0, 3] : List Nat) → k ∈ ([0, 1, 3] : List Nat)) k h)) _ _ _ _) (fun r13 T11 => ?_)
  refine cd_oif ?_
  refine cd_obind (fun n16 => ?_)
  refine cd_oif ?_
  refine cd_obind (fun n18 => ?_)
  refine cd_oif ?_
  refine cd_obind (fun n20 => ?_)
  refine cd_oif ?_
  refine cd_obind2 (fun r23 T22 => ?_)
  exact cd_g_X11_path_b35 (fun k h => hS k ((by decide : ∀ k, k ∈ ([0] : List Nat) → k ∈ ([0, 1, 3] : List Nat)) k h)) _ _ _ _ _
set_option maxRecDepth 100000 in
theorem cd_g_X11_trackScore_b32 {S : List Nat} (hS : ∀ k, k ∈ ([0] : List Nat) → k ∈ S) (T : AT) (l0 : Nat) : CD S (g_X11_trackScore_b32 T l0) := by
  unfold g_X11_trackScore_b32
  refine cd_oif ?_
  refine cd_obind (fun n3 => ?_)
  refine cd_oif ?_
  refine cd_obind (fun n5 => ?_)
  refine cd_oif ?_
  refine cd_obind (fun n7 => ?_)
  refine cd_oif ?_
  refine cd_obind (fun n9 => ?_)
  refine cd_oif ?_
  refine cd_obind (fun n11 => ?_)
  refine cd_oif ?_
  refine cd_obind2 (fun r15 T13 => ?_)
  refine cd_oif ?_
  refine cd_obind2 (fun r20 T18 => ?_)
  exact cd_some (hS _ (by decide))
set_option maxRecDepth 100000 in
theorem cd_g_X11_trackScore {S : List Nat} (hS : ∀ k, k ∈ ([0, 1, 3] : List Nat) → k ∈ S) (T : AT) (o : Nat) (a0 : Int32) : CD S (g_X11_trackScore T o a0) := by
  unfold g_X11_trackScore
  refine cd_oif ?_
  refine cd_othr (cd_g_X11_needCamera (fun k h => hS k ((by decide : ∀ k, k ∈ ([0, 1] : List Nat) → k ∈ ([0, 1, 3] : List Nat)) k h)) _ _) (fun r5 T3 => ?_)
  refine cd_oif ?_
  refine cd_obind (fun n8 => ?_)
  refine cd_oif ?_
  refine cd_elet (fun v10 => ?_)
  refine cd_othr (cd_g_X11_needRange (fun k h => hS k ((by decide : ∀ k, k ∈ ([0, 3] : List Nat) → k ∈ ([0, 1, 3] : List Nat)) k h)) _ _ _ _) (fun r13 T11 => ?_)
  refine cd_oif ?_
  refine cd_obind (fun n16 => ?_)
  refine cd_oif ?_
  refine cd_obind (fun n18 => ?_)
  refine cd_oif ?_
  refine cd_obind (fun n20 => ?_)
  refine cd_oif ?_
  refine cd_obind (fun T22 => ?_)
  exact cd_g_X11_trackScore_b32 (fun k h => hS k ((by decide : ∀ k, k ∈ ([0] : List Nat) → k ∈ ([0, 1, 3] : List Nat)) k h)) _ _
set_option maxRecDepth 100000 in
theorem cd_g_X11_level_b14 {S : List Nat} (hS : ∀ k, k ∈ ([0] : List Nat) → k ∈ S) (T : AT) (l0 : Nat) (l1 : Int32) : CD S (g_X11_level_b14 T l0 l1) := by
  unfold g_X11_level_b14
  refine cd_oif ?_
  refine cd_obind (fun n3 => ?_)
  refine cd_oif ?_
  refine cd_obind2 (fun r7 T5 => ?_)
  exact cd_some (hS _ (by decide))
set_option maxRecDepth 100000 in
theorem cd_g_X11_level {S : List Nat} (hS : ∀ k, k ∈ ([0, 1, 2] : List Nat) → k ∈ S) (T : AT) (o : Nat) (a0 : Int32) : CD S (g_X11_level T o a0) := by
  unfold g_X11_level
  refine cd_oif ?_
  refine cd_othr (cd_g_X11_needCamera (fun k h => hS k ((by decide : ∀ k, k ∈ ([0, 1] : List Nat) → k ∈ ([0, 1, 2] : List Nat)) k h)) _ _) (fun r5 T3 => ?_)
  refine cd_oif ?_
  refine cd_othr (cd_g_X11_needMic (fun k h => hS k ((by decide : ∀ k, k ∈ ([0, 2] : List Nat) → k ∈ ([0, 1, 2] : List Nat)) k h)) _ _ _) (fun r10 T8 => ?_)
  refine cd_oif ?_
  refine cd_obind (fun T13 => ?_)
  exact cd_g_X11_level_b14 (fun k h => hS k ((by decide : ∀ k, k ∈ ([0] : List Nat) → k ∈ ([0, 1, 2] : List Nat)) k h)) _ _ _
set_option maxRecDepth 100000 in
theorem cd_g_X11_loudest_b33 {S : List Nat} (hS : ∀ k, k ∈ ([] : List Nat) → k ∈ S) {k17 : AT → Nat → Int32 → Int32 → Option (Nat × Int32 × AT)} (hk17 : ∀ (x0 : AT) (x1 : Nat) (x2 : Int32) (x3 : Int32), CD S (k17 x0 x1 x2 x3)) (T : AT) (l0 : Nat) (l1 : Int32) (l2 : Int32) : CD S (g_X11_loudest_b33 k17 T l0 l1 l2) := by
  unfold g_X11_loudest_b33
  refine cd_elet (fun v2 => ?_)
  exact hk17 _ _ _ _
set_option maxRecDepth 100000 in
theorem cd_g_X11_loudest_b17 {S : List Nat} (hS : ∀ k, k ∈ ([0] : List Nat) → k ∈ S) : ∀ (n : Nat) (T : AT) (l0 : Nat) (l1 : Int32) (l2 : Int32), CD S (g_X11_loudest_b17 n T l0 l1 l2)
  | 0, _, _, _, _ => cd_none
  | n + 1, T, l0, l1, l2 => by
    have ih := cd_g_X11_loudest_b17 hS n
    unfold g_X11_loudest_b17
    refine cd_oif ?_
    refine cd_obind (fun n3 => ?_)
    refine cd_oif ?_
    refine cd_elet (fun v5 => ?_)
    refine cd_ite ?_ ?_
    · refine cd_oif ?_
      refine cd_obind (fun n8 => ?_)
      refine cd_oif ?_
      refine cd_obind (fun n10 => ?_)
      refine cd_oif ?_
      refine cd_elet (fun v12 => ?_)
      refine cd_oif ?_
      refine cd_obind2 (fun r16 T14 => ?_)
      exact cd_some (hS _ (by decide))
    · refine cd_oif ?_
      refine cd_obind (fun T19 => ?_)
      exact cd_g_X11_loudest_b33 (fun k h => hS k ((by decide : ∀ k, k ∈ ([] : List Nat) → k ∈ ([0] : List Nat)) k h)) ih _ _ _ _
set_option maxRecDepth 100000 in
theorem cd_g_X11_loudest {S : List Nat} (hS : ∀ k, k ∈ ([0, 1, 2] : List Nat) → k ∈ S) (T : AT) (o : Nat) (a0 : Int32) : CD S (g_X11_loudest T o a0) := by
  unfold g_X11_loudest
  refine cd_oif ?_
  refine cd_othr (cd_g_X11_needCamera (fun k h => hS k ((by decide : ∀ k, k ∈ ([0, 1] : List Nat) → k ∈ ([0, 1, 2] : List Nat)) k h)) _ _) (fun r5 T3 => ?_)
  refine cd_oif ?_
  refine cd_obind (fun n8 => ?_)
  refine cd_oif ?_
  refine cd_elet (fun v10 => ?_)
  refine cd_othr (cd_g_X11_needIndex (fun k h => hS k ((by decide : ∀ k, k ∈ ([0, 2] : List Nat) → k ∈ ([0, 1, 2] : List Nat)) k h)) _ _ _) (fun r13 T11 => ?_)
  exact cd_g_X11_loudest_b17 (fun k h => hS k ((by decide : ∀ k, k ∈ ([0] : List Nat) → k ∈ ([0, 1, 2] : List Nat)) k h)) _ _ _ _ _
set_option maxRecDepth 100000 in
theorem cd_g_X11_writeMap_b66 {S : List Nat} (hS : ∀ k, k ∈ ([] : List Nat) → k ∈ S) {k16 : AT → Nat → Nat → Int32 → Option (Nat × Int32 × AT)} (hk16 : ∀ (x0 : AT) (x1 : Nat) (x2 : Nat) (x3 : Int32), CD S (k16 x0 x1 x2 x3)) (T : AT) (s0 : Int32) (s1 : Int32) (s2 : Nat) (l0 : Nat) (l1 : Nat) (l2 : Int32) : CD S (g_X11_writeMap_b66 k16 T s0 s1 s2 l0 l1 l2) := by
  unfold g_X11_writeMap_b66
  refine cd_elet (fun v2 => ?_)
  refine cd_oif ?_
  refine cd_obind (fun T4 => ?_)
  refine cd_elet (fun v6 => ?_)
  exact hk16 _ _ _ _
set_option maxRecDepth 100000 in
theorem cd_g_X11_writeMap_b54 {S : List Nat} (hS : ∀ k, k ∈ ([] : List Nat) → k ∈ S) {k16 : AT → Nat → Nat → Int32 → Option (Nat × Int32 × AT)} (hk16 : ∀ (x0 : AT) (x1 : Nat) (x2 : Nat) (x3 : Int32), CD S (k16 x0 x1 x2 x3)) (T : AT) (l0 : Nat) (l1 : Nat) (l2 : Int32) : CD S (g_X11_writeMap_b54 k16 T l0 l1 l2) := by
  unfold g_X11_writeMap_b54
  refine cd_oif ?_
  refine cd_obind (fun n3 => ?_)
  refine cd_oif ?_
  refine cd_obind2 (fun r6 T5 => ?_)
  exact cd_g_X11_writeMap_b66 (fun k h => hS k ((by decide : ∀ k, k ∈ ([] : List Nat) → k ∈ ([] : List Nat)) k h)) hk16 _ _ _ _ _ _ _
set_option maxRecDepth 100000 in
theorem cd_g_X11_writeMap_b16 {S : List Nat} (hS : ∀ k, k ∈ ([0] : List Nat) → k ∈ S) : ∀ (n : Nat) (T : AT) (l0 : Nat) (l1 : Nat) (l2 : Int32), CD S (g_X11_writeMap_b16 n T l0 l1 l2)
  | 0, _, _, _, _ => cd_none
  | n + 1, T, l0, l1, l2 => by
    have ih := cd_g_X11_writeMap_b16 hS n
    unfold g_X11_writeMap_b16
    refine cd_oif ?_
    refine cd_obind (fun n3 => ?_)
    refine cd_oif ?_
    refine cd_obind (fun n5 => ?_)
    refine cd_oif ?_
    refine cd_obind2 (fun r9 T7 => ?_)
    refine cd_ite ?_ ?_
    · refine cd_oif ?_
      refine cd_elet (fun v13 => ?_)
      exact cd_some (hS _ (by decide))
    · refine cd_ite ?_ ?_
      · exact cd_g_X11_writeMap_b54 (fun k h => hS k ((by decide : ∀ k, k ∈ ([] : List Nat) → k ∈ ([0] : List Nat)) k h)) ih _ _ _ _
      · refine cd_oif ?_
        refine cd_obind (fun n16 => ?_)
        refine cd_oif ?_
        refine cd_obind (fun n18 => ?_)
        refine cd_oif ?_
        refine cd_obind2 (fun r22 T20 => ?_)
        refine cd_ite ?_ ?_
        · refine cd_oif ?_
          refine cd_obind (fun T26 => ?_)
          exact cd_g_X11_writeMap_b54 (fun k h => hS k ((by decide : ∀ k, k ∈ ([] : List Nat) → k ∈ ([0] : List Nat)) k h)) ih _ _ _ _
        · exact cd_g_X11_writeMap_b54 (fun k h => hS k ((by decide : ∀ k, k ∈ ([] : List Nat) → k ∈ ([0] : List Nat)) k h)) ih _ _ _ _
set_option maxRecDepth 100000 in
theorem cd_g_X11_writeMap_b8 {S : List Nat} (hS : ∀ k, k ∈ ([0] : List Nat) → k ∈ S) (T : AT) (s0 : Nat) (l0 : Nat) : CD S (g_X11_writeMap_b8 T s0 l0) := by
  unfold g_X11_writeMap_b8
  refine cd_oif ?_
  refine cd_elet (fun T3 => ?_)
  exact cd_g_X11_writeMap_b16 (fun k h => hS k ((by decide : ∀ k, k ∈ ([0] : List Nat) → k ∈ ([0] : List Nat)) k h)) _ _ _ _ _
set_option maxRecDepth 100000 in
theorem cd_g_X11_writeMap {S : List Nat} (hS : ∀ k, k ∈ ([0, 1] : List Nat) → k ∈ S) (T : AT) (o : Nat) : CD S (g_X11_writeMap T o) := by
  unfold g_X11_writeMap
  refine cd_oif ?_
  refine cd_othr (cd_g_X11_needCamera (fun k h => hS k ((by decide : ∀ k, k ∈ ([0, 1] : List Nat) → k ∈ ([0, 1] : List Nat)) k h)) _ _) (fun r5 T3 => ?_)
  refine cd_oif ?_
  refine cd_obind2 (fun r9 T8 => ?_)
  refine cd_oif ?_
  exact cd_g_X11_writeMap_b8 (fun k h => hS k ((by decide : ∀ k, k ∈ ([0] : List Nat) → k ∈ ([0, 1] : List Nat)) k h)) _ _ _
set_option maxRecDepth 100000 in
theorem cd_g_X11_mapByte {S : List Nat} (hS : ∀ k, k ∈ ([0, 2] : List Nat) → k ∈ S) (T : AT) (o : Nat) (a0 : Int32) : CD S (g_X11_mapByte T o a0) := by
  unfold g_X11_mapByte
  refine cd_oif ?_
  refine cd_elet (fun v3 => ?_)
  refine cd_othr (cd_g_X11_needIndex (fun k h => hS k ((by decide : ∀ k, k ∈ ([0, 2] : List Nat) → k ∈ ([0, 2] : List Nat)) k h)) _ _ _) (fun r6 T4 => ?_)
  refine cd_oif ?_
  refine cd_obind (fun n9 => ?_)
  refine cd_oif ?_
  refine cd_oif ?_
  refine cd_elet (fun v12 => ?_)
  exact cd_some (hS _ (by decide))
set_option maxRecDepth 100000 in
theorem cd_g_X11_bestWithout_b34 {S : List Nat} (hS : ∀ k, k ∈ ([0] : List Nat) → k ∈ S) (T : AT) (s0 : Int32) : CD S (g_X11_bestWithout_b34 T s0) := by
  unfold g_X11_bestWithout_b34
  exact cd_some (hS _ (by decide))
set_option maxRecDepth 100000 in
theorem cd_g_X11_bestWithout_b20 {S : List Nat} (hS : ∀ k, k ∈ ([0] : List Nat) → k ∈ S) (T : AT) (l0 : Nat) (l1 : Int32) : CD S (g_X11_bestWithout_b20 T l0 l1) := by
  unfold g_X11_bestWithout_b20
  refine cd_oif ?_
  refine cd_obind (fun n3 => ?_)
  refine cd_oif ?_
  refine cd_obind (fun n5 => ?_)
  refine cd_oif ?_
  refine cd_oif ?_
  refine cd_elet (fun T8 => ?_)
  refine cd_oif ?_
  refine cd_obind2 (fun r11 T10 => ?_)
  exact cd_g_X11_bestWithout_b34 (fun k h => hS k ((by decide : ∀ k, k ∈ ([0] : List Nat) → k ∈ ([0] : List Nat)) k h)) _ _
set_option maxRecDepth 100000 in
theorem cd_g_X11_bestWithout {S : List Nat} (hS : ∀ k, k ∈ ([0, 1, 2] : List Nat) → k ∈ S) (T : AT) (o : Nat) (a0 : Int32) : CD S (g_X11_bestWithout T o a0) := by
  unfold g_X11_bestWithout
  refine cd_oif ?_
  refine cd_othr (cd_g_X11_needCamera (fun k h => hS k ((by decide : ∀ k, k ∈ ([0, 1] : List Nat) → k ∈ ([0, 1, 2] : List Nat)) k h)) _ _) (fun r5 T3 => ?_)
  refine cd_oif ?_
  refine cd_othr (cd_g_X11_needMic (fun k h => hS k ((by decide : ∀ k, k ∈ ([0, 2] : List Nat) → k ∈ ([0, 1, 2] : List Nat)) k h)) _ _ _) (fun r10 T8 => ?_)
  refine cd_oif ?_
  refine cd_obind (fun n13 => ?_)
  refine cd_oif ?_
  refine cd_obind (fun n15 => ?_)
  refine cd_oif ?_
  refine cd_obind (fun T17 => ?_)
  exact cd_g_X11_bestWithout_b20 (fun k h => hS k ((by decide : ∀ k, k ∈ ([0] : List Nat) → k ∈ ([0, 1, 2] : List Nat)) k h)) _ _ _
set_option maxRecDepth 100000 in
theorem cd_g_X11_bestIfOff_b49 {S : List Nat} (hS : ∀ k, k ∈ ([0] : List Nat) → k ∈ S) (T : AT) (s0 : Int32) : CD S (g_X11_bestIfOff_b49 T s0) := by
  unfold g_X11_bestIfOff_b49
  exact cd_some (hS _ (by decide))
set_option maxRecDepth 100000 in
theorem cd_g_X11_bestIfOff_b45 {S : List Nat} (hS : ∀ k, k ∈ ([0] : List Nat) → k ∈ S) (T : AT) (l0 : Nat) : CD S (g_X11_bestIfOff_b45 T l0) := by
  unfold g_X11_bestIfOff_b45
  refine cd_oif ?_
  refine cd_obind2 (fun r4 T3 => ?_)
  exact cd_g_X11_bestIfOff_b49 (fun k h => hS k ((by decide : ∀ k, k ∈ ([0] : List Nat) → k ∈ ([0] : List Nat)) k h)) _ _
set_option maxRecDepth 100000 in
theorem cd_g_X11_bestIfOff_b20 {S : List Nat} (hS : ∀ k, k ∈ ([0] : List Nat) → k ∈ S) (T : AT) (l0 : Nat) (l1 : Int32) : CD S (g_X11_bestIfOff_b20 T l0 l1) := by
  unfold g_X11_bestIfOff_b20
  refine cd_oif ?_
  refine cd_obind (fun n3 => ?_)
  refine cd_oif ?_
  refine cd_obind (fun n5 => ?_)
  refine cd_oif ?_
  refine cd_oif ?_
  refine cd_elet (fun T8 => ?_)
  refine cd_oif ?_
  refine cd_obind (fun n10 => ?_)
  refine cd_oif ?_
  refine cd_obind (fun n12 => ?_)
  refine cd_oif ?_
  refine cd_obind (fun n14 => ?_)
  refine cd_oif ?_
  refine cd_obind (fun T16 => ?_)
  exact cd_g_X11_bestIfOff_b45 (fun k h => hS k ((by decide : ∀ k, k ∈ ([0] : List Nat) → k ∈ ([0] : List Nat)) k h)) _ _
set_option maxRecDepth 100000 in
theorem cd_g_X11_bestIfOff {S : List Nat} (hS : ∀ k, k ∈ ([0, 1, 2] : List Nat) → k ∈ S) (T : AT) (o : Nat) (a0 : Int32) : CD S (g_X11_bestIfOff T o a0) := by
  unfold g_X11_bestIfOff
  refine cd_oif ?_
  refine cd_othr (cd_g_X11_needCamera (fun k h => hS k ((by decide : ∀ k, k ∈ ([0, 1] : List Nat) → k ∈ ([0, 1, 2] : List Nat)) k h)) _ _) (fun r5 T3 => ?_)
  refine cd_oif ?_
  refine cd_othr (cd_g_X11_needSource (fun k h => hS k ((by decide : ∀ k, k ∈ ([0, 2] : List Nat) → k ∈ ([0, 1, 2] : List Nat)) k h)) _ _ _) (fun r10 T8 => ?_)
  refine cd_oif ?_
  refine cd_obind (fun n13 => ?_)
  refine cd_oif ?_
  refine cd_obind (fun n15 => ?_)
  refine cd_oif ?_
  refine cd_obind (fun T17 => ?_)
  exact cd_g_X11_bestIfOff_b20 (fun k h => hS k ((by decide : ∀ k, k ∈ ([0] : List Nat) → k ∈ ([0, 1, 2] : List Nat)) k h)) _ _ _
set_option maxRecDepth 100000 in
theorem cd_g_X11_mute_b23 {S : List Nat} (hS : ∀ k, k ∈ ([0] : List Nat) → k ∈ S) (T : AT) (l0 : Nat) (l1 : Int32) (l2 : Int32) (l3 : Int32) : CD S (g_X11_mute_b23 T l0 l1 l2 l3) := by
  unfold g_X11_mute_b23
  refine cd_oif ?_
  refine cd_obind (fun n3 => ?_)
  refine cd_oif ?_
  refine cd_obind (fun n5 => ?_)
  refine cd_oif ?_
  refine cd_oif ?_
  refine cd_oif ?_
  refine cd_elet (fun T8 => ?_)
  refine cd_oif ?_
  exact cd_some (hS _ (by decide))
set_option maxRecDepth 100000 in
theorem cd_g_X11_mute {S : List Nat} (hS : ∀ k, k ∈ ([0, 1, 2] : List Nat) → k ∈ S) (T : AT) (o : Nat) (a0 : Int32) (a1 : Int32) : CD S (g_X11_mute T o a0 a1) := by
  unfold g_X11_mute
  refine cd_oif ?_
  refine cd_othr (cd_g_X11_needCamera (fun k h => hS k ((by decide : ∀ k, k ∈ ([0, 1] : List Nat) → k ∈ ([0, 1, 2] : List Nat)) k h)) _ _) (fun r5 T3 => ?_)
  refine cd_oif ?_
  refine cd_othr (cd_g_X11_needMic (fun k h => hS k ((by decide : ∀ k, k ∈ ([0, 2] : List Nat) → k ∈ ([0, 1, 2] : List Nat)) k h)) _ _ _) (fun r10 T8 => ?_)
  refine cd_oif ?_
  refine cd_obind (fun n13 => ?_)
  refine cd_oif ?_
  refine cd_obind (fun n15 => ?_)
  refine cd_oif ?_
  refine cd_oif ?_
  refine cd_elet (fun v18 => ?_)
  refine cd_oif ?_
  refine cd_obind (fun T20 => ?_)
  exact cd_g_X11_mute_b23 (fun k h => hS k ((by decide : ∀ k, k ∈ ([0] : List Nat) → k ∈ ([0, 1, 2] : List Nat)) k h)) _ _ _ _ _
set_option maxRecDepth 100000 in
theorem cd_g_X11_setOn_b48 {S : List Nat} (hS : ∀ k, k ∈ ([0] : List Nat) → k ∈ S) (T : AT) (l3 : Int32) : CD S (g_X11_setOn_b48 T l3) := by
  unfold g_X11_setOn_b48
  refine cd_oif ?_
  exact cd_some (hS _ (by decide))
set_option maxRecDepth 100000 in
theorem cd_g_X11_setOn_b23 {S : List Nat} (hS : ∀ k, k ∈ ([0] : List Nat) → k ∈ S) (T : AT) (l0 : Nat) (l1 : Int32) (l2 : Int32) (l3 : Int32) : CD S (g_X11_setOn_b23 T l0 l1 l2 l3) := by
  unfold g_X11_setOn_b23
  refine cd_oif ?_
  refine cd_obind (fun n3 => ?_)
  refine cd_oif ?_
  refine cd_obind (fun n5 => ?_)
  refine cd_oif ?_
  refine cd_oif ?_
  refine cd_oif ?_
  refine cd_elet (fun T8 => ?_)
  refine cd_oif ?_
  refine cd_obind (fun n10 => ?_)
  refine cd_oif ?_
  refine cd_obind (fun n12 => ?_)
  refine cd_oif ?_
  refine cd_obind (fun n14 => ?_)
  refine cd_oif ?_
  refine cd_obind (fun T16 => ?_)
  exact cd_g_X11_setOn_b48 (fun k h => hS k ((by decide : ∀ k, k ∈ ([0] : List Nat) → k ∈ ([0] : List Nat)) k h)) _ _
set_option maxRecDepth 100000 in
theorem cd_g_X11_setOn {S : List Nat} (hS : ∀ k, k ∈ ([0, 1, 2] : List Nat) → k ∈ S) (T : AT) (o : Nat) (a0 : Int32) (a1 : Int32) : CD S (g_X11_setOn T o a0 a1) := by
  unfold g_X11_setOn
  refine cd_oif ?_
  refine cd_othr (cd_g_X11_needCamera (fun k h => hS k ((by decide : ∀ k, k ∈ ([0, 1] : List Nat) → k ∈ ([0, 1, 2] : List Nat)) k h)) _ _) (fun r5 T3 => ?_)
  refine cd_oif ?_
  refine cd_othr (cd_g_X11_needSource (fun k h => hS k ((by decide : ∀ k, k ∈ ([0, 2] : List Nat) → k ∈ ([0, 1, 2] : List Nat)) k h)) _ _ _) (fun r10 T8 => ?_)
  refine cd_oif ?_
  refine cd_obind (fun n13 => ?_)
  refine cd_oif ?_
  refine cd_obind (fun n15 => ?_)
  refine cd_oif ?_
  refine cd_oif ?_
  refine cd_elet (fun v18 => ?_)
  refine cd_oif ?_
  refine cd_obind (fun T20 => ?_)
  exact cd_g_X11_setOn_b23 (fun k h => hS k ((by decide : ∀ k, k ∈ ([0] : List Nat) → k ∈ ([0, 1, 2] : List Nat)) k h)) _ _ _ _ _
set_option maxRecDepth 100000 in
theorem cd_g_X11_clean_b58 {S : List Nat} (hS : ∀ k, k ∈ ([0] : List Nat) → k ∈ S) (T : AT) (l2 : Int32) : CD S (g_X11_clean_b58 T l2) := by
  unfold g_X11_clean_b58
  exact cd_some (hS _ (by decide))
set_option maxRecDepth 100000 in
theorem cd_g_X11_clean_b41 {S : List Nat} (hS : ∀ k, k ∈ ([0] : List Nat) → k ∈ S) (T : AT) (l0 : Nat) (l1 : Int32) (l2 : Int32) : CD S (g_X11_clean_b41 T l0 l1 l2) := by
  unfold g_X11_clean_b41
  refine cd_oif ?_
  refine cd_obind (fun n3 => ?_)
  refine cd_oif ?_
  refine cd_obind (fun n5 => ?_)
  refine cd_oif ?_
  refine cd_obind (fun n7 => ?_)
  refine cd_oif ?_
  refine cd_oif ?_
  refine cd_obind (fun n10 => ?_)
  refine cd_oif ?_
  refine cd_obind (fun T12 => ?_)
  exact cd_g_X11_clean_b58 (fun k h => hS k ((by decide : ∀ k, k ∈ ([0] : List Nat) → k ∈ ([0] : List Nat)) k h)) _ _
set_option maxRecDepth 100000 in
theorem cd_g_X11_clean_b33 {S : List Nat} (hS : ∀ k, k ∈ ([0] : List Nat) → k ∈ S) (T : AT) (s0 : Nat) (l0 : Nat) (l1 : Int32) : CD S (g_X11_clean_b33 T s0 l0 l1) := by
  unfold g_X11_clean_b33
  refine cd_oif ?_
  refine cd_elet (fun v3 => ?_)
  refine cd_oif ?_
  refine cd_obind (fun T5 => ?_)
  exact cd_g_X11_clean_b41 (fun k h => hS k ((by decide : ∀ k, k ∈ ([0] : List Nat) → k ∈ ([0] : List Nat)) k h)) _ _ _ _
set_option maxRecDepth 100000 in
theorem cd_g_X11_clean {S : List Nat} (hS : ∀ k, k ∈ ([0, 1, 3] : List Nat) → k ∈ S) (T : AT) (o : Nat) (a0 : Int32) : CD S (g_X11_clean T o a0) := by
  unfold g_X11_clean
  refine cd_oif ?_
  refine cd_othr (cd_g_X11_needCamera (fun k h => hS k ((by decide : ∀ k, k ∈ ([0, 1] : List Nat) → k ∈ ([0, 1, 3] : List Nat)) k h)) _ _) (fun r5 T3 => ?_)
  refine cd_oif ?_
  refine cd_obind (fun n8 => ?_)
  refine cd_oif ?_
  refine cd_obind2 (fun r12 T10 => ?_)
  refine cd_ite ?_ ?_
  · exact cd_some (hS _ (by decide))
  · refine cd_othr (cd_g_X11_needRange (fun k h => hS k ((by decide : ∀ k, k ∈ ([0, 3] : List Nat) → k ∈ ([0, 1, 3] : List Nat)) k h)) _ _ _ _) (fun r17 T15 => ?_)
    refine cd_oif ?_
    refine cd_obind2 (fun r21 T20 => ?_)
    refine cd_oif ?_
    exact cd_g_X11_clean_b33 (fun k h => hS k ((by decide : ∀ k, k ∈ ([0] : List Nat) → k ∈ ([0, 1, 3] : List Nat)) k h)) _ _ _ _
set_option maxRecDepth 100000 in
theorem cd_g_X11_cleaned {S : List Nat} (hS : ∀ k, k ∈ ([0, 1] : List Nat) → k ∈ S) (T : AT) (o : Nat) : CD S (g_X11_cleaned T o) := by
  unfold g_X11_cleaned
  refine cd_oif ?_
  refine cd_othr (cd_g_X11_needCamera (fun k h => hS k ((by decide : ∀ k, k ∈ ([0, 1] : List Nat) → k ∈ ([0, 1] : List Nat)) k h)) _ _) (fun r5 T3 => ?_)
  refine cd_oif ?_
  refine cd_obind (fun n8 => ?_)
  refine cd_oif ?_
  refine cd_elet (fun v10 => ?_)
  exact cd_some (hS _ (by decide))
set_option maxRecDepth 100000 in
theorem cd_g_X11_undo_b31 {S : List Nat} (hS : ∀ k, k ∈ ([0] : List Nat) → k ∈ S) (T : AT) (l0 : Nat) : CD S (g_X11_undo_b31 T l0) := by
  unfold g_X11_undo_b31
  refine cd_oif ?_
  refine cd_elet (fun v3 => ?_)
  refine cd_elet (fun v4 => ?_)
  refine cd_elet (fun v5 => ?_)
  refine cd_elet (fun v6 => ?_)
  refine cd_oif ?_
  refine cd_elet (fun T8 => ?_)
  refine cd_oif ?_
  refine cd_elet (fun v10 => ?_)
  refine cd_elet (fun v11 => ?_)
  refine cd_oif ?_
  refine cd_elet (fun T13 => ?_)
  refine cd_oif ?_
  refine cd_obind (fun n15 => ?_)
  refine cd_oif ?_
  refine cd_elet (fun T17 => ?_)
  refine cd_oif ?_
  refine cd_elet (fun v19 => ?_)
  exact cd_some (hS _ (by decide))
set_option maxRecDepth 100000 in
theorem cd_g_X11_undo {S : List Nat} (hS : ∀ k, k ∈ ([0, 1] : List Nat) → k ∈ S) (T : AT) (o : Nat) : CD S (g_X11_undo T o) := by
  unfold g_X11_undo
  refine cd_oif ?_
  refine cd_elet (fun v3 => ?_)
  refine cd_ite ?_ ?_
  · exact cd_some (hS _ (by decide))
  · refine cd_oif ?_
    refine cd_obind (fun n6 => ?_)
    refine cd_oif ?_
    refine cd_obind (fun n8 => ?_)
    refine cd_oif ?_
    refine cd_elet (fun v10 => ?_)
    refine cd_oif ?_
    refine cd_oif ?_
    refine cd_obind (fun n13 => ?_)
    refine cd_oif ?_
    refine cd_obind (fun T15 => ?_)
    exact cd_g_X11_undo_b31 (fun k h => hS k ((by decide : ∀ k, k ∈ ([0] : List Nat) → k ∈ ([0, 1] : List Nat)) k h)) _ _
set_option maxRecDepth 100000 in
theorem cd_g_X11_save_b33 {S : List Nat} (hS : ∀ k, k ∈ ([0] : List Nat) → k ∈ S) (T : AT) (s0 : Nat) : CD S (g_X11_save_b33 T s0) := by
  unfold g_X11_save_b33
  refine cd_oif ?_
  refine cd_elet (fun v3 => ?_)
  exact cd_some (hS _ (by decide))
set_option maxRecDepth 100000 in
theorem cd_g_X11_save_b22 {S : List Nat} (hS : ∀ k, k ∈ ([0] : List Nat) → k ∈ S) (T : AT) (l0 : Nat) (l1 : Int32) : CD S (g_X11_save_b22 T l0 l1) := by
  unfold g_X11_save_b22
  refine cd_oif ?_
  refine cd_obind (fun n3 => ?_)
  refine cd_oif ?_
  refine cd_oif ?_
  refine cd_elet (fun T6 => ?_)
  refine cd_oif ?_
  refine cd_obind2 (fun r9 T8 => ?_)
  refine cd_oif ?_
  exact cd_g_X11_save_b33 (fun k h => hS k ((by decide : ∀ k, k ∈ ([0] : List Nat) → k ∈ ([0] : List Nat)) k h)) _ _
set_option maxRecDepth 100000 in
theorem cd_g_X11_save {S : List Nat} (hS : ∀ k, k ∈ ([0, 1, 2] : List Nat) → k ∈ S) (T : AT) (o : Nat) (a0 : Int32) : CD S (g_X11_save T o a0) := by
  unfold g_X11_save
  refine cd_oif ?_
  refine cd_othr (cd_g_X11_needCamera (fun k h => hS k ((by decide : ∀ k, k ∈ ([0, 1] : List Nat) → k ∈ ([0, 1, 2] : List Nat)) k h)) _ _) (fun r5 T3 => ?_)
  refine cd_othr (cd_g_X11_needIndex (fun k h => hS k ((by decide : ∀ k, k ∈ ([0, 2] : List Nat) → k ∈ ([0, 1, 2] : List Nat)) k h)) _ _ _) (fun r9 T7 => ?_)
  refine cd_oif ?_
  refine cd_obind (fun n12 => ?_)
  refine cd_oif ?_
  refine cd_oif ?_
  refine cd_obind (fun n15 => ?_)
  refine cd_oif ?_
  refine cd_obind (fun n17 => ?_)
  refine cd_oif ?_
  refine cd_obind (fun T19 => ?_)
  exact cd_g_X11_save_b22 (fun k h => hS k ((by decide : ∀ k, k ∈ ([0] : List Nat) → k ∈ ([0, 1, 2] : List Nat)) k h)) _ _ _
set_option maxRecDepth 100000 in
theorem cd_g_X11_restore_b52 {S : List Nat} (hS : ∀ k, k ∈ ([0] : List Nat) → k ∈ S) (T : AT) (s0 : Nat) : CD S (g_X11_restore_b52 T s0) := by
  unfold g_X11_restore_b52
  refine cd_oif ?_
  refine cd_elet (fun v3 => ?_)
  exact cd_some (hS _ (by decide))
set_option maxRecDepth 100000 in
theorem cd_g_X11_restore_b35 {S : List Nat} (hS : ∀ k, k ∈ ([0] : List Nat) → k ∈ S) (T : AT) (l0 : Nat) : CD S (g_X11_restore_b35 T l0) := by
  unfold g_X11_restore_b35
  refine cd_oif ?_
  refine cd_elet (fun T3 => ?_)
  refine cd_oif ?_
  refine cd_obind (fun n5 => ?_)
  refine cd_oif ?_
  refine cd_elet (fun T7 => ?_)
  refine cd_oif ?_
  refine cd_obind2 (fun r10 T9 => ?_)
  refine cd_oif ?_
  exact cd_g_X11_restore_b52 (fun k h => hS k ((by decide : ∀ k, k ∈ ([0] : List Nat) → k ∈ ([0] : List Nat)) k h)) _ _
set_option maxRecDepth 100000 in
theorem cd_g_X11_restore {S : List Nat} (hS : ∀ k, k ∈ ([0, 1, 2] : List Nat) → k ∈ S) (T : AT) (o : Nat) (a0 : Int32) : CD S (g_X11_restore T o a0) := by
  unfold g_X11_restore
  refine cd_othr (cd_g_X11_needIndex (fun k h => hS k ((by decide : ∀ k, k ∈ ([0, 2] : List Nat) → k ∈ ([0, 1, 2] : List Nat)) k h)) _ _ _) (fun r4 T2 => ?_)
  refine cd_oif ?_
  refine cd_obind (fun n7 => ?_)
  refine cd_oif ?_
  refine cd_oif ?_
  refine cd_elet (fun v10 => ?_)
  refine cd_ite ?_ ?_
  · exact cd_some (hS _ (by decide))
  · refine cd_oif ?_
    refine cd_obind (fun n13 => ?_)
    refine cd_oif ?_
    refine cd_obind (fun n15 => ?_)
    refine cd_oif ?_
    refine cd_oif ?_
    refine cd_obind (fun n18 => ?_)
    refine cd_oif ?_
    refine cd_obind (fun T20 => ?_)
    exact cd_g_X11_restore_b35 (fun k h => hS k ((by decide : ∀ k, k ∈ ([0] : List Nat) → k ∈ ([0, 1, 2] : List Nat)) k h)) _ _
