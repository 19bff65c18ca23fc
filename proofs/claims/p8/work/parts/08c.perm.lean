/-! ===== the law's world in another order: the out arrays beside the class's cells ===== -/
theorem va_P_perm {D : va_G} {cl : List vw_C} {w1 w2 : va_W} {H : Heap} (h : w1.Perm w2) (hP : va_P D cl w1 H) : va_P D cl w2 H := by
  intro k q hk
  obtain ⟨i, hi⟩ := List.getElem?_of_mem (h.symm.subset (List.mem_of_getElem? hk))
  exact hP i q hi
theorem va_D_pw {A : Nat → Prop} {ws : va_W} : va_D A ws ↔ List.Pairwise (fun p q : Nat × va_E => p.1 ≠ q.1) ws ∧ ∀ q ∈ ws, A q.1 := by
  constructor
  · intro h
    refine ⟨List.pairwise_iff_getElem.mpr (fun i j hi hj hij e => ?_), fun q hq => ?_⟩
    · exact absurd (h.1 i j _ _ (List.getElem?_eq_getElem hi) (List.getElem?_eq_getElem hj) e) (Nat.ne_of_lt hij)
    · obtain ⟨i, hi⟩ := List.getElem?_of_mem hq
      exact h.2 i q hi
  · intro h
    refine ⟨fun i j p q hi hj e => ?_, fun k q hk => h.2 q (List.mem_of_getElem? hk)⟩
    obtain ⟨hi1, hi2⟩ := List.getElem?_eq_some_iff.mp hi
    obtain ⟨hj1, hj2⟩ := List.getElem?_eq_some_iff.mp hj
    rcases Nat.lt_trichotomy i j with h1 | h1 | h1
    · exact absurd (by rw [hi2, hj2]; exact e) (List.pairwise_iff_getElem.mp h.1 i j hi1 hj1 h1)
    · exact h1
    · exact absurd (by rw [hi2, hj2]; exact e.symm) (List.pairwise_iff_getElem.mp h.1 j i hj1 hi1 h1)
theorem va_D_perm {A : Nat → Prop} {w1 w2 : va_W} (h : w1.Perm w2) (hD : va_D A w1) : va_D A w2 := by
  obtain ⟨h1, h2⟩ := va_D_pw.mp hD
  exact va_D_pw.mpr ⟨(h.pairwise_iff (fun h => Ne.symm h)).mp h1, fun q hq => h2 q (h.symm.subset hq)⟩
theorem l_perm (w1 w2 w3 : va_W) : (w1 ++ w2 ++ w3).Perm (w1 ++ w3 ++ w2) := by
  rw [List.append_assoc, List.append_assoc]
  exact List.Perm.append_left w1 List.perm_append_comm
/-- cells made at the law: from the order of their making to the class's cells, the out arrays, the reference's -/
theorem l_turn {D : va_G} {A : Nat → Prop} {H0 H : Heap} {locs : List Loc} {ad b f : Nat → Nat} {N M K : Nat} {S T g : Nat → va_E} {cI cJ cZ : ClassId} {am : Nat → Nat} {Sm : MS} (hT : cW b M T = MW cI cJ cZ am Sm) (G : cG D (cat (N + M) (cat N ad b) f) (N + M + K) A H0 H locs (cat (N + M) (cat N S T) g)) : lG D (cat N ad f) (N + K) cI cJ cZ am A H0 H locs (cat N S g) Sm := by
  have e : cW (cat (N + M) (cat N ad b) f) (N + M + K) (cat (N + M) (cat N S T) g) = cW ad N S ++ cW b M T ++ cW f K g := by rw [← cW_cat, ← cW_cat]
  have hp : (cW (cat (N + M) (cat N ad b) f) (N + M + K) (cat (N + M) (cat N S T) g)).Perm (cW (cat N ad f) (N + K) (cat N S g) ++ MW cI cJ cZ am Sm) := by
    rw [e, ← cW_cat, ← hT]
    exact l_perm _ _ _
  exact ⟨va_P_perm hp G.1, va_D_perm hp G.2.1, G.2.2⟩
