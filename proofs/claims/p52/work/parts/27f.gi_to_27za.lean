section
/-! 27f.gi.lean.txt -/
/-! no two rows of the class's numbers are one array -/
def RI (T : AT) : Prop := ∀ n k n' k' x, T.2.2.2.2 n k = some x → T.2.2.2.2 n' k' = some x → (T.2.1 x).1 = 101 → n = n' ∧ k = k'
def GI (T T1 : AT) : Prop := RC T → RI T → RC T1 ∧ RI T1
theorem GI.rf (T : AT) : GI T T := fun a b => ⟨a, b⟩
theorem GI.tr {T T1 T2 : AT} (h : GI T T1) (k : GI T1 T2) : GI T T2 := fun a b => k (h a b).1 (h a b).2
theorem gi_sp {T T1 : AT} (h : SP T T1) : GI T T1 := fun a b => ⟨(gl_sp h).2.2 a, fun n k n' k' x h1 h2 h3 => by
  rw [h.2.2] at h1 h2
  rw [h.2.1] at h3
  exact b n k n' k' x h1 h2 h3⟩
theorem gi_newJ {T : AT} {K : Nat} : GI T (newJ T K) := fun a b => ⟨gl_newJ.2.2 a, fun n k n' k' x h1 h2 h3 => b n k n' k' x h1 h2 (by
  have q := (gl_newJ (T := T) (K := K)).2.1 x (a n k x h1)
  rw [← q]
  exact h3)⟩
theorem ur_get {T : AT} {n k x : Nat} (m j : Nat) : (uR T n k x).2.2.2.2 m j = if m = n ∧ j = k then some x else T.2.2.2.2 m j := by
  show va_up T.2.2.2.2 n (va_up (T.2.2.2.2 n) k (some x)) m j = _
  by_cases e : m = n
  · subst e
    rw [va_up_self]
    by_cases e2 : j = k
    · rw [e2, va_up_self, if_pos ⟨rfl, rfl⟩]
    · rw [va_up_ne _ _ e2, if_neg (fun q => e2 q.2)]
  · rw [va_up_ne _ _ e, if_neg (fun q => e q.1)]
theorem gi_uRo {T : AT} {n k x : Nat} (hx : x < T.1) (hn : (T.2.1 x).1 ≠ 101) : GI T (uR T n k x) := fun a b => ⟨(gl_uR hx).2.2 a, fun m j m' j' y h1 h2 h3 => by
  rw [ur_get] at h1 h2
  by_cases c : m = n ∧ j = k
  · rw [if_pos c] at h1
    cases h1
    exact absurd h3 hn
  · rw [if_neg c] at h1
    by_cases c2 : m' = n ∧ j' = k
    · rw [if_pos c2] at h2
      cases h2
      exact absurd h3 hn
    · rw [if_neg c2] at h2
      exact b m j m' j' y h1 h2 h3⟩
theorem gi_uRn {T : AT} {n k x : Nat} (hx : x < T.1) (hf : ∀ m j, T.2.2.2.2 m j ≠ some x) : GI T (uR T n k x) := fun a b => ⟨(gl_uR hx).2.2 a, fun m j m' j' y h1 h2 h3 => by
  rw [ur_get] at h1 h2
  by_cases c : m = n ∧ j = k
  · rw [if_pos c] at h1
    cases h1
    by_cases c2 : m' = n ∧ j' = k
    · exact ⟨c.1.trans c2.1.symm, c.2.trans c2.2.symm⟩
    · rw [if_neg c2] at h2
      exact absurd h2 (hf m' j')
  · rw [if_neg c] at h1
    by_cases c2 : m' = n ∧ j' = k
    · rw [if_pos c2] at h2
      cases h2
      exact absurd h1 (hf m j)
    · rw [if_neg c2] at h2
      exact b m j m' j' y h1 h2 h3⟩
set_option maxHeartbeats 4000000 in
set_option maxRecDepth 100000 in
theorem si_X10_widenTo_b108 {T1 : AT} : ∀ (T : AT), g_X10_widenTo_b108 T = some T1 → GI T T1 := by
  intro T h
  have p0 := GI.rf T
  unfold g_X10_widenTo_b108 at h
  rw [← osome1 h]
  exact p0
set_option maxHeartbeats 4000000 in
set_option maxRecDepth 100000 in
theorem si_X10_widenTo_b40 {T1 : AT} {k5 : AT → Nat → Int32 → Int32 → Option (AT)} (hk5 : ∀ (T : AT) (l0 : Nat) (l1 : Int32) (l2 : Int32), k5 T l0 l1 l2 = some T1 → GI T T1) : ∀ n : Nat, ∀ (T : AT) (l0 : Nat) (l1 : Int32) (l2 : Int32) (l3 : Int32), g_X10_widenTo_b40 k5 n T l0 l1 l2 l3 = some T1 → GI T T1 := by
  intro n
  induction n with
  | zero =>
    intro T l0 l1 l2 l3 h
    have h : (none : Option (AT)) = some T1 := h
    cases h
  | succ n ih =>
    intro T l0 l1 l2 l3 h
    have p0 := GI.rf T
    unfold g_X10_widenTo_b40 at h
    obtain ⟨g2, h⟩ := oif_some h
    obtain ⟨v3, -, h⟩ := elet_some h
    rcases oif_or h with ⟨c4, h⟩ | ⟨c4, h⟩
    · have h := h
      obtain ⟨v5, -, h⟩ := elet_some h
      obtain ⟨g6, h⟩ := oif_some h
      obtain ⟨T7, eT7, h⟩ := elet_some h
      have p1 : GI T T7 := GI.tr p0 (by rw [eT7]; exact gi_sp sp_uI)
      obtain ⟨v8, ev8, h⟩ := elet_some h
      exact GI.tr p1 (hk5 _ _ _ _ h)
    · have h := h
      obtain ⟨g9, h⟩ := oif_some h
      obtain ⟨n10, en10, h⟩ := obind_some h
      obtain ⟨v11, -, h⟩ := elet_some h
      obtain ⟨g12, h⟩ := oif_some h
      obtain ⟨g13, h⟩ := oif_some h
      obtain ⟨n14, en14, h⟩ := obind_some h
      obtain ⟨g15, h⟩ := oif_some h
      obtain ⟨g16, h⟩ := oif_some h
      obtain ⟨v17, -, h⟩ := elet_some h
      obtain ⟨g18, h⟩ := oif_some h
      obtain ⟨n19, en19, h⟩ := obind_some h
      obtain ⟨v20, -, h⟩ := elet_some h
      obtain ⟨g21, h⟩ := oif_some h
      obtain ⟨g22, h⟩ := oif_some h
      obtain ⟨n23, en23, h⟩ := obind_some h
      obtain ⟨v24, -, h⟩ := elet_some h
      obtain ⟨g25, h⟩ := oif_some h
      obtain ⟨g26, h⟩ := oif_some h
      obtain ⟨T27, eT27, h⟩ := elet_some h
      have p1 : GI T T27 := GI.tr p0 (by rw [eT27]; exact gi_sp sp_uJ)
      obtain ⟨g28, h⟩ := oif_some h
      obtain ⟨n29, en29, h⟩ := obind_some h
      obtain ⟨g30, h⟩ := oif_some h
      obtain ⟨g31, h⟩ := oif_some h
      obtain ⟨n32, en32, h⟩ := obind_some h
      obtain ⟨v33, -, h⟩ := elet_some h
      obtain ⟨g34, h⟩ := oif_some h
      obtain ⟨g35, h⟩ := oif_some h
      obtain ⟨T36, eT36, h⟩ := elet_some h
      have p2 : GI T T36 := GI.tr p1 (by rw [eT36]; exact gi_sp sp_uJ)
      obtain ⟨v37, ev37, h⟩ := elet_some h
      exact GI.tr p2 (ih _ _ _ _ _ h)
set_option maxHeartbeats 4000000 in
set_option maxRecDepth 100000 in
theorem si_X10_widenTo_b38 {T1 : AT} {k5 : AT → Nat → Int32 → Int32 → Option (AT)} (hk5 : ∀ (T : AT) (l0 : Nat) (l1 : Int32) (l2 : Int32), k5 T l0 l1 l2 = some T1 → GI T T1) : ∀ (T : AT) (l0 : Nat) (l1 : Int32) (l2 : Int32), g_X10_widenTo_b38 k5 T l0 l1 l2 = some T1 → GI T T1 := by
  intro T l0 l1 l2 h
  have p0 := GI.rf T
  unfold g_X10_widenTo_b38 at h
  exact GI.tr p0 (si_X10_widenTo_b40 hk5 _ _ _ _ _ _ h)
set_option maxHeartbeats 4000000 in
set_option maxRecDepth 100000 in
theorem si_X10_widenTo_b37 {T1 : AT} {k5 : AT → Nat → Int32 → Int32 → Option (AT)} (hk5 : ∀ (T : AT) (l0 : Nat) (l1 : Int32) (l2 : Int32), k5 T l0 l1 l2 = some T1 → GI T T1) : ∀ (T : AT) (s0 : Nat) (s1 : Int32) (s2 : Nat) (l0 : Nat) (l1 : Int32) (l2 : Int32), (∀ m j, T.2.2.2.2 m j ≠ some s0) → g_X10_widenTo_b37 k5 T s0 s1 s2 l0 l1 l2 = some T1 → GI T T1 := by
  intro T s0 s1 s2 l0 l1 l2 hf h
  have p0 := GI.rf T
  unfold g_X10_widenTo_b37 at h
  obtain ⟨g2, h⟩ := oif_some h
  obtain ⟨g3, h⟩ := oif_some h
  obtain ⟨g4, h⟩ := oif_some h
  obtain ⟨T5, eT5, h⟩ := elet_some h
  have p1 : GI T T5 := GI.tr p0 (by rw [eT5]; exact gi_uRn (aA_k g4).1 hf)
  exact GI.tr p1 (si_X10_widenTo_b38 hk5 _ _ _ _ h)
set_option maxHeartbeats 4000000 in
set_option maxRecDepth 100000 in
theorem si_X10_widenTo_b5 {T1 : AT} : ∀ n : Nat, ∀ (T : AT) (l0 : Nat) (l1 : Int32) (l2 : Int32), g_X10_widenTo_b5 n T l0 l1 l2 = some T1 → GI T T1 := by
  intro n
  induction n with
  | zero =>
    intro T l0 l1 l2 h
    have h : (none : Option (AT)) = some T1 := h
    cases h
  | succ n ih =>
    intro T l0 l1 l2 h
    have p0 := GI.rf T
    unfold g_X10_widenTo_b5 at h
    rcases oif_or h with ⟨c2, h⟩ | ⟨c2, h⟩
    · have h := h
      exact GI.tr p0 (si_X10_widenTo_b108 _ h)
    · have h := h
      rcases oif_or h with ⟨c3, h⟩ | ⟨c3, h⟩
      · have h := h
        exact GI.tr p0 (si_X10_widenTo_b108 _ h)
      · have h := h
        obtain ⟨g4, h⟩ := oif_some h
        obtain ⟨n5, en5, h⟩ := obind_some h
        obtain ⟨g6, h⟩ := oif_some h
        obtain ⟨g7, h⟩ := oif_some h
        obtain ⟨n8, en8, h⟩ := obind_some h
        obtain ⟨g9, h⟩ := oif_some h
        obtain ⟨v10, -, h⟩ := elet_some h
        rcases oif_or h with ⟨c11, h⟩ | ⟨c11, h⟩
        · have h := h
          obtain ⟨g12, h⟩ := oif_some h
          obtain ⟨n13, en13, h⟩ := obind_some h
          obtain ⟨g14, h⟩ := oif_some h
          obtain ⟨v15, -, h⟩ := elet_some h
          obtain ⟨g16, h⟩ := oif_some h
          obtain ⟨T17, eT17, h⟩ := elet_some h
          have p1 : GI T T17 := GI.tr p0 (by rw [eT17]; exact gi_newJ)
          exact fun a b => (GI.tr p1 (si_X10_widenTo_b37 ih _ _ _ _ _ _ _ (by rw [eT17]; exact fun m j q => Nat.lt_irrefl _ (a m j _ q)) h)) a b
        · have h := h
          exact GI.tr p0 (si_X10_widenTo_b38 ih _ _ _ _ h)
set_option maxHeartbeats 4000000 in
set_option maxRecDepth 100000 in
theorem si_X10_widenTo {T : AT} {o : Nat} {a0 : Int32} {T1 : AT} (h : g_X10_widenTo T o a0 = some T1) : GI T T1 := by
  have p0 := GI.rf T
  unfold g_X10_widenTo at h
  obtain ⟨g2, h⟩ := oif_some h
  obtain ⟨v3, -, h⟩ := elet_some h
  exact GI.tr p0 (si_X10_widenTo_b5 _ _ _ _ _ h)
set_option maxHeartbeats 4000000 in
set_option maxRecDepth 100000 in
theorem si_X10_settle_b99 {T1 : AT} : ∀ (T : AT), g_X10_settle_b99 T = some T1 → GI T T1 := by
  intro T h
  have p0 := GI.rf T
  unfold g_X10_settle_b99 at h
  rw [← osome1 h]
  exact p0
set_option maxHeartbeats 4000000 in
set_option maxRecDepth 100000 in
theorem si_X10_settle_b93 {T1 : AT} {k64 : AT → Nat → Int32 → Int32 → Option (AT)} (hk64 : ∀ (T : AT) (l0 : Nat) (l1 : Int32) (l2 : Int32), k64 T l0 l1 l2 = some T1 → GI T T1) : ∀ (T : AT) (l0 : Nat) (l1 : Int32) (l2 : Int32), g_X10_settle_b93 k64 T l0 l1 l2 = some T1 → GI T T1 := by
  intro T l0 l1 l2 h
  have p0 := GI.rf T
  unfold g_X10_settle_b93 at h
  obtain ⟨v2, ev2, h⟩ := elet_some h
  exact GI.tr p0 (hk64 _ _ _ _ h)
set_option maxHeartbeats 4000000 in
set_option maxRecDepth 100000 in
theorem si_X10_settle_b64 {T1 : AT} : ∀ n : Nat, ∀ (T : AT) (l0 : Nat) (l1 : Int32) (l2 : Int32), g_X10_settle_b64 n T l0 l1 l2 = some T1 → GI T T1 := by
  intro n
  induction n with
  | zero =>
    intro T l0 l1 l2 h
    have h : (none : Option (AT)) = some T1 := h
    cases h
  | succ n ih =>
    intro T l0 l1 l2 h
    have p0 := GI.rf T
    unfold g_X10_settle_b64 at h
    obtain ⟨v2, -, h⟩ := elet_some h
    rcases oif_or h with ⟨c3, h⟩ | ⟨c3, h⟩
    · have h := h
      exact GI.tr p0 (si_X10_settle_b99 _ h)
    · have h := h
      obtain ⟨g4, h⟩ := oif_some h
      obtain ⟨n5, en5, h⟩ := obind_some h
      obtain ⟨g6, h⟩ := oif_some h
      obtain ⟨g7, h⟩ := oif_some h
      obtain ⟨n8, en8, h⟩ := obind_some h
      obtain ⟨g9, h⟩ := oif_some h
      obtain ⟨g10, h⟩ := oif_some h
      obtain ⟨v11, -, h⟩ := elet_some h
      obtain ⟨r12, -, h⟩ := obind_some h
      rcases oif_or h with ⟨c13, h⟩ | ⟨c13, h⟩
      · have h := h
        exact GI.tr p0 (si_X10_settle_b99 _ h)
      · have h := h
        obtain ⟨v14, -, h⟩ := elet_some h
        obtain ⟨g15, h⟩ := oif_some h
        obtain ⟨T16, eT16, h⟩ := obind_some h
        have p1 : GI T T16 := GI.tr p0 (si_X10_widenTo eT16)
        exact GI.tr p1 (si_X10_settle_b93 ih _ _ _ _ h)
set_option maxHeartbeats 4000000 in
set_option maxRecDepth 100000 in
theorem si_X10_settle_b2 {T1 : AT} : ∀ n : Nat, ∀ (T : AT) (l0 : Nat) (l1 : Int32) (l2 : Int32), g_X10_settle_b2 n T l0 l1 l2 = some T1 → GI T T1 := by
  intro n
  induction n with
  | zero =>
    intro T l0 l1 l2 h
    have h : (none : Option (AT)) = some T1 := h
    cases h
  | succ n ih =>
    intro T l0 l1 l2 h
    have p0 := GI.rf T
    unfold g_X10_settle_b2 at h
    obtain ⟨v2, -, h⟩ := elet_some h
    obtain ⟨g3, h⟩ := oif_some h
    obtain ⟨v4, -, h⟩ := elet_some h
    rcases oif_or h with ⟨c5, h⟩ | ⟨c5, h⟩
    · have h := h
      obtain ⟨g6, h⟩ := oif_some h
      obtain ⟨v7, -, h⟩ := elet_some h
      obtain ⟨v8, -, h⟩ := elet_some h
      exact GI.tr p0 (si_X10_settle_b64 _ _ _ _ _ h)
    · have h := h
      obtain ⟨g9, h⟩ := oif_some h
      obtain ⟨n10, en10, h⟩ := obind_some h
      obtain ⟨g11, h⟩ := oif_some h
      obtain ⟨g12, h⟩ := oif_some h
      obtain ⟨n13, en13, h⟩ := obind_some h
      obtain ⟨g14, h⟩ := oif_some h
      obtain ⟨g15, h⟩ := oif_some h
      obtain ⟨v16, -, h⟩ := elet_some h
      obtain ⟨g17, h⟩ := oif_some h
      obtain ⟨n18, en18, h⟩ := obind_some h
      obtain ⟨g19, h⟩ := oif_some h
      obtain ⟨g20, h⟩ := oif_some h
      obtain ⟨n21, en21, h⟩ := obind_some h
      obtain ⟨v22, -, h⟩ := elet_some h
      obtain ⟨g23, h⟩ := oif_some h
      obtain ⟨g24, h⟩ := oif_some h
      obtain ⟨T25, eT25, h⟩ := elet_some h
      have p1 : GI T T25 := GI.tr p0 (by rw [eT25]; exact gi_sp sp_uJ)
      obtain ⟨g26, h⟩ := oif_some h
      obtain ⟨n27, en27, h⟩ := obind_some h
      obtain ⟨v28, -, h⟩ := elet_some h
      obtain ⟨g29, h⟩ := oif_some h
      obtain ⟨g30, h⟩ := oif_some h
      obtain ⟨n31, en31, h⟩ := obind_some h
      obtain ⟨g32, h⟩ := oif_some h
      obtain ⟨g33, h⟩ := oif_some h
      obtain ⟨v34, -, h⟩ := elet_some h
      obtain ⟨v35, -, h⟩ := elet_some h
      obtain ⟨v36, -, h⟩ := elet_some h
      obtain ⟨g37, h⟩ := oif_some h
      obtain ⟨g38, h⟩ := oif_some h
      obtain ⟨T39, eT39, h⟩ := elet_some h
      have p2 : GI T T39 := GI.tr p1 (by rw [eT39]; exact gi_sp sp_uJ)
      obtain ⟨v40, ev40, h⟩ := elet_some h
      exact GI.tr p2 (ih _ _ _ _ h)
set_option maxHeartbeats 4000000 in
set_option maxRecDepth 100000 in
theorem si_X10_settle {T : AT} {o : Nat} {a0 : Int32} {T1 : AT} (h : g_X10_settle T o a0 = some T1) : GI T T1 := by
  have p0 := GI.rf T
  unfold g_X10_settle at h
  exact GI.tr p0 (si_X10_settle_b2 _ _ _ _ _ h)
set_option maxHeartbeats 4000000 in
set_option maxRecDepth 100000 in
theorem si_X10_divide_b121 {T1 : AT} : ∀ (T : AT), g_X10_divide_b121 T = some T1 → GI T T1 := by
  intro T h
  have p0 := GI.rf T
  unfold g_X10_divide_b121 at h
  rw [← osome1 h]
  exact p0
set_option maxHeartbeats 4000000 in
set_option maxRecDepth 100000 in
theorem si_X10_divide_b40 {T1 : AT} : ∀ n : Nat, ∀ (T : AT) (l0 : Nat) (l1 : Int32) (l2 : Int32) (l3 : Int32) (l4 : Int64) (l6 : Int32), g_X10_divide_b40 n T l0 l1 l2 l3 l4 l6 = some T1 → GI T T1 := by
  intro n
  induction n with
  | zero =>
    intro T l0 l1 l2 l3 l4 l6 h
    have h : (none : Option (AT)) = some T1 := h
    cases h
  | succ n ih =>
    intro T l0 l1 l2 l3 l4 l6 h
    have p0 := GI.rf T
    unfold g_X10_divide_b40 at h
    rcases oif_or h with ⟨c2, h⟩ | ⟨c2, h⟩
    · have h := h
      rcases oif_or h with ⟨c3, h⟩ | ⟨c3, h⟩
      · have h := h
        exact GI.tr p0 (si_X10_divide_b121 _ h)
      · have h := h
        obtain ⟨v4, -, h⟩ := elet_some h
        rcases oif_or h with ⟨c5, h⟩ | ⟨c5, h⟩
        · have h := h
          exact GI.tr p0 (si_X10_divide_b121 _ h)
        · have h := h
          obtain ⟨g6, h⟩ := oif_some h
          obtain ⟨n7, en7, h⟩ := obind_some h
          obtain ⟨g8, h⟩ := oif_some h
          obtain ⟨g9, h⟩ := oif_some h
          obtain ⟨n10, en10, h⟩ := obind_some h
          obtain ⟨g11, h⟩ := oif_some h
          obtain ⟨g12, h⟩ := oif_some h
          obtain ⟨v13, -, h⟩ := elet_some h
          obtain ⟨v14, -, h⟩ := elet_some h
          obtain ⟨g15, h⟩ := oif_some h
          obtain ⟨g16, h⟩ := oif_some h
          obtain ⟨T17, eT17, h⟩ := elet_some h
          have p1 : GI T T17 := GI.tr p0 (by rw [eT17]; exact gi_sp sp_uJ)
          obtain ⟨g18, h⟩ := oif_some h
          obtain ⟨T19, eT19, h⟩ := obind_some h
          have p2 : GI T T19 := GI.tr p1 (si_X10_settle eT19)
          exact GI.tr p2 (si_X10_divide_b121 _ h)
    · have h := h
      obtain ⟨v21, -, h⟩ := elet_some h
      obtain ⟨g22, h⟩ := oif_some h
      obtain ⟨n23, en23, h⟩ := obind_some h
      obtain ⟨g24, h⟩ := oif_some h
      obtain ⟨g25, h⟩ := oif_some h
      obtain ⟨n26, en26, h⟩ := obind_some h
      obtain ⟨g27, h⟩ := oif_some h
      obtain ⟨g28, h⟩ := oif_some h
      obtain ⟨v29, -, h⟩ := elet_some h
      obtain ⟨v30, -, h⟩ := elet_some h
      obtain ⟨g31, h⟩ := oif_some h
      obtain ⟨n32, en32, h⟩ := obind_some h
      obtain ⟨g33, h⟩ := oif_some h
      obtain ⟨g34, h⟩ := oif_some h
      obtain ⟨n35, en35, h⟩ := obind_some h
      obtain ⟨v36, -, h⟩ := elet_some h
      obtain ⟨r37, -, h⟩ := obind_some h
      obtain ⟨g38, h⟩ := oif_some h
      obtain ⟨g39, h⟩ := oif_some h
      obtain ⟨T40, eT40, h⟩ := elet_some h
      have p1 : GI T T40 := GI.tr p0 (by rw [eT40]; exact gi_sp sp_uJ)
      obtain ⟨v41, -, h⟩ := elet_some h
      obtain ⟨r42, -, h⟩ := obind_some h
      obtain ⟨v43, ev43, h⟩ := elet_some h
      exact GI.tr p1 (ih _ _ _ _ _ _ _ h)
set_option maxHeartbeats 4000000 in
set_option maxRecDepth 100000 in
theorem si_X10_divide_b28 {T1 : AT} : ∀ (T : AT) (s0 : Int32) (l0 : Nat) (l1 : Int32) (l2 : Int32), g_X10_divide_b28 T s0 l0 l1 l2 = some T1 → GI T T1 := by
  intro T s0 l0 l1 l2 h
  have p0 := GI.rf T
  unfold g_X10_divide_b28 at h
  obtain ⟨g2, h⟩ := oif_some h
  obtain ⟨v3, -, h⟩ := elet_some h
  obtain ⟨v4, -, h⟩ := elet_some h
  exact GI.tr p0 (si_X10_divide_b40 _ _ _ _ _ _ _ _ h)
set_option maxHeartbeats 4000000 in
set_option maxRecDepth 100000 in
theorem si_X10_divide {T : AT} {o : Nat} {a0 : Int32} {a1 : Int32} {T1 : AT} (h : g_X10_divide T o a0 a1 = some T1) : GI T T1 := by
  have p0 := GI.rf T
  unfold g_X10_divide at h
  rcases oif_or h with ⟨c2, h⟩ | ⟨c2, h⟩
  · have h := h
    obtain ⟨g3, h⟩ := oif_some h
    obtain ⟨n4, en4, h⟩ := obind_some h
    obtain ⟨g5, h⟩ := oif_some h
    obtain ⟨v6, -, h⟩ := elet_some h
    obtain ⟨v7, -, h⟩ := elet_some h
    obtain ⟨g8, h⟩ := oif_some h
    obtain ⟨g9, h⟩ := oif_some h
    obtain ⟨n10, en10, h⟩ := obind_some h
    obtain ⟨g11, h⟩ := oif_some h
    obtain ⟨g12, h⟩ := oif_some h
    obtain ⟨v13, -, h⟩ := elet_some h
    obtain ⟨v14, -, h⟩ := elet_some h
    rcases oif_or h with ⟨c15, h⟩ | ⟨c15, h⟩
    · have h := h
      exact GI.tr p0 (si_X10_divide_b28 _ _ _ _ _ h)
    · have h := h
      exact GI.tr p0 (si_X10_divide_b28 _ _ _ _ _ h)
  · have h := h
    rw [← osome1 h]
    exact p0
set_option maxHeartbeats 4000000 in
set_option maxRecDepth 100000 in
theorem si_X8_focus_b74 {T1 : AT} : ∀ (T : AT), g_X8_focus_b74 T = some T1 → GI T T1 := by
  intro T h
  have p0 := GI.rf T
  unfold g_X8_focus_b74 at h
  rw [← osome1 h]
  exact p0
set_option maxHeartbeats 4000000 in
set_option maxRecDepth 100000 in
theorem si_X8_focus_b23 {T1 : AT} : ∀ n : Nat, ∀ (T : AT) (l0 : Nat) (l1 : Nat) (l2 : Int32) (l3 : Int32), g_X8_focus_b23 n T l0 l1 l2 l3 = some T1 → GI T T1 := by
  intro n
  induction n with
  | zero =>
    intro T l0 l1 l2 l3 h
    have h : (none : Option (AT)) = some T1 := h
    cases h
  | succ n ih =>
    intro T l0 l1 l2 l3 h
    have p0 := GI.rf T
    unfold g_X8_focus_b23 at h
    obtain ⟨g2, h⟩ := oif_some h
    obtain ⟨n3, en3, h⟩ := obind_some h
    obtain ⟨g4, h⟩ := oif_some h
    obtain ⟨v5, -, h⟩ := elet_some h
    rcases oif_or h with ⟨c6, h⟩ | ⟨c6, h⟩
    · have h := h
      obtain ⟨g7, h⟩ := oif_some h
      obtain ⟨n8, en8, h⟩ := obind_some h
      obtain ⟨g9, h⟩ := oif_some h
      obtain ⟨T10, eT10, h⟩ := obind_some h
      have p1 : GI T T10 := GI.tr p0 (si_X10_settle eT10)
      exact GI.tr p1 (si_X8_focus_b74 _ h)
    · have h := h
      obtain ⟨g12, h⟩ := oif_some h
      obtain ⟨n13, en13, h⟩ := obind_some h
      obtain ⟨g14, h⟩ := oif_some h
      obtain ⟨n15, en15, h⟩ := obind_some h
      obtain ⟨g16, h⟩ := oif_some h
      obtain ⟨g17, h⟩ := oif_some h
      obtain ⟨n18, en18, h⟩ := obind_some h
      obtain ⟨g19, h⟩ := oif_some h
      obtain ⟨n20, en20, h⟩ := obind_some h
      obtain ⟨g21, h⟩ := oif_some h
      obtain ⟨n22, en22, h⟩ := obind_some h
      obtain ⟨g23, h⟩ := oif_some h
      obtain ⟨g24, h⟩ := oif_some h
      obtain ⟨n25, en25, h⟩ := obind_some h
      obtain ⟨g26, h⟩ := oif_some h
      obtain ⟨r28, T27, eT27, h⟩ := obind2_some h
      have p1 : GI T T27 := GI.tr p0 (gi_sp (s_X8_weighted eT27))
      obtain ⟨g29, h⟩ := oif_some h
      obtain ⟨g30, h⟩ := oif_some h
      obtain ⟨T31, eT31, h⟩ := elet_some h
      have p2 : GI T T31 := GI.tr p1 (by rw [eT31]; exact gi_sp sp_uJ)
      obtain ⟨v32, ev32, h⟩ := elet_some h
      exact GI.tr p2 (ih _ _ _ _ _ h)
set_option maxHeartbeats 4000000 in
set_option maxRecDepth 100000 in
theorem si_X8_focus_b21 {T1 : AT} : ∀ (T : AT) (l0 : Nat) (l1 : Nat) (l2 : Int32), g_X8_focus_b21 T l0 l1 l2 = some T1 → GI T T1 := by
  intro T l0 l1 l2 h
  have p0 := GI.rf T
  unfold g_X8_focus_b21 at h
  exact GI.tr p0 (si_X8_focus_b23 _ _ _ _ _ _ h)
set_option maxHeartbeats 4000000 in
set_option maxRecDepth 100000 in
theorem si_X8_focus {T : AT} {o : Nat} {a0 : Nat} {a1 : Int32} {T1 : AT} (h : g_X8_focus T o a0 a1 = some T1) : GI T T1 := by
  have p0 := GI.rf T
  unfold g_X8_focus at h
  obtain ⟨g2, h⟩ := oif_some h
  obtain ⟨n3, en3, h⟩ := obind_some h
  obtain ⟨g4, h⟩ := oif_some h
  obtain ⟨T5, eT5, h⟩ := obind_some h
  have p1 : GI T T5 := GI.tr p0 (gi_sp (s_X10_narrow eT5))
  obtain ⟨g7, h⟩ := oif_some h
  obtain ⟨n8, en8, h⟩ := obind_some h
  obtain ⟨g9, h⟩ := oif_some h
  obtain ⟨n10, en10, h⟩ := obind_some h
  obtain ⟨g11, h⟩ := oif_some h
  obtain ⟨v12, -, h⟩ := elet_some h
  obtain ⟨g13, h⟩ := oif_some h
  obtain ⟨T14, eT14, h⟩ := obind_some h
  have p2 : GI T T14 := GI.tr p1 (si_X10_widenTo eT14)
  exact GI.tr p2 (si_X8_focus_b21 _ _ _ _ h)
set_option maxHeartbeats 4000000 in
set_option maxRecDepth 100000 in
theorem si_X10_addProduct_b138 {T1 : AT} : ∀ (T : AT), g_X10_addProduct_b138 T = some T1 → GI T T1 := by
  intro T h
  have p0 := GI.rf T
  unfold g_X10_addProduct_b138 at h
  rw [← osome1 h]
  exact p0
set_option maxHeartbeats 4000000 in
set_option maxRecDepth 100000 in
theorem si_X10_addProduct_b133 {T1 : AT} : ∀ (T : AT) (l0 : Nat) (l1 : Int32), g_X10_addProduct_b133 T l0 l1 = some T1 → GI T T1 := by
  intro T l0 l1 h
  have p0 := GI.rf T
  unfold g_X10_addProduct_b133 at h
  obtain ⟨g2, h⟩ := oif_some h
  obtain ⟨T3, eT3, h⟩ := obind_some h
  have p1 : GI T T3 := GI.tr p0 (si_X10_settle eT3)
  exact GI.tr p1 (si_X10_addProduct_b138 _ h)
set_option maxHeartbeats 4000000 in
set_option maxRecDepth 100000 in
theorem si_X10_addProduct_b113 {T1 : AT} {k17 : AT → Nat → Int32 → Nat → Int32 → Nat → Int32 → Int32 → Option (AT)} (hk17 : ∀ (T : AT) (l0 : Nat) (l1 : Int32) (l2 : Nat) (l3 : Int32) (l4 : Nat) (l5 : Int32) (l6 : Int32), k17 T l0 l1 l2 l3 l4 l5 l6 = some T1 → GI T T1) : ∀ (T : AT) (l0 : Nat) (l1 : Int32) (l2 : Nat) (l3 : Int32) (l4 : Nat) (l5 : Int32) (l6 : Int32) (l7 : Int64), g_X10_addProduct_b113 k17 T l0 l1 l2 l3 l4 l5 l6 l7 = some T1 → GI T T1 := by
  intro T l0 l1 l2 l3 l4 l5 l6 l7 h
  have p0 := GI.rf T
  unfold g_X10_addProduct_b113 at h
  obtain ⟨g2, h⟩ := oif_some h
  obtain ⟨n3, en3, h⟩ := obind_some h
  obtain ⟨g4, h⟩ := oif_some h
  obtain ⟨g5, h⟩ := oif_some h
  obtain ⟨n6, en6, h⟩ := obind_some h
  obtain ⟨g7, h⟩ := oif_some h
  obtain ⟨g8, h⟩ := oif_some h
  obtain ⟨v9, -, h⟩ := elet_some h
  obtain ⟨v10, -, h⟩ := elet_some h
  obtain ⟨g11, h⟩ := oif_some h
  obtain ⟨g12, h⟩ := oif_some h
  obtain ⟨T13, eT13, h⟩ := elet_some h
  have p1 : GI T T13 := GI.tr p0 (by rw [eT13]; exact gi_sp sp_uJ)
  obtain ⟨v14, ev14, h⟩ := elet_some h
  exact GI.tr p1 (hk17 _ _ _ _ _ _ _ _ h)
set_option maxHeartbeats 4000000 in
set_option maxRecDepth 100000 in
theorem si_X10_addProduct_b62 {T1 : AT} {k17 : AT → Nat → Int32 → Nat → Int32 → Nat → Int32 → Int32 → Option (AT)} (hk17 : ∀ (T : AT) (l0 : Nat) (l1 : Int32) (l2 : Nat) (l3 : Int32) (l4 : Nat) (l5 : Int32) (l6 : Int32), k17 T l0 l1 l2 l3 l4 l5 l6 = some T1 → GI T T1) : ∀ n : Nat, ∀ (T : AT) (l0 : Nat) (l1 : Int32) (l2 : Nat) (l3 : Int32) (l4 : Nat) (l5 : Int32) (l6 : Int32) (l7 : Int64) (l9 : Int32), g_X10_addProduct_b62 k17 n T l0 l1 l2 l3 l4 l5 l6 l7 l9 = some T1 → GI T T1 := by
  intro n
  induction n with
  | zero =>
    intro T l0 l1 l2 l3 l4 l5 l6 l7 l9 h
    have h : (none : Option (AT)) = some T1 := h
    cases h
  | succ n ih =>
    intro T l0 l1 l2 l3 l4 l5 l6 l7 l9 h
    have p0 := GI.rf T
    unfold g_X10_addProduct_b62 at h
    rcases oif_or h with ⟨c2, h⟩ | ⟨c2, h⟩
    · have h := h
      exact GI.tr p0 (si_X10_addProduct_b113 hk17 _ _ _ _ _ _ _ _ _ h)
    · have h := h
      obtain ⟨g3, h⟩ := oif_some h
      obtain ⟨v4, -, h⟩ := elet_some h
      rcases oif_or h with ⟨c5, h⟩ | ⟨c5, h⟩
      · have h := h
        exact GI.tr p0 (si_X10_addProduct_b113 hk17 _ _ _ _ _ _ _ _ _ h)
      · have h := h
        obtain ⟨g6, h⟩ := oif_some h
        obtain ⟨n7, en7, h⟩ := obind_some h
        obtain ⟨g8, h⟩ := oif_some h
        obtain ⟨g9, h⟩ := oif_some h
        obtain ⟨n10, en10, h⟩ := obind_some h
        obtain ⟨g11, h⟩ := oif_some h
        obtain ⟨g12, h⟩ := oif_some h
        obtain ⟨v13, -, h⟩ := elet_some h
        obtain ⟨g14, h⟩ := oif_some h
        obtain ⟨n15, en15, h⟩ := obind_some h
        obtain ⟨v16, -, h⟩ := elet_some h
        obtain ⟨g17, h⟩ := oif_some h
        obtain ⟨g18, h⟩ := oif_some h
        obtain ⟨n19, en19, h⟩ := obind_some h
        obtain ⟨g20, h⟩ := oif_some h
        obtain ⟨g21, h⟩ := oif_some h
        obtain ⟨v22, -, h⟩ := elet_some h
        obtain ⟨v23, -, h⟩ := elet_some h
        obtain ⟨v24, -, h⟩ := elet_some h
        obtain ⟨v25, ev25, h⟩ := elet_some h
        exact GI.tr p0 (ih _ _ _ _ _ _ _ _ _ _ h)
set_option maxHeartbeats 4000000 in
set_option maxRecDepth 100000 in
theorem si_X10_addProduct_b17 {T1 : AT} : ∀ n : Nat, ∀ (T : AT) (l0 : Nat) (l1 : Int32) (l2 : Nat) (l3 : Int32) (l4 : Nat) (l5 : Int32) (l6 : Int32), g_X10_addProduct_b17 n T l0 l1 l2 l3 l4 l5 l6 = some T1 → GI T T1 := by
  intro n
  induction n with
  | zero =>
    intro T l0 l1 l2 l3 l4 l5 l6 h
    have h : (none : Option (AT)) = some T1 := h
    cases h
  | succ n ih =>
    intro T l0 l1 l2 l3 l4 l5 l6 h
    have p0 := GI.rf T
    unfold g_X10_addProduct_b17 at h
    obtain ⟨g2, h⟩ := oif_some h
    obtain ⟨v3, -, h⟩ := elet_some h
    rcases oif_or h with ⟨c4, h⟩ | ⟨c4, h⟩
    · have h := h
      exact GI.tr p0 (si_X10_addProduct_b133 _ _ _ h)
    · have h := h
      obtain ⟨g5, h⟩ := oif_some h
      obtain ⟨v6, -, h⟩ := elet_some h
      obtain ⟨g7, h⟩ := oif_some h
      obtain ⟨v8, -, h⟩ := elet_some h
      obtain ⟨v9, -, h⟩ := elet_some h
      obtain ⟨v10, -, h⟩ := elet_some h
      rcases oif_or h with ⟨c11, h⟩ | ⟨c11, h⟩
      · have h := h
        exact GI.tr p0 (si_X10_addProduct_b133 _ _ _ h)
      · have h := h
        obtain ⟨g12, h⟩ := oif_some h
        obtain ⟨v13, -, h⟩ := elet_some h
        obtain ⟨v14, -, h⟩ := elet_some h
        obtain ⟨v15, -, h⟩ := elet_some h
        obtain ⟨v16, -, h⟩ := elet_some h
        exact GI.tr p0 (si_X10_addProduct_b62 ih _ _ _ _ _ _ _ _ _ _ _ h)
set_option maxHeartbeats 4000000 in
set_option maxRecDepth 100000 in
theorem si_X10_addProduct_b14 {T1 : AT} : ∀ (T : AT) (l0 : Nat) (l1 : Int32) (l2 : Nat) (l3 : Int32) (l4 : Nat) (l5 : Int32), g_X10_addProduct_b14 T l0 l1 l2 l3 l4 l5 = some T1 → GI T T1 := by
  intro T l0 l1 l2 l3 l4 l5 h
  have p0 := GI.rf T
  unfold g_X10_addProduct_b14 at h
  exact GI.tr p0 (si_X10_addProduct_b17 _ _ _ _ _ _ _ _ _ h)
set_option maxHeartbeats 4000000 in
set_option maxRecDepth 100000 in
theorem si_X10_addProduct {T : AT} {o : Nat} {a0 : Int32} {a1 : Nat} {a2 : Int32} {a3 : Nat} {a4 : Int32} {T1 : AT} (h : g_X10_addProduct T o a0 a1 a2 a3 a4 = some T1) : GI T T1 := by
  have p0 := GI.rf T
  unfold g_X10_addProduct at h
  obtain ⟨g2, h⟩ := oif_some h
  obtain ⟨v3, -, h⟩ := elet_some h
  obtain ⟨g4, h⟩ := oif_some h
  obtain ⟨v5, -, h⟩ := elet_some h
  obtain ⟨v6, -, h⟩ := elet_some h
  obtain ⟨g7, h⟩ := oif_some h
  obtain ⟨T8, eT8, h⟩ := obind_some h
  have p1 : GI T T8 := GI.tr p0 (si_X10_widenTo eT8)
  exact GI.tr p1 (si_X10_addProduct_b14 _ _ _ _ _ _ _ h)
set_option maxHeartbeats 4000000 in
set_option maxRecDepth 100000 in
theorem si_X8_blockPowerOf_b68 {T1 : AT} : ∀ (T : AT), g_X8_blockPowerOf_b68 T = some T1 → GI T T1 := by
  intro T h
  have p0 := GI.rf T
  unfold g_X8_blockPowerOf_b68 at h
  rw [← osome1 h]
  exact p0
set_option maxHeartbeats 4000000 in
set_option maxRecDepth 100000 in
theorem si_X8_blockPowerOf_b54 {T1 : AT} {k23 : AT → Nat → Nat → Int32 → Nat → Int32 → Int32 → Int32 → Option (AT)} (hk23 : ∀ (T : AT) (l0 : Nat) (l1 : Nat) (l3 : Int32) (l4 : Nat) (l5 : Int32) (l6 : Int32) (l7 : Int32), k23 T l0 l1 l3 l4 l5 l6 l7 = some T1 → GI T T1) : ∀ (T : AT) (l0 : Nat) (l1 : Nat) (l3 : Int32) (l4 : Nat) (l5 : Int32) (l6 : Int32) (l7 : Int32), g_X8_blockPowerOf_b54 k23 T l0 l1 l3 l4 l5 l6 l7 = some T1 → GI T T1 := by
  intro T l0 l1 l3 l4 l5 l6 l7 h
  have p0 := GI.rf T
  unfold g_X8_blockPowerOf_b54 at h
  obtain ⟨v2, ev2, h⟩ := elet_some h
  exact GI.tr p0 (hk23 _ _ _ _ _ _ _ _ h)
set_option maxHeartbeats 4000000 in
set_option maxRecDepth 100000 in
theorem si_X8_blockPowerOf_b37 {T1 : AT} {k23 : AT → Nat → Nat → Int32 → Nat → Int32 → Int32 → Int32 → Option (AT)} (hk23 : ∀ (T : AT) (l0 : Nat) (l1 : Nat) (l3 : Int32) (l4 : Nat) (l5 : Int32) (l6 : Int32) (l7 : Int32), k23 T l0 l1 l3 l4 l5 l6 l7 = some T1 → GI T T1) : ∀ (T : AT) (l0 : Nat) (l1 : Nat) (l3 : Int32) (l4 : Nat) (l5 : Int32) (l6 : Int32) (l7 : Int32), g_X8_blockPowerOf_b37 k23 T l0 l1 l3 l4 l5 l6 l7 = some T1 → GI T T1 := by
  intro T l0 l1 l3 l4 l5 l6 l7 h
  have p0 := GI.rf T
  unfold g_X8_blockPowerOf_b37 at h
  obtain ⟨g2, h⟩ := oif_some h
  obtain ⟨n3, en3, h⟩ := obind_some h
  obtain ⟨g4, h⟩ := oif_some h
  obtain ⟨n5, en5, h⟩ := obind_some h
  obtain ⟨g6, h⟩ := oif_some h
  obtain ⟨T7, eT7, h⟩ := obind_some h
  have p1 : GI T T7 := GI.tr p0 (si_X10_addProduct eT7)
  exact GI.tr p1 (si_X8_blockPowerOf_b54 hk23 _ _ _ _ _ _ _ _ h)
set_option maxHeartbeats 4000000 in
set_option maxRecDepth 100000 in
theorem si_X8_blockPowerOf_b23 {T1 : AT} : ∀ n : Nat, ∀ (T : AT) (l0 : Nat) (l1 : Nat) (l3 : Int32) (l4 : Nat) (l5 : Int32) (l6 : Int32) (l7 : Int32), g_X8_blockPowerOf_b23 n T l0 l1 l3 l4 l5 l6 l7 = some T1 → GI T T1 := by
  intro n
  induction n with
  | zero =>
    intro T l0 l1 l3 l4 l5 l6 l7 h
    have h : (none : Option (AT)) = some T1 := h
    cases h
  | succ n ih =>
    intro T l0 l1 l3 l4 l5 l6 l7 h
    have p0 := GI.rf T
    unfold g_X8_blockPowerOf_b23 at h
    rcases oif_or h with ⟨c2, h⟩ | ⟨c2, h⟩
    · have h := h
      obtain ⟨g3, h⟩ := oif_some h
      obtain ⟨T4, eT4, h⟩ := obind_some h
      have p1 : GI T T4 := GI.tr p0 (si_X10_divide eT4)
      exact GI.tr p1 (si_X8_blockPowerOf_b68 _ h)
    · have h := h
      obtain ⟨g6, h⟩ := oif_some h
      obtain ⟨T7, eT7, h⟩ := obind_some h
      have p1 : GI T T7 := GI.tr p0 (si_X8_focus eT7)
      exact GI.tr p1 (si_X8_blockPowerOf_b37 ih _ _ _ _ _ _ _ _ h)
set_option maxHeartbeats 4000000 in
set_option maxRecDepth 100000 in
theorem si_X8_blockPowerOf {T : AT} {o : Nat} {a0 : Nat} {a1 : Int32} {a2 : Int32} {a3 : Nat} {a4 : Int32} {T1 : AT} (h : g_X8_blockPowerOf T o a0 a1 a2 a3 a4 = some T1) : GI T T1 := by
  have p0 := GI.rf T
  unfold g_X8_blockPowerOf at h
  obtain ⟨v2, -, h⟩ := elet_some h
  obtain ⟨g3, h⟩ := oif_some h
  obtain ⟨r5, T4, eT4, h⟩ := obind2_some h
  have p1 : GI T T4 := GI.tr p0 (gi_sp (s_X8_windowOf eT4))
  obtain ⟨v6, -, h⟩ := elet_some h
  obtain ⟨g7, h⟩ := oif_some h
  obtain ⟨T8, eT8, h⟩ := obind_some h
  have p2 : GI T T8 := GI.tr p1 (gi_sp (s_X10_clear eT8))
  exact GI.tr p2 (si_X8_blockPowerOf_b23 _ _ _ _ _ _ _ _ _ h)
set_option maxHeartbeats 4000000 in
set_option maxRecDepth 100000 in
theorem si_X0_measure_b41 {T1 : AT} {k3 : AT → Nat → Nat → Nat → Int32 → Int32 → Int32 → Int32 → Option (AT)} (hk3 : ∀ (T : AT) (l0 : Nat) (l1 : Nat) (l2 : Nat) (l3 : Int32) (l4 : Int32) (l5 : Int32) (l6 : Int32), k3 T l0 l1 l2 l3 l4 l5 l6 = some T1 → GI T T1) : ∀ (T : AT) (l0 : Nat) (l1 : Nat) (l2 : Nat) (l3 : Int32) (l4 : Int32) (l5 : Int32) (l6 : Int32), g_X0_measure_b41 k3 T l0 l1 l2 l3 l4 l5 l6 = some T1 → GI T T1 := by
  intro T l0 l1 l2 l3 l4 l5 l6 h
  have p0 := GI.rf T
  unfold g_X0_measure_b41 at h
  obtain ⟨v2, ev2, h⟩ := elet_some h
  exact GI.tr p0 (hk3 _ _ _ _ _ _ _ _ h)
set_option maxHeartbeats 4000000 in
set_option maxRecDepth 100000 in
theorem si_X0_measure_b3 {T1 : AT} : ∀ n : Nat, ∀ (T : AT) (l0 : Nat) (l1 : Nat) (l2 : Nat) (l3 : Int32) (l4 : Int32) (l5 : Int32) (l6 : Int32), g_X0_measure_b3 n T l0 l1 l2 l3 l4 l5 l6 = some T1 → GI T T1 := by
  intro n
  induction n with
  | zero =>
    intro T l0 l1 l2 l3 l4 l5 l6 h
    have h : (none : Option (AT)) = some T1 := h
    cases h
  | succ n ih =>
    intro T l0 l1 l2 l3 l4 l5 l6 h
    have p0 := GI.rf T
    unfold g_X0_measure_b3 at h
    obtain ⟨g2, h⟩ := oif_some h
    obtain ⟨n3, en3, h⟩ := obind_some h
    obtain ⟨g4, h⟩ := oif_some h
    obtain ⟨r6, T5, eT5, h⟩ := obind2_some h
    have p1 : GI T T5 := GI.tr p0 (gi_sp (s_X1_cells eT5))
    rcases oif_or h with ⟨c7, h⟩ | ⟨c7, h⟩
    · have h := h
      rw [← osome1 h]
      exact p1
    · have h := h
      obtain ⟨g8, h⟩ := oif_some h
      obtain ⟨n9, en9, h⟩ := obind_some h
      obtain ⟨g10, h⟩ := oif_some h
      obtain ⟨g11, h⟩ := oif_some h
      obtain ⟨n12, en12, h⟩ := obind_some h
      obtain ⟨g13, h⟩ := oif_some h
      obtain ⟨n14, en14, h⟩ := obind_some h
      obtain ⟨r15, -, h⟩ := obind_some h
      obtain ⟨v16, -, h⟩ := elet_some h
      obtain ⟨g17, h⟩ := oif_some h
      obtain ⟨T18, eT18, h⟩ := obind_some h
      have p2 : GI T T18 := GI.tr p1 (si_X8_blockPowerOf eT18)
      exact GI.tr p2 (si_X0_measure_b41 ih _ _ _ _ _ _ _ _ h)
set_option maxHeartbeats 4000000 in
set_option maxRecDepth 100000 in
theorem si_X0_measure {T : AT} {o : Nat} {a0 : Nat} {a1 : Nat} {a2 : Int32} {a3 : Int32} {a4 : Int32} {T1 : AT} (h : g_X0_measure T o a0 a1 a2 a3 a4 = some T1) : GI T T1 := by
  have p0 := GI.rf T
  unfold g_X0_measure at h
  exact GI.tr p0 (si_X0_measure_b3 _ _ _ _ _ _ _ _ _ h)
set_option maxHeartbeats 4000000 in
set_option maxRecDepth 100000 in
theorem si_X0_bestOf_b17 {r1 : Int32} {T1 : AT} : ∀ (T : AT) (l0 : Nat) (l1 : Nat), g_X0_bestOf_b17 T l0 l1 = some (r1, T1) → GI T T1 := by
  intro T l0 l1 h
  have p0 := GI.rf T
  unfold g_X0_bestOf_b17 at h
  obtain ⟨g2, h⟩ := oif_some h
  obtain ⟨n3, en3, h⟩ := obind_some h
  obtain ⟨g4, h⟩ := oif_some h
  obtain ⟨n5, en5, h⟩ := obind_some h
  obtain ⟨g6, h⟩ := oif_some h
  obtain ⟨n7, en7, h⟩ := obind_some h
  obtain ⟨g8, h⟩ := oif_some h
  obtain ⟨n9, en9, h⟩ := obind_some h
  obtain ⟨g10, h⟩ := oif_some h
  obtain ⟨r12, T11, eT11, h⟩ := obind2_some h
  have p1 : GI T T11 := GI.tr p0 (gi_sp (s_X1_bestIn eT11))
  rw [← (osome2 h).2]
  exact p1
set_option maxHeartbeats 4000000 in
set_option maxRecDepth 100000 in
theorem si_X0_bestOf {T : AT} {o : Nat} {a0 : Nat} {a1 : Nat} {a2 : Int32} {a3 : Int32} {r1 : Int32} {T1 : AT} (h : g_X0_bestOf T o a0 a1 a2 a3 = some (r1, T1)) : GI T T1 := by
  have p0 := GI.rf T
  unfold g_X0_bestOf at h
  obtain ⟨g2, h⟩ := oif_some h
  obtain ⟨n3, en3, h⟩ := obind_some h
  obtain ⟨g4, h⟩ := oif_some h
  obtain ⟨T5, eT5, h⟩ := obind_some h
  have p1 : GI T T5 := GI.tr p0 (gi_sp (s_X10_narrow eT5))
  obtain ⟨g7, h⟩ := oif_some h
  obtain ⟨T8, eT8, h⟩ := obind_some h
  have p2 : GI T T8 := GI.tr p1 (si_X0_measure eT8)
  exact GI.tr p2 (si_X0_bestOf_b17 _ _ _ h)
set_option maxHeartbeats 4000000 in
set_option maxRecDepth 100000 in
theorem si_X10_add_b56 {T1 : AT} : ∀ (T : AT), g_X10_add_b56 T = some T1 → GI T T1 := by
  intro T h
  have p0 := GI.rf T
  unfold g_X10_add_b56 at h
  rw [← osome1 h]
  exact p0
set_option maxHeartbeats 4000000 in
set_option maxRecDepth 100000 in
theorem si_X10_add_b11 {T1 : AT} : ∀ n : Nat, ∀ (T : AT) (l0 : Nat) (l1 : Int32) (l2 : Nat) (l3 : Int32) (l4 : Int32) (l5 : Int32), g_X10_add_b11 n T l0 l1 l2 l3 l4 l5 = some T1 → GI T T1 := by
  intro n
  induction n with
  | zero =>
    intro T l0 l1 l2 l3 l4 l5 h
    have h : (none : Option (AT)) = some T1 := h
    cases h
  | succ n ih =>
    intro T l0 l1 l2 l3 l4 l5 h
    have p0 := GI.rf T
    unfold g_X10_add_b11 at h
    obtain ⟨g2, h⟩ := oif_some h
    obtain ⟨v3, -, h⟩ := elet_some h
    rcases oif_or h with ⟨c4, h⟩ | ⟨c4, h⟩
    · have h := h
      obtain ⟨g5, h⟩ := oif_some h
      obtain ⟨T6, eT6, h⟩ := obind_some h
      have p1 : GI T T6 := GI.tr p0 (si_X10_settle eT6)
      exact GI.tr p1 (si_X10_add_b56 _ h)
    · have h := h
      obtain ⟨g8, h⟩ := oif_some h
      obtain ⟨n9, en9, h⟩ := obind_some h
      obtain ⟨g10, h⟩ := oif_some h
      obtain ⟨g11, h⟩ := oif_some h
      obtain ⟨n12, en12, h⟩ := obind_some h
      obtain ⟨g13, h⟩ := oif_some h
      obtain ⟨g14, h⟩ := oif_some h
      obtain ⟨v15, -, h⟩ := elet_some h
      obtain ⟨v16, -, h⟩ := elet_some h
      obtain ⟨g17, h⟩ := oif_some h
      obtain ⟨n18, en18, h⟩ := obind_some h
      obtain ⟨g19, h⟩ := oif_some h
      obtain ⟨g20, h⟩ := oif_some h
      obtain ⟨n21, en21, h⟩ := obind_some h
      obtain ⟨g22, h⟩ := oif_some h
      obtain ⟨g23, h⟩ := oif_some h
      obtain ⟨v24, -, h⟩ := elet_some h
      obtain ⟨v25, -, h⟩ := elet_some h
      obtain ⟨v26, -, h⟩ := elet_some h
      obtain ⟨g27, h⟩ := oif_some h
      obtain ⟨g28, h⟩ := oif_some h
      obtain ⟨T29, eT29, h⟩ := elet_some h
      have p1 : GI T T29 := GI.tr p0 (by rw [eT29]; exact gi_sp sp_uJ)
      obtain ⟨v30, ev30, h⟩ := elet_some h
      exact GI.tr p1 (ih _ _ _ _ _ _ _ h)
set_option maxHeartbeats 4000000 in
set_option maxRecDepth 100000 in
theorem si_X10_add_b8 {T1 : AT} : ∀ (T : AT) (l0 : Nat) (l1 : Int32) (l2 : Nat) (l3 : Int32) (l4 : Int32), g_X10_add_b8 T l0 l1 l2 l3 l4 = some T1 → GI T T1 := by
  intro T l0 l1 l2 l3 l4 h
  have p0 := GI.rf T
  unfold g_X10_add_b8 at h
  exact GI.tr p0 (si_X10_add_b11 _ _ _ _ _ _ _ _ h)
set_option maxHeartbeats 4000000 in
set_option maxRecDepth 100000 in
theorem si_X10_add {T : AT} {o : Nat} {a0 : Int32} {a1 : Nat} {a2 : Int32} {a3 : Int32} {T1 : AT} (h : g_X10_add T o a0 a1 a2 a3 = some T1) : GI T T1 := by
  have p0 := GI.rf T
  unfold g_X10_add at h
  obtain ⟨g2, h⟩ := oif_some h
  obtain ⟨v3, -, h⟩ := elet_some h
  obtain ⟨g4, h⟩ := oif_some h
  obtain ⟨T5, eT5, h⟩ := obind_some h
  have p1 : GI T T5 := GI.tr p0 (si_X10_widenTo eT5)
  exact GI.tr p1 (si_X10_add_b8 _ _ _ _ _ _ h)
set_option maxHeartbeats 4000000 in
set_option maxRecDepth 100000 in
theorem si_X0_score_b137 {T1 : AT} {k31 : AT → Nat → Nat → Nat → Int32 → Int32 → Int32 → Option (AT)} (hk31 : ∀ (T : AT) (l0 : Nat) (l1 : Nat) (l2 : Nat) (l3 : Int32) (l4 : Int32) (l5 : Int32), k31 T l0 l1 l2 l3 l4 l5 = some T1 → GI T T1) : ∀ (T : AT) (l0 : Nat) (l1 : Nat) (l2 : Nat) (l3 : Int32) (l4 : Int32) (l5 : Int32), g_X0_score_b137 k31 T l0 l1 l2 l3 l4 l5 = some T1 → GI T T1 := by
  intro T l0 l1 l2 l3 l4 l5 h
  have p0 := GI.rf T
  unfold g_X0_score_b137 at h
  obtain ⟨v2, ev2, h⟩ := elet_some h
  exact GI.tr p0 (hk31 _ _ _ _ _ _ _ h)
set_option maxHeartbeats 4000000 in
set_option maxRecDepth 100000 in
theorem si_X0_score_b131 {T1 : AT} {k31 : AT → Nat → Nat → Nat → Int32 → Int32 → Int32 → Option (AT)} {k52 : AT → Nat → Nat → Nat → Int32 → Int32 → Int32 → Int32 → Option (AT)} (hk31 : ∀ (T : AT) (l0 : Nat) (l1 : Nat) (l2 : Nat) (l3 : Int32) (l4 : Int32) (l5 : Int32), k31 T l0 l1 l2 l3 l4 l5 = some T1 → GI T T1) (hk52 : ∀ (T : AT) (l0 : Nat) (l1 : Nat) (l2 : Nat) (l3 : Int32) (l4 : Int32) (l5 : Int32) (l6 : Int32), k52 T l0 l1 l2 l3 l4 l5 l6 = some T1 → GI T T1) : ∀ (T : AT) (l0 : Nat) (l1 : Nat) (l2 : Nat) (l3 : Int32) (l4 : Int32) (l5 : Int32) (l6 : Int32), g_X0_score_b131 k31 k52 T l0 l1 l2 l3 l4 l5 l6 = some T1 → GI T T1 := by
  intro T l0 l1 l2 l3 l4 l5 l6 h
  have p0 := GI.rf T
  unfold g_X0_score_b131 at h
  obtain ⟨v2, ev2, h⟩ := elet_some h
  exact GI.tr p0 (hk52 _ _ _ _ _ _ _ _ h)
set_option maxHeartbeats 4000000 in
set_option maxRecDepth 100000 in
theorem si_X0_score_b52 {T1 : AT} {k31 : AT → Nat → Nat → Nat → Int32 → Int32 → Int32 → Option (AT)} (hk31 : ∀ (T : AT) (l0 : Nat) (l1 : Nat) (l2 : Nat) (l3 : Int32) (l4 : Int32) (l5 : Int32), k31 T l0 l1 l2 l3 l4 l5 = some T1 → GI T T1) : ∀ n : Nat, ∀ (T : AT) (l0 : Nat) (l1 : Nat) (l2 : Nat) (l3 : Int32) (l4 : Int32) (l5 : Int32) (l6 : Int32), g_X0_score_b52 k31 n T l0 l1 l2 l3 l4 l5 l6 = some T1 → GI T T1 := by
  intro n
  induction n with
  | zero =>
    intro T l0 l1 l2 l3 l4 l5 l6 h
    have h : (none : Option (AT)) = some T1 := h
    cases h
  | succ n ih =>
    intro T l0 l1 l2 l3 l4 l5 l6 h
    have p0 := GI.rf T
    unfold g_X0_score_b52 at h
    obtain ⟨g2, h⟩ := oif_some h
    obtain ⟨n3, en3, h⟩ := obind_some h
    obtain ⟨g4, h⟩ := oif_some h
    obtain ⟨r6, T5, eT5, h⟩ := obind2_some h
    have p1 : GI T T5 := GI.tr p0 (gi_sp (s_X1_cells eT5))
    rcases oif_or h with ⟨c7, h⟩ | ⟨c7, h⟩
    · have h := h
      exact GI.tr p1 (si_X0_score_b137 hk31 _ _ _ _ _ _ _ h)
    · have h := h
      obtain ⟨v8, -, h⟩ := elet_some h
      rcases oif_or h with ⟨c9, h⟩ | ⟨c9, h⟩
      · have h := h
        exact GI.tr p1 (si_X0_score_b137 hk31 _ _ _ _ _ _ _ h)
      · have h := h
        obtain ⟨v10, -, h⟩ := elet_some h
        obtain ⟨r11, -, h⟩ := obind_some h
        obtain ⟨g12, h⟩ := oif_some h
        obtain ⟨n13, en13, h⟩ := obind_some h
        obtain ⟨g14, h⟩ := oif_some h
        obtain ⟨n15, en15, h⟩ := obind_some h
        obtain ⟨g16, h⟩ := oif_some h
        obtain ⟨r18, T17, eT17, h⟩ := obind2_some h
        obtain ⟨g19, h⟩ := oif_some h
        have p2 : GI T T17 := GI.tr p1 (gi_sp (s_X1_areaAround eT17))
        obtain ⟨g20, h⟩ := oif_some h
        obtain ⟨n21, en21, h⟩ := obind_some h
        obtain ⟨g22, h⟩ := oif_some h
        obtain ⟨r24, T23, eT23, h⟩ := obind2_some h
        have p3 : GI T T23 := GI.tr p2 (gi_sp (s_X1_bestIn eT23))
        obtain ⟨g25, h⟩ := oif_some h
        obtain ⟨n26, en26, h⟩ := obind_some h
        obtain ⟨r27, -, h⟩ := obind_some h
        obtain ⟨v28, -, h⟩ := elet_some h
        obtain ⟨g29, h⟩ := oif_some h
        obtain ⟨n30, en30, h⟩ := obind_some h
        obtain ⟨v31, -, h⟩ := elet_some h
        obtain ⟨g32, h⟩ := oif_some h
        obtain ⟨T33, eT33, h⟩ := obind_some h
        have p4 : GI T T33 := GI.tr p3 (si_X10_add eT33)
        exact GI.tr p4 (si_X0_score_b131 hk31 ih _ _ _ _ _ _ _ _ h)
set_option maxHeartbeats 4000000 in
set_option maxRecDepth 100000 in
theorem si_X0_score_b49 {T1 : AT} {k31 : AT → Nat → Nat → Nat → Int32 → Int32 → Int32 → Option (AT)} (hk31 : ∀ (T : AT) (l0 : Nat) (l1 : Nat) (l2 : Nat) (l3 : Int32) (l4 : Int32) (l5 : Int32), k31 T l0 l1 l2 l3 l4 l5 = some T1 → GI T T1) : ∀ (T : AT) (l0 : Nat) (l1 : Nat) (l2 : Nat) (l3 : Int32) (l4 : Int32) (l5 : Int32), g_X0_score_b49 k31 T l0 l1 l2 l3 l4 l5 = some T1 → GI T T1 := by
  intro T l0 l1 l2 l3 l4 l5 h
  have p0 := GI.rf T
  unfold g_X0_score_b49 at h
  exact GI.tr p0 (si_X0_score_b52 hk31 _ _ _ _ _ _ _ _ _ h)
set_option maxHeartbeats 4000000 in
set_option maxRecDepth 100000 in
theorem si_X0_score_b31 {T1 : AT} : ∀ n : Nat, ∀ (T : AT) (l0 : Nat) (l1 : Nat) (l2 : Nat) (l3 : Int32) (l4 : Int32) (l5 : Int32), g_X0_score_b31 n T l0 l1 l2 l3 l4 l5 = some T1 → GI T T1 := by
  intro n
  induction n with
  | zero =>
    intro T l0 l1 l2 l3 l4 l5 h
    have h : (none : Option (AT)) = some T1 := h
    cases h
  | succ n ih =>
    intro T l0 l1 l2 l3 l4 l5 h
    have p0 := GI.rf T
    unfold g_X0_score_b31 at h
    rcases oif_or h with ⟨c2, h⟩ | ⟨c2, h⟩
    · have h := h
      rw [← osome1 h]
      exact p0
    · have h := h
      obtain ⟨v3, -, h⟩ := elet_some h
      obtain ⟨g4, h⟩ := oif_some h
      obtain ⟨T5, eT5, h⟩ := obind_some h
      have p1 : GI T T5 := GI.tr p0 (si_X0_measure eT5)
      exact GI.tr p1 (si_X0_score_b49 ih _ _ _ _ _ _ _ h)
set_option maxHeartbeats 4000000 in
set_option maxRecDepth 100000 in
theorem si_X0_score {T : AT} {o : Nat} {a0 : Nat} {a1 : Nat} {a2 : Int32} {T1 : AT} (h : g_X0_score T o a0 a1 a2 = some T1) : GI T T1 := by
  have p0 := GI.rf T
  unfold g_X0_score at h
  obtain ⟨g2, h⟩ := oif_some h
  obtain ⟨v3, -, h⟩ := elet_some h
  obtain ⟨v4, -, h⟩ := elet_some h
  obtain ⟨v5, -, h⟩ := elet_some h
  obtain ⟨r6, -, h⟩ := obind_some h
  obtain ⟨v7, -, h⟩ := elet_some h
  obtain ⟨v8, -, h⟩ := elet_some h
  obtain ⟨g9, h⟩ := oif_some h
  obtain ⟨n10, en10, h⟩ := obind_some h
  obtain ⟨g11, h⟩ := oif_some h
  obtain ⟨T12, eT12, h⟩ := obind_some h
  have p1 : GI T T12 := GI.tr p0 (gi_sp (s_X10_narrow eT12))
  obtain ⟨v14, -, h⟩ := elet_some h
  exact GI.tr p1 (si_X0_score_b31 _ _ _ _ _ _ _ _ h)
set_option maxHeartbeats 4000000 in
set_option maxRecDepth 100000 in
theorem si_X10_set_b13 {T1 : AT} : ∀ (T : AT), g_X10_set_b13 T = some T1 → GI T T1 := by
  intro T h
  have p0 := GI.rf T
  unfold g_X10_set_b13 at h
  rw [← osome1 h]
  exact p0
set_option maxHeartbeats 4000000 in
set_option maxRecDepth 100000 in
theorem si_X10_set {T : AT} {o : Nat} {a0 : Int32} {a1 : Nat} {a2 : Int32} {T1 : AT} (h : g_X10_set T o a0 a1 a2 = some T1) : GI T T1 := by
  have p0 := GI.rf T
  unfold g_X10_set at h
  obtain ⟨g2, h⟩ := oif_some h
  obtain ⟨T3, eT3, h⟩ := obind_some h
  have p1 : GI T T3 := GI.tr p0 (gi_sp (s_X10_clear eT3))
  obtain ⟨g5, h⟩ := oif_some h
  obtain ⟨T6, eT6, h⟩ := obind_some h
  have p2 : GI T T6 := GI.tr p1 (si_X10_add eT6)
  exact GI.tr p2 (si_X10_set_b13 _ h)
set_option maxHeartbeats 4000000 in
set_option maxRecDepth 100000 in
theorem si_X4_measure_b148 {T1 : AT} {k89 : AT → Nat → Nat → Int32 → Option (AT)} (hk89 : ∀ (T : AT) (l0 : Nat) (l1 : Nat) (l3 : Int32), k89 T l0 l1 l3 = some T1 → GI T T1) : ∀ (T : AT) (l0 : Nat) (l1 : Nat) (l3 : Int32), g_X4_measure_b148 k89 T l0 l1 l3 = some T1 → GI T T1 := by
  intro T l0 l1 l3 h
  have p0 := GI.rf T
  unfold g_X4_measure_b148 at h
  obtain ⟨v2, ev2, h⟩ := elet_some h
  exact GI.tr p0 (hk89 _ _ _ _ h)
set_option maxHeartbeats 4000000 in
set_option maxRecDepth 100000 in
theorem si_X4_measure_b138 {T1 : AT} {k89 : AT → Nat → Nat → Int32 → Option (AT)} (hk89 : ∀ (T : AT) (l0 : Nat) (l1 : Nat) (l3 : Int32), k89 T l0 l1 l3 = some T1 → GI T T1) : ∀ (T : AT) (l0 : Nat) (l1 : Nat) (l3 : Int32), g_X4_measure_b138 k89 T l0 l1 l3 = some T1 → GI T T1 := by
  intro T l0 l1 l3 h
  have p0 := GI.rf T
  unfold g_X4_measure_b138 at h
  obtain ⟨g2, h⟩ := oif_some h
  obtain ⟨v3, -, h⟩ := elet_some h
  obtain ⟨v4, -, h⟩ := elet_some h
  obtain ⟨g5, h⟩ := oif_some h
  obtain ⟨T6, eT6, h⟩ := elet_some h
  have p1 : GI T T6 := GI.tr p0 (by rw [eT6]; exact gi_sp sp_uI)
  exact GI.tr p1 (si_X4_measure_b148 hk89 _ _ _ _ h)
set_option maxHeartbeats 4000000 in
set_option maxRecDepth 100000 in
theorem si_X4_measure_b89 {T1 : AT} : ∀ n : Nat, ∀ (T : AT) (l0 : Nat) (l1 : Nat) (l3 : Int32), g_X4_measure_b89 n T l0 l1 l3 = some T1 → GI T T1 := by
  intro n
  induction n with
  | zero =>
    intro T l0 l1 l3 h
    have h : (none : Option (AT)) = some T1 := h
    cases h
  | succ n ih =>
    intro T l0 l1 l3 h
    have p0 := GI.rf T
    unfold g_X4_measure_b89 at h
    obtain ⟨g2, h⟩ := oif_some h
    obtain ⟨n3, en3, h⟩ := obind_some h
    obtain ⟨g4, h⟩ := oif_some h
    obtain ⟨r6, T5, eT5, h⟩ := obind2_some h
    have p1 : GI T T5 := GI.tr p0 (gi_sp (s_X1_cells eT5))
    rcases oif_or h with ⟨c7, h⟩ | ⟨c7, h⟩
    · have h := h
      rw [← osome1 h]
      exact p1
    · have h := h
      obtain ⟨g8, h⟩ := oif_some h
      obtain ⟨n9, en9, h⟩ := obind_some h
      obtain ⟨g10, h⟩ := oif_some h
      obtain ⟨r12, T11, eT11, h⟩ := obind2_some h
      have p2 : GI T T11 := GI.tr p1 (gi_sp (s_X4_standsOut eT11))
      rcases oif_or h with ⟨c13, h⟩ | ⟨c13, h⟩
      · have h := h
        exact GI.tr p2 (si_X4_measure_b148 ih _ _ _ _ h)
      · have h := h
        obtain ⟨g14, h⟩ := oif_some h
        obtain ⟨n15, en15, h⟩ := obind_some h
        obtain ⟨g16, h⟩ := oif_some h
        obtain ⟨v17, -, h⟩ := elet_some h
        obtain ⟨g18, h⟩ := oif_some h
        obtain ⟨g19, h⟩ := oif_some h
        obtain ⟨T20, eT20, h⟩ := elet_some h
        have p3 : GI T T20 := GI.tr p2 (by rw [eT20]; exact gi_sp sp_uI)
        obtain ⟨g21, h⟩ := oif_some h
        obtain ⟨n22, en22, h⟩ := obind_some h
        obtain ⟨g23, h⟩ := oif_some h
        obtain ⟨v24, -, h⟩ := elet_some h
        obtain ⟨g25, h⟩ := oif_some h
        obtain ⟨n26, en26, h⟩ := obind_some h
        obtain ⟨g27, h⟩ := oif_some h
        obtain ⟨T28, eT28, h⟩ := obind_some h
        have p4 : GI T T28 := GI.tr p3 (si_X10_set eT28)
        exact GI.tr p4 (si_X4_measure_b138 ih _ _ _ _ h)
set_option maxHeartbeats 4000000 in
set_option maxRecDepth 100000 in
theorem si_X4_measure_b53 {T1 : AT} {k16 : AT → Nat → Nat → Nat → Int32 → Option (AT)} (hk16 : ∀ (T : AT) (l0 : Nat) (l1 : Nat) (l2 : Nat) (l3 : Int32), k16 T l0 l1 l2 l3 = some T1 → GI T T1) : ∀ (T : AT) (l0 : Nat) (l1 : Nat) (l2 : Nat) (l3 : Int32), g_X4_measure_b53 k16 T l0 l1 l2 l3 = some T1 → GI T T1 := by
  intro T l0 l1 l2 l3 h
  have p0 := GI.rf T
  unfold g_X4_measure_b53 at h
  obtain ⟨v2, ev2, h⟩ := elet_some h
  exact GI.tr p0 (hk16 _ _ _ _ _ h)
set_option maxHeartbeats 4000000 in
set_option maxRecDepth 100000 in
theorem si_X4_measure_b16 {T1 : AT} : ∀ n : Nat, ∀ (T : AT) (l0 : Nat) (l1 : Nat) (l2 : Nat) (l3 : Int32), g_X4_measure_b16 n T l0 l1 l2 l3 = some T1 → GI T T1 := by
  intro n
  induction n with
  | zero =>
    intro T l0 l1 l2 l3 h
    have h : (none : Option (AT)) = some T1 := h
    cases h
  | succ n ih =>
    intro T l0 l1 l2 l3 h
    have p0 := GI.rf T
    unfold g_X4_measure_b16 at h
    obtain ⟨g2, h⟩ := oif_some h
    obtain ⟨n3, en3, h⟩ := obind_some h
    obtain ⟨g4, h⟩ := oif_some h
    obtain ⟨r6, T5, eT5, h⟩ := obind2_some h
    have p1 : GI T T5 := GI.tr p0 (gi_sp (s_X1_cells eT5))
    rcases oif_or h with ⟨c7, h⟩ | ⟨c7, h⟩
    · have h := h
      obtain ⟨g8, h⟩ := oif_some h
      obtain ⟨n9, en9, h⟩ := obind_some h
      obtain ⟨g10, h⟩ := oif_some h
      obtain ⟨n11, en11, h⟩ := obind_some h
      obtain ⟨g12, h⟩ := oif_some h
      obtain ⟨n13, en13, h⟩ := obind_some h
      obtain ⟨g14, h⟩ := oif_some h
      obtain ⟨n15, en15, h⟩ := obind_some h
      obtain ⟨g16, h⟩ := oif_some h
      obtain ⟨r18, T17, eT17, h⟩ := obind2_some h
      have p2 : GI T T17 := GI.tr p1 (gi_sp (s_X1_bestIn eT17))
      obtain ⟨g19, h⟩ := oif_some h
      obtain ⟨T20, eT20, h⟩ := elet_some h
      have p3 : GI T T20 := GI.tr p2 (by rw [eT20]; exact gi_sp sp_uI)
      obtain ⟨g21, h⟩ := oif_some h
      obtain ⟨T22, eT22, h⟩ := elet_some h
      have p4 : GI T T22 := GI.tr p3 (by rw [eT22]; exact gi_sp sp_uI)
      exact GI.tr p4 (si_X4_measure_b89 _ _ _ _ _ h)
    · have h := h
      obtain ⟨g23, h⟩ := oif_some h
      obtain ⟨n24, en24, h⟩ := obind_some h
      obtain ⟨g25, h⟩ := oif_some h
      obtain ⟨g26, h⟩ := oif_some h
      obtain ⟨n27, en27, h⟩ := obind_some h
      obtain ⟨g28, h⟩ := oif_some h
      obtain ⟨r30, T29, eT29, h⟩ := obind2_some h
      have p2 : GI T T29 := GI.tr p1 (gi_sp (s_X8_windowOf eT29))
      obtain ⟨g31, h⟩ := oif_some h
      obtain ⟨n32, en32, h⟩ := obind_some h
      obtain ⟨g33, h⟩ := oif_some h
      obtain ⟨T34, eT34, h⟩ := obind_some h
      have p3 : GI T T34 := GI.tr p2 (si_X8_blockPowerOf eT34)
      exact GI.tr p3 (si_X4_measure_b53 ih _ _ _ _ _ h)
set_option maxHeartbeats 4000000 in
set_option maxRecDepth 100000 in
theorem si_X4_measure {T : AT} {o : Nat} {a0 : Nat} {a1 : Nat} {T1 : AT} (h : g_X4_measure T o a0 a1 = some T1) : GI T T1 := by
  have p0 := GI.rf T
  unfold g_X4_measure at h
  obtain ⟨g2, h⟩ := oif_some h
  obtain ⟨n3, en3, h⟩ := obind_some h
  obtain ⟨g4, h⟩ := oif_some h
  obtain ⟨T5, eT5, h⟩ := obind_some h
  have p1 : GI T T5 := GI.tr p0 (gi_sp (s_X10_narrow eT5))
  obtain ⟨g7, h⟩ := oif_some h
  obtain ⟨n8, en8, h⟩ := obind_some h
  obtain ⟨g9, h⟩ := oif_some h
  obtain ⟨T10, eT10, h⟩ := obind_some h
  have p2 : GI T T10 := GI.tr p1 (gi_sp (s_X10_narrow eT10))
  exact GI.tr p2 (si_X4_measure_b16 _ _ _ _ _ _ h)
set_option maxHeartbeats 4000000 in
set_option maxRecDepth 100000 in
theorem si_X4_sumIn_b53 {T1 : AT} {k11 : AT → Nat → Nat → Nat → Nat → Int32 → Int32 → Option (AT)} {k24 : AT → Nat → Nat → Nat → Nat → Int32 → Int32 → Int32 → Option (AT)} (hk11 : ∀ (T : AT) (l0 : Nat) (l1 : Nat) (l2 : Nat) (l3 : Nat) (l4 : Int32) (l5 : Int32), k11 T l0 l1 l2 l3 l4 l5 = some T1 → GI T T1) (hk24 : ∀ (T : AT) (l0 : Nat) (l1 : Nat) (l2 : Nat) (l3 : Nat) (l4 : Int32) (l5 : Int32) (l6 : Int32), k24 T l0 l1 l2 l3 l4 l5 l6 = some T1 → GI T T1) : ∀ (T : AT) (l0 : Nat) (l1 : Nat) (l2 : Nat) (l3 : Nat) (l4 : Int32) (l5 : Int32) (l6 : Int32), g_X4_sumIn_b53 k11 k24 T l0 l1 l2 l3 l4 l5 l6 = some T1 → GI T T1 := by
  intro T l0 l1 l2 l3 l4 l5 l6 h
  have p0 := GI.rf T
  unfold g_X4_sumIn_b53 at h
  obtain ⟨v2, ev2, h⟩ := elet_some h
  exact GI.tr p0 (hk24 _ _ _ _ _ _ _ _ h)
set_option maxHeartbeats 4000000 in
set_option maxRecDepth 100000 in
theorem si_X4_sumIn_b24 {T1 : AT} {k11 : AT → Nat → Nat → Nat → Nat → Int32 → Int32 → Option (AT)} (hk11 : ∀ (T : AT) (l0 : Nat) (l1 : Nat) (l2 : Nat) (l3 : Nat) (l4 : Int32) (l5 : Int32), k11 T l0 l1 l2 l3 l4 l5 = some T1 → GI T T1) : ∀ n : Nat, ∀ (T : AT) (l0 : Nat) (l1 : Nat) (l2 : Nat) (l3 : Nat) (l4 : Int32) (l5 : Int32) (l6 : Int32), g_X4_sumIn_b24 k11 n T l0 l1 l2 l3 l4 l5 l6 = some T1 → GI T T1 := by
  intro n
  induction n with
  | zero =>
    intro T l0 l1 l2 l3 l4 l5 l6 h
    have h : (none : Option (AT)) = some T1 := h
    cases h
  | succ n ih =>
    intro T l0 l1 l2 l3 l4 l5 l6 h
    have p0 := GI.rf T
    unfold g_X4_sumIn_b24 at h
    obtain ⟨g2, h⟩ := oif_some h
    obtain ⟨g3, h⟩ := oif_some h
    obtain ⟨v4, -, h⟩ := elet_some h
    rcases oif_or h with ⟨c5, h⟩ | ⟨c5, h⟩
    · have h := h
      obtain ⟨v6, ev6, h⟩ := elet_some h
      exact GI.tr p0 (hk11 _ _ _ _ _ _ _ h)
    · have h := h
      obtain ⟨g7, h⟩ := oif_some h
      obtain ⟨n8, en8, h⟩ := obind_some h
      obtain ⟨g9, h⟩ := oif_some h
      obtain ⟨v10, -, h⟩ := elet_some h
      obtain ⟨v11, -, h⟩ := elet_some h
      obtain ⟨v12, -, h⟩ := elet_some h
      obtain ⟨g13, h⟩ := oif_some h
      obtain ⟨T14, eT14, h⟩ := obind_some h
      have p1 : GI T T14 := GI.tr p0 (si_X10_add eT14)
      exact GI.tr p1 (si_X4_sumIn_b53 hk11 ih _ _ _ _ _ _ _ _ h)
set_option maxHeartbeats 4000000 in
set_option maxRecDepth 100000 in
theorem si_X4_sumIn_b11 {T1 : AT} : ∀ n : Nat, ∀ (T : AT) (l0 : Nat) (l1 : Nat) (l2 : Nat) (l3 : Nat) (l4 : Int32) (l5 : Int32), g_X4_sumIn_b11 n T l0 l1 l2 l3 l4 l5 = some T1 → GI T T1 := by
  intro n
  induction n with
  | zero =>
    intro T l0 l1 l2 l3 l4 l5 h
    have h : (none : Option (AT)) = some T1 := h
    cases h
  | succ n ih =>
    intro T l0 l1 l2 l3 l4 l5 h
    have p0 := GI.rf T
    unfold g_X4_sumIn_b11 at h
    obtain ⟨g2, h⟩ := oif_some h
    obtain ⟨g3, h⟩ := oif_some h
    obtain ⟨v4, -, h⟩ := elet_some h
    rcases oif_or h with ⟨c5, h⟩ | ⟨c5, h⟩
    · have h := h
      rw [← osome1 h]
      exact p0
    · have h := h
      obtain ⟨g6, h⟩ := oif_some h
      obtain ⟨g7, h⟩ := oif_some h
      obtain ⟨v8, -, h⟩ := elet_some h
      exact GI.tr p0 (si_X4_sumIn_b24 ih _ _ _ _ _ _ _ _ _ h)
set_option maxHeartbeats 4000000 in
set_option maxRecDepth 100000 in
theorem si_X4_sumIn {T : AT} {o : Nat} {a0 : Nat} {a1 : Nat} {a2 : Nat} {a3 : Int32} {T1 : AT} (h : g_X4_sumIn T o a0 a1 a2 a3 = some T1) : GI T T1 := by
  have p0 := GI.rf T
  unfold g_X4_sumIn at h
  obtain ⟨g2, h⟩ := oif_some h
  obtain ⟨T3, eT3, h⟩ := obind_some h
  have p1 : GI T T3 := GI.tr p0 (gi_sp (s_X10_clear eT3))
  obtain ⟨g5, h⟩ := oif_some h
  obtain ⟨g6, h⟩ := oif_some h
  obtain ⟨v7, -, h⟩ := elet_some h
  exact GI.tr p1 (si_X4_sumIn_b11 _ _ _ _ _ _ _ _ h)
set_option maxHeartbeats 4000000 in
set_option maxRecDepth 100000 in
theorem si_X4_digit_b84 {r1 : Int32} {T1 : AT} : ∀ (T : AT) (l3 : Int32), g_X4_digit_b84 T l3 = some (r1, T1) → GI T T1 := by
  intro T l3 h
  have p0 := GI.rf T
  unfold g_X4_digit_b84 at h
  rw [← (osome2 h).2]
  exact p0
set_option maxHeartbeats 4000000 in
set_option maxRecDepth 100000 in
theorem si_X4_digit_b77 {r1 : Int32} {T1 : AT} {k27 : AT → Nat → Nat → Int32 → Int32 → Option (Int32 × AT)} (hk27 : ∀ (T : AT) (l0 : Nat) (l2 : Nat) (l3 : Int32) (l4 : Int32), k27 T l0 l2 l3 l4 = some (r1, T1) → GI T T1) : ∀ (T : AT) (s0 : Int32) (l0 : Nat) (l2 : Nat) (l4 : Int32), g_X4_digit_b77 k27 T s0 l0 l2 l4 = some (r1, T1) → GI T T1 := by
  intro T s0 l0 l2 l4 h
  have p0 := GI.rf T
  unfold g_X4_digit_b77 at h
  obtain ⟨v2, ev2, h⟩ := elet_some h
  exact GI.tr p0 (hk27 _ _ _ _ _ h)
set_option maxHeartbeats 4000000 in
set_option maxRecDepth 100000 in
theorem si_X4_digit_b62 {r1 : Int32} {T1 : AT} {k27 : AT → Nat → Nat → Int32 → Int32 → Option (Int32 × AT)} (hk27 : ∀ (T : AT) (l0 : Nat) (l2 : Nat) (l3 : Int32) (l4 : Int32), k27 T l0 l2 l3 l4 = some (r1, T1) → GI T T1) : ∀ (T : AT) (l0 : Nat) (l2 : Nat) (l3 : Int32) (l4 : Int32), g_X4_digit_b62 k27 T l0 l2 l3 l4 = some (r1, T1) → GI T T1 := by
  intro T l0 l2 l3 l4 h
  have p0 := GI.rf T
  unfold g_X4_digit_b62 at h
  obtain ⟨g2, h⟩ := oif_some h
  obtain ⟨r4, T3, eT3, h⟩ := obind2_some h
  have p1 : GI T T3 := GI.tr p0 (gi_sp (s_X10_compare eT3))
  rcases oif_or h with ⟨c5, h⟩ | ⟨c5, h⟩
  · have h := h
    exact GI.tr p1 (si_X4_digit_b77 hk27 _ _ _ _ _ h)
  · have h := h
    exact GI.tr p1 (si_X4_digit_b77 hk27 _ _ _ _ _ h)
set_option maxHeartbeats 4000000 in
set_option maxRecDepth 100000 in
theorem si_X4_digit_b27 {r1 : Int32} {T1 : AT} : ∀ n : Nat, ∀ (T : AT) (l0 : Nat) (l2 : Nat) (l3 : Int32) (l4 : Int32), g_X4_digit_b27 n T l0 l2 l3 l4 = some (r1, T1) → GI T T1 := by
  intro n
  induction n with
  | zero =>
    intro T l0 l2 l3 l4 h
    have h : (none : Option (Int32 × AT)) = some (r1, T1) := h
    cases h
  | succ n ih =>
    intro T l0 l2 l3 l4 h
    have p0 := GI.rf T
    unfold g_X4_digit_b27 at h
    rcases oif_or h with ⟨c2, h⟩ | ⟨c2, h⟩
    · have h := h
      exact GI.tr p0 (si_X4_digit_b84 _ _ h)
    · have h := h
      obtain ⟨g3, h⟩ := oif_some h
      obtain ⟨n4, en4, h⟩ := obind_some h
      obtain ⟨g5, h⟩ := oif_some h
      obtain ⟨v6, -, h⟩ := elet_some h
      obtain ⟨g7, h⟩ := oif_some h
      obtain ⟨r9, T8, eT8, h⟩ := obind2_some h
      have p1 : GI T T8 := GI.tr p0 (gi_sp (s_X10_isZero eT8))
      rcases oif_or h with ⟨c10, h⟩ | ⟨c10, h⟩
      · have h := h
        obtain ⟨g11, h⟩ := oif_some h
        obtain ⟨n12, en12, h⟩ := obind_some h
        obtain ⟨g13, h⟩ := oif_some h
        obtain ⟨v14, -, h⟩ := elet_some h
        obtain ⟨g15, h⟩ := oif_some h
        obtain ⟨T16, eT16, h⟩ := obind_some h
        have p2 : GI T T16 := GI.tr p1 (si_X10_add eT16)
        exact GI.tr p2 (si_X4_digit_b62 ih _ _ _ _ _ h)
      · have h := h
        exact GI.tr p1 (si_X4_digit_b84 _ _ h)
set_option maxHeartbeats 4000000 in
set_option maxRecDepth 100000 in
theorem si_X4_digit_b22 {r1 : Int32} {T1 : AT} : ∀ (T : AT) (l0 : Nat) (l2 : Nat), g_X4_digit_b22 T l0 l2 = some (r1, T1) → GI T T1 := by
  intro T l0 l2 h
  have p0 := GI.rf T
  unfold g_X4_digit_b22 at h
  exact GI.tr p0 (si_X4_digit_b27 _ _ _ _ _ _ h)
set_option maxHeartbeats 4000000 in
set_option maxRecDepth 100000 in
theorem si_X4_digit {T : AT} {o : Nat} {a0 : Int32} {a1 : Nat} {r1 : Int32} {T1 : AT} (h : g_X4_digit T o a0 a1 = some (r1, T1)) : GI T T1 := by
  have p0 := GI.rf T
  unfold g_X4_digit at h
  obtain ⟨g2, h⟩ := oif_some h
  obtain ⟨T3, eT3, h⟩ := obind_some h
  have p1 : GI T T3 := GI.tr p0 (gi_sp (s_X10_clear eT3))
  obtain ⟨g5, h⟩ := oif_some h
  obtain ⟨T6, eT6, h⟩ := obind_some h
  have p2 : GI T T6 := GI.tr p1 (gi_sp (s_X10_clear eT6))
  obtain ⟨g8, h⟩ := oif_some h
  obtain ⟨n9, en9, h⟩ := obind_some h
  obtain ⟨g10, h⟩ := oif_some h
  obtain ⟨T11, eT11, h⟩ := obind_some h
  have p3 : GI T T11 := GI.tr p2 (si_X10_add eT11)
  exact GI.tr p3 (si_X4_digit_b22 _ _ _ h)
set_option maxHeartbeats 4000000 in
set_option maxRecDepth 100000 in
theorem si_X10_put_b20 {T1 : AT} : ∀ (T : AT), g_X10_put_b20 T = some T1 → GI T T1 := by
  intro T h
  have p0 := GI.rf T
  unfold g_X10_put_b20 at h
  rw [← osome1 h]
  exact p0
set_option maxHeartbeats 4000000 in
set_option maxRecDepth 100000 in
theorem si_X10_put {T : AT} {o : Nat} {a0 : Int32} {a1 : Int32} {T1 : AT} (h : g_X10_put T o a0 a1 = some T1) : GI T T1 := by
  have p0 := GI.rf T
  unfold g_X10_put at h
  obtain ⟨g2, h⟩ := oif_some h
  obtain ⟨T3, eT3, h⟩ := obind_some h
  have p1 : GI T T3 := GI.tr p0 (gi_sp (s_X10_clear eT3))
  obtain ⟨g5, h⟩ := oif_some h
  obtain ⟨n6, en6, h⟩ := obind_some h
  obtain ⟨g7, h⟩ := oif_some h
  obtain ⟨g8, h⟩ := oif_some h
  obtain ⟨n9, en9, h⟩ := obind_some h
  obtain ⟨v10, -, h⟩ := elet_some h
  obtain ⟨g11, h⟩ := oif_some h
  obtain ⟨g12, h⟩ := oif_some h
  obtain ⟨T13, eT13, h⟩ := elet_some h
  have p2 : GI T T13 := GI.tr p1 (by rw [eT13]; exact gi_sp sp_uJ)
  obtain ⟨g14, h⟩ := oif_some h
  obtain ⟨T15, eT15, h⟩ := obind_some h
  have p3 : GI T T15 := GI.tr p2 (si_X10_settle eT15)
  exact GI.tr p3 (si_X10_put_b20 _ h)
set_option maxHeartbeats 4000000 in
set_option maxRecDepth 100000 in
theorem si_X5_finish_b87 {T1 : AT} {k9 : AT → Nat → Nat → Nat → Int32 → Option (AT)} {k20 : AT → Nat → Nat → Nat → Int32 → Int32 → Option (AT)} (hk9 : ∀ (T : AT) (l0 : Nat) (l1 : Nat) (l2 : Nat) (l3 : Int32), k9 T l0 l1 l2 l3 = some T1 → GI T T1) (hk20 : ∀ (T : AT) (l0 : Nat) (l1 : Nat) (l2 : Nat) (l3 : Int32) (l4 : Int32), k20 T l0 l1 l2 l3 l4 = some T1 → GI T T1) : ∀ (T : AT) (l0 : Nat) (l1 : Nat) (l2 : Nat) (l3 : Int32) (l4 : Int32), g_X5_finish_b87 k9 k20 T l0 l1 l2 l3 l4 = some T1 → GI T T1 := by
  intro T l0 l1 l2 l3 l4 h
  have p0 := GI.rf T
  unfold g_X5_finish_b87 at h
  obtain ⟨v2, ev2, h⟩ := elet_some h
  exact GI.tr p0 (hk20 _ _ _ _ _ _ h)
set_option maxHeartbeats 4000000 in
set_option maxRecDepth 100000 in
theorem si_X5_finish_b55 {T1 : AT} {k9 : AT → Nat → Nat → Nat → Int32 → Option (AT)} {k20 : AT → Nat → Nat → Nat → Int32 → Int32 → Option (AT)} (hk9 : ∀ (T : AT) (l0 : Nat) (l1 : Nat) (l2 : Nat) (l3 : Int32), k9 T l0 l1 l2 l3 = some T1 → GI T T1) (hk20 : ∀ (T : AT) (l0 : Nat) (l1 : Nat) (l2 : Nat) (l3 : Int32) (l4 : Int32), k20 T l0 l1 l2 l3 l4 = some T1 → GI T T1) : ∀ (T : AT) (s0 : Int32) (l0 : Nat) (l1 : Nat) (l2 : Nat) (l3 : Int32) (l4 : Int32), g_X5_finish_b55 k9 k20 T s0 l0 l1 l2 l3 l4 = some T1 → GI T T1 := by
  intro T s0 l0 l1 l2 l3 l4 h
  have p0 := GI.rf T
  unfold g_X5_finish_b55 at h
  obtain ⟨g2, h⟩ := oif_some h
  obtain ⟨n3, en3, h⟩ := obind_some h
  obtain ⟨r4, -, h⟩ := obind_some h
  obtain ⟨g5, h⟩ := oif_some h
  obtain ⟨v6, -, h⟩ := elet_some h
  obtain ⟨v7, -, h⟩ := elet_some h
  obtain ⟨g8, h⟩ := oif_some h
  obtain ⟨v9, -, h⟩ := elet_some h
  obtain ⟨v10, -, h⟩ := elet_some h
  obtain ⟨v11, -, h⟩ := elet_some h
  obtain ⟨g12, h⟩ := oif_some h
  obtain ⟨T13, eT13, h⟩ := obind_some h
  have p1 : GI T T13 := GI.tr p0 (si_X10_put eT13)
  exact GI.tr p1 (si_X5_finish_b87 hk9 hk20 _ _ _ _ _ _ h)
set_option maxHeartbeats 4000000 in
set_option maxRecDepth 100000 in
theorem si_X5_finish_b20 {T1 : AT} {k9 : AT → Nat → Nat → Nat → Int32 → Option (AT)} (hk9 : ∀ (T : AT) (l0 : Nat) (l1 : Nat) (l2 : Nat) (l3 : Int32), k9 T l0 l1 l2 l3 = some T1 → GI T T1) : ∀ n : Nat, ∀ (T : AT) (l0 : Nat) (l1 : Nat) (l2 : Nat) (l3 : Int32) (l4 : Int32), g_X5_finish_b20 k9 n T l0 l1 l2 l3 l4 = some T1 → GI T T1 := by
  intro n
  induction n with
  | zero =>
    intro T l0 l1 l2 l3 l4 h
    have h : (none : Option (AT)) = some T1 := h
    cases h
  | succ n ih =>
    intro T l0 l1 l2 l3 l4 h
    have p0 := GI.rf T
    unfold g_X5_finish_b20 at h
    obtain ⟨g2, h⟩ := oif_some h
    obtain ⟨v3, -, h⟩ := elet_some h
    rcases oif_or h with ⟨c4, h⟩ | ⟨c4, h⟩
    · have h := h
      obtain ⟨v5, ev5, h⟩ := elet_some h
      exact GI.tr p0 (hk9 _ _ _ _ _ h)
    · have h := h
      obtain ⟨g6, h⟩ := oif_some h
      obtain ⟨v7, -, h⟩ := elet_some h
      rcases oif_or h with ⟨c8, h⟩ | ⟨c8, h⟩
      · have h := h
        obtain ⟨g9, h⟩ := oif_some h
        obtain ⟨r11, T10, eT10, h⟩ := obind2_some h
        have p1 : GI T T10 := GI.tr p0 (gi_sp (s_X5_raw eT10))
        exact GI.tr p1 (si_X5_finish_b55 hk9 ih _ _ _ _ _ _ _ h)
      · have h := h
        obtain ⟨g12, h⟩ := oif_some h
        obtain ⟨r14, T13, eT13, h⟩ := obind2_some h
        have p1 : GI T T13 := GI.tr p0 (gi_sp (s_X5_filtered eT13))
        exact GI.tr p1 (si_X5_finish_b55 hk9 ih _ _ _ _ _ _ _ h)
set_option maxHeartbeats 4000000 in
set_option maxRecDepth 100000 in
theorem si_X5_finish_b9 {T1 : AT} : ∀ n : Nat, ∀ (T : AT) (l0 : Nat) (l1 : Nat) (l2 : Nat) (l3 : Int32), g_X5_finish_b9 n T l0 l1 l2 l3 = some T1 → GI T T1 := by
  intro n
  induction n with
  | zero =>
    intro T l0 l1 l2 l3 h
    have h : (none : Option (AT)) = some T1 := h
    cases h
  | succ n ih =>
    intro T l0 l1 l2 l3 h
    have p0 := GI.rf T
    unfold g_X5_finish_b9 at h
    obtain ⟨g2, h⟩ := oif_some h
    obtain ⟨v3, -, h⟩ := elet_some h
    rcases oif_or h with ⟨c4, h⟩ | ⟨c4, h⟩
    · have h := h
      obtain ⟨g5, h⟩ := oif_some h
      obtain ⟨T6, eT6, h⟩ := elet_some h
      have p1 : GI T T6 := GI.tr p0 (by rw [eT6]; exact gi_sp sp_uI)
      rw [← osome1 h]
      exact p1
    · have h := h
      exact GI.tr p0 (si_X5_finish_b20 ih _ _ _ _ _ _ _ h)
set_option maxHeartbeats 4000000 in
set_option maxRecDepth 100000 in
theorem si_X5_finish {T : AT} {o : Nat} {a0 : Nat} {a1 : Nat} {T1 : AT} (h : g_X5_finish T o a0 a1 = some T1) : GI T T1 := by
  have p0 := GI.rf T
  unfold g_X5_finish at h
  obtain ⟨g2, h⟩ := oif_some h
  obtain ⟨n3, en3, h⟩ := obind_some h
  obtain ⟨g4, h⟩ := oif_some h
  obtain ⟨T5, eT5, h⟩ := obind_some h
  have p1 : GI T T5 := GI.tr p0 (gi_sp (s_X10_narrow eT5))
  exact GI.tr p1 (si_X5_finish_b9 _ _ _ _ _ _ h)
set_option maxHeartbeats 4000000 in
set_option maxRecDepth 100000 in
theorem si_X5_record_b104 {T1 : AT} : ∀ (T : AT), g_X5_record_b104 T = some T1 → GI T T1 := by
  intro T h
  have p0 := GI.rf T
  unfold g_X5_record_b104 at h
  rw [← osome1 h]
  exact p0
set_option maxHeartbeats 4000000 in
set_option maxRecDepth 100000 in
theorem si_X5_record_b92 {T1 : AT} {k6 : AT → Nat → Nat → Nat → Int32 → Option (AT)} (hk6 : ∀ (T : AT) (l0 : Nat) (l1 : Nat) (l2 : Nat) (l3 : Int32), k6 T l0 l1 l2 l3 = some T1 → GI T T1) : ∀ (T : AT) (l0 : Nat) (l1 : Nat) (l2 : Nat) (l3 : Int32), g_X5_record_b92 k6 T l0 l1 l2 l3 = some T1 → GI T T1 := by
  intro T l0 l1 l2 l3 h
  have p0 := GI.rf T
  unfold g_X5_record_b92 at h
  obtain ⟨v2, ev2, h⟩ := elet_some h
  exact GI.tr p0 (hk6 _ _ _ _ _ h)
set_option maxHeartbeats 4000000 in
set_option maxRecDepth 100000 in
theorem si_X5_record_b34 {T1 : AT} {k6 : AT → Nat → Nat → Nat → Int32 → Option (AT)} (hk6 : ∀ (T : AT) (l0 : Nat) (l1 : Nat) (l2 : Nat) (l3 : Int32), k6 T l0 l1 l2 l3 = some T1 → GI T T1) : ∀ n : Nat, ∀ (T : AT) (l0 : Nat) (l1 : Nat) (l2 : Nat) (l3 : Int32) (l4 : Nat) (l5 : Int32), g_X5_record_b34 k6 n T l0 l1 l2 l3 l4 l5 = some T1 → GI T T1 := by
  intro n
  induction n with
  | zero =>
    intro T l0 l1 l2 l3 l4 l5 h
    have h : (none : Option (AT)) = some T1 := h
    cases h
  | succ n ih =>
    intro T l0 l1 l2 l3 l4 l5 h
    have p0 := GI.rf T
    unfold g_X5_record_b34 at h
    obtain ⟨g2, h⟩ := oif_some h
    obtain ⟨v3, -, h⟩ := elet_some h
    rcases oif_or h with ⟨c4, h⟩ | ⟨c4, h⟩
    · have h := h
      exact GI.tr p0 (si_X5_record_b92 hk6 _ _ _ _ _ h)
    · have h := h
      obtain ⟨g5, h⟩ := oif_some h
      obtain ⟨n6, en6, h⟩ := obind_some h
      obtain ⟨g7, h⟩ := oif_some h
      obtain ⟨g8, h⟩ := oif_some h
      obtain ⟨v9, -, h⟩ := elet_some h
      obtain ⟨g10, h⟩ := oif_some h
      obtain ⟨n11, en11, h⟩ := obind_some h
      obtain ⟨g12, h⟩ := oif_some h
      obtain ⟨g13, h⟩ := oif_some h
      obtain ⟨v14, -, h⟩ := elet_some h
      obtain ⟨r15, -, h⟩ := obind_some h
      obtain ⟨g16, h⟩ := oif_some h
      obtain ⟨n17, en17, h⟩ := obind_some h
      obtain ⟨g18, h⟩ := oif_some h
      obtain ⟨g19, h⟩ := oif_some h
      obtain ⟨v20, -, h⟩ := elet_some h
      obtain ⟨g21, h⟩ := oif_some h
      obtain ⟨n22, en22, h⟩ := obind_some h
      obtain ⟨g23, h⟩ := oif_some h
      obtain ⟨g24, h⟩ := oif_some h
      obtain ⟨v25, -, h⟩ := elet_some h
      obtain ⟨r26, -, h⟩ := obind_some h
      obtain ⟨g27, h⟩ := oif_some h
      obtain ⟨T28, eT28, h⟩ := obind_some h
      have p1 : GI T T28 := GI.tr p0 (gi_sp (s_X5_hear eT28))
      obtain ⟨v30, ev30, h⟩ := elet_some h
      exact GI.tr p1 (ih _ _ _ _ _ _ _ h)
set_option maxHeartbeats 4000000 in
set_option maxRecDepth 100000 in
theorem si_X5_record_b6 {T1 : AT} : ∀ n : Nat, ∀ (T : AT) (l0 : Nat) (l1 : Nat) (l2 : Nat) (l3 : Int32), g_X5_record_b6 n T l0 l1 l2 l3 = some T1 → GI T T1 := by
  intro n
  induction n with
  | zero =>
    intro T l0 l1 l2 l3 h
    have h : (none : Option (AT)) = some T1 := h
    cases h
  | succ n ih =>
    intro T l0 l1 l2 l3 h
    have p0 := GI.rf T
    unfold g_X5_record_b6 at h
    obtain ⟨g2, h⟩ := oif_some h
    obtain ⟨v3, -, h⟩ := elet_some h
    rcases oif_or h with ⟨c4, h⟩ | ⟨c4, h⟩
    · have h := h
      obtain ⟨g5, h⟩ := oif_some h
      obtain ⟨T6, eT6, h⟩ := obind_some h
      have p1 : GI T T6 := GI.tr p0 (si_X5_finish eT6)
      exact GI.tr p1 (si_X5_record_b104 _ h)
    · have h := h
      obtain ⟨g8, h⟩ := oif_some h
      obtain ⟨n9, en9, h⟩ := obind_some h
      obtain ⟨g10, h⟩ := oif_some h
      obtain ⟨g11, h⟩ := oif_some h
      obtain ⟨v12, -, h⟩ := elet_some h
      rcases oif_or h with ⟨c13, h⟩ | ⟨c13, h⟩
      · have h := h
        exact GI.tr p0 (si_X5_record_b92 ih _ _ _ _ _ h)
      · have h := h
        obtain ⟨g14, h⟩ := oif_some h
        obtain ⟨n15, en15, h⟩ := obind_some h
        obtain ⟨g16, h⟩ := oif_some h
        obtain ⟨g17, h⟩ := oif_some h
        obtain ⟨n18, en18, h⟩ := obind_some h
        exact GI.tr p0 (si_X5_record_b34 ih _ _ _ _ _ _ _ _ h)
set_option maxHeartbeats 4000000 in
set_option maxRecDepth 100000 in
theorem si_X5_record {T : AT} {o : Nat} {a0 : Nat} {a1 : Nat} {T1 : AT} (h : g_X5_record T o a0 a1 = some T1) : GI T T1 := by
  have p0 := GI.rf T
  unfold g_X5_record at h
  obtain ⟨g2, h⟩ := oif_some h
  obtain ⟨T3, eT3, h⟩ := obind_some h
  have p1 : GI T T3 := GI.tr p0 (gi_sp (s_X5_silence eT3))
  exact GI.tr p1 (si_X5_record_b6 _ _ _ _ _ _ h)
set_option maxHeartbeats 4000000 in
set_option maxRecDepth 100000 in
theorem si_X5_recordPoint_b89 {T1 : AT} : ∀ (T : AT), g_X5_recordPoint_b89 T = some T1 → GI T T1 := by
  intro T h
  have p0 := GI.rf T
  unfold g_X5_recordPoint_b89 at h
  rw [← osome1 h]
  exact p0
set_option maxHeartbeats 4000000 in
set_option maxRecDepth 100000 in
theorem si_X5_recordPoint_b53 {T1 : AT} : ∀ n : Nat, ∀ (T : AT) (l0 : Nat) (l1 : Nat) (l2 : Nat) (l5 : Int32) (l6 : Int32) (l7 : Int32), g_X5_recordPoint_b53 n T l0 l1 l2 l5 l6 l7 = some T1 → GI T T1 := by
  intro n
  induction n with
  | zero =>
    intro T l0 l1 l2 l5 l6 l7 h
    have h : (none : Option (AT)) = some T1 := h
    cases h
  | succ n ih =>
    intro T l0 l1 l2 l5 l6 l7 h
    have p0 := GI.rf T
    unfold g_X5_recordPoint_b53 at h
    obtain ⟨g2, h⟩ := oif_some h
    obtain ⟨v3, -, h⟩ := elet_some h
    rcases oif_or h with ⟨c4, h⟩ | ⟨c4, h⟩
    · have h := h
      obtain ⟨g5, h⟩ := oif_some h
      obtain ⟨T6, eT6, h⟩ := obind_some h
      have p1 : GI T T6 := GI.tr p0 (si_X5_finish eT6)
      exact GI.tr p1 (si_X5_recordPoint_b89 _ h)
    · have h := h
      obtain ⟨g8, h⟩ := oif_some h
      obtain ⟨n9, en9, h⟩ := obind_some h
      obtain ⟨g10, h⟩ := oif_some h
      obtain ⟨T11, eT11, h⟩ := obind_some h
      have p1 : GI T T11 := GI.tr p0 (gi_sp (s_X5_hear eT11))
      obtain ⟨v13, ev13, h⟩ := elet_some h
      exact GI.tr p1 (ih _ _ _ _ _ _ _ h)
set_option maxHeartbeats 4000000 in
set_option maxRecDepth 100000 in
theorem si_X5_recordPoint {T : AT} {o : Nat} {a0 : Nat} {a1 : Nat} {a2 : Int32} {a3 : Int32} {T1 : AT} (h : g_X5_recordPoint T o a0 a1 a2 a3 = some T1) : GI T T1 := by
  have p0 := GI.rf T
  unfold g_X5_recordPoint at h
  obtain ⟨g2, h⟩ := oif_some h
  obtain ⟨T3, eT3, h⟩ := obind_some h
  have p1 : GI T T3 := GI.tr p0 (gi_sp (s_X5_silence eT3))
  obtain ⟨g5, h⟩ := oif_some h
  obtain ⟨n6, en6, h⟩ := obind_some h
  obtain ⟨g7, h⟩ := oif_some h
  obtain ⟨T8, eT8, h⟩ := elet_some h
  have p2 : GI T T8 := GI.tr p1 (by rw [eT8]; exact gi_sp sp_uI)
  obtain ⟨g9, h⟩ := oif_some h
  obtain ⟨n10, en10, h⟩ := obind_some h
  obtain ⟨g11, h⟩ := oif_some h
  obtain ⟨T12, eT12, h⟩ := elet_some h
  have p3 : GI T T12 := GI.tr p2 (by rw [eT12]; exact gi_sp sp_uI)
  obtain ⟨g13, h⟩ := oif_some h
  obtain ⟨n14, en14, h⟩ := obind_some h
  obtain ⟨g15, h⟩ := oif_some h
  obtain ⟨T16, eT16, h⟩ := elet_some h
  have p4 : GI T T16 := GI.tr p3 (by rw [eT16]; exact gi_sp sp_uI)
  obtain ⟨g17, h⟩ := oif_some h
  obtain ⟨n18, en18, h⟩ := obind_some h
  obtain ⟨g19, h⟩ := oif_some h
  obtain ⟨r21, T20, eT20, h⟩ := obind2_some h
  have p5 : GI T T20 := GI.tr p4 (gi_sp (s_X1_centreX eT20))
  obtain ⟨g22, h⟩ := oif_some h
  obtain ⟨n23, en23, h⟩ := obind_some h
  obtain ⟨g24, h⟩ := oif_some h
  obtain ⟨r26, T25, eT25, h⟩ := obind2_some h
  have p6 : GI T T25 := GI.tr p5 (gi_sp (s_X1_centreY eT25))
  exact GI.tr p6 (si_X5_recordPoint_b53 _ _ _ _ _ _ _ _ h)
set_option maxHeartbeats 4000000 in
set_option maxRecDepth 100000 in
theorem si_X10_copyFrom_b18 {T1 : AT} : ∀ n : Nat, ∀ (T : AT) (l0 : Nat) (l1 : Nat) (l2 : Int32), g_X10_copyFrom_b18 n T l0 l1 l2 = some T1 → GI T T1 := by
  intro n
  induction n with
  | zero =>
    intro T l0 l1 l2 h
    have h : (none : Option (AT)) = some T1 := h
    cases h
  | succ n ih =>
    intro T l0 l1 l2 h
    have p0 := GI.rf T
    unfold g_X10_copyFrom_b18 at h
    obtain ⟨g2, h⟩ := oif_some h
    obtain ⟨v3, -, h⟩ := elet_some h
    rcases oif_or h with ⟨c4, h⟩ | ⟨c4, h⟩
    · have h := h
      rw [← osome1 h]
      exact p0
    · have h := h
      obtain ⟨g5, h⟩ := oif_some h
      obtain ⟨n6, en6, h⟩ := obind_some h
      obtain ⟨g7, h⟩ := oif_some h
      obtain ⟨g8, h⟩ := oif_some h
      obtain ⟨n9, en9, h⟩ := obind_some h
      obtain ⟨g10, h⟩ := oif_some h
      obtain ⟨n11, en11, h⟩ := obind_some h
      obtain ⟨g12, h⟩ := oif_some h
      obtain ⟨g13, h⟩ := oif_some h
      obtain ⟨n14, en14, h⟩ := obind_some h
      obtain ⟨g15, h⟩ := oif_some h
      obtain ⟨v16, -, h⟩ := elet_some h
      obtain ⟨g17, h⟩ := oif_some h
      obtain ⟨v18, -, h⟩ := elet_some h
      obtain ⟨v19, -, h⟩ := elet_some h
      obtain ⟨g20, h⟩ := oif_some h
      obtain ⟨g21, h⟩ := oif_some h
      obtain ⟨g22, h⟩ := oif_some h
      obtain ⟨T23, eT23, h⟩ := elet_some h
      have p1 : GI T T23 := GI.tr p0 (by rw [eT23]; exact gi_sp sp_uC)
      obtain ⟨v24, ev24, h⟩ := elet_some h
      exact GI.tr p1 (ih _ _ _ _ h)
set_option maxHeartbeats 4000000 in
set_option maxRecDepth 100000 in
theorem si_X10_copyFrom_b8 {T1 : AT} : ∀ (T : AT) (l0 : Nat) (l1 : Nat), g_X10_copyFrom_b8 T l0 l1 = some T1 → GI T T1 := by
  intro T l0 l1 h
  have p0 := GI.rf T
  unfold g_X10_copyFrom_b8 at h
  obtain ⟨g2, h⟩ := oif_some h
  obtain ⟨v3, -, h⟩ := elet_some h
  obtain ⟨g4, h⟩ := oif_some h
  obtain ⟨T5, eT5, h⟩ := elet_some h
  have p1 : GI T T5 := GI.tr p0 (by rw [eT5]; exact gi_sp sp_uI)
  exact GI.tr p1 (si_X10_copyFrom_b18 _ _ _ _ _ h)
set_option maxHeartbeats 4000000 in
set_option maxRecDepth 100000 in
theorem si_X10_copyFrom {T : AT} {o : Nat} {a0 : Nat} {T1 : AT} (h : g_X10_copyFrom T o a0 = some T1) : GI T T1 := by
  have p0 := GI.rf T
  unfold g_X10_copyFrom at h
  obtain ⟨g2, h⟩ := oif_some h
  obtain ⟨v3, -, h⟩ := elet_some h
  obtain ⟨g4, h⟩ := oif_some h
  obtain ⟨T5, eT5, h⟩ := obind_some h
  have p1 : GI T T5 := GI.tr p0 (si_X10_widenTo eT5)
  exact GI.tr p1 (si_X10_copyFrom_b8 _ _ _ h)
set_option maxHeartbeats 4000000 in
set_option maxRecDepth 100000 in
theorem si_X8_copyFrom_b147 {T1 : AT} : ∀ (T : AT), g_X8_copyFrom_b147 T = some T1 → GI T T1 := by
  intro T h
  have p0 := GI.rf T
  unfold g_X8_copyFrom_b147 at h
  rw [← osome1 h]
  exact p0
set_option maxHeartbeats 4000000 in
set_option maxRecDepth 100000 in
theorem si_X8_copyFrom_b64 {T1 : AT} : ∀ n : Nat, ∀ (T : AT) (l0 : Nat) (l1 : Nat) (l2 : Int32), g_X8_copyFrom_b64 n T l0 l1 l2 = some T1 → GI T T1 := by
  intro n
  induction n with
  | zero =>
    intro T l0 l1 l2 h
    have h : (none : Option (AT)) = some T1 := h
    cases h
  | succ n ih =>
    intro T l0 l1 l2 h
    have p0 := GI.rf T
    unfold g_X8_copyFrom_b64 at h
    rcases oif_or h with ⟨c2, h⟩ | ⟨c2, h⟩
    · have h := h
      obtain ⟨g3, h⟩ := oif_some h
      obtain ⟨n4, en4, h⟩ := obind_some h
      obtain ⟨g5, h⟩ := oif_some h
      obtain ⟨n6, en6, h⟩ := obind_some h
      obtain ⟨g7, h⟩ := oif_some h
      obtain ⟨T8, eT8, h⟩ := obind_some h
      have p1 : GI T T8 := GI.tr p0 (si_X10_copyFrom eT8)
      exact GI.tr p1 (si_X8_copyFrom_b147 _ h)
    · have h := h
      obtain ⟨g10, h⟩ := oif_some h
      obtain ⟨n11, en11, h⟩ := obind_some h
      obtain ⟨g12, h⟩ := oif_some h
      obtain ⟨n13, en13, h⟩ := obind_some h
      obtain ⟨g14, h⟩ := oif_some h
      obtain ⟨g15, h⟩ := oif_some h
      obtain ⟨v16, -, h⟩ := elet_some h
      obtain ⟨g17, h⟩ := oif_some h
      obtain ⟨g18, h⟩ := oif_some h
      obtain ⟨gz, h⟩ := oif_some h
      obtain ⟨T19, eT19, h⟩ := elet_some h
      have p1 : GI T T19 := GI.tr p0 (by rw [eT19]; exact gi_sp sp_uI)
      obtain ⟨g20, h⟩ := oif_some h
      obtain ⟨n21, en21, h⟩ := obind_some h
      obtain ⟨g22, h⟩ := oif_some h
      obtain ⟨n23, en23, h⟩ := obind_some h
      obtain ⟨g24, h⟩ := oif_some h
      obtain ⟨g25, h⟩ := oif_some h
      obtain ⟨v26, -, h⟩ := elet_some h
      obtain ⟨g27, h⟩ := oif_some h
      obtain ⟨g28, h⟩ := oif_some h
      obtain ⟨T29, eT29, h⟩ := elet_some h
      have p2 : GI T T29 := GI.tr p1 (by rw [eT29]; exact gi_sp sp_uI)
      obtain ⟨g30, h⟩ := oif_some h
      obtain ⟨n31, en31, h⟩ := obind_some h
      obtain ⟨g32, h⟩ := oif_some h
      obtain ⟨n33, en33, h⟩ := obind_some h
      obtain ⟨g34, h⟩ := oif_some h
      obtain ⟨g35, h⟩ := oif_some h
      obtain ⟨v36, -, h⟩ := elet_some h
      obtain ⟨g37, h⟩ := oif_some h
      obtain ⟨g38, h⟩ := oif_some h
      obtain ⟨T39, eT39, h⟩ := elet_some h
      have p3 : GI T T39 := GI.tr p2 (by rw [eT39]; exact gi_sp sp_uI)
      obtain ⟨g40, h⟩ := oif_some h
      obtain ⟨n41, en41, h⟩ := obind_some h
      obtain ⟨g42, h⟩ := oif_some h
      obtain ⟨n43, en43, h⟩ := obind_some h
      obtain ⟨g44, h⟩ := oif_some h
      obtain ⟨g45, h⟩ := oif_some h
      obtain ⟨v46, -, h⟩ := elet_some h
      obtain ⟨g47, h⟩ := oif_some h
      obtain ⟨g48, h⟩ := oif_some h
      obtain ⟨T49, eT49, h⟩ := elet_some h
      have p4 : GI T T49 := GI.tr p3 (by rw [eT49]; exact gi_sp sp_uI)
      obtain ⟨g50, h⟩ := oif_some h
      obtain ⟨n51, en51, h⟩ := obind_some h
      obtain ⟨g52, h⟩ := oif_some h
      obtain ⟨n53, en53, h⟩ := obind_some h
      obtain ⟨g54, h⟩ := oif_some h
      obtain ⟨g55, h⟩ := oif_some h
      obtain ⟨v56, -, h⟩ := elet_some h
      obtain ⟨g57, h⟩ := oif_some h
      obtain ⟨g58, h⟩ := oif_some h
      obtain ⟨T59, eT59, h⟩ := elet_some h
      have p5 : GI T T59 := GI.tr p4 (by rw [eT59]; exact gi_sp sp_uI)
      obtain ⟨v60, ev60, h⟩ := elet_some h
      exact GI.tr p5 (ih _ _ _ _ h)
set_option maxHeartbeats 4000000 in
set_option maxRecDepth 100000 in
theorem si_X8_copyFrom_b26 {T1 : AT} : ∀ n : Nat, ∀ (T : AT) (l0 : Nat) (l1 : Nat) (l2 : Int32), g_X8_copyFrom_b26 n T l0 l1 l2 = some T1 → GI T T1 := by
  intro n
  induction n with
  | zero =>
    intro T l0 l1 l2 h
    have h : (none : Option (AT)) = some T1 := h
    cases h
  | succ n ih =>
    intro T l0 l1 l2 h
    have p0 := GI.rf T
    unfold g_X8_copyFrom_b26 at h
    rcases oif_or h with ⟨c2, h⟩ | ⟨c2, h⟩
    · have h := h
      exact GI.tr p0 (si_X8_copyFrom_b64 _ _ _ _ _ h)
    · have h := h
      obtain ⟨g3, h⟩ := oif_some h
      obtain ⟨n4, en4, h⟩ := obind_some h
      obtain ⟨g5, h⟩ := oif_some h
      obtain ⟨n6, en6, h⟩ := obind_some h
      obtain ⟨g7, h⟩ := oif_some h
      obtain ⟨g8, h⟩ := oif_some h
      obtain ⟨v9, -, h⟩ := elet_some h
      obtain ⟨g10, h⟩ := oif_some h
      obtain ⟨g11, h⟩ := oif_some h
      obtain ⟨gz, h⟩ := oif_some h
      obtain ⟨T12, eT12, h⟩ := elet_some h
      have p1 : GI T T12 := GI.tr p0 (by rw [eT12]; exact gi_sp sp_uI)
      obtain ⟨g13, h⟩ := oif_some h
      obtain ⟨n14, en14, h⟩ := obind_some h
      obtain ⟨g15, h⟩ := oif_some h
      obtain ⟨n16, en16, h⟩ := obind_some h
      obtain ⟨g17, h⟩ := oif_some h
      obtain ⟨g18, h⟩ := oif_some h
      obtain ⟨v19, -, h⟩ := elet_some h
      obtain ⟨g20, h⟩ := oif_some h
      obtain ⟨g21, h⟩ := oif_some h
      obtain ⟨T22, eT22, h⟩ := elet_some h
      have p2 : GI T T22 := GI.tr p1 (by rw [eT22]; exact gi_sp sp_uI)
      obtain ⟨v23, ev23, h⟩ := elet_some h
      exact GI.tr p2 (ih _ _ _ _ h)
set_option maxHeartbeats 4000000 in
set_option maxRecDepth 100000 in
theorem si_X8_copyFrom {T : AT} {o : Nat} {a0 : Nat} {T1 : AT} (h : g_X8_copyFrom T o a0 = some T1) : GI T T1 := by
  have p0 := GI.rf T
  unfold g_X8_copyFrom at h
  obtain ⟨g2, h⟩ := oif_some h
  obtain ⟨v3, -, h⟩ := elet_some h
  obtain ⟨g4, h⟩ := oif_some h
  obtain ⟨T5, eT5, h⟩ := elet_some h
  have p1 : GI T T5 := GI.tr p0 (by rw [eT5]; exact gi_sp sp_uI)
  obtain ⟨g6, h⟩ := oif_some h
  obtain ⟨v7, -, h⟩ := elet_some h
  obtain ⟨g8, h⟩ := oif_some h
  obtain ⟨T9, eT9, h⟩ := elet_some h
  have p2 : GI T T9 := GI.tr p1 (by rw [eT9]; exact gi_sp sp_uI)
  obtain ⟨g10, h⟩ := oif_some h
  obtain ⟨v11, -, h⟩ := elet_some h
  obtain ⟨g12, h⟩ := oif_some h
  obtain ⟨T13, eT13, h⟩ := elet_some h
  have p3 : GI T T13 := GI.tr p2 (by rw [eT13]; exact gi_sp sp_uI)
  exact GI.tr p3 (si_X8_copyFrom_b26 _ _ _ _ _ h)
set_option maxHeartbeats 4000000 in
set_option maxRecDepth 100000 in
theorem si_X8_powerOf_b13 {T1 : AT} : ∀ (T : AT), g_X8_powerOf_b13 T = some T1 → GI T T1 := by
  intro T h
  have p0 := GI.rf T
  unfold g_X8_powerOf_b13 at h
  rw [← osome1 h]
  exact p0
set_option maxHeartbeats 4000000 in
set_option maxRecDepth 100000 in
theorem si_X8_powerOf {T : AT} {o : Nat} {a0 : Nat} {a1 : Nat} {a2 : Int32} {T1 : AT} (h : g_X8_powerOf T o a0 a1 a2 = some T1) : GI T T1 := by
  have p0 := GI.rf T
  unfold g_X8_powerOf at h
  obtain ⟨g2, h⟩ := oif_some h
  obtain ⟨r4, T3, eT3, h⟩ := obind2_some h
  have p1 : GI T T3 := GI.tr p0 (gi_sp (s_X8_windowOf eT3))
  obtain ⟨g5, h⟩ := oif_some h
  obtain ⟨T6, eT6, h⟩ := obind_some h
  have p2 : GI T T6 := GI.tr p1 (si_X8_blockPowerOf eT6)
  exact GI.tr p2 (si_X8_powerOf_b13 _ h)
set_option maxHeartbeats 4000000 in
set_option maxRecDepth 100000 in
theorem si_X8_productSum_b50 {T1 : AT} {k10 : AT → Nat → Int32 → Int32 → Int32 → Nat → Int32 → Int32 → Option (AT)} (hk10 : ∀ (T : AT) (l0 : Nat) (l1 : Int32) (l2 : Int32) (l3 : Int32) (l4 : Nat) (l5 : Int32) (l6 : Int32), k10 T l0 l1 l2 l3 l4 l5 l6 = some T1 → GI T T1) : ∀ (T : AT) (l0 : Nat) (l1 : Int32) (l2 : Int32) (l3 : Int32) (l4 : Nat) (l5 : Int32) (l6 : Int32), g_X8_productSum_b50 k10 T l0 l1 l2 l3 l4 l5 l6 = some T1 → GI T T1 := by
  intro T l0 l1 l2 l3 l4 l5 l6 h
  have p0 := GI.rf T
  unfold g_X8_productSum_b50 at h
  obtain ⟨v2, ev2, h⟩ := elet_some h
  exact GI.tr p0 (hk10 _ _ _ _ _ _ _ _ h)
set_option maxHeartbeats 4000000 in
set_option maxRecDepth 100000 in
theorem si_X8_productSum_b10 {T1 : AT} : ∀ n : Nat, ∀ (T : AT) (l0 : Nat) (l1 : Int32) (l2 : Int32) (l3 : Int32) (l4 : Nat) (l5 : Int32) (l6 : Int32), g_X8_productSum_b10 n T l0 l1 l2 l3 l4 l5 l6 = some T1 → GI T T1 := by
  intro n
  induction n with
  | zero =>
    intro T l0 l1 l2 l3 l4 l5 l6 h
    have h : (none : Option (AT)) = some T1 := h
    cases h
  | succ n ih =>
    intro T l0 l1 l2 l3 l4 l5 l6 h
    have p0 := GI.rf T
    unfold g_X8_productSum_b10 at h
    obtain ⟨v2, -, h⟩ := elet_some h
    obtain ⟨g3, h⟩ := oif_some h
    obtain ⟨v4, -, h⟩ := elet_some h
    rcases oif_or h with ⟨c5, h⟩ | ⟨c5, h⟩
    · have h := h
      rw [← osome1 h]
      exact p0
    · have h := h
      obtain ⟨g6, h⟩ := oif_some h
      obtain ⟨n7, en7, h⟩ := obind_some h
      obtain ⟨r8, -, h⟩ := obind_some h
      obtain ⟨g9, h⟩ := oif_some h
      obtain ⟨n10, en10, h⟩ := obind_some h
      obtain ⟨v11, -, h⟩ := elet_some h
      obtain ⟨r12, -, h⟩ := obind_some h
      obtain ⟨g13, h⟩ := oif_some h
      obtain ⟨T14, eT14, h⟩ := obind_some h
      have p1 : GI T T14 := GI.tr p0 (si_X10_addProduct eT14)
      exact GI.tr p1 (si_X8_productSum_b50 ih _ _ _ _ _ _ _ _ h)
set_option maxHeartbeats 4000000 in
set_option maxRecDepth 100000 in
theorem si_X8_productSum {T : AT} {o : Nat} {a0 : Int32} {a1 : Int32} {a2 : Int32} {a3 : Nat} {a4 : Int32} {T1 : AT} (h : g_X8_productSum T o a0 a1 a2 a3 a4 = some T1) : GI T T1 := by
  have p0 := GI.rf T
  unfold g_X8_productSum at h
  obtain ⟨g2, h⟩ := oif_some h
  obtain ⟨T3, eT3, h⟩ := obind_some h
  have p1 : GI T T3 := GI.tr p0 (gi_sp (s_X10_clear eT3))
  exact GI.tr p1 (si_X8_productSum_b10 _ _ _ _ _ _ _ _ _ h)
set_option maxHeartbeats 4000000 in
set_option maxRecDepth 100000 in
theorem si_X10_multiply_b34 {T1 : AT} : ∀ (T : AT), g_X10_multiply_b34 T = some T1 → GI T T1 := by
  intro T h
  have p0 := GI.rf T
  unfold g_X10_multiply_b34 at h
  rw [← osome1 h]
  exact p0
set_option maxHeartbeats 4000000 in
set_option maxRecDepth 100000 in
theorem si_X10_multiply_b2 {T1 : AT} : ∀ n : Nat, ∀ (T : AT) (l0 : Nat) (l1 : Int32) (l2 : Int32) (l3 : Int32), g_X10_multiply_b2 n T l0 l1 l2 l3 = some T1 → GI T T1 := by
  intro n
  induction n with
  | zero =>
    intro T l0 l1 l2 l3 h
    have h : (none : Option (AT)) = some T1 := h
    cases h
  | succ n ih =>
    intro T l0 l1 l2 l3 h
    have p0 := GI.rf T
    unfold g_X10_multiply_b2 at h
    obtain ⟨g2, h⟩ := oif_some h
    obtain ⟨v3, -, h⟩ := elet_some h
    rcases oif_or h with ⟨c4, h⟩ | ⟨c4, h⟩
    · have h := h
      obtain ⟨g5, h⟩ := oif_some h
      obtain ⟨T6, eT6, h⟩ := obind_some h
      have p1 : GI T T6 := GI.tr p0 (si_X10_settle eT6)
      exact GI.tr p1 (si_X10_multiply_b34 _ h)
    · have h := h
      obtain ⟨g8, h⟩ := oif_some h
      obtain ⟨n9, en9, h⟩ := obind_some h
      obtain ⟨g10, h⟩ := oif_some h
      obtain ⟨g11, h⟩ := oif_some h
      obtain ⟨n12, en12, h⟩ := obind_some h
      obtain ⟨g13, h⟩ := oif_some h
      obtain ⟨g14, h⟩ := oif_some h
      obtain ⟨v15, -, h⟩ := elet_some h
      obtain ⟨v16, -, h⟩ := elet_some h
      obtain ⟨v17, -, h⟩ := elet_some h
      obtain ⟨g18, h⟩ := oif_some h
      obtain ⟨g19, h⟩ := oif_some h
      obtain ⟨T20, eT20, h⟩ := elet_some h
      have p1 : GI T T20 := GI.tr p0 (by rw [eT20]; exact gi_sp sp_uJ)
      obtain ⟨v21, ev21, h⟩ := elet_some h
      exact GI.tr p1 (ih _ _ _ _ _ h)
set_option maxHeartbeats 4000000 in
set_option maxRecDepth 100000 in
theorem si_X10_multiply {T : AT} {o : Nat} {a0 : Int32} {a1 : Int32} {T1 : AT} (h : g_X10_multiply T o a0 a1 = some T1) : GI T T1 := by
  have p0 := GI.rf T
  unfold g_X10_multiply at h
  exact GI.tr p0 (si_X10_multiply_b2 _ _ _ _ _ _ h)
set_option maxHeartbeats 4000000 in
set_option maxRecDepth 100000 in
theorem si_X8_subtractBeam_b115 {T1 : AT} {k18 : AT → Nat → Nat → Int32 → Int32 → Int32 → Int32 → Option (AT)} {k53 : AT → Nat → Nat → Int32 → Int32 → Int32 → Int32 → Int32 → Option (AT)} (hk18 : ∀ (T : AT) (l0 : Nat) (l1 : Nat) (l2 : Int32) (l3 : Int32) (l4 : Int32) (l5 : Int32), k18 T l0 l1 l2 l3 l4 l5 = some T1 → GI T T1) (hk53 : ∀ (T : AT) (l0 : Nat) (l1 : Nat) (l2 : Int32) (l3 : Int32) (l4 : Int32) (l5 : Int32) (l6 : Int32), k53 T l0 l1 l2 l3 l4 l5 l6 = some T1 → GI T T1) : ∀ (T : AT) (l0 : Nat) (l1 : Nat) (l2 : Int32) (l3 : Int32) (l4 : Int32) (l5 : Int32) (l6 : Int32), g_X8_subtractBeam_b115 k18 k53 T l0 l1 l2 l3 l4 l5 l6 = some T1 → GI T T1 := by
  intro T l0 l1 l2 l3 l4 l5 l6 h
  have p0 := GI.rf T
  unfold g_X8_subtractBeam_b115 at h
  obtain ⟨v2, ev2, h⟩ := elet_some h
  exact GI.tr p0 (hk53 _ _ _ _ _ _ _ _ h)
set_option maxHeartbeats 4000000 in
set_option maxRecDepth 100000 in
theorem si_X8_subtractBeam_b53 {T1 : AT} {k18 : AT → Nat → Nat → Int32 → Int32 → Int32 → Int32 → Option (AT)} (hk18 : ∀ (T : AT) (l0 : Nat) (l1 : Nat) (l2 : Int32) (l3 : Int32) (l4 : Int32) (l5 : Int32), k18 T l0 l1 l2 l3 l4 l5 = some T1 → GI T T1) : ∀ n : Nat, ∀ (T : AT) (l0 : Nat) (l1 : Nat) (l2 : Int32) (l3 : Int32) (l4 : Int32) (l5 : Int32) (l6 : Int32), g_X8_subtractBeam_b53 k18 n T l0 l1 l2 l3 l4 l5 l6 = some T1 → GI T T1 := by
  intro n
  induction n with
  | zero =>
    intro T l0 l1 l2 l3 l4 l5 l6 h
    have h : (none : Option (AT)) = some T1 := h
    cases h
  | succ n ih =>
    intro T l0 l1 l2 l3 l4 l5 l6 h
    have p0 := GI.rf T
    unfold g_X8_subtractBeam_b53 at h
    obtain ⟨g2, h⟩ := oif_some h
    obtain ⟨v3, -, h⟩ := elet_some h
    rcases oif_or h with ⟨c4, h⟩ | ⟨c4, h⟩
    · have h := h
      obtain ⟨v5, ev5, h⟩ := elet_some h
      exact GI.tr p0 (hk18 _ _ _ _ _ _ _ h)
    · have h := h
      obtain ⟨g6, h⟩ := oif_some h
      obtain ⟨g7, h⟩ := oif_some h
      obtain ⟨v8, -, h⟩ := elet_some h
      obtain ⟨v9, -, h⟩ := elet_some h
      obtain ⟨g10, h⟩ := oif_some h
      obtain ⟨n11, en11, h⟩ := obind_some h
      obtain ⟨g12, h⟩ := oif_some h
      obtain ⟨g13, h⟩ := oif_some h
      obtain ⟨v14, -, h⟩ := elet_some h
      rcases oif_or h with ⟨c15, h⟩ | ⟨c15, h⟩
      · have h := h
        rcases oif_or h with ⟨c16, h⟩ | ⟨c16, h⟩
        · have h := h
          exact GI.tr p0 (si_X8_subtractBeam_b115 hk18 ih _ _ _ _ _ _ _ _ h)
        · have h := h
          obtain ⟨g17, h⟩ := oif_some h
          obtain ⟨v18, -, h⟩ := elet_some h
          rcases oif_or h with ⟨c19, h⟩ | ⟨c19, h⟩
          · have h := h
            exact GI.tr p0 (si_X8_subtractBeam_b115 hk18 ih _ _ _ _ _ _ _ _ h)
          · have h := h
            obtain ⟨g20, h⟩ := oif_some h
            obtain ⟨n21, en21, h⟩ := obind_some h
            obtain ⟨r22, -, h⟩ := obind_some h
            obtain ⟨g23, h⟩ := oif_some h
            obtain ⟨n24, en24, h⟩ := obind_some h
            obtain ⟨g25, h⟩ := oif_some h
            obtain ⟨T26, eT26, h⟩ := obind_some h
            have p1 : GI T T26 := GI.tr p0 (si_X10_add eT26)
            exact GI.tr p1 (si_X8_subtractBeam_b115 hk18 ih _ _ _ _ _ _ _ _ h)
      · have h := h
        exact GI.tr p0 (si_X8_subtractBeam_b115 hk18 ih _ _ _ _ _ _ _ _ h)
set_option maxHeartbeats 4000000 in
set_option maxRecDepth 100000 in
theorem si_X8_subtractBeam_b50 {T1 : AT} {k18 : AT → Nat → Nat → Int32 → Int32 → Int32 → Int32 → Option (AT)} (hk18 : ∀ (T : AT) (l0 : Nat) (l1 : Nat) (l2 : Int32) (l3 : Int32) (l4 : Int32) (l5 : Int32), k18 T l0 l1 l2 l3 l4 l5 = some T1 → GI T T1) : ∀ (T : AT) (l0 : Nat) (l1 : Nat) (l2 : Int32) (l3 : Int32) (l4 : Int32) (l5 : Int32), g_X8_subtractBeam_b50 k18 T l0 l1 l2 l3 l4 l5 = some T1 → GI T T1 := by
  intro T l0 l1 l2 l3 l4 l5 h
  have p0 := GI.rf T
  unfold g_X8_subtractBeam_b50 at h
  exact GI.tr p0 (si_X8_subtractBeam_b53 hk18 _ _ _ _ _ _ _ _ _ h)
set_option maxHeartbeats 4000000 in
set_option maxRecDepth 100000 in
theorem si_X8_subtractBeam_b41 {T1 : AT} {k18 : AT → Nat → Nat → Int32 → Int32 → Int32 → Int32 → Option (AT)} (hk18 : ∀ (T : AT) (l0 : Nat) (l1 : Nat) (l2 : Int32) (l3 : Int32) (l4 : Int32) (l5 : Int32), k18 T l0 l1 l2 l3 l4 l5 = some T1 → GI T T1) : ∀ (T : AT) (l0 : Nat) (l1 : Nat) (l2 : Int32) (l3 : Int32) (l4 : Int32) (l5 : Int32), g_X8_subtractBeam_b41 k18 T l0 l1 l2 l3 l4 l5 = some T1 → GI T T1 := by
  intro T l0 l1 l2 l3 l4 l5 h
  have p0 := GI.rf T
  unfold g_X8_subtractBeam_b41 at h
  obtain ⟨g2, h⟩ := oif_some h
  obtain ⟨n3, en3, h⟩ := obind_some h
  obtain ⟨g4, h⟩ := oif_some h
  obtain ⟨T5, eT5, h⟩ := obind_some h
  have p1 : GI T T5 := GI.tr p0 (si_X10_divide eT5)
  exact GI.tr p1 (si_X8_subtractBeam_b50 hk18 _ _ _ _ _ _ _ h)
set_option maxHeartbeats 4000000 in
set_option maxRecDepth 100000 in
theorem si_X8_subtractBeam_b32 {T1 : AT} {k18 : AT → Nat → Nat → Int32 → Int32 → Int32 → Int32 → Option (AT)} (hk18 : ∀ (T : AT) (l0 : Nat) (l1 : Nat) (l2 : Int32) (l3 : Int32) (l4 : Int32) (l5 : Int32), k18 T l0 l1 l2 l3 l4 l5 = some T1 → GI T T1) : ∀ (T : AT) (l0 : Nat) (l1 : Nat) (l2 : Int32) (l3 : Int32) (l4 : Int32) (l5 : Int32), g_X8_subtractBeam_b32 k18 T l0 l1 l2 l3 l4 l5 = some T1 → GI T T1 := by
  intro T l0 l1 l2 l3 l4 l5 h
  have p0 := GI.rf T
  unfold g_X8_subtractBeam_b32 at h
  obtain ⟨g2, h⟩ := oif_some h
  obtain ⟨n3, en3, h⟩ := obind_some h
  obtain ⟨g4, h⟩ := oif_some h
  obtain ⟨T5, eT5, h⟩ := obind_some h
  have p1 : GI T T5 := GI.tr p0 (si_X10_multiply eT5)
  exact GI.tr p1 (si_X8_subtractBeam_b41 hk18 _ _ _ _ _ _ _ h)
set_option maxHeartbeats 4000000 in
set_option maxRecDepth 100000 in
theorem si_X8_subtractBeam_b18 {T1 : AT} : ∀ n : Nat, ∀ (T : AT) (l0 : Nat) (l1 : Nat) (l2 : Int32) (l3 : Int32) (l4 : Int32) (l5 : Int32), g_X8_subtractBeam_b18 n T l0 l1 l2 l3 l4 l5 = some T1 → GI T T1 := by
  intro n
  induction n with
  | zero =>
    intro T l0 l1 l2 l3 l4 l5 h
    have h : (none : Option (AT)) = some T1 := h
    cases h
  | succ n ih =>
    intro T l0 l1 l2 l3 l4 l5 h
    have p0 := GI.rf T
    unfold g_X8_subtractBeam_b18 at h
    rcases oif_or h with ⟨c2, h⟩ | ⟨c2, h⟩
    · have h := h
      obtain ⟨g3, h⟩ := oif_some h
      obtain ⟨v4, -, h⟩ := elet_some h
      obtain ⟨v5, -, h⟩ := elet_some h
      obtain ⟨g6, h⟩ := oif_some h
      obtain ⟨T7, eT7, h⟩ := elet_some h
      have p1 : GI T T7 := GI.tr p0 (by rw [eT7]; exact gi_sp sp_uI)
      rw [← osome1 h]
      exact p1
    · have h := h
      obtain ⟨g8, h⟩ := oif_some h
      obtain ⟨T9, eT9, h⟩ := obind_some h
      have p1 : GI T T9 := GI.tr p0 (si_X8_focus eT9)
      exact GI.tr p1 (si_X8_subtractBeam_b32 ih _ _ _ _ _ _ _ h)
set_option maxHeartbeats 4000000 in
set_option maxRecDepth 100000 in
theorem si_X8_subtractBeam {T : AT} {o : Nat} {a0 : Nat} {a1 : Int32} {T1 : AT} (h : g_X8_subtractBeam T o a0 a1 = some T1) : GI T T1 := by
  have p0 := GI.rf T
  unfold g_X8_subtractBeam at h
  obtain ⟨g2, h⟩ := oif_some h
  obtain ⟨r4, T3, eT3, h⟩ := obind2_some h
  have p1 : GI T T3 := GI.tr p0 (gi_sp (s_X8_activeWeight eT3))
  obtain ⟨v5, -, h⟩ := elet_some h
  obtain ⟨g6, h⟩ := oif_some h
  obtain ⟨r8, T7, eT7, h⟩ := obind2_some h
  have p2 : GI T T7 := GI.tr p1 (gi_sp (s_X8_windowOf eT7))
  exact GI.tr p2 (si_X8_subtractBeam_b18 _ _ _ _ _ _ _ _ h)
set_option maxHeartbeats 4000000 in
set_option maxRecDepth 100000 in
theorem si_X11_begin_b48 {T1 : AT} : ∀ n : Nat, ∀ (T : AT) (l0 : Nat) (l1 : Int32), g_X11_begin_b48 n T l0 l1 = some T1 → GI T T1 := by
  intro n
  induction n with
  | zero =>
    intro T l0 l1 h
    have h : (none : Option (AT)) = some T1 := h
    cases h
  | succ n ih =>
    intro T l0 l1 h
    have p0 := GI.rf T
    unfold g_X11_begin_b48 at h
    rcases oif_or h with ⟨c2, h⟩ | ⟨c2, h⟩
    · have h := h
      rw [← osome1 h]
      exact p0
    · have h := h
      obtain ⟨g3, h⟩ := oif_some h
      obtain ⟨n4, en4, h⟩ := obind_some h
      obtain ⟨g5, h⟩ := oif_some h
      obtain ⟨g6, h⟩ := oif_some h
      obtain ⟨T7, eT7, h⟩ := elet_some h
      have p1 : GI T T7 := GI.tr p0 (by rw [eT7]; exact gi_sp sp_uI)
      obtain ⟨v8, ev8, h⟩ := elet_some h
      exact GI.tr p1 (ih _ _ _ h)
set_option maxHeartbeats 4000000 in
set_option maxRecDepth 100000 in
theorem si_X11_begin_b33 {T1 : AT} : ∀ (T : AT) (l0 : Nat), g_X11_begin_b33 T l0 = some T1 → GI T T1 := by
  intro T l0 h
  have p0 := GI.rf T
  unfold g_X11_begin_b33 at h
  obtain ⟨g2, h⟩ := oif_some h
  obtain ⟨T3, eT3, h⟩ := elet_some h
  have p1 : GI T T3 := GI.tr p0 (by rw [eT3]; exact gi_sp sp_uI)
  obtain ⟨g4, h⟩ := oif_some h
  obtain ⟨n5, en5, h⟩ := obind_some h
  obtain ⟨g6, h⟩ := oif_some h
  obtain ⟨T7, eT7, h⟩ := elet_some h
  have p2 : GI T T7 := GI.tr p1 (by rw [eT7]; exact gi_sp sp_uI)
  exact GI.tr p2 (si_X11_begin_b48 _ _ _ _ h)
set_option maxHeartbeats 4000000 in
set_option maxRecDepth 100000 in
theorem si_X11_begin {T : AT} {o : Nat} {T1 : AT} (h : g_X11_begin T o = some T1) : GI T T1 := by
  have p0 := GI.rf T
  unfold g_X11_begin at h
  obtain ⟨g2, h⟩ := oif_some h
  obtain ⟨n3, en3, h⟩ := obind_some h
  obtain ⟨g4, h⟩ := oif_some h
  obtain ⟨T5, eT5, h⟩ := obind_some h
  have p1 : GI T T5 := GI.tr p0 (gi_sp (s_X6_measureDelays eT5))
  obtain ⟨g7, h⟩ := oif_some h
  obtain ⟨n8, en8, h⟩ := obind_some h
  obtain ⟨g9, h⟩ := oif_some h
  obtain ⟨n10, en10, h⟩ := obind_some h
  obtain ⟨g11, h⟩ := oif_some h
  obtain ⟨T12, eT12, h⟩ := obind_some h
  have p2 : GI T T12 := GI.tr p1 (gi_sp (s_X8_begin eT12))
  obtain ⟨g14, h⟩ := oif_some h
  obtain ⟨n15, en15, h⟩ := obind_some h
  obtain ⟨g16, h⟩ := oif_some h
  obtain ⟨n17, en17, h⟩ := obind_some h
  obtain ⟨g18, h⟩ := oif_some h
  obtain ⟨n19, en19, h⟩ := obind_some h
  obtain ⟨g20, h⟩ := oif_some h
  obtain ⟨T21, eT21, h⟩ := obind_some h
  have p3 : GI T T21 := GI.tr p2 (si_X5_record eT21)
  exact GI.tr p3 (si_X11_begin_b33 _ _ h)
set_option maxHeartbeats 4000000 in
set_option maxRecDepth 100000 in
theorem si_X11_beam_b49 {e1 : Nat} {r1 : Int32} {T1 : AT} : ∀ (T : AT) (l0 : Nat), g_X11_beam_b49 T l0 = some (e1, r1, T1) → GI T T1 := by
  intro T l0 h
  have p0 := GI.rf T
  unfold g_X11_beam_b49 at h
  obtain ⟨g2, h⟩ := oif_some h
  obtain ⟨n3, en3, h⟩ := obind_some h
  obtain ⟨g4, h⟩ := oif_some h
  obtain ⟨n5, en5, h⟩ := obind_some h
  obtain ⟨g6, h⟩ := oif_some h
  obtain ⟨r8, T7, eT7, h⟩ := obind2_some h
  have p1 : GI T T7 := GI.tr p0 (gi_sp (s_X10_value eT7))
  obtain ⟨v9, -, h⟩ := elet_some h
  rw [← (osome3 h).2.2]
  exact p1
set_option maxHeartbeats 4000000 in
set_option maxRecDepth 100000 in
theorem si_X11_beam {T : AT} {o : Nat} {a0 : Int32} {a1 : Int32} {e1 : Nat} {r1 : Int32} {T1 : AT} (h : g_X11_beam T o a0 a1 = some (e1, r1, T1)) : GI T T1 := by
  have p0 := GI.rf T
  unfold g_X11_beam at h
  obtain ⟨g2, h⟩ := oif_some h
  rcases othr_s h with ⟨k9, r9, e9, -⟩ | ⟨r4, T3, eT3, h⟩
  · exact GI.tr p0 (gi_sp (s_X11_needCamera e9))
  have p1 : GI T T3 := GI.tr p0 (gi_sp (s_X11_needCamera eT3))
  obtain ⟨g5, h⟩ := oif_some h
  rcases othr_s h with ⟨k9, r9, e9, -⟩ | ⟨r7, T6, eT6, h⟩
  · exact GI.tr p1 (gi_sp (s_X11_needCell e9))
  have p2 : GI T T6 := GI.tr p1 (gi_sp (s_X11_needCell eT6))
  obtain ⟨g8, h⟩ := oif_some h
  obtain ⟨n9, en9, h⟩ := obind_some h
  obtain ⟨g10, h⟩ := oif_some h
  obtain ⟨n11, en11, h⟩ := obind_some h
  obtain ⟨g12, h⟩ := oif_some h
  obtain ⟨n13, en13, h⟩ := obind_some h
  obtain ⟨g14, h⟩ := oif_some h
  obtain ⟨g15, h⟩ := oif_some h
  obtain ⟨n16, en16, h⟩ := obind_some h
  obtain ⟨g17, h⟩ := oif_some h
  obtain ⟨r19, T18, eT18, h⟩ := obind2_some h
  have p3 : GI T T18 := GI.tr p2 (gi_sp (s_X8_windowOf eT18))
  obtain ⟨v20, -, h⟩ := elet_some h
  rcases othr_s h with ⟨k9, r9, e9, -⟩ | ⟨r22, T21, eT21, h⟩
  · exact GI.tr p3 (gi_sp (s_X11_needRange e9))
  have p4 : GI T T21 := GI.tr p3 (gi_sp (s_X11_needRange eT21))
  obtain ⟨g23, h⟩ := oif_some h
  obtain ⟨n24, en24, h⟩ := obind_some h
  obtain ⟨g25, h⟩ := oif_some h
  obtain ⟨n26, en26, h⟩ := obind_some h
  obtain ⟨g27, h⟩ := oif_some h
  obtain ⟨n28, en28, h⟩ := obind_some h
  obtain ⟨g29, h⟩ := oif_some h
  obtain ⟨g30, h⟩ := oif_some h
  obtain ⟨n31, en31, h⟩ := obind_some h
  obtain ⟨g32, h⟩ := oif_some h
  obtain ⟨T33, eT33, h⟩ := obind_some h
  have p5 : GI T T33 := GI.tr p4 (si_X8_focus eT33)
  exact GI.tr p5 (si_X11_beam_b49 _ _ h)
set_option maxHeartbeats 4000000 in
set_option maxRecDepth 100000 in
theorem si_X11_powersNow_b33 {r1 : Nat} {T1 : AT} : ∀ (T : AT) (l0 : Nat), g_X11_powersNow_b33 T l0 = some (r1, T1) → GI T T1 := by
  intro T l0 h
  have p0 := GI.rf T
  unfold g_X11_powersNow_b33 at h
  obtain ⟨g2, h⟩ := oif_some h
  obtain ⟨n3, en3, h⟩ := obind_some h
  rw [← (osome2 h).2]
  exact p0
set_option maxHeartbeats 4000000 in
set_option maxRecDepth 100000 in
theorem si_X11_powersNow_b25 {r1 : Nat} {T1 : AT} : ∀ (T : AT) (l0 : Nat), g_X11_powersNow_b25 T l0 = some (r1, T1) → GI T T1 := by
  intro T l0 h
  have p0 := GI.rf T
  unfold g_X11_powersNow_b25 at h
  obtain ⟨g2, h⟩ := oif_some h
  obtain ⟨n3, en3, h⟩ := obind_some h
  obtain ⟨g4, h⟩ := oif_some h
  obtain ⟨T5, eT5, h⟩ := elet_some h
  have p1 : GI T T5 := GI.tr p0 (by rw [eT5]; exact gi_sp sp_uI)
  exact GI.tr p1 (si_X11_powersNow_b33 _ _ h)
set_option maxHeartbeats 4000000 in
set_option maxRecDepth 100000 in
theorem si_X11_powersNow {T : AT} {o : Nat} {r1 : Nat} {T1 : AT} (h : g_X11_powersNow T o = some (r1, T1)) : GI T T1 := by
  have p0 := GI.rf T
  unfold g_X11_powersNow at h
  obtain ⟨g2, h⟩ := oif_some h
  obtain ⟨n3, en3, h⟩ := obind_some h
  obtain ⟨g4, h⟩ := oif_some h
  obtain ⟨v5, -, h⟩ := elet_some h
  rcases oif_or h with ⟨c6, h⟩ | ⟨c6, h⟩
  · have h := h
    obtain ⟨g7, h⟩ := oif_some h
    obtain ⟨n8, en8, h⟩ := obind_some h
    obtain ⟨g9, h⟩ := oif_some h
    obtain ⟨n10, en10, h⟩ := obind_some h
    obtain ⟨g11, h⟩ := oif_some h
    obtain ⟨n12, en12, h⟩ := obind_some h
    obtain ⟨g13, h⟩ := oif_some h
    obtain ⟨T14, eT14, h⟩ := obind_some h
    have p1 : GI T T14 := GI.tr p0 (si_X4_measure eT14)
    exact GI.tr p1 (si_X11_powersNow_b25 _ _ h)
  · have h := h
    exact GI.tr p0 (si_X11_powersNow_b33 _ _ h)
set_option maxHeartbeats 4000000 in
set_option maxRecDepth 100000 in
theorem si_X11_power_b13 {e1 : Nat} {r1 : Int64} {T1 : AT} : ∀ (T : AT) (s0 : Nat) (l1 : Int32), g_X11_power_b13 T s0 l1 = some (e1, r1, T1) → GI T T1 := by
  intro T s0 l1 h
  have p0 := GI.rf T
  unfold g_X11_power_b13 at h
  obtain ⟨g2, h⟩ := oif_some h
  obtain ⟨n3, en3, h⟩ := obind_some h
  obtain ⟨g4, h⟩ := oif_some h
  obtain ⟨r6, T5, eT5, h⟩ := obind2_some h
  have p1 : GI T T5 := GI.tr p0 (gi_sp (s_X10_value eT5))
  rw [← (osome3 h).2.2]
  exact p1
set_option maxHeartbeats 4000000 in
set_option maxRecDepth 100000 in
theorem si_X11_power {T : AT} {o : Nat} {a0 : Int32} {e1 : Nat} {r1 : Int64} {T1 : AT} (h : g_X11_power T o a0 = some (e1, r1, T1)) : GI T T1 := by
  have p0 := GI.rf T
  unfold g_X11_power at h
  obtain ⟨g2, h⟩ := oif_some h
  rcases othr_s h with ⟨k9, r9, e9, -⟩ | ⟨r4, T3, eT3, h⟩
  · exact GI.tr p0 (gi_sp (s_X11_needCamera e9))
  have p1 : GI T T3 := GI.tr p0 (gi_sp (s_X11_needCamera eT3))
  obtain ⟨g5, h⟩ := oif_some h
  rcases othr_s h with ⟨k9, r9, e9, -⟩ | ⟨r7, T6, eT6, h⟩
  · exact GI.tr p1 (gi_sp (s_X11_needCell e9))
  have p2 : GI T T6 := GI.tr p1 (gi_sp (s_X11_needCell eT6))
  obtain ⟨g8, h⟩ := oif_some h
  obtain ⟨r10, T9, eT9, h⟩ := obind2_some h
  obtain ⟨g11, h⟩ := oif_some h
  have p3 : GI T T9 := GI.tr p2 (si_X11_powersNow eT9)
  exact GI.tr p3 (si_X11_power_b13 _ _ _ h)
set_option maxHeartbeats 4000000 in
set_option maxRecDepth 100000 in
theorem si_X11_powerAt_b53 {e1 : Nat} {r1 : Int64} {T1 : AT} : ∀ (T : AT) (l0 : Nat), g_X11_powerAt_b53 T l0 = some (e1, r1, T1) → GI T T1 := by
  intro T l0 h
  have p0 := GI.rf T
  unfold g_X11_powerAt_b53 at h
  obtain ⟨g2, h⟩ := oif_some h
  obtain ⟨n3, en3, h⟩ := obind_some h
  obtain ⟨g4, h⟩ := oif_some h
  obtain ⟨r6, T5, eT5, h⟩ := obind2_some h
  have p1 : GI T T5 := GI.tr p0 (gi_sp (s_X10_value eT5))
  rw [← (osome3 h).2.2]
  exact p1
set_option maxHeartbeats 4000000 in
set_option maxRecDepth 100000 in
theorem si_X11_powerAt {T : AT} {o : Nat} {a0 : Int32} {a1 : Int32} {e1 : Nat} {r1 : Int64} {T1 : AT} (h : g_X11_powerAt T o a0 a1 = some (e1, r1, T1)) : GI T T1 := by
  have p0 := GI.rf T
  unfold g_X11_powerAt at h
  obtain ⟨g2, h⟩ := oif_some h
  rcases othr_s h with ⟨k9, r9, e9, -⟩ | ⟨r4, T3, eT3, h⟩
  · exact GI.tr p0 (gi_sp (s_X11_needCamera e9))
  have p1 : GI T T3 := GI.tr p0 (gi_sp (s_X11_needCamera eT3))
  rcases othr_s h with ⟨k9, r9, e9, -⟩ | ⟨r6, T5, eT5, h⟩
  · exact GI.tr p1 (gi_sp (s_X11_needRange e9))
  have p2 : GI T T5 := GI.tr p1 (gi_sp (s_X11_needRange eT5))
  rcases othr_s h with ⟨k9, r9, e9, -⟩ | ⟨r8, T7, eT7, h⟩
  · exact GI.tr p2 (gi_sp (s_X11_needRange e9))
  have p3 : GI T T7 := GI.tr p2 (gi_sp (s_X11_needRange eT7))
  obtain ⟨g9, h⟩ := oif_some h
  obtain ⟨n10, en10, h⟩ := obind_some h
  obtain ⟨g11, h⟩ := oif_some h
  obtain ⟨n12, en12, h⟩ := obind_some h
  obtain ⟨g13, h⟩ := oif_some h
  obtain ⟨T14, eT14, h⟩ := obind_some h
  have p4 : GI T T14 := GI.tr p3 (gi_sp (s_X6_delaysFrom eT14))
  obtain ⟨g16, h⟩ := oif_some h
  obtain ⟨n17, en17, h⟩ := obind_some h
  obtain ⟨g18, h⟩ := oif_some h
  obtain ⟨n19, en19, h⟩ := obind_some h
  obtain ⟨g20, h⟩ := oif_some h
  obtain ⟨n21, en21, h⟩ := obind_some h
  obtain ⟨g22, h⟩ := oif_some h
  obtain ⟨T23, eT23, h⟩ := obind_some h
  have p5 : GI T T23 := GI.tr p4 (si_X8_powerOf eT23)
  exact GI.tr p5 (si_X11_powerAt_b53 _ _ h)
set_option maxHeartbeats 4000000 in
set_option maxRecDepth 100000 in
theorem si_X11_best_b8 {e1 : Nat} {r1 : Int32} {T1 : AT} : ∀ (T : AT) (s0 : Nat), g_X11_best_b8 T s0 = some (e1, r1, T1) → GI T T1 := by
  intro T s0 h
  have p0 := GI.rf T
  unfold g_X11_best_b8 at h
  obtain ⟨g2, h⟩ := oif_some h
  obtain ⟨v3, -, h⟩ := elet_some h
  rw [← (osome3 h).2.2]
  exact p0
set_option maxHeartbeats 4000000 in
set_option maxRecDepth 100000 in
theorem si_X11_best {T : AT} {o : Nat} {e1 : Nat} {r1 : Int32} {T1 : AT} (h : g_X11_best T o = some (e1, r1, T1)) : GI T T1 := by
  have p0 := GI.rf T
  unfold g_X11_best at h
  obtain ⟨g2, h⟩ := oif_some h
  rcases othr_s h with ⟨k9, r9, e9, -⟩ | ⟨r4, T3, eT3, h⟩
  · exact GI.tr p0 (gi_sp (s_X11_needCamera e9))
  have p1 : GI T T3 := GI.tr p0 (gi_sp (s_X11_needCamera eT3))
  obtain ⟨g5, h⟩ := oif_some h
  obtain ⟨r7, T6, eT6, h⟩ := obind2_some h
  obtain ⟨g8, h⟩ := oif_some h
  have p2 : GI T T6 := GI.tr p1 (si_X11_powersNow eT6)
  exact GI.tr p2 (si_X11_best_b8 _ _ h)
set_option maxHeartbeats 4000000 in
set_option maxRecDepth 100000 in
theorem si_X11_bestPower_b8 {e1 : Nat} {r1 : Int64} {T1 : AT} : ∀ (T : AT) (s0 : Nat), g_X11_bestPower_b8 T s0 = some (e1, r1, T1) → GI T T1 := by
  intro T s0 h
  have p0 := GI.rf T
  unfold g_X11_bestPower_b8 at h
  obtain ⟨g2, h⟩ := oif_some h
  obtain ⟨n3, en3, h⟩ := obind_some h
  obtain ⟨g4, h⟩ := oif_some h
  obtain ⟨v5, -, h⟩ := elet_some h
  obtain ⟨g6, h⟩ := oif_some h
  obtain ⟨r8, T7, eT7, h⟩ := obind2_some h
  have p1 : GI T T7 := GI.tr p0 (gi_sp (s_X10_value eT7))
  rw [← (osome3 h).2.2]
  exact p1
set_option maxHeartbeats 4000000 in
set_option maxRecDepth 100000 in
theorem si_X11_bestPower {T : AT} {o : Nat} {e1 : Nat} {r1 : Int64} {T1 : AT} (h : g_X11_bestPower T o = some (e1, r1, T1)) : GI T T1 := by
  have p0 := GI.rf T
  unfold g_X11_bestPower at h
  obtain ⟨g2, h⟩ := oif_some h
  rcases othr_s h with ⟨k9, r9, e9, -⟩ | ⟨r4, T3, eT3, h⟩
  · exact GI.tr p0 (gi_sp (s_X11_needCamera e9))
  have p1 : GI T T3 := GI.tr p0 (gi_sp (s_X11_needCamera eT3))
  obtain ⟨g5, h⟩ := oif_some h
  obtain ⟨r7, T6, eT6, h⟩ := obind2_some h
  obtain ⟨g8, h⟩ := oif_some h
  have p2 : GI T T6 := GI.tr p1 (si_X11_powersNow eT6)
  exact GI.tr p2 (si_X11_bestPower_b8 _ _ h)
set_option maxHeartbeats 4000000 in
set_option maxRecDepth 100000 in
theorem si_X11_meanPower_b51 {e1 : Nat} {r1 : Int64} {T1 : AT} : ∀ (T : AT) (l0 : Nat), g_X11_meanPower_b51 T l0 = some (e1, r1, T1) → GI T T1 := by
  intro T l0 h
  have p0 := GI.rf T
  unfold g_X11_meanPower_b51 at h
  obtain ⟨g2, h⟩ := oif_some h
  obtain ⟨n3, en3, h⟩ := obind_some h
  obtain ⟨g4, h⟩ := oif_some h
  obtain ⟨r6, T5, eT5, h⟩ := obind2_some h
  have p1 : GI T T5 := GI.tr p0 (gi_sp (s_X10_value eT5))
  rw [← (osome3 h).2.2]
  exact p1
set_option maxHeartbeats 4000000 in
set_option maxRecDepth 100000 in
theorem si_X11_meanPower_b33 {e1 : Nat} {r1 : Int64} {T1 : AT} : ∀ (T : AT) (l0 : Nat), g_X11_meanPower_b33 T l0 = some (e1, r1, T1) → GI T T1 := by
  intro T l0 h
  have p0 := GI.rf T
  unfold g_X11_meanPower_b33 at h
  obtain ⟨g2, h⟩ := oif_some h
  obtain ⟨n3, en3, h⟩ := obind_some h
  obtain ⟨g4, h⟩ := oif_some h
  obtain ⟨n5, en5, h⟩ := obind_some h
  obtain ⟨g6, h⟩ := oif_some h
  obtain ⟨n7, en7, h⟩ := obind_some h
  obtain ⟨g8, h⟩ := oif_some h
  obtain ⟨r10, T9, eT9, h⟩ := obind2_some h
  have p1 : GI T T9 := GI.tr p0 (gi_sp (s_X1_cells eT9))
  obtain ⟨g11, h⟩ := oif_some h
  obtain ⟨T12, eT12, h⟩ := obind_some h
  have p2 : GI T T12 := GI.tr p1 (si_X10_divide eT12)
  exact GI.tr p2 (si_X11_meanPower_b51 _ _ h)
set_option maxHeartbeats 4000000 in
set_option maxRecDepth 100000 in
theorem si_X11_meanPower_b8 {e1 : Nat} {r1 : Int64} {T1 : AT} : ∀ (T : AT) (s0 : Nat) (l0 : Nat), g_X11_meanPower_b8 T s0 l0 = some (e1, r1, T1) → GI T T1 := by
  intro T s0 l0 h
  have p0 := GI.rf T
  unfold g_X11_meanPower_b8 at h
  obtain ⟨g2, h⟩ := oif_some h
  obtain ⟨n3, en3, h⟩ := obind_some h
  obtain ⟨g4, h⟩ := oif_some h
  obtain ⟨n5, en5, h⟩ := obind_some h
  obtain ⟨g6, h⟩ := oif_some h
  obtain ⟨n7, en7, h⟩ := obind_some h
  obtain ⟨g8, h⟩ := oif_some h
  obtain ⟨n9, en9, h⟩ := obind_some h
  obtain ⟨g10, h⟩ := oif_some h
  obtain ⟨n11, en11, h⟩ := obind_some h
  obtain ⟨g12, h⟩ := oif_some h
  obtain ⟨n13, en13, h⟩ := obind_some h
  obtain ⟨g14, h⟩ := oif_some h
  obtain ⟨T15, eT15, h⟩ := obind_some h
  have p1 : GI T T15 := GI.tr p0 (si_X4_sumIn eT15)
  exact GI.tr p1 (si_X11_meanPower_b33 _ _ h)
set_option maxHeartbeats 4000000 in
set_option maxRecDepth 100000 in
theorem si_X11_meanPower {T : AT} {o : Nat} {e1 : Nat} {r1 : Int64} {T1 : AT} (h : g_X11_meanPower T o = some (e1, r1, T1)) : GI T T1 := by
  have p0 := GI.rf T
  unfold g_X11_meanPower at h
  obtain ⟨g2, h⟩ := oif_some h
  rcases othr_s h with ⟨k9, r9, e9, -⟩ | ⟨r4, T3, eT3, h⟩
  · exact GI.tr p0 (gi_sp (s_X11_needCamera e9))
  have p1 : GI T T3 := GI.tr p0 (gi_sp (s_X11_needCamera eT3))
  obtain ⟨g5, h⟩ := oif_some h
  obtain ⟨r7, T6, eT6, h⟩ := obind2_some h
  obtain ⟨g8, h⟩ := oif_some h
  have p2 : GI T T6 := GI.tr p1 (si_X11_powersNow eT6)
  exact GI.tr p2 (si_X11_meanPower_b8 _ _ _ h)
set_option maxHeartbeats 4000000 in
set_option maxRecDepth 100000 in
theorem si_X11_peaks_b8 {e1 : Nat} {r1 : Int32} {T1 : AT} : ∀ (T : AT) (s0 : Nat), g_X11_peaks_b8 T s0 = some (e1, r1, T1) → GI T T1 := by
  intro T s0 h
  have p0 := GI.rf T
  unfold g_X11_peaks_b8 at h
  obtain ⟨g2, h⟩ := oif_some h
  obtain ⟨v3, -, h⟩ := elet_some h
  rw [← (osome3 h).2.2]
  exact p0
set_option maxHeartbeats 4000000 in
set_option maxRecDepth 100000 in
theorem si_X11_peaks {T : AT} {o : Nat} {e1 : Nat} {r1 : Int32} {T1 : AT} (h : g_X11_peaks T o = some (e1, r1, T1)) : GI T T1 := by
  have p0 := GI.rf T
  unfold g_X11_peaks at h
  obtain ⟨g2, h⟩ := oif_some h
  rcases othr_s h with ⟨k9, r9, e9, -⟩ | ⟨r4, T3, eT3, h⟩
  · exact GI.tr p0 (gi_sp (s_X11_needCamera e9))
  have p1 : GI T T3 := GI.tr p0 (gi_sp (s_X11_needCamera eT3))
  obtain ⟨g5, h⟩ := oif_some h
  obtain ⟨r7, T6, eT6, h⟩ := obind2_some h
  obtain ⟨g8, h⟩ := oif_some h
  have p2 : GI T T6 := GI.tr p1 (si_X11_powersNow eT6)
  exact GI.tr p2 (si_X11_peaks_b8 _ _ h)
set_option maxHeartbeats 4000000 in
set_option maxRecDepth 100000 in
theorem si_X11_peakAt_b8 {e1 : Nat} {r1 : Int32} {T1 : AT} : ∀ (T : AT) (s0 : Nat) (l1 : Int32), g_X11_peakAt_b8 T s0 l1 = some (e1, r1, T1) → GI T T1 := by
  intro T s0 l1 h
  have p0 := GI.rf T
  unfold g_X11_peakAt_b8 at h
  obtain ⟨g2, h⟩ := oif_some h
  obtain ⟨v3, -, h⟩ := elet_some h
  rcases othr_s h with ⟨k9, r9, e9, -⟩ | ⟨r5, T4, eT4, h⟩
  · exact GI.tr p0 (gi_sp (s_X11_needIndex e9))
  have p1 : GI T T4 := GI.tr p0 (gi_sp (s_X11_needIndex eT4))
  obtain ⟨g6, h⟩ := oif_some h
  obtain ⟨r8, T7, eT7, h⟩ := obind2_some h
  have p2 : GI T T7 := GI.tr p1 (gi_sp (s_X4_peakRanked eT7))
  rw [← (osome3 h).2.2]
  exact p2
set_option maxHeartbeats 4000000 in
set_option maxRecDepth 100000 in
theorem si_X11_peakAt {T : AT} {o : Nat} {a0 : Int32} {e1 : Nat} {r1 : Int32} {T1 : AT} (h : g_X11_peakAt T o a0 = some (e1, r1, T1)) : GI T T1 := by
  have p0 := GI.rf T
  unfold g_X11_peakAt at h
  obtain ⟨g2, h⟩ := oif_some h
  rcases othr_s h with ⟨k9, r9, e9, -⟩ | ⟨r4, T3, eT3, h⟩
  · exact GI.tr p0 (gi_sp (s_X11_needCamera e9))
  have p1 : GI T T3 := GI.tr p0 (gi_sp (s_X11_needCamera eT3))
  obtain ⟨g5, h⟩ := oif_some h
  obtain ⟨r7, T6, eT6, h⟩ := obind2_some h
  obtain ⟨g8, h⟩ := oif_some h
  have p2 : GI T T6 := GI.tr p1 (si_X11_powersNow eT6)
  exact GI.tr p2 (si_X11_peakAt_b8 _ _ _ h)
set_option maxHeartbeats 4000000 in
set_option maxRecDepth 100000 in
theorem si_X11_isPeak_b13 {e1 : Nat} {r1 : Int32} {T1 : AT} : ∀ (T : AT) (s0 : Nat) (l0 : Nat) (l1 : Int32), g_X11_isPeak_b13 T s0 l0 l1 = some (e1, r1, T1) → GI T T1 := by
  intro T s0 l0 l1 h
  have p0 := GI.rf T
  unfold g_X11_isPeak_b13 at h
  obtain ⟨g2, h⟩ := oif_some h
  obtain ⟨n3, en3, h⟩ := obind_some h
  obtain ⟨g4, h⟩ := oif_some h
  obtain ⟨n5, en5, h⟩ := obind_some h
  obtain ⟨g6, h⟩ := oif_some h
  obtain ⟨r8, T7, eT7, h⟩ := obind2_some h
  have p1 : GI T T7 := GI.tr p0 (gi_sp (s_X4_standsOut eT7))
  obtain ⟨gz, h⟩ := oif_some h
  rw [← (osome3 h).2.2]
  exact p1
set_option maxHeartbeats 4000000 in
set_option maxRecDepth 100000 in
theorem si_X11_isPeak {T : AT} {o : Nat} {a0 : Int32} {e1 : Nat} {r1 : Int32} {T1 : AT} (h : g_X11_isPeak T o a0 = some (e1, r1, T1)) : GI T T1 := by
  have p0 := GI.rf T
  unfold g_X11_isPeak at h
  obtain ⟨g2, h⟩ := oif_some h
  rcases othr_s h with ⟨k9, r9, e9, -⟩ | ⟨r4, T3, eT3, h⟩
  · exact GI.tr p0 (gi_sp (s_X11_needCamera e9))
  have p1 : GI T T3 := GI.tr p0 (gi_sp (s_X11_needCamera eT3))
  obtain ⟨g5, h⟩ := oif_some h
  rcases othr_s h with ⟨k9, r9, e9, -⟩ | ⟨r7, T6, eT6, h⟩
  · exact GI.tr p1 (gi_sp (s_X11_needCell e9))
  have p2 : GI T T6 := GI.tr p1 (gi_sp (s_X11_needCell eT6))
  obtain ⟨g8, h⟩ := oif_some h
  obtain ⟨r10, T9, eT9, h⟩ := obind2_some h
  obtain ⟨g11, h⟩ := oif_some h
  have p3 : GI T T9 := GI.tr p2 (si_X11_powersNow eT9)
  exact GI.tr p3 (si_X11_isPeak_b13 _ _ _ _ h)
set_option maxHeartbeats 4000000 in
set_option maxRecDepth 100000 in
theorem si_X11_zonePower_b49 {e1 : Nat} {r1 : Int64} {T1 : AT} : ∀ (T : AT) (l0 : Nat), g_X11_zonePower_b49 T l0 = some (e1, r1, T1) → GI T T1 := by
  intro T l0 h
  have p0 := GI.rf T
  unfold g_X11_zonePower_b49 at h
  obtain ⟨g2, h⟩ := oif_some h
  obtain ⟨n3, en3, h⟩ := obind_some h
  obtain ⟨g4, h⟩ := oif_some h
  obtain ⟨r6, T5, eT5, h⟩ := obind2_some h
  have p1 : GI T T5 := GI.tr p0 (gi_sp (s_X10_value eT5))
  rw [← (osome3 h).2.2]
  exact p1
set_option maxHeartbeats 4000000 in
set_option maxRecDepth 100000 in
theorem si_X11_zonePower_b22 {e1 : Nat} {r1 : Int64} {T1 : AT} : ∀ (T : AT) (s0 : Nat) (l0 : Nat) (l1 : Int32), g_X11_zonePower_b22 T s0 l0 l1 = some (e1, r1, T1) → GI T T1 := by
  intro T s0 l0 l1 h
  have p0 := GI.rf T
  unfold g_X11_zonePower_b22 at h
  obtain ⟨g2, h⟩ := oif_some h
  obtain ⟨n3, en3, h⟩ := obind_some h
  obtain ⟨g4, h⟩ := oif_some h
  obtain ⟨n5, en5, h⟩ := obind_some h
  obtain ⟨g6, h⟩ := oif_some h
  obtain ⟨n7, en7, h⟩ := obind_some h
  obtain ⟨g8, h⟩ := oif_some h
  obtain ⟨g9, h⟩ := oif_some h
  obtain ⟨n10, en10, h⟩ := obind_some h
  obtain ⟨g11, h⟩ := oif_some h
  obtain ⟨n12, en12, h⟩ := obind_some h
  obtain ⟨g13, h⟩ := oif_some h
  obtain ⟨n14, en14, h⟩ := obind_some h
  obtain ⟨g15, h⟩ := oif_some h
  obtain ⟨n16, en16, h⟩ := obind_some h
  obtain ⟨g17, h⟩ := oif_some h
  obtain ⟨T18, eT18, h⟩ := obind_some h
  have p1 : GI T T18 := GI.tr p0 (si_X4_sumIn eT18)
  exact GI.tr p1 (si_X11_zonePower_b49 _ _ h)
set_option maxHeartbeats 4000000 in
set_option maxRecDepth 100000 in
theorem si_X11_zonePower {T : AT} {o : Nat} {a0 : Int32} {e1 : Nat} {r1 : Int64} {T1 : AT} (h : g_X11_zonePower T o a0 = some (e1, r1, T1)) : GI T T1 := by
  have p0 := GI.rf T
  unfold g_X11_zonePower at h
  obtain ⟨g2, h⟩ := oif_some h
  rcases othr_s h with ⟨k9, r9, e9, -⟩ | ⟨r4, T3, eT3, h⟩
  · exact GI.tr p0 (gi_sp (s_X11_needCamera e9))
  have p1 : GI T T3 := GI.tr p0 (gi_sp (s_X11_needCamera eT3))
  obtain ⟨g5, h⟩ := oif_some h
  obtain ⟨n6, en6, h⟩ := obind_some h
  obtain ⟨g7, h⟩ := oif_some h
  obtain ⟨n8, en8, h⟩ := obind_some h
  obtain ⟨g9, h⟩ := oif_some h
  obtain ⟨v10, -, h⟩ := elet_some h
  rcases othr_s h with ⟨k9, r9, e9, -⟩ | ⟨r12, T11, eT11, h⟩
  · exact GI.tr p1 (gi_sp (s_X11_needIndex e9))
  have p2 : GI T T11 := GI.tr p1 (gi_sp (s_X11_needIndex eT11))
  obtain ⟨g13, h⟩ := oif_some h
  obtain ⟨r15, T14, eT14, h⟩ := obind2_some h
  obtain ⟨g16, h⟩ := oif_some h
  have p3 : GI T T14 := GI.tr p2 (si_X11_powersNow eT14)
  exact GI.tr p3 (si_X11_zonePower_b22 _ _ _ _ h)
set_option maxHeartbeats 4000000 in
set_option maxRecDepth 100000 in
theorem si_X11_zoneBest_b41 {e1 : Nat} {r1 : Int32} {T1 : AT} : ∀ (T : AT) (s0 : Nat) (s1 : Nat) (s2 : Nat), g_X11_zoneBest_b41 T s0 s1 s2 = some (e1, r1, T1) → GI T T1 := by
  intro T s0 s1 s2 h
  have p0 := GI.rf T
  unfold g_X11_zoneBest_b41 at h
  obtain ⟨g2, h⟩ := oif_some h
  obtain ⟨n3, en3, h⟩ := obind_some h
  obtain ⟨g4, h⟩ := oif_some h
  obtain ⟨r6, T5, eT5, h⟩ := obind2_some h
  have p1 : GI T T5 := GI.tr p0 (gi_sp (s_X1_bestIn eT5))
  rw [← (osome3 h).2.2]
  exact p1
set_option maxHeartbeats 4000000 in
set_option maxRecDepth 100000 in
theorem si_X11_zoneBest {T : AT} {o : Nat} {a0 : Int32} {e1 : Nat} {r1 : Int32} {T1 : AT} (h : g_X11_zoneBest T o a0 = some (e1, r1, T1)) : GI T T1 := by
  have p0 := GI.rf T
  unfold g_X11_zoneBest at h
  obtain ⟨g2, h⟩ := oif_some h
  rcases othr_s h with ⟨k9, r9, e9, -⟩ | ⟨r4, T3, eT3, h⟩
  · exact GI.tr p0 (gi_sp (s_X11_needCamera e9))
  have p1 : GI T T3 := GI.tr p0 (gi_sp (s_X11_needCamera eT3))
  obtain ⟨g5, h⟩ := oif_some h
  obtain ⟨n6, en6, h⟩ := obind_some h
  obtain ⟨g7, h⟩ := oif_some h
  obtain ⟨n8, en8, h⟩ := obind_some h
  obtain ⟨g9, h⟩ := oif_some h
  obtain ⟨v10, -, h⟩ := elet_some h
  rcases othr_s h with ⟨k9, r9, e9, -⟩ | ⟨r12, T11, eT11, h⟩
  · exact GI.tr p1 (gi_sp (s_X11_needIndex e9))
  have p2 : GI T T11 := GI.tr p1 (gi_sp (s_X11_needIndex eT11))
  obtain ⟨g13, h⟩ := oif_some h
  obtain ⟨n14, en14, h⟩ := obind_some h
  obtain ⟨g15, h⟩ := oif_some h
  obtain ⟨n16, en16, h⟩ := obind_some h
  obtain ⟨g17, h⟩ := oif_some h
  obtain ⟨n18, en18, h⟩ := obind_some h
  obtain ⟨g19, h⟩ := oif_some h
  obtain ⟨n20, en20, h⟩ := obind_some h
  obtain ⟨g21, h⟩ := oif_some h
  obtain ⟨n22, en22, h⟩ := obind_some h
  obtain ⟨g23, h⟩ := oif_some h
  obtain ⟨g24, h⟩ := oif_some h
  obtain ⟨n25, en25, h⟩ := obind_some h
  obtain ⟨g26, h⟩ := oif_some h
  obtain ⟨r28, T27, eT27, h⟩ := obind2_some h
  obtain ⟨g29, h⟩ := oif_some h
  have p3 : GI T T27 := GI.tr p2 (si_X11_powersNow eT27)
  exact GI.tr p3 (si_X11_zoneBest_b41 _ _ _ _ h)
set_option maxHeartbeats 4000000 in
set_option maxRecDepth 100000 in
theorem si_X11_contrast_b45 {e1 : Nat} {r1 : UInt32} {T1 : AT} : ∀ (T : AT) (s0 : UInt32), g_X11_contrast_b45 T s0 = some (e1, r1, T1) → GI T T1 := by
  intro T s0 h
  have p0 := GI.rf T
  unfold g_X11_contrast_b45 at h
  rw [← (osome3 h).2.2]
  exact p0
set_option maxHeartbeats 4000000 in
set_option maxRecDepth 100000 in
theorem si_X11_contrast_b8 {e1 : Nat} {r1 : UInt32} {T1 : AT} : ∀ (T : AT) (s0 : Nat) (l0 : Nat), g_X11_contrast_b8 T s0 l0 = some (e1, r1, T1) → GI T T1 := by
  intro T s0 l0 h
  have p0 := GI.rf T
  unfold g_X11_contrast_b8 at h
  obtain ⟨g2, h⟩ := oif_some h
  obtain ⟨n3, en3, h⟩ := obind_some h
  obtain ⟨g4, h⟩ := oif_some h
  obtain ⟨n5, en5, h⟩ := obind_some h
  obtain ⟨g6, h⟩ := oif_some h
  obtain ⟨r8, T7, eT7, h⟩ := obind2_some h
  have p1 : GI T T7 := GI.tr p0 (gi_sp (s_X1_cells eT7))
  obtain ⟨g9, h⟩ := oif_some h
  obtain ⟨r11, T10, eT10, h⟩ := obind2_some h
  have p2 : GI T T10 := GI.tr p1 (gi_sp (s_X4_second eT10))
  rcases oif_or h with ⟨c12, h⟩ | ⟨c12, h⟩
  · have h := h
    exact GI.tr p2 (si_X11_contrast_b45 _ _ h)
  · have h := h
    obtain ⟨g13, h⟩ := oif_some h
    obtain ⟨n14, en14, h⟩ := obind_some h
    obtain ⟨g15, h⟩ := oif_some h
    obtain ⟨v16, -, h⟩ := elet_some h
    obtain ⟨g17, h⟩ := oif_some h
    obtain ⟨r19, T18, eT18, h⟩ := obind2_some h
    have p3 : GI T T18 := GI.tr p2 (gi_sp (s_X10_ratio eT18))
    exact GI.tr p3 (si_X11_contrast_b45 _ _ h)
set_option maxHeartbeats 4000000 in
set_option maxRecDepth 100000 in
theorem si_X11_contrast {T : AT} {o : Nat} {e1 : Nat} {r1 : UInt32} {T1 : AT} (h : g_X11_contrast T o = some (e1, r1, T1)) : GI T T1 := by
  have p0 := GI.rf T
  unfold g_X11_contrast at h
  obtain ⟨g2, h⟩ := oif_some h
  rcases othr_s h with ⟨k9, r9, e9, -⟩ | ⟨r4, T3, eT3, h⟩
  · exact GI.tr p0 (gi_sp (s_X11_needCamera e9))
  have p1 : GI T T3 := GI.tr p0 (gi_sp (s_X11_needCamera eT3))
  obtain ⟨g5, h⟩ := oif_some h
  obtain ⟨r7, T6, eT6, h⟩ := obind2_some h
  obtain ⟨g8, h⟩ := oif_some h
  have p2 : GI T T6 := GI.tr p1 (si_X11_powersNow eT6)
  exact GI.tr p2 (si_X11_contrast_b8 _ _ _ h)
set_option maxHeartbeats 4000000 in
set_option maxRecDepth 100000 in
theorem si_X11_isAlias_b28 {e1 : Nat} {r1 : Int32} {T1 : AT} : ∀ (T : AT) (s0 : Nat) (s1 : Nat) (l1 : Int32) (l2 : Int32) (l3 : Int32), g_X11_isAlias_b28 T s0 s1 l1 l2 l3 = some (e1, r1, T1) → GI T T1 := by
  intro T s0 s1 l1 l2 l3 h
  have p0 := GI.rf T
  unfold g_X11_isAlias_b28 at h
  obtain ⟨g2, h⟩ := oif_some h
  obtain ⟨r4, T3, eT3, h⟩ := obind2_some h
  have p1 : GI T T3 := GI.tr p0 (gi_sp (s_X11_marksAlias eT3))
  obtain ⟨gz, h⟩ := oif_some h
  rw [← (osome3 h).2.2]
  exact p1
set_option maxHeartbeats 4000000 in
set_option maxRecDepth 100000 in
theorem si_X11_isAlias {T : AT} {o : Nat} {a0 : Int32} {a1 : Int32} {a2 : Int32} {e1 : Nat} {r1 : Int32} {T1 : AT} (h : g_X11_isAlias T o a0 a1 a2 = some (e1, r1, T1)) : GI T T1 := by
  have p0 := GI.rf T
  unfold g_X11_isAlias at h
  obtain ⟨g2, h⟩ := oif_some h
  rcases othr_s h with ⟨k9, r9, e9, -⟩ | ⟨r4, T3, eT3, h⟩
  · exact GI.tr p0 (gi_sp (s_X11_needCamera e9))
  have p1 : GI T T3 := GI.tr p0 (gi_sp (s_X11_needCamera eT3))
  obtain ⟨g5, h⟩ := oif_some h
  rcases othr_s h with ⟨k9, r9, e9, -⟩ | ⟨r7, T6, eT6, h⟩
  · exact GI.tr p1 (gi_sp (s_X11_needCell e9))
  have p2 : GI T T6 := GI.tr p1 (gi_sp (s_X11_needCell eT6))
  rcases othr_s h with ⟨k9, r9, e9, -⟩ | ⟨r9, T8, eT8, h⟩
  · exact GI.tr p2 (gi_sp (s_X11_needRange e9))
  have p3 : GI T T8 := GI.tr p2 (gi_sp (s_X11_needRange eT8))
  rcases othr_s h with ⟨k9, r9, e9, -⟩ | ⟨r11, T10, eT10, h⟩
  · exact GI.tr p3 (gi_sp (s_X11_needRange e9))
  have p4 : GI T T10 := GI.tr p3 (gi_sp (s_X11_needRange eT10))
  obtain ⟨g12, h⟩ := oif_some h
  obtain ⟨r14, T13, eT13, h⟩ := obind2_some h
  obtain ⟨g15, h⟩ := oif_some h
  have p5 : GI T T13 := GI.tr p4 (si_X11_powersNow eT13)
  exact GI.tr p5 (si_X11_isAlias_b28 _ _ _ _ _ _ h)
set_option maxHeartbeats 4000000 in
set_option maxRecDepth 100000 in
theorem si_X11_aliases_b59 {e1 : Nat} {r1 : Int32} {T1 : AT} {k29 : AT → Nat → Int32 → Int32 → Nat → Int32 → Int32 → Option (Nat × Int32 × AT)} (hk29 : ∀ (T : AT) (l0 : Nat) (l1 : Int32) (l2 : Int32) (l3 : Nat) (l4 : Int32) (l5 : Int32), k29 T l0 l1 l2 l3 l4 l5 = some (e1, r1, T1) → GI T T1) : ∀ (T : AT) (l0 : Nat) (l1 : Int32) (l2 : Int32) (l3 : Nat) (l4 : Int32) (l5 : Int32), g_X11_aliases_b59 k29 T l0 l1 l2 l3 l4 l5 = some (e1, r1, T1) → GI T T1 := by
  intro T l0 l1 l2 l3 l4 l5 h
  have p0 := GI.rf T
  unfold g_X11_aliases_b59 at h
  obtain ⟨v2, ev2, h⟩ := elet_some h
  exact GI.tr p0 (hk29 _ _ _ _ _ _ _ h)
set_option maxHeartbeats 4000000 in
set_option maxRecDepth 100000 in
theorem si_X11_aliases_b29 {e1 : Nat} {r1 : Int32} {T1 : AT} : ∀ n : Nat, ∀ (T : AT) (l0 : Nat) (l1 : Int32) (l2 : Int32) (l3 : Nat) (l4 : Int32) (l5 : Int32), g_X11_aliases_b29 n T l0 l1 l2 l3 l4 l5 = some (e1, r1, T1) → GI T T1 := by
  intro n
  induction n with
  | zero =>
    intro T l0 l1 l2 l3 l4 l5 h
    have h : (none : Option (Nat × Int32 × AT)) = some (e1, r1, T1) := h
    cases h
  | succ n ih =>
    intro T l0 l1 l2 l3 l4 l5 h
    have p0 := GI.rf T
    unfold g_X11_aliases_b29 at h
    obtain ⟨g2, h⟩ := oif_some h
    obtain ⟨n3, en3, h⟩ := obind_some h
    obtain ⟨g4, h⟩ := oif_some h
    obtain ⟨n5, en5, h⟩ := obind_some h
    obtain ⟨g6, h⟩ := oif_some h
    obtain ⟨r8, T7, eT7, h⟩ := obind2_some h
    have p1 : GI T T7 := GI.tr p0 (gi_sp (s_X1_cells eT7))
    rcases oif_or h with ⟨c9, h⟩ | ⟨c9, h⟩
    · have h := h
      rw [← (osome3 h).2.2]
      exact p1
    · have h := h
      obtain ⟨g10, h⟩ := oif_some h
      obtain ⟨r12, T11, eT11, h⟩ := obind2_some h
      have p2 : GI T T11 := GI.tr p1 (gi_sp (s_X11_marksAlias eT11))
      rcases oif_or h with ⟨c13, h⟩ | ⟨c13, h⟩
      · have h := h
        exact GI.tr p2 (si_X11_aliases_b59 ih _ _ _ _ _ _ _ h)
      · have h := h
        obtain ⟨v14, ev14, h⟩ := elet_some h
        exact GI.tr p2 (si_X11_aliases_b59 ih _ _ _ _ _ _ _ h)
set_option maxHeartbeats 4000000 in
set_option maxRecDepth 100000 in
theorem si_X11_aliases_b22 {e1 : Nat} {r1 : Int32} {T1 : AT} : ∀ (T : AT) (s0 : Nat) (l0 : Nat) (l1 : Int32) (l2 : Int32), g_X11_aliases_b22 T s0 l0 l1 l2 = some (e1, r1, T1) → GI T T1 := by
  intro T s0 l0 l1 l2 h
  have p0 := GI.rf T
  unfold g_X11_aliases_b22 at h
  exact GI.tr p0 (si_X11_aliases_b29 _ _ _ _ _ _ _ _ h)
set_option maxHeartbeats 4000000 in
set_option maxRecDepth 100000 in
theorem si_X11_aliases {T : AT} {o : Nat} {a0 : Int32} {a1 : Int32} {e1 : Nat} {r1 : Int32} {T1 : AT} (h : g_X11_aliases T o a0 a1 = some (e1, r1, T1)) : GI T T1 := by
  have p0 := GI.rf T
  unfold g_X11_aliases at h
  obtain ⟨g2, h⟩ := oif_some h
  rcases othr_s h with ⟨k9, r9, e9, -⟩ | ⟨r4, T3, eT3, h⟩
  · exact GI.tr p0 (gi_sp (s_X11_needCamera e9))
  have p1 : GI T T3 := GI.tr p0 (gi_sp (s_X11_needCamera eT3))
  rcases othr_s h with ⟨k9, r9, e9, -⟩ | ⟨r6, T5, eT5, h⟩
  · exact GI.tr p1 (gi_sp (s_X11_needRange e9))
  have p2 : GI T T5 := GI.tr p1 (gi_sp (s_X11_needRange eT5))
  rcases othr_s h with ⟨k9, r9, e9, -⟩ | ⟨r8, T7, eT7, h⟩
  · exact GI.tr p2 (gi_sp (s_X11_needRange e9))
  have p3 : GI T T7 := GI.tr p2 (gi_sp (s_X11_needRange eT7))
  obtain ⟨g9, h⟩ := oif_some h
  obtain ⟨r11, T10, eT10, h⟩ := obind2_some h
  obtain ⟨g12, h⟩ := oif_some h
  have p4 : GI T T10 := GI.tr p3 (si_X11_powersNow eT10)
  exact GI.tr p4 (si_X11_aliases_b22 _ _ _ _ _ h)
set_option maxHeartbeats 4000000 in
set_option maxRecDepth 100000 in
theorem si_X11_blockPower_b58 {e1 : Nat} {r1 : Int64} {T1 : AT} : ∀ (T : AT) (l0 : Nat), g_X11_blockPower_b58 T l0 = some (e1, r1, T1) → GI T T1 := by
  intro T l0 h
  have p0 := GI.rf T
  unfold g_X11_blockPower_b58 at h
  obtain ⟨g2, h⟩ := oif_some h
  obtain ⟨n3, en3, h⟩ := obind_some h
  obtain ⟨g4, h⟩ := oif_some h
  obtain ⟨r6, T5, eT5, h⟩ := obind2_some h
  have p1 : GI T T5 := GI.tr p0 (gi_sp (s_X10_value eT5))
  rw [← (osome3 h).2.2]
  exact p1
set_option maxHeartbeats 4000000 in
set_option maxRecDepth 100000 in
theorem si_X11_blockPower {T : AT} {o : Nat} {a0 : Int32} {a1 : Int32} {a2 : Int32} {e1 : Nat} {r1 : Int64} {T1 : AT} (h : g_X11_blockPower T o a0 a1 a2 = some (e1, r1, T1)) : GI T T1 := by
  have p0 := GI.rf T
  unfold g_X11_blockPower at h
  obtain ⟨g2, h⟩ := oif_some h
  rcases othr_s h with ⟨k9, r9, e9, -⟩ | ⟨r4, T3, eT3, h⟩
  · exact GI.tr p0 (gi_sp (s_X11_needCamera e9))
  have p1 : GI T T3 := GI.tr p0 (gi_sp (s_X11_needCamera eT3))
  obtain ⟨g5, h⟩ := oif_some h
  rcases othr_s h with ⟨k9, r9, e9, -⟩ | ⟨r7, T6, eT6, h⟩
  · exact GI.tr p1 (gi_sp (s_X11_needCell e9))
  have p2 : GI T T6 := GI.tr p1 (gi_sp (s_X11_needCell eT6))
  obtain ⟨g8, h⟩ := oif_some h
  obtain ⟨n9, en9, h⟩ := obind_some h
  obtain ⟨g10, h⟩ := oif_some h
  obtain ⟨v11, -, h⟩ := elet_some h
  obtain ⟨v12, -, h⟩ := elet_some h
  rcases othr_s h with ⟨k9, r9, e9, -⟩ | ⟨r14, T13, eT13, h⟩
  · exact GI.tr p2 (gi_sp (s_X11_needRange e9))
  have p3 : GI T T13 := GI.tr p2 (gi_sp (s_X11_needRange eT13))
  obtain ⟨g15, h⟩ := oif_some h
  obtain ⟨n16, en16, h⟩ := obind_some h
  obtain ⟨g17, h⟩ := oif_some h
  obtain ⟨v18, -, h⟩ := elet_some h
  rcases othr_s h with ⟨k9, r9, e9, -⟩ | ⟨r20, T19, eT19, h⟩
  · exact GI.tr p3 (gi_sp (s_X11_needRange e9))
  have p4 : GI T T19 := GI.tr p3 (gi_sp (s_X11_needRange eT19))
  obtain ⟨g21, h⟩ := oif_some h
  obtain ⟨n22, en22, h⟩ := obind_some h
  obtain ⟨g23, h⟩ := oif_some h
  obtain ⟨n24, en24, h⟩ := obind_some h
  obtain ⟨g25, h⟩ := oif_some h
  obtain ⟨n26, en26, h⟩ := obind_some h
  obtain ⟨g27, h⟩ := oif_some h
  obtain ⟨g28, h⟩ := oif_some h
  obtain ⟨n29, en29, h⟩ := obind_some h
  obtain ⟨g30, h⟩ := oif_some h
  obtain ⟨n31, en31, h⟩ := obind_some h
  obtain ⟨g32, h⟩ := oif_some h
  obtain ⟨T33, eT33, h⟩ := obind_some h
  have p5 : GI T T33 := GI.tr p4 (si_X8_blockPowerOf eT33)
  exact GI.tr p5 (si_X11_blockPower_b58 _ _ h)
set_option maxHeartbeats 4000000 in
set_option maxRecDepth 100000 in
theorem si_X11_blockBest_b47 {e1 : Nat} {r1 : Int32} {T1 : AT} : ∀ (T : AT) (s0 : Int32), g_X11_blockBest_b47 T s0 = some (e1, r1, T1) → GI T T1 := by
  intro T s0 h
  have p0 := GI.rf T
  unfold g_X11_blockBest_b47 at h
  rw [← (osome3 h).2.2]
  exact p0
set_option maxHeartbeats 4000000 in
set_option maxRecDepth 100000 in
theorem si_X11_blockBest {T : AT} {o : Nat} {a0 : Int32} {a1 : Int32} {e1 : Nat} {r1 : Int32} {T1 : AT} (h : g_X11_blockBest T o a0 a1 = some (e1, r1, T1)) : GI T T1 := by
  have p0 := GI.rf T
  unfold g_X11_blockBest at h
  obtain ⟨g2, h⟩ := oif_some h
  rcases othr_s h with ⟨k9, r9, e9, -⟩ | ⟨r4, T3, eT3, h⟩
  · exact GI.tr p0 (gi_sp (s_X11_needCamera e9))
  have p1 : GI T T3 := GI.tr p0 (gi_sp (s_X11_needCamera eT3))
  obtain ⟨g5, h⟩ := oif_some h
  obtain ⟨n6, en6, h⟩ := obind_some h
  obtain ⟨g7, h⟩ := oif_some h
  obtain ⟨v8, -, h⟩ := elet_some h
  obtain ⟨v9, -, h⟩ := elet_some h
  rcases othr_s h with ⟨k9, r9, e9, -⟩ | ⟨r11, T10, eT10, h⟩
  · exact GI.tr p1 (gi_sp (s_X11_needRange e9))
  have p2 : GI T T10 := GI.tr p1 (gi_sp (s_X11_needRange eT10))
  obtain ⟨g12, h⟩ := oif_some h
  obtain ⟨n13, en13, h⟩ := obind_some h
  obtain ⟨g14, h⟩ := oif_some h
  obtain ⟨v15, -, h⟩ := elet_some h
  rcases othr_s h with ⟨k9, r9, e9, -⟩ | ⟨r17, T16, eT16, h⟩
  · exact GI.tr p2 (gi_sp (s_X11_needRange e9))
  have p3 : GI T T16 := GI.tr p2 (gi_sp (s_X11_needRange eT16))
  obtain ⟨g18, h⟩ := oif_some h
  obtain ⟨n19, en19, h⟩ := obind_some h
  obtain ⟨g20, h⟩ := oif_some h
  obtain ⟨n21, en21, h⟩ := obind_some h
  obtain ⟨g22, h⟩ := oif_some h
  obtain ⟨n23, en23, h⟩ := obind_some h
  obtain ⟨g24, h⟩ := oif_some h
  obtain ⟨r26, T25, eT25, h⟩ := obind2_some h
  have p4 : GI T T25 := GI.tr p3 (si_X0_bestOf eT25)
  exact GI.tr p4 (si_X11_blockBest_b47 _ _ h)
set_option maxHeartbeats 4000000 in
set_option maxRecDepth 100000 in
theorem si_X11_path_b85 {e1 : Nat} {r1 : Int32} {T1 : AT} {k39 : AT → Nat → Int32 → Int32 → Int32 → Int32 → Option (Nat × Int32 × AT)} (hk39 : ∀ (T : AT) (l0 : Nat) (l1 : Int32) (l2 : Int32) (l3 : Int32) (l4 : Int32), k39 T l0 l1 l2 l3 l4 = some (e1, r1, T1) → GI T T1) : ∀ (T : AT) (s0 : Int32) (s1 : Int32) (l0 : Nat) (l1 : Int32) (l4 : Int32) (l5 : Int32), g_X11_path_b85 k39 T s0 s1 l0 l1 l4 l5 = some (e1, r1, T1) → GI T T1 := by
  intro T s0 s1 l0 l1 l4 l5 h
  have p0 := GI.rf T
  unfold g_X11_path_b85 at h
  obtain ⟨v2, -, h⟩ := elet_some h
  obtain ⟨v3, -, h⟩ := elet_some h
  obtain ⟨v4, -, h⟩ := elet_some h
  exact GI.tr p0 (hk39 _ _ _ _ _ _ h)
set_option maxHeartbeats 4000000 in
set_option maxRecDepth 100000 in
theorem si_X11_path_b71 {e1 : Nat} {r1 : Int32} {T1 : AT} {k39 : AT → Nat → Int32 → Int32 → Int32 → Int32 → Option (Nat × Int32 × AT)} (hk39 : ∀ (T : AT) (l0 : Nat) (l1 : Int32) (l2 : Int32) (l3 : Int32) (l4 : Int32), k39 T l0 l1 l2 l3 l4 = some (e1, r1, T1) → GI T T1) : ∀ (T : AT) (s0 : Int32) (l0 : Nat) (l1 : Int32) (l2 : Int32) (l3 : Int32) (l4 : Int32), g_X11_path_b71 k39 T s0 l0 l1 l2 l3 l4 = some (e1, r1, T1) → GI T T1 := by
  intro T s0 l0 l1 l2 l3 l4 h
  have p0 := GI.rf T
  unfold g_X11_path_b71 at h
  rcases oif_or h with ⟨c2, h⟩ | ⟨c2, h⟩
  · have h := h
    exact GI.tr p0 (si_X11_path_b85 hk39 _ _ _ _ _ _ _ h)
  · have h := h
    exact GI.tr p0 (si_X11_path_b85 hk39 _ _ _ _ _ _ _ h)
set_option maxHeartbeats 4000000 in
set_option maxRecDepth 100000 in
theorem si_X11_path_b39 {e1 : Nat} {r1 : Int32} {T1 : AT} : ∀ n : Nat, ∀ (T : AT) (l0 : Nat) (l1 : Int32) (l2 : Int32) (l3 : Int32) (l4 : Int32), g_X11_path_b39 n T l0 l1 l2 l3 l4 = some (e1, r1, T1) → GI T T1 := by
  intro n
  induction n with
  | zero =>
    intro T l0 l1 l2 l3 l4 h
    have h : (none : Option (Nat × Int32 × AT)) = some (e1, r1, T1) := h
    cases h
  | succ n ih =>
    intro T l0 l1 l2 l3 l4 h
    have p0 := GI.rf T
    unfold g_X11_path_b39 at h
    obtain ⟨v2, -, h⟩ := elet_some h
    obtain ⟨g3, h⟩ := oif_some h
    obtain ⟨n4, en4, h⟩ := obind_some h
    obtain ⟨g5, h⟩ := oif_some h
    obtain ⟨v6, -, h⟩ := elet_some h
    rcases oif_or h with ⟨c7, h⟩ | ⟨c7, h⟩
    · have h := h
      rw [← (osome3 h).2.2]
      exact p0
    · have h := h
      obtain ⟨g8, h⟩ := oif_some h
      obtain ⟨n9, en9, h⟩ := obind_some h
      obtain ⟨g10, h⟩ := oif_some h
      obtain ⟨n11, en11, h⟩ := obind_some h
      obtain ⟨g12, h⟩ := oif_some h
      obtain ⟨n13, en13, h⟩ := obind_some h
      obtain ⟨g14, h⟩ := oif_some h
      obtain ⟨r16, T15, eT15, h⟩ := obind2_some h
      have p1 : GI T T15 := GI.tr p0 (si_X0_bestOf eT15)
      exact GI.tr p1 (si_X11_path_b71 ih _ _ _ _ _ _ _ h)
set_option maxHeartbeats 4000000 in
set_option maxRecDepth 100000 in
theorem si_X11_path_b35 {e1 : Nat} {r1 : Int32} {T1 : AT} : ∀ (T : AT) (s0 : Int32) (l0 : Nat) (l1 : Int32) (l2 : Int32), g_X11_path_b35 T s0 l0 l1 l2 = some (e1, r1, T1) → GI T T1 := by
  intro T s0 l0 l1 l2 h
  have p0 := GI.rf T
  unfold g_X11_path_b35 at h
  exact GI.tr p0 (si_X11_path_b39 _ _ _ _ _ _ _ h)
set_option maxHeartbeats 4000000 in
set_option maxRecDepth 100000 in
theorem si_X11_path {T : AT} {o : Nat} {a0 : Int32} {e1 : Nat} {r1 : Int32} {T1 : AT} (h : g_X11_path T o a0 = some (e1, r1, T1)) : GI T T1 := by
  have p0 := GI.rf T
  unfold g_X11_path at h
  obtain ⟨g2, h⟩ := oif_some h
  rcases othr_s h with ⟨k9, r9, e9, -⟩ | ⟨r4, T3, eT3, h⟩
  · exact GI.tr p0 (gi_sp (s_X11_needCamera e9))
  have p1 : GI T T3 := GI.tr p0 (gi_sp (s_X11_needCamera eT3))
  obtain ⟨g5, h⟩ := oif_some h
  obtain ⟨n6, en6, h⟩ := obind_some h
  obtain ⟨g7, h⟩ := oif_some h
  obtain ⟨v8, -, h⟩ := elet_some h
  rcases othr_s h with ⟨k9, r9, e9, -⟩ | ⟨r10, T9, eT9, h⟩
  · exact GI.tr p1 (gi_sp (s_X11_needRange e9))
  have p2 : GI T T9 := GI.tr p1 (gi_sp (s_X11_needRange eT9))
  obtain ⟨g11, h⟩ := oif_some h
  obtain ⟨n12, en12, h⟩ := obind_some h
  obtain ⟨g13, h⟩ := oif_some h
  obtain ⟨n14, en14, h⟩ := obind_some h
  obtain ⟨g15, h⟩ := oif_some h
  obtain ⟨n16, en16, h⟩ := obind_some h
  obtain ⟨g17, h⟩ := oif_some h
  obtain ⟨r19, T18, eT18, h⟩ := obind2_some h
  have p3 : GI T T18 := GI.tr p2 (si_X0_bestOf eT18)
  exact GI.tr p3 (si_X11_path_b35 _ _ _ _ _ h)
set_option maxHeartbeats 4000000 in
set_option maxRecDepth 100000 in
theorem si_X11_trackScore_b32 {e1 : Nat} {r1 : Int64} {T1 : AT} : ∀ (T : AT) (l0 : Nat), g_X11_trackScore_b32 T l0 = some (e1, r1, T1) → GI T T1 := by
  intro T l0 h
  have p0 := GI.rf T
  unfold g_X11_trackScore_b32 at h
  obtain ⟨g2, h⟩ := oif_some h
  obtain ⟨n3, en3, h⟩ := obind_some h
  obtain ⟨g4, h⟩ := oif_some h
  obtain ⟨n5, en5, h⟩ := obind_some h
  obtain ⟨g6, h⟩ := oif_some h
  obtain ⟨n7, en7, h⟩ := obind_some h
  obtain ⟨g8, h⟩ := oif_some h
  obtain ⟨n9, en9, h⟩ := obind_some h
  obtain ⟨g10, h⟩ := oif_some h
  obtain ⟨n11, en11, h⟩ := obind_some h
  obtain ⟨g12, h⟩ := oif_some h
  obtain ⟨r14, T13, eT13, h⟩ := obind2_some h
  have p1 : GI T T13 := GI.tr p0 (gi_sp (s_X0_trackCellIn eT13))
  obtain ⟨g15, h⟩ := oif_some h
  obtain ⟨r17, T16, eT16, h⟩ := obind2_some h
  have p2 : GI T T16 := GI.tr p1 (gi_sp (s_X10_value eT16))
  rw [← (osome3 h).2.2]
  exact p2
set_option maxHeartbeats 4000000 in
set_option maxRecDepth 100000 in
theorem si_X11_trackScore {T : AT} {o : Nat} {a0 : Int32} {e1 : Nat} {r1 : Int64} {T1 : AT} (h : g_X11_trackScore T o a0 = some (e1, r1, T1)) : GI T T1 := by
  have p0 := GI.rf T
  unfold g_X11_trackScore at h
  obtain ⟨g2, h⟩ := oif_some h
  rcases othr_s h with ⟨k9, r9, e9, -⟩ | ⟨r4, T3, eT3, h⟩
  · exact GI.tr p0 (gi_sp (s_X11_needCamera e9))
  have p1 : GI T T3 := GI.tr p0 (gi_sp (s_X11_needCamera eT3))
  obtain ⟨g5, h⟩ := oif_some h
  obtain ⟨n6, en6, h⟩ := obind_some h
  obtain ⟨g7, h⟩ := oif_some h
  obtain ⟨v8, -, h⟩ := elet_some h
  rcases othr_s h with ⟨k9, r9, e9, -⟩ | ⟨r10, T9, eT9, h⟩
  · exact GI.tr p1 (gi_sp (s_X11_needRange e9))
  have p2 : GI T T9 := GI.tr p1 (gi_sp (s_X11_needRange eT9))
  obtain ⟨g11, h⟩ := oif_some h
  obtain ⟨n12, en12, h⟩ := obind_some h
  obtain ⟨g13, h⟩ := oif_some h
  obtain ⟨n14, en14, h⟩ := obind_some h
  obtain ⟨g15, h⟩ := oif_some h
  obtain ⟨n16, en16, h⟩ := obind_some h
  obtain ⟨g17, h⟩ := oif_some h
  obtain ⟨T18, eT18, h⟩ := obind_some h
  have p3 : GI T T18 := GI.tr p2 (si_X0_score eT18)
  exact GI.tr p3 (si_X11_trackScore_b32 _ _ h)
set_option maxHeartbeats 4000000 in
set_option maxRecDepth 100000 in
theorem si_X11_trackCell_b76 {e1 : Nat} {r1 : Int32} {T1 : AT} : ∀ (T : AT) (l0 : Nat) (l2 : Int32), g_X11_trackCell_b76 T l0 l2 = some (e1, r1, T1) → GI T T1 := by
  intro T l0 l2 h
  have p0 := GI.rf T
  unfold g_X11_trackCell_b76 at h
  obtain ⟨g2, h⟩ := oif_some h
  obtain ⟨n3, en3, h⟩ := obind_some h
  obtain ⟨g4, h⟩ := oif_some h
  obtain ⟨n5, en5, h⟩ := obind_some h
  obtain ⟨g6, h⟩ := oif_some h
  obtain ⟨n7, en7, h⟩ := obind_some h
  obtain ⟨g8, h⟩ := oif_some h
  obtain ⟨r10, T9, eT9, h⟩ := obind2_some h
  have p1 : GI T T9 := GI.tr p0 (gi_sp (s_X0_trackCellIn eT9))
  rw [← (osome3 h).2.2]
  exact p1
set_option maxHeartbeats 4000000 in
set_option maxRecDepth 100000 in
theorem si_X11_trackCell_b48 {e1 : Nat} {r1 : Int32} {T1 : AT} : ∀ (T : AT) (l0 : Nat) (l1 : Int32) (l2 : Int32), g_X11_trackCell_b48 T l0 l1 l2 = some (e1, r1, T1) → GI T T1 := by
  intro T l0 l1 l2 h
  have p0 := GI.rf T
  unfold g_X11_trackCell_b48 at h
  obtain ⟨g2, h⟩ := oif_some h
  obtain ⟨n3, en3, h⟩ := obind_some h
  obtain ⟨g4, h⟩ := oif_some h
  obtain ⟨v5, -, h⟩ := elet_some h
  rcases othr_s h with ⟨k9, r9, e9, -⟩ | ⟨r7, T6, eT6, h⟩
  · exact GI.tr p0 (gi_sp (s_X11_needRange e9))
  have p1 : GI T T6 := GI.tr p0 (gi_sp (s_X11_needRange eT6))
  obtain ⟨g8, h⟩ := oif_some h
  obtain ⟨n9, en9, h⟩ := obind_some h
  obtain ⟨g10, h⟩ := oif_some h
  obtain ⟨n11, en11, h⟩ := obind_some h
  obtain ⟨g12, h⟩ := oif_some h
  obtain ⟨n13, en13, h⟩ := obind_some h
  obtain ⟨g14, h⟩ := oif_some h
  obtain ⟨T15, eT15, h⟩ := obind_some h
  have p2 : GI T T15 := GI.tr p1 (si_X0_score eT15)
  exact GI.tr p2 (si_X11_trackCell_b76 _ _ _ h)
set_option maxHeartbeats 4000000 in
set_option maxRecDepth 100000 in
theorem si_X11_trackCell_b25 {e1 : Nat} {r1 : Int32} {T1 : AT} : ∀ (T : AT) (s0 : Int32) (l0 : Nat) (l1 : Int32) (l2 : Int32), g_X11_trackCell_b25 T s0 l0 l1 l2 = some (e1, r1, T1) → GI T T1 := by
  intro T s0 l0 l1 l2 h
  have p0 := GI.rf T
  unfold g_X11_trackCell_b25 at h
  rcases oif_or h with ⟨c2, h⟩ | ⟨c2, h⟩
  · have h := h
    exact GI.tr p0 (si_X11_trackCell_b48 _ _ _ _ h)
  · have h := h
    obtain ⟨g3, h⟩ := oif_some h
    obtain ⟨n4, en4, h⟩ := obind_some h
    obtain ⟨g5, h⟩ := oif_some h
    obtain ⟨v6, -, h⟩ := elet_some h
    obtain ⟨v7, -, h⟩ := elet_some h
    obtain ⟨v8, -, h⟩ := elet_some h
    obtain ⟨r9, -, h⟩ := obind_some h
    obtain ⟨v10, -, h⟩ := elet_some h
    rcases othr_s h with ⟨k9, r9, e9, -⟩ | ⟨r12, T11, eT11, h⟩
    · exact GI.tr p0 (gi_sp (s_X11_needIndex e9))
    have p1 : GI T T11 := GI.tr p0 (gi_sp (s_X11_needIndex eT11))
    exact GI.tr p1 (si_X11_trackCell_b48 _ _ _ _ h)
set_option maxHeartbeats 4000000 in
set_option maxRecDepth 100000 in
theorem si_X11_trackCell_b24 {e1 : Nat} {r1 : Int32} {T1 : AT} : ∀ (T : AT) (l0 : Nat) (l1 : Int32) (l2 : Int32), g_X11_trackCell_b24 T l0 l1 l2 = some (e1, r1, T1) → GI T T1 := by
  intro T l0 l1 l2 h
  have p0 := GI.rf T
  unfold g_X11_trackCell_b24 at h
  exact GI.tr p0 (si_X11_trackCell_b25 _ _ _ _ _ h)
set_option maxHeartbeats 4000000 in
set_option maxRecDepth 100000 in
theorem si_X11_trackCell {T : AT} {o : Nat} {a0 : Int32} {a1 : Int32} {e1 : Nat} {r1 : Int32} {T1 : AT} (h : g_X11_trackCell T o a0 a1 = some (e1, r1, T1)) : GI T T1 := by
  have p0 := GI.rf T
  unfold g_X11_trackCell at h
  obtain ⟨g2, h⟩ := oif_some h
  rcases othr_s h with ⟨k9, r9, e9, -⟩ | ⟨r4, T3, eT3, h⟩
  · exact GI.tr p0 (gi_sp (s_X11_needCamera e9))
  have p1 : GI T T3 := GI.tr p0 (gi_sp (s_X11_needCamera eT3))
  rcases oif_or h with ⟨c5, h⟩ | ⟨c5, h⟩
  · have h := h
    exact GI.tr p1 (si_X11_trackCell_b24 _ _ _ _ h)
  · have h := h
    obtain ⟨g6, h⟩ := oif_some h
    obtain ⟨n7, en7, h⟩ := obind_some h
    obtain ⟨g8, h⟩ := oif_some h
    obtain ⟨v9, -, h⟩ := elet_some h
    rcases oif_or h with ⟨c10, h⟩ | ⟨c10, h⟩
    · have h := h
      exact GI.tr p1 (si_X11_trackCell_b24 _ _ _ _ h)
    · have h := h
      exact GI.tr p1 (si_X11_trackCell_b25 _ _ _ _ _ h)
set_option maxHeartbeats 4000000 in
set_option maxRecDepth 100000 in
theorem si_X11_powerOnTheMove_b137 {T1 : AT} : ∀ (T : AT), g_X11_powerOnTheMove_b137 T = some T1 → GI T T1 := by
  intro T h
  have p0 := GI.rf T
  unfold g_X11_powerOnTheMove_b137 at h
  rw [← osome1 h]
  exact p0
set_option maxHeartbeats 4000000 in
set_option maxRecDepth 100000 in
theorem si_X11_powerOnTheMove_b115 {T1 : AT} {k38 : AT → Nat → Int32 → Int32 → Int32 → Int32 → Int32 → Int32 → Option (AT)} (hk38 : ∀ (T : AT) (l0 : Nat) (l2 : Int32) (l3 : Int32) (l4 : Int32) (l5 : Int32) (l6 : Int32) (l7 : Int32), k38 T l0 l2 l3 l4 l5 l6 l7 = some T1 → GI T T1) : ∀ (T : AT) (l0 : Nat) (l2 : Int32) (l3 : Int32) (l4 : Int32) (l5 : Int32) (l6 : Int32) (l7 : Int32), g_X11_powerOnTheMove_b115 k38 T l0 l2 l3 l4 l5 l6 l7 = some T1 → GI T T1 := by
  intro T l0 l2 l3 l4 l5 l6 l7 h
  have p0 := GI.rf T
  unfold g_X11_powerOnTheMove_b115 at h
  obtain ⟨v2, ev2, h⟩ := elet_some h
  exact GI.tr p0 (hk38 _ _ _ _ _ _ _ _ h)
set_option maxHeartbeats 4000000 in
set_option maxRecDepth 100000 in
theorem si_X11_powerOnTheMove_b90 {T1 : AT} {k38 : AT → Nat → Int32 → Int32 → Int32 → Int32 → Int32 → Int32 → Option (AT)} (hk38 : ∀ (T : AT) (l0 : Nat) (l2 : Int32) (l3 : Int32) (l4 : Int32) (l5 : Int32) (l6 : Int32) (l7 : Int32), k38 T l0 l2 l3 l4 l5 l6 l7 = some T1 → GI T T1) : ∀ (T : AT) (l0 : Nat) (l2 : Int32) (l3 : Int32) (l4 : Int32) (l5 : Int32) (l6 : Int32) (l7 : Int32), g_X11_powerOnTheMove_b90 k38 T l0 l2 l3 l4 l5 l6 l7 = some T1 → GI T T1 := by
  intro T l0 l2 l3 l4 l5 l6 l7 h
  have p0 := GI.rf T
  unfold g_X11_powerOnTheMove_b90 at h
  obtain ⟨g2, h⟩ := oif_some h
  obtain ⟨n3, en3, h⟩ := obind_some h
  obtain ⟨g4, h⟩ := oif_some h
  obtain ⟨n5, en5, h⟩ := obind_some h
  obtain ⟨g6, h⟩ := oif_some h
  obtain ⟨n7, en7, h⟩ := obind_some h
  obtain ⟨g8, h⟩ := oif_some h
  obtain ⟨n9, en9, h⟩ := obind_some h
  obtain ⟨g10, h⟩ := oif_some h
  obtain ⟨n11, en11, h⟩ := obind_some h
  obtain ⟨g12, h⟩ := oif_some h
  obtain ⟨T13, eT13, h⟩ := obind_some h
  have p1 : GI T T13 := GI.tr p0 (si_X10_addProduct eT13)
  exact GI.tr p1 (si_X11_powerOnTheMove_b115 hk38 _ _ _ _ _ _ _ _ h)
set_option maxHeartbeats 4000000 in
set_option maxRecDepth 100000 in
theorem si_X11_powerOnTheMove_b38 {T1 : AT} : ∀ n : Nat, ∀ (T : AT) (l0 : Nat) (l2 : Int32) (l3 : Int32) (l4 : Int32) (l5 : Int32) (l6 : Int32) (l7 : Int32), g_X11_powerOnTheMove_b38 n T l0 l2 l3 l4 l5 l6 l7 = some T1 → GI T T1 := by
  intro n
  induction n with
  | zero =>
    intro T l0 l2 l3 l4 l5 l6 l7 h
    have h : (none : Option (AT)) = some T1 := h
    cases h
  | succ n ih =>
    intro T l0 l2 l3 l4 l5 l6 l7 h
    have p0 := GI.rf T
    unfold g_X11_powerOnTheMove_b38 at h
    obtain ⟨g2, h⟩ := oif_some h
    obtain ⟨n3, en3, h⟩ := obind_some h
    obtain ⟨g4, h⟩ := oif_some h
    obtain ⟨v5, -, h⟩ := elet_some h
    rcases oif_or h with ⟨c6, h⟩ | ⟨c6, h⟩
    · have h := h
      obtain ⟨g7, h⟩ := oif_some h
      obtain ⟨n8, en8, h⟩ := obind_some h
      obtain ⟨g9, h⟩ := oif_some h
      obtain ⟨n10, en10, h⟩ := obind_some h
      obtain ⟨g11, h⟩ := oif_some h
      obtain ⟨v12, -, h⟩ := elet_some h
      obtain ⟨g13, h⟩ := oif_some h
      obtain ⟨T14, eT14, h⟩ := obind_some h
      have p1 : GI T T14 := GI.tr p0 (si_X10_divide eT14)
      exact GI.tr p1 (si_X11_powerOnTheMove_b137 _ h)
    · have h := h
      obtain ⟨g16, h⟩ := oif_some h
      obtain ⟨n17, en17, h⟩ := obind_some h
      obtain ⟨r18, -, h⟩ := obind_some h
      obtain ⟨r19, -, h⟩ := obind_some h
      obtain ⟨g20, h⟩ := oif_some h
      obtain ⟨n21, en21, h⟩ := obind_some h
      obtain ⟨g22, h⟩ := oif_some h
      obtain ⟨T23, eT23, h⟩ := obind_some h
      have p1 : GI T T23 := GI.tr p0 (gi_sp (s_X6_delaysFrom eT23))
      obtain ⟨g25, h⟩ := oif_some h
      obtain ⟨n26, en26, h⟩ := obind_some h
      obtain ⟨g27, h⟩ := oif_some h
      obtain ⟨n28, en28, h⟩ := obind_some h
      obtain ⟨g29, h⟩ := oif_some h
      obtain ⟨T30, eT30, h⟩ := obind_some h
      have p2 : GI T T30 := GI.tr p1 (si_X8_focus eT30)
      exact GI.tr p2 (si_X11_powerOnTheMove_b90 ih _ _ _ _ _ _ _ _ h)
set_option maxHeartbeats 4000000 in
set_option maxRecDepth 100000 in
theorem si_X11_powerOnTheMove {T : AT} {o : Nat} {a0 : Int32} {a1 : Int32} {a2 : Int32} {a3 : Int32} {T1 : AT} (h : g_X11_powerOnTheMove T o a0 a1 a2 a3 = some T1) : GI T T1 := by
  have p0 := GI.rf T
  unfold g_X11_powerOnTheMove at h
  obtain ⟨g2, h⟩ := oif_some h
  obtain ⟨n3, en3, h⟩ := obind_some h
  obtain ⟨g4, h⟩ := oif_some h
  obtain ⟨n5, en5, h⟩ := obind_some h
  obtain ⟨g6, h⟩ := oif_some h
  obtain ⟨r8, T7, eT7, h⟩ := obind2_some h
  have p1 : GI T T7 := GI.tr p0 (gi_sp (s_X1_centreX eT7))
  obtain ⟨g9, h⟩ := oif_some h
  obtain ⟨n10, en10, h⟩ := obind_some h
  obtain ⟨g11, h⟩ := oif_some h
  obtain ⟨n12, en12, h⟩ := obind_some h
  obtain ⟨g13, h⟩ := oif_some h
  obtain ⟨r15, T14, eT14, h⟩ := obind2_some h
  have p2 : GI T T14 := GI.tr p1 (gi_sp (s_X1_centreY eT14))
  obtain ⟨g16, h⟩ := oif_some h
  obtain ⟨n17, en17, h⟩ := obind_some h
  obtain ⟨g18, h⟩ := oif_some h
  obtain ⟨T19, eT19, h⟩ := obind_some h
  have p3 : GI T T19 := GI.tr p2 (gi_sp (s_X10_clear eT19))
  exact GI.tr p3 (si_X11_powerOnTheMove_b38 _ _ _ _ _ _ _ _ _ h)
set_option maxHeartbeats 4000000 in
set_option maxRecDepth 100000 in
theorem si_X11_movingPower_b37 {e1 : Nat} {r1 : Int64} {T1 : AT} : ∀ (T : AT) (l0 : Nat), g_X11_movingPower_b37 T l0 = some (e1, r1, T1) → GI T T1 := by
  intro T l0 h
  have p0 := GI.rf T
  unfold g_X11_movingPower_b37 at h
  obtain ⟨g2, h⟩ := oif_some h
  obtain ⟨n3, en3, h⟩ := obind_some h
  obtain ⟨g4, h⟩ := oif_some h
  obtain ⟨r6, T5, eT5, h⟩ := obind2_some h
  have p1 : GI T T5 := GI.tr p0 (gi_sp (s_X10_value eT5))
  rw [← (osome3 h).2.2]
  exact p1
set_option maxHeartbeats 4000000 in
set_option maxRecDepth 100000 in
theorem si_X11_movingPower {T : AT} {o : Nat} {a0 : Int32} {a1 : Int32} {a2 : Int32} {e1 : Nat} {r1 : Int64} {T1 : AT} (h : g_X11_movingPower T o a0 a1 a2 = some (e1, r1, T1)) : GI T T1 := by
  have p0 := GI.rf T
  unfold g_X11_movingPower at h
  obtain ⟨g2, h⟩ := oif_some h
  rcases othr_s h with ⟨k9, r9, e9, -⟩ | ⟨r4, T3, eT3, h⟩
  · exact GI.tr p0 (gi_sp (s_X11_needCamera e9))
  have p1 : GI T T3 := GI.tr p0 (gi_sp (s_X11_needCamera eT3))
  obtain ⟨g5, h⟩ := oif_some h
  rcases othr_s h with ⟨k9, r9, e9, -⟩ | ⟨r7, T6, eT6, h⟩
  · exact GI.tr p1 (gi_sp (s_X11_needCell e9))
  have p2 : GI T T6 := GI.tr p1 (gi_sp (s_X11_needCell eT6))
  rcases othr_s h with ⟨k9, r9, e9, -⟩ | ⟨r9, T8, eT8, h⟩
  · exact GI.tr p2 (gi_sp (s_X11_needRange e9))
  have p3 : GI T T8 := GI.tr p2 (gi_sp (s_X11_needRange eT8))
  rcases othr_s h with ⟨k9, r9, e9, -⟩ | ⟨r11, T10, eT10, h⟩
  · exact GI.tr p3 (gi_sp (s_X11_needRange e9))
  have p4 : GI T T10 := GI.tr p3 (gi_sp (s_X11_needRange eT10))
  obtain ⟨g12, h⟩ := oif_some h
  obtain ⟨T13, eT13, h⟩ := obind_some h
  have p5 : GI T T13 := GI.tr p4 (si_X11_powerOnTheMove eT13)
  exact GI.tr p5 (si_X11_movingPower_b37 _ _ h)
set_option maxHeartbeats 4000000 in
set_option maxRecDepth 100000 in
theorem si_X11_bestVelocity_b104 {e1 : Nat} {r1 : Int32} {T1 : AT} {k29 : AT → Nat → Int32 → Int32 → Int32 → Int32 → Int32 → Option (Nat × Int32 × AT)} {k39 : AT → Nat → Int32 → Int32 → Int32 → Int32 → Int32 → Int32 → Option (Nat × Int32 × AT)} (hk29 : ∀ (T : AT) (l0 : Nat) (l1 : Int32) (l2 : Int32) (l3 : Int32) (l4 : Int32) (l5 : Int32), k29 T l0 l1 l2 l3 l4 l5 = some (e1, r1, T1) → GI T T1) (hk39 : ∀ (T : AT) (l0 : Nat) (l1 : Int32) (l2 : Int32) (l3 : Int32) (l4 : Int32) (l5 : Int32) (l6 : Int32), k39 T l0 l1 l2 l3 l4 l5 l6 = some (e1, r1, T1) → GI T T1) : ∀ (T : AT) (l0 : Nat) (l1 : Int32) (l2 : Int32) (l3 : Int32) (l4 : Int32) (l5 : Int32) (l6 : Int32), g_X11_bestVelocity_b104 k29 k39 T l0 l1 l2 l3 l4 l5 l6 = some (e1, r1, T1) → GI T T1 := by
  intro T l0 l1 l2 l3 l4 l5 l6 h
  have p0 := GI.rf T
  unfold g_X11_bestVelocity_b104 at h
  obtain ⟨v2, ev2, h⟩ := elet_some h
  exact GI.tr p0 (hk39 _ _ _ _ _ _ _ _ h)
set_option maxHeartbeats 4000000 in
set_option maxRecDepth 100000 in
theorem si_X11_bestVelocity_b90 {e1 : Nat} {r1 : Int32} {T1 : AT} {k29 : AT → Nat → Int32 → Int32 → Int32 → Int32 → Int32 → Option (Nat × Int32 × AT)} {k39 : AT → Nat → Int32 → Int32 → Int32 → Int32 → Int32 → Int32 → Option (Nat × Int32 × AT)} (hk29 : ∀ (T : AT) (l0 : Nat) (l1 : Int32) (l2 : Int32) (l3 : Int32) (l4 : Int32) (l5 : Int32), k29 T l0 l1 l2 l3 l4 l5 = some (e1, r1, T1) → GI T T1) (hk39 : ∀ (T : AT) (l0 : Nat) (l1 : Int32) (l2 : Int32) (l3 : Int32) (l4 : Int32) (l5 : Int32) (l6 : Int32), k39 T l0 l1 l2 l3 l4 l5 l6 = some (e1, r1, T1) → GI T T1) : ∀ (T : AT) (l0 : Nat) (l1 : Int32) (l2 : Int32) (l3 : Int32) (l5 : Int32) (l6 : Int32), g_X11_bestVelocity_b90 k29 k39 T l0 l1 l2 l3 l5 l6 = some (e1, r1, T1) → GI T T1 := by
  intro T l0 l1 l2 l3 l5 l6 h
  have p0 := GI.rf T
  unfold g_X11_bestVelocity_b90 at h
  obtain ⟨v2, -, h⟩ := elet_some h
  obtain ⟨v3, -, h⟩ := elet_some h
  obtain ⟨v4, -, h⟩ := elet_some h
  obtain ⟨v5, -, h⟩ := elet_some h
  exact GI.tr p0 (si_X11_bestVelocity_b104 hk29 hk39 _ _ _ _ _ _ _ _ h)
set_option maxHeartbeats 4000000 in
set_option maxRecDepth 100000 in
theorem si_X11_bestVelocity_b77 {e1 : Nat} {r1 : Int32} {T1 : AT} {k29 : AT → Nat → Int32 → Int32 → Int32 → Int32 → Int32 → Option (Nat × Int32 × AT)} {k39 : AT → Nat → Int32 → Int32 → Int32 → Int32 → Int32 → Int32 → Option (Nat × Int32 × AT)} (hk29 : ∀ (T : AT) (l0 : Nat) (l1 : Int32) (l2 : Int32) (l3 : Int32) (l4 : Int32) (l5 : Int32), k29 T l0 l1 l2 l3 l4 l5 = some (e1, r1, T1) → GI T T1) (hk39 : ∀ (T : AT) (l0 : Nat) (l1 : Int32) (l2 : Int32) (l3 : Int32) (l4 : Int32) (l5 : Int32) (l6 : Int32), k39 T l0 l1 l2 l3 l4 l5 l6 = some (e1, r1, T1) → GI T T1) : ∀ (T : AT) (l0 : Nat) (l1 : Int32) (l2 : Int32) (l3 : Int32) (l5 : Int32) (l6 : Int32), g_X11_bestVelocity_b77 k29 k39 T l0 l1 l2 l3 l5 l6 = some (e1, r1, T1) → GI T T1 := by
  intro T l0 l1 l2 l3 l5 l6 h
  have p0 := GI.rf T
  unfold g_X11_bestVelocity_b77 at h
  obtain ⟨g2, h⟩ := oif_some h
  obtain ⟨n3, en3, h⟩ := obind_some h
  obtain ⟨g4, h⟩ := oif_some h
  obtain ⟨n5, en5, h⟩ := obind_some h
  obtain ⟨g6, h⟩ := oif_some h
  obtain ⟨T7, eT7, h⟩ := obind_some h
  have p1 : GI T T7 := GI.tr p0 (si_X10_set eT7)
  exact GI.tr p1 (si_X11_bestVelocity_b90 hk29 hk39 _ _ _ _ _ _ _ h)
set_option maxHeartbeats 4000000 in
set_option maxRecDepth 100000 in
theorem si_X11_bestVelocity_b59 {e1 : Nat} {r1 : Int32} {T1 : AT} {k29 : AT → Nat → Int32 → Int32 → Int32 → Int32 → Int32 → Option (Nat × Int32 × AT)} {k39 : AT → Nat → Int32 → Int32 → Int32 → Int32 → Int32 → Int32 → Option (Nat × Int32 × AT)} (hk29 : ∀ (T : AT) (l0 : Nat) (l1 : Int32) (l2 : Int32) (l3 : Int32) (l4 : Int32) (l5 : Int32), k29 T l0 l1 l2 l3 l4 l5 = some (e1, r1, T1) → GI T T1) (hk39 : ∀ (T : AT) (l0 : Nat) (l1 : Int32) (l2 : Int32) (l3 : Int32) (l4 : Int32) (l5 : Int32) (l6 : Int32), k39 T l0 l1 l2 l3 l4 l5 l6 = some (e1, r1, T1) → GI T T1) : ∀ (T : AT) (l0 : Nat) (l1 : Int32) (l2 : Int32) (l3 : Int32) (l4 : Int32) (l5 : Int32) (l6 : Int32), g_X11_bestVelocity_b59 k29 k39 T l0 l1 l2 l3 l4 l5 l6 = some (e1, r1, T1) → GI T T1 := by
  intro T l0 l1 l2 l3 l4 l5 l6 h
  have p0 := GI.rf T
  unfold g_X11_bestVelocity_b59 at h
  rcases oif_or h with ⟨c2, h⟩ | ⟨c2, h⟩
  · have h := h
    exact GI.tr p0 (si_X11_bestVelocity_b77 hk29 hk39 _ _ _ _ _ _ _ h)
  · have h := h
    obtain ⟨g3, h⟩ := oif_some h
    obtain ⟨n4, en4, h⟩ := obind_some h
    obtain ⟨g5, h⟩ := oif_some h
    obtain ⟨r7, T6, eT6, h⟩ := obind2_some h
    have p1 : GI T T6 := GI.tr p0 (gi_sp (s_X10_compare eT6))
    rcases oif_or h with ⟨c8, h⟩ | ⟨c8, h⟩
    · have h := h
      exact GI.tr p1 (si_X11_bestVelocity_b104 hk29 hk39 _ _ _ _ _ _ _ _ h)
    · have h := h
      exact GI.tr p1 (si_X11_bestVelocity_b77 hk29 hk39 _ _ _ _ _ _ _ h)
set_option maxHeartbeats 4000000 in
set_option maxRecDepth 100000 in
theorem si_X11_bestVelocity_b39 {e1 : Nat} {r1 : Int32} {T1 : AT} {k29 : AT → Nat → Int32 → Int32 → Int32 → Int32 → Int32 → Option (Nat × Int32 × AT)} (hk29 : ∀ (T : AT) (l0 : Nat) (l1 : Int32) (l2 : Int32) (l3 : Int32) (l4 : Int32) (l5 : Int32), k29 T l0 l1 l2 l3 l4 l5 = some (e1, r1, T1) → GI T T1) : ∀ n : Nat, ∀ (T : AT) (l0 : Nat) (l1 : Int32) (l2 : Int32) (l3 : Int32) (l4 : Int32) (l5 : Int32) (l6 : Int32), g_X11_bestVelocity_b39 k29 n T l0 l1 l2 l3 l4 l5 l6 = some (e1, r1, T1) → GI T T1 := by
  intro n
  induction n with
  | zero =>
    intro T l0 l1 l2 l3 l4 l5 l6 h
    have h : (none : Option (Nat × Int32 × AT)) = some (e1, r1, T1) := h
    cases h
  | succ n ih =>
    intro T l0 l1 l2 l3 l4 l5 l6 h
    have p0 := GI.rf T
    unfold g_X11_bestVelocity_b39 at h
    rcases oif_or h with ⟨c2, h⟩ | ⟨c2, h⟩
    · have h := h
      obtain ⟨v3, ev3, h⟩ := elet_some h
      exact GI.tr p0 (hk29 _ _ _ _ _ _ _ h)
    · have h := h
      obtain ⟨v4, -, h⟩ := elet_some h
      obtain ⟨v5, -, h⟩ := elet_some h
      obtain ⟨g6, h⟩ := oif_some h
      obtain ⟨T7, eT7, h⟩ := obind_some h
      have p1 : GI T T7 := GI.tr p0 (si_X11_powerOnTheMove eT7)
      exact GI.tr p1 (si_X11_bestVelocity_b59 hk29 ih _ _ _ _ _ _ _ _ h)
set_option maxHeartbeats 4000000 in
set_option maxRecDepth 100000 in
theorem si_X11_bestVelocity_b29 {e1 : Nat} {r1 : Int32} {T1 : AT} : ∀ n : Nat, ∀ (T : AT) (l0 : Nat) (l1 : Int32) (l2 : Int32) (l3 : Int32) (l4 : Int32) (l5 : Int32), g_X11_bestVelocity_b29 n T l0 l1 l2 l3 l4 l5 = some (e1, r1, T1) → GI T T1 := by
  intro n
  induction n with
  | zero =>
    intro T l0 l1 l2 l3 l4 l5 h
    have h : (none : Option (Nat × Int32 × AT)) = some (e1, r1, T1) := h
    cases h
  | succ n ih =>
    intro T l0 l1 l2 l3 l4 l5 h
    have p0 := GI.rf T
    unfold g_X11_bestVelocity_b29 at h
    rcases oif_or h with ⟨c2, h⟩ | ⟨c2, h⟩
    · have h := h
      rw [← (osome3 h).2.2]
      exact p0
    · have h := h
      obtain ⟨v3, -, h⟩ := elet_some h
      exact GI.tr p0 (si_X11_bestVelocity_b39 ih _ _ _ _ _ _ _ _ _ h)
set_option maxHeartbeats 4000000 in
set_option maxRecDepth 100000 in
theorem si_X11_bestVelocity {T : AT} {o : Nat} {a0 : Int32} {a1 : Int32} {a2 : Int32} {e1 : Nat} {r1 : Int32} {T1 : AT} (h : g_X11_bestVelocity T o a0 a1 a2 = some (e1, r1, T1)) : GI T T1 := by
  have p0 := GI.rf T
  unfold g_X11_bestVelocity at h
  obtain ⟨g2, h⟩ := oif_some h
  rcases othr_s h with ⟨k9, r9, e9, -⟩ | ⟨r4, T3, eT3, h⟩
  · exact GI.tr p0 (gi_sp (s_X11_needCamera e9))
  have p1 : GI T T3 := GI.tr p0 (gi_sp (s_X11_needCamera eT3))
  obtain ⟨g5, h⟩ := oif_some h
  rcases othr_s h with ⟨k9, r9, e9, -⟩ | ⟨r7, T6, eT6, h⟩
  · exact GI.tr p1 (gi_sp (s_X11_needCell e9))
  have p2 : GI T T6 := GI.tr p1 (gi_sp (s_X11_needCell eT6))
  rcases othr_s h with ⟨k9, r9, e9, -⟩ | ⟨r9, T8, eT8, h⟩
  · exact GI.tr p2 (gi_sp (s_X11_needRange e9))
  have p3 : GI T T8 := GI.tr p2 (gi_sp (s_X11_needRange eT8))
  rcases othr_s h with ⟨k9, r9, e9, -⟩ | ⟨r11, T10, eT10, h⟩
  · exact GI.tr p3 (gi_sp (s_X11_needRange e9))
  have p4 : GI T T10 := GI.tr p3 (gi_sp (s_X11_needRange eT10))
  obtain ⟨v12, -, h⟩ := elet_some h
  exact GI.tr p4 (si_X11_bestVelocity_b29 _ _ _ _ _ _ _ _ h)
set_option maxHeartbeats 4000000 in
set_option maxRecDepth 100000 in
theorem si_X11_correlation_b43 {e1 : Nat} {r1 : Int64} {T1 : AT} : ∀ (T : AT) (l0 : Nat), g_X11_correlation_b43 T l0 = some (e1, r1, T1) → GI T T1 := by
  intro T l0 h
  have p0 := GI.rf T
  unfold g_X11_correlation_b43 at h
  obtain ⟨g2, h⟩ := oif_some h
  obtain ⟨n3, en3, h⟩ := obind_some h
  obtain ⟨g4, h⟩ := oif_some h
  obtain ⟨r6, T5, eT5, h⟩ := obind2_some h
  have p1 : GI T T5 := GI.tr p0 (gi_sp (s_X10_value eT5))
  rw [← (osome3 h).2.2]
  exact p1
set_option maxHeartbeats 4000000 in
set_option maxRecDepth 100000 in
theorem si_X11_correlation {T : AT} {o : Nat} {a0 : Int32} {a1 : Int32} {a2 : Int32} {e1 : Nat} {r1 : Int64} {T1 : AT} (h : g_X11_correlation T o a0 a1 a2 = some (e1, r1, T1)) : GI T T1 := by
  have p0 := GI.rf T
  unfold g_X11_correlation at h
  obtain ⟨g2, h⟩ := oif_some h
  rcases othr_s h with ⟨k9, r9, e9, -⟩ | ⟨r4, T3, eT3, h⟩
  · exact GI.tr p0 (gi_sp (s_X11_needCamera e9))
  have p1 : GI T T3 := GI.tr p0 (gi_sp (s_X11_needCamera eT3))
  obtain ⟨g5, h⟩ := oif_some h
  rcases othr_s h with ⟨k9, r9, e9, -⟩ | ⟨r7, T6, eT6, h⟩
  · exact GI.tr p1 (gi_sp (s_X11_needMic e9))
  have p2 : GI T T6 := GI.tr p1 (gi_sp (s_X11_needMic eT6))
  obtain ⟨g8, h⟩ := oif_some h
  rcases othr_s h with ⟨k9, r9, e9, -⟩ | ⟨r10, T9, eT9, h⟩
  · exact GI.tr p2 (gi_sp (s_X11_needMic e9))
  have p3 : GI T T9 := GI.tr p2 (gi_sp (s_X11_needMic eT9))
  obtain ⟨g11, h⟩ := oif_some h
  obtain ⟨n12, en12, h⟩ := obind_some h
  obtain ⟨g13, h⟩ := oif_some h
  obtain ⟨v14, -, h⟩ := elet_some h
  obtain ⟨v15, -, h⟩ := elet_some h
  rcases othr_s h with ⟨k9, r9, e9, -⟩ | ⟨r17, T16, eT16, h⟩
  · exact GI.tr p3 (gi_sp (s_X11_needRange e9))
  have p4 : GI T T16 := GI.tr p3 (gi_sp (s_X11_needRange eT16))
  obtain ⟨g18, h⟩ := oif_some h
  obtain ⟨n19, en19, h⟩ := obind_some h
  obtain ⟨g20, h⟩ := oif_some h
  obtain ⟨n21, en21, h⟩ := obind_some h
  obtain ⟨g22, h⟩ := oif_some h
  obtain ⟨T23, eT23, h⟩ := obind_some h
  have p5 : GI T T23 := GI.tr p4 (si_X8_productSum eT23)
  exact GI.tr p5 (si_X11_correlation_b43 _ _ h)
set_option maxHeartbeats 4000000 in
set_option maxRecDepth 100000 in
theorem si_X11_bestLag_b100 {e1 : Nat} {r1 : Int32} {T1 : AT} {k49 : AT → Nat → Int32 → Int32 → Int32 → Int32 → Int32 → Option (Nat × Int32 × AT)} (hk49 : ∀ (T : AT) (l0 : Nat) (l1 : Int32) (l2 : Int32) (l3 : Int32) (l4 : Int32) (l5 : Int32), k49 T l0 l1 l2 l3 l4 l5 = some (e1, r1, T1) → GI T T1) : ∀ (T : AT) (l0 : Nat) (l1 : Int32) (l2 : Int32) (l3 : Int32) (l4 : Int32) (l5 : Int32), g_X11_bestLag_b100 k49 T l0 l1 l2 l3 l4 l5 = some (e1, r1, T1) → GI T T1 := by
  intro T l0 l1 l2 l3 l4 l5 h
  have p0 := GI.rf T
  unfold g_X11_bestLag_b100 at h
  obtain ⟨v2, ev2, h⟩ := elet_some h
  exact GI.tr p0 (hk49 _ _ _ _ _ _ _ h)
set_option maxHeartbeats 4000000 in
set_option maxRecDepth 100000 in
theorem si_X11_bestLag_b96 {e1 : Nat} {r1 : Int32} {T1 : AT} {k49 : AT → Nat → Int32 → Int32 → Int32 → Int32 → Int32 → Option (Nat × Int32 × AT)} (hk49 : ∀ (T : AT) (l0 : Nat) (l1 : Int32) (l2 : Int32) (l3 : Int32) (l4 : Int32) (l5 : Int32), k49 T l0 l1 l2 l3 l4 l5 = some (e1, r1, T1) → GI T T1) : ∀ (T : AT) (l0 : Nat) (l1 : Int32) (l2 : Int32) (l3 : Int32) (l5 : Int32), g_X11_bestLag_b96 k49 T l0 l1 l2 l3 l5 = some (e1, r1, T1) → GI T T1 := by
  intro T l0 l1 l2 l3 l5 h
  have p0 := GI.rf T
  unfold g_X11_bestLag_b96 at h
  exact GI.tr p0 (si_X11_bestLag_b100 hk49 _ _ _ _ _ _ _ h)
set_option maxHeartbeats 4000000 in
set_option maxRecDepth 100000 in
theorem si_X11_bestLag_b71 {e1 : Nat} {r1 : Int32} {T1 : AT} {k49 : AT → Nat → Int32 → Int32 → Int32 → Int32 → Int32 → Option (Nat × Int32 × AT)} (hk49 : ∀ (T : AT) (l0 : Nat) (l1 : Int32) (l2 : Int32) (l3 : Int32) (l4 : Int32) (l5 : Int32), k49 T l0 l1 l2 l3 l4 l5 = some (e1, r1, T1) → GI T T1) : ∀ (T : AT) (l0 : Nat) (l1 : Int32) (l2 : Int32) (l3 : Int32) (l4 : Int32) (l5 : Int32), g_X11_bestLag_b71 k49 T l0 l1 l2 l3 l4 l5 = some (e1, r1, T1) → GI T T1 := by
  intro T l0 l1 l2 l3 l4 l5 h
  have p0 := GI.rf T
  unfold g_X11_bestLag_b71 at h
  obtain ⟨g2, h⟩ := oif_some h
  obtain ⟨n3, en3, h⟩ := obind_some h
  obtain ⟨g4, h⟩ := oif_some h
  obtain ⟨r6, T5, eT5, h⟩ := obind2_some h
  have p1 : GI T T5 := GI.tr p0 (gi_sp (s_X10_compare eT5))
  rcases oif_or h with ⟨c7, h⟩ | ⟨c7, h⟩
  · have h := h
    exact GI.tr p1 (si_X11_bestLag_b100 hk49 _ _ _ _ _ _ _ h)
  · have h := h
    obtain ⟨g8, h⟩ := oif_some h
    obtain ⟨n9, en9, h⟩ := obind_some h
    obtain ⟨g10, h⟩ := oif_some h
    obtain ⟨n11, en11, h⟩ := obind_some h
    obtain ⟨g12, h⟩ := oif_some h
    obtain ⟨T13, eT13, h⟩ := obind_some h
    have p2 : GI T T13 := GI.tr p1 (si_X10_set eT13)
    exact GI.tr p2 (si_X11_bestLag_b96 hk49 _ _ _ _ _ _ h)
set_option maxHeartbeats 4000000 in
set_option maxRecDepth 100000 in
theorem si_X11_bestLag_b49 {e1 : Nat} {r1 : Int32} {T1 : AT} : ∀ n : Nat, ∀ (T : AT) (l0 : Nat) (l1 : Int32) (l2 : Int32) (l3 : Int32) (l4 : Int32) (l5 : Int32), g_X11_bestLag_b49 n T l0 l1 l2 l3 l4 l5 = some (e1, r1, T1) → GI T T1 := by
  intro n
  induction n with
  | zero =>
    intro T l0 l1 l2 l3 l4 l5 h
    have h : (none : Option (Nat × Int32 × AT)) = some (e1, r1, T1) := h
    cases h
  | succ n ih =>
    intro T l0 l1 l2 l3 l4 l5 h
    have p0 := GI.rf T
    unfold g_X11_bestLag_b49 at h
    rcases oif_or h with ⟨c2, h⟩ | ⟨c2, h⟩
    · have h := h
      rw [← (osome3 h).2.2]
      exact p0
    · have h := h
      obtain ⟨g3, h⟩ := oif_some h
      obtain ⟨n4, en4, h⟩ := obind_some h
      obtain ⟨g5, h⟩ := oif_some h
      obtain ⟨n6, en6, h⟩ := obind_some h
      obtain ⟨g7, h⟩ := oif_some h
      obtain ⟨T8, eT8, h⟩ := obind_some h
      have p1 : GI T T8 := GI.tr p0 (si_X8_productSum eT8)
      exact GI.tr p1 (si_X11_bestLag_b71 ih _ _ _ _ _ _ _ h)
set_option maxHeartbeats 4000000 in
set_option maxRecDepth 100000 in
theorem si_X11_bestLag_b46 {e1 : Nat} {r1 : Int32} {T1 : AT} : ∀ (T : AT) (l0 : Nat) (l1 : Int32) (l2 : Int32) (l3 : Int32) (l4 : Int32), g_X11_bestLag_b46 T l0 l1 l2 l3 l4 = some (e1, r1, T1) → GI T T1 := by
  intro T l0 l1 l2 l3 l4 h
  have p0 := GI.rf T
  unfold g_X11_bestLag_b46 at h
  exact GI.tr p0 (si_X11_bestLag_b49 _ _ _ _ _ _ _ _ h)
set_option maxHeartbeats 4000000 in
set_option maxRecDepth 100000 in
theorem si_X11_bestLag {T : AT} {o : Nat} {a0 : Int32} {a1 : Int32} {a2 : Int32} {e1 : Nat} {r1 : Int32} {T1 : AT} (h : g_X11_bestLag T o a0 a1 a2 = some (e1, r1, T1)) : GI T T1 := by
  have p0 := GI.rf T
  unfold g_X11_bestLag at h
  obtain ⟨g2, h⟩ := oif_some h
  rcases othr_s h with ⟨k9, r9, e9, -⟩ | ⟨r4, T3, eT3, h⟩
  · exact GI.tr p0 (gi_sp (s_X11_needCamera e9))
  have p1 : GI T T3 := GI.tr p0 (gi_sp (s_X11_needCamera eT3))
  obtain ⟨g5, h⟩ := oif_some h
  rcases othr_s h with ⟨k9, r9, e9, -⟩ | ⟨r7, T6, eT6, h⟩
  · exact GI.tr p1 (gi_sp (s_X11_needMic e9))
  have p2 : GI T T6 := GI.tr p1 (gi_sp (s_X11_needMic eT6))
  obtain ⟨g8, h⟩ := oif_some h
  rcases othr_s h with ⟨k9, r9, e9, -⟩ | ⟨r10, T9, eT9, h⟩
  · exact GI.tr p2 (gi_sp (s_X11_needMic e9))
  have p3 : GI T T9 := GI.tr p2 (gi_sp (s_X11_needMic eT9))
  obtain ⟨g11, h⟩ := oif_some h
  obtain ⟨n12, en12, h⟩ := obind_some h
  obtain ⟨g13, h⟩ := oif_some h
  obtain ⟨v14, -, h⟩ := elet_some h
  obtain ⟨v15, -, h⟩ := elet_some h
  rcases othr_s h with ⟨k9, r9, e9, -⟩ | ⟨r17, T16, eT16, h⟩
  · exact GI.tr p3 (gi_sp (s_X11_needRange e9))
  have p4 : GI T T16 := GI.tr p3 (gi_sp (s_X11_needRange eT16))
  obtain ⟨g18, h⟩ := oif_some h
  obtain ⟨n19, en19, h⟩ := obind_some h
  obtain ⟨g20, h⟩ := oif_some h
  obtain ⟨n21, en21, h⟩ := obind_some h
  obtain ⟨g22, h⟩ := oif_some h
  obtain ⟨T23, eT23, h⟩ := obind_some h
  have p5 : GI T T23 := GI.tr p4 (si_X8_productSum eT23)
  exact GI.tr p5 (si_X11_bestLag_b46 _ _ _ _ _ _ h)
set_option maxHeartbeats 4000000 in
set_option maxRecDepth 100000 in
theorem si_X11_measureLevel_b30 {T1 : AT} : ∀ (T : AT), g_X11_measureLevel_b30 T = some T1 → GI T T1 := by
  intro T h
  have p0 := GI.rf T
  unfold g_X11_measureLevel_b30 at h
  rw [← osome1 h]
  exact p0
set_option maxHeartbeats 4000000 in
set_option maxRecDepth 100000 in
theorem si_X11_measureLevel_b15 {T1 : AT} : ∀ (T : AT) (l0 : Nat) (l1 : Int32), g_X11_measureLevel_b15 T l0 l1 = some T1 → GI T T1 := by
  intro T l0 l1 h
  have p0 := GI.rf T
  unfold g_X11_measureLevel_b15 at h
  obtain ⟨g2, h⟩ := oif_some h
  obtain ⟨n3, en3, h⟩ := obind_some h
  obtain ⟨g4, h⟩ := oif_some h
  obtain ⟨n5, en5, h⟩ := obind_some h
  obtain ⟨g6, h⟩ := oif_some h
  obtain ⟨v7, -, h⟩ := elet_some h
  obtain ⟨g8, h⟩ := oif_some h
  obtain ⟨T9, eT9, h⟩ := obind_some h
  have p1 : GI T T9 := GI.tr p0 (si_X10_divide eT9)
  exact GI.tr p1 (si_X11_measureLevel_b30 _ h)
set_option maxHeartbeats 4000000 in
set_option maxRecDepth 100000 in
theorem si_X11_measureLevel {T : AT} {o : Nat} {a0 : Int32} {T1 : AT} (h : g_X11_measureLevel T o a0 = some T1) : GI T T1 := by
  have p0 := GI.rf T
  unfold g_X11_measureLevel at h
  obtain ⟨g2, h⟩ := oif_some h
  obtain ⟨n3, en3, h⟩ := obind_some h
  obtain ⟨g4, h⟩ := oif_some h
  obtain ⟨n5, en5, h⟩ := obind_some h
  obtain ⟨g6, h⟩ := oif_some h
  obtain ⟨T7, eT7, h⟩ := obind_some h
  have p1 : GI T T7 := GI.tr p0 (si_X8_productSum eT7)
  exact GI.tr p1 (si_X11_measureLevel_b15 _ _ _ h)
set_option maxHeartbeats 4000000 in
set_option maxRecDepth 100000 in
theorem si_X11_level_b14 {e1 : Nat} {r1 : Int64} {T1 : AT} : ∀ (T : AT) (l0 : Nat) (l1 : Int32), g_X11_level_b14 T l0 l1 = some (e1, r1, T1) → GI T T1 := by
  intro T l0 l1 h
  have p0 := GI.rf T
  unfold g_X11_level_b14 at h
  obtain ⟨g2, h⟩ := oif_some h
  obtain ⟨n3, en3, h⟩ := obind_some h
  obtain ⟨g4, h⟩ := oif_some h
  obtain ⟨r6, T5, eT5, h⟩ := obind2_some h
  have p1 : GI T T5 := GI.tr p0 (gi_sp (s_X10_value eT5))
  rw [← (osome3 h).2.2]
  exact p1
set_option maxHeartbeats 4000000 in
set_option maxRecDepth 100000 in
theorem si_X11_level {T : AT} {o : Nat} {a0 : Int32} {e1 : Nat} {r1 : Int64} {T1 : AT} (h : g_X11_level T o a0 = some (e1, r1, T1)) : GI T T1 := by
  have p0 := GI.rf T
  unfold g_X11_level at h
  obtain ⟨g2, h⟩ := oif_some h
  rcases othr_s h with ⟨k9, r9, e9, -⟩ | ⟨r4, T3, eT3, h⟩
  · exact GI.tr p0 (gi_sp (s_X11_needCamera e9))
  have p1 : GI T T3 := GI.tr p0 (gi_sp (s_X11_needCamera eT3))
  obtain ⟨g5, h⟩ := oif_some h
  rcases othr_s h with ⟨k9, r9, e9, -⟩ | ⟨r7, T6, eT6, h⟩
  · exact GI.tr p1 (gi_sp (s_X11_needMic e9))
  have p2 : GI T T6 := GI.tr p1 (gi_sp (s_X11_needMic eT6))
  obtain ⟨g8, h⟩ := oif_some h
  obtain ⟨T9, eT9, h⟩ := obind_some h
  have p3 : GI T T9 := GI.tr p2 (si_X11_measureLevel eT9)
  exact GI.tr p3 (si_X11_level_b14 _ _ _ h)
set_option maxHeartbeats 4000000 in
set_option maxRecDepth 100000 in
theorem si_X11_loudest_b33 {e1 : Nat} {r1 : Int32} {T1 : AT} {k17 : AT → Nat → Int32 → Int32 → Option (Nat × Int32 × AT)} (hk17 : ∀ (T : AT) (l0 : Nat) (l1 : Int32) (l2 : Int32), k17 T l0 l1 l2 = some (e1, r1, T1) → GI T T1) : ∀ (T : AT) (l0 : Nat) (l1 : Int32) (l2 : Int32), g_X11_loudest_b33 k17 T l0 l1 l2 = some (e1, r1, T1) → GI T T1 := by
  intro T l0 l1 l2 h
  have p0 := GI.rf T
  unfold g_X11_loudest_b33 at h
  obtain ⟨v2, ev2, h⟩ := elet_some h
  exact GI.tr p0 (hk17 _ _ _ _ h)
set_option maxHeartbeats 4000000 in
set_option maxRecDepth 100000 in
theorem si_X11_loudest_b17 {e1 : Nat} {r1 : Int32} {T1 : AT} : ∀ n : Nat, ∀ (T : AT) (l0 : Nat) (l1 : Int32) (l2 : Int32), g_X11_loudest_b17 n T l0 l1 l2 = some (e1, r1, T1) → GI T T1 := by
  intro n
  induction n with
  | zero =>
    intro T l0 l1 l2 h
    have h : (none : Option (Nat × Int32 × AT)) = some (e1, r1, T1) := h
    cases h
  | succ n ih =>
    intro T l0 l1 l2 h
    have p0 := GI.rf T
    unfold g_X11_loudest_b17 at h
    obtain ⟨g2, h⟩ := oif_some h
    obtain ⟨n3, en3, h⟩ := obind_some h
    obtain ⟨g4, h⟩ := oif_some h
    obtain ⟨v5, -, h⟩ := elet_some h
    rcases oif_or h with ⟨c6, h⟩ | ⟨c6, h⟩
    · have h := h
      obtain ⟨g7, h⟩ := oif_some h
      obtain ⟨n8, en8, h⟩ := obind_some h
      obtain ⟨g9, h⟩ := oif_some h
      obtain ⟨n10, en10, h⟩ := obind_some h
      obtain ⟨g11, h⟩ := oif_some h
      obtain ⟨v12, -, h⟩ := elet_some h
      obtain ⟨g13, h⟩ := oif_some h
      obtain ⟨r15, T14, eT14, h⟩ := obind2_some h
      have p1 : GI T T14 := GI.tr p0 (gi_sp (s_X10_ranked eT14))
      rw [← (osome3 h).2.2]
      exact p1
    · have h := h
      obtain ⟨g16, h⟩ := oif_some h
      obtain ⟨T17, eT17, h⟩ := obind_some h
      have p1 : GI T T17 := GI.tr p0 (si_X11_measureLevel eT17)
      exact GI.tr p1 (si_X11_loudest_b33 ih _ _ _ _ h)
set_option maxHeartbeats 4000000 in
set_option maxRecDepth 100000 in
theorem si_X11_loudest {T : AT} {o : Nat} {a0 : Int32} {e1 : Nat} {r1 : Int32} {T1 : AT} (h : g_X11_loudest T o a0 = some (e1, r1, T1)) : GI T T1 := by
  have p0 := GI.rf T
  unfold g_X11_loudest at h
  obtain ⟨g2, h⟩ := oif_some h
  rcases othr_s h with ⟨k9, r9, e9, -⟩ | ⟨r4, T3, eT3, h⟩
  · exact GI.tr p0 (gi_sp (s_X11_needCamera e9))
  have p1 : GI T T3 := GI.tr p0 (gi_sp (s_X11_needCamera eT3))
  obtain ⟨g5, h⟩ := oif_some h
  obtain ⟨n6, en6, h⟩ := obind_some h
  obtain ⟨g7, h⟩ := oif_some h
  obtain ⟨v8, -, h⟩ := elet_some h
  rcases othr_s h with ⟨k9, r9, e9, -⟩ | ⟨r10, T9, eT9, h⟩
  · exact GI.tr p1 (gi_sp (s_X11_needIndex e9))
  have p2 : GI T T9 := GI.tr p1 (gi_sp (s_X11_needIndex eT9))
  exact GI.tr p2 (si_X11_loudest_b17 _ _ _ _ _ h)
set_option maxHeartbeats 4000000 in
set_option maxRecDepth 100000 in
theorem si_X11_writeMap_b66 {e1 : Nat} {r1 : Int32} {T1 : AT} {k16 : AT → Nat → Nat → Int32 → Option (Nat × Int32 × AT)} (hk16 : ∀ (T : AT) (l0 : Nat) (l1 : Nat) (l2 : Int32), k16 T l0 l1 l2 = some (e1, r1, T1) → GI T T1) : ∀ (T : AT) (s0 : Int32) (s1 : Int32) (s2 : Nat) (l0 : Nat) (l1 : Nat) (l2 : Int32), g_X11_writeMap_b66 k16 T s0 s1 s2 l0 l1 l2 = some (e1, r1, T1) → GI T T1 := by
  intro T s0 s1 s2 l0 l1 l2 h
  have p0 := GI.rf T
  unfold g_X11_writeMap_b66 at h
  obtain ⟨v2, -, h⟩ := elet_some h
  obtain ⟨g3, h⟩ := oif_some h
  obtain ⟨T4, eT4, h⟩ := obind_some h
  have p1 : GI T T4 := GI.tr p0 (gi_sp (s_X11_addMapByte eT4))
  obtain ⟨v6, ev6, h⟩ := elet_some h
  exact GI.tr p1 (hk16 _ _ _ _ h)
set_option maxHeartbeats 4000000 in
set_option maxRecDepth 100000 in
theorem si_X11_writeMap_b54 {e1 : Nat} {r1 : Int32} {T1 : AT} {k16 : AT → Nat → Nat → Int32 → Option (Nat × Int32 × AT)} (hk16 : ∀ (T : AT) (l0 : Nat) (l1 : Nat) (l2 : Int32), k16 T l0 l1 l2 = some (e1, r1, T1) → GI T T1) : ∀ (T : AT) (l0 : Nat) (l1 : Nat) (l2 : Int32), g_X11_writeMap_b54 k16 T l0 l1 l2 = some (e1, r1, T1) → GI T T1 := by
  intro T l0 l1 l2 h
  have p0 := GI.rf T
  unfold g_X11_writeMap_b54 at h
  obtain ⟨g2, h⟩ := oif_some h
  obtain ⟨n3, en3, h⟩ := obind_some h
  obtain ⟨g4, h⟩ := oif_some h
  obtain ⟨r6, T5, eT5, h⟩ := obind2_some h
  have p1 : GI T T5 := GI.tr p0 (si_X4_digit eT5)
  exact GI.tr p1 (si_X11_writeMap_b66 hk16 _ _ _ _ _ _ _ h)
set_option maxHeartbeats 4000000 in
set_option maxRecDepth 100000 in
theorem si_X11_writeMap_b16 {e1 : Nat} {r1 : Int32} {T1 : AT} : ∀ n : Nat, ∀ (T : AT) (l0 : Nat) (l1 : Nat) (l2 : Int32), g_X11_writeMap_b16 n T l0 l1 l2 = some (e1, r1, T1) → GI T T1 := by
  intro n
  induction n with
  | zero =>
    intro T l0 l1 l2 h
    have h : (none : Option (Nat × Int32 × AT)) = some (e1, r1, T1) := h
    cases h
  | succ n ih =>
    intro T l0 l1 l2 h
    have p0 := GI.rf T
    unfold g_X11_writeMap_b16 at h
    obtain ⟨g2, h⟩ := oif_some h
    obtain ⟨n3, en3, h⟩ := obind_some h
    obtain ⟨g4, h⟩ := oif_some h
    obtain ⟨n5, en5, h⟩ := obind_some h
    obtain ⟨g6, h⟩ := oif_some h
    obtain ⟨r8, T7, eT7, h⟩ := obind2_some h
    have p1 : GI T T7 := GI.tr p0 (gi_sp (s_X1_cells eT7))
    rcases oif_or h with ⟨c9, h⟩ | ⟨c9, h⟩
    · have h := h
      obtain ⟨g10, h⟩ := oif_some h
      obtain ⟨v11, -, h⟩ := elet_some h
      rw [← (osome3 h).2.2]
      exact p1
    · have h := h
      rcases oif_or h with ⟨c12, h⟩ | ⟨c12, h⟩
      · have h := h
        exact GI.tr p1 (si_X11_writeMap_b54 ih _ _ _ _ h)
      · have h := h
        obtain ⟨g13, h⟩ := oif_some h
        obtain ⟨n14, en14, h⟩ := obind_some h
        obtain ⟨g15, h⟩ := oif_some h
        obtain ⟨n16, en16, h⟩ := obind_some h
        obtain ⟨g17, h⟩ := oif_some h
        obtain ⟨r19, T18, eT18, h⟩ := obind2_some h
        have p2 : GI T T18 := GI.tr p1 (gi_sp (s_X1_columnOf eT18))
        rcases oif_or h with ⟨c20, h⟩ | ⟨c20, h⟩
        · have h := h
          obtain ⟨g21, h⟩ := oif_some h
          obtain ⟨T22, eT22, h⟩ := obind_some h
          have p3 : GI T T22 := GI.tr p2 (gi_sp (s_X11_addMapByte eT22))
          exact GI.tr p3 (si_X11_writeMap_b54 ih _ _ _ _ h)
        · have h := h
          exact GI.tr p2 (si_X11_writeMap_b54 ih _ _ _ _ h)
set_option maxHeartbeats 4000000 in
set_option maxRecDepth 100000 in
theorem si_X11_writeMap_b8 {e1 : Nat} {r1 : Int32} {T1 : AT} : ∀ (T : AT) (s0 : Nat) (l0 : Nat), g_X11_writeMap_b8 T s0 l0 = some (e1, r1, T1) → GI T T1 := by
  intro T s0 l0 h
  have p0 := GI.rf T
  unfold g_X11_writeMap_b8 at h
  obtain ⟨g2, h⟩ := oif_some h
  obtain ⟨T3, eT3, h⟩ := elet_some h
  have p1 : GI T T3 := GI.tr p0 (by rw [eT3]; exact gi_sp sp_uI)
  exact GI.tr p1 (si_X11_writeMap_b16 _ _ _ _ _ h)
set_option maxHeartbeats 4000000 in
set_option maxRecDepth 100000 in
theorem si_X11_writeMap {T : AT} {o : Nat} {e1 : Nat} {r1 : Int32} {T1 : AT} (h : g_X11_writeMap T o = some (e1, r1, T1)) : GI T T1 := by
  have p0 := GI.rf T
  unfold g_X11_writeMap at h
  obtain ⟨g2, h⟩ := oif_some h
  rcases othr_s h with ⟨k9, r9, e9, -⟩ | ⟨r4, T3, eT3, h⟩
  · exact GI.tr p0 (gi_sp (s_X11_needCamera e9))
  have p1 : GI T T3 := GI.tr p0 (gi_sp (s_X11_needCamera eT3))
  obtain ⟨g5, h⟩ := oif_some h
  obtain ⟨r7, T6, eT6, h⟩ := obind2_some h
  obtain ⟨g8, h⟩ := oif_some h
  have p2 : GI T T6 := GI.tr p1 (si_X11_powersNow eT6)
  exact GI.tr p2 (si_X11_writeMap_b8 _ _ _ h)
set_option maxHeartbeats 4000000 in
set_option maxRecDepth 100000 in
theorem si_X11_recordPoint_b28 {T1 : AT} : ∀ (T : AT), g_X11_recordPoint_b28 T = some T1 → GI T T1 := by
  intro T h
  have p0 := GI.rf T
  unfold g_X11_recordPoint_b28 at h
  rw [← osome1 h]
  exact p0
set_option maxHeartbeats 4000000 in
set_option maxRecDepth 100000 in
theorem si_X11_recordPoint_b11 {T1 : AT} : ∀ (T : AT) (l0 : Nat) (l1 : Int32) (l2 : Int32), g_X11_recordPoint_b11 T l0 l1 l2 = some T1 → GI T T1 := by
  intro T l0 l1 l2 h
  have p0 := GI.rf T
  unfold g_X11_recordPoint_b11 at h
  obtain ⟨g2, h⟩ := oif_some h
  obtain ⟨n3, en3, h⟩ := obind_some h
  obtain ⟨g4, h⟩ := oif_some h
  obtain ⟨n5, en5, h⟩ := obind_some h
  obtain ⟨g6, h⟩ := oif_some h
  obtain ⟨n7, en7, h⟩ := obind_some h
  obtain ⟨g8, h⟩ := oif_some h
  obtain ⟨T9, eT9, h⟩ := obind_some h
  have p1 : GI T T9 := GI.tr p0 (si_X5_recordPoint eT9)
  exact GI.tr p1 (si_X11_recordPoint_b28 _ h)
set_option maxHeartbeats 4000000 in
set_option maxRecDepth 100000 in
theorem si_X11_recordPoint {T : AT} {o : Nat} {a0 : Int32} {a1 : Int32} {T1 : AT} (h : g_X11_recordPoint T o a0 a1 = some T1) : GI T T1 := by
  have p0 := GI.rf T
  unfold g_X11_recordPoint at h
  obtain ⟨g2, h⟩ := oif_some h
  obtain ⟨n3, en3, h⟩ := obind_some h
  obtain ⟨g4, h⟩ := oif_some h
  obtain ⟨n5, en5, h⟩ := obind_some h
  obtain ⟨g6, h⟩ := oif_some h
  obtain ⟨T7, eT7, h⟩ := obind_some h
  have p1 : GI T T7 := GI.tr p0 (si_X8_copyFrom eT7)
  exact GI.tr p1 (si_X11_recordPoint_b11 _ _ _ _ h)
set_option maxHeartbeats 4000000 in
set_option maxRecDepth 100000 in
theorem si_X11_trialBest_b15 {r1 : Int32} {T1 : AT} : ∀ (T : AT) (l0 : Nat), g_X11_trialBest_b15 T l0 = some (r1, T1) → GI T T1 := by
  intro T l0 h
  have p0 := GI.rf T
  unfold g_X11_trialBest_b15 at h
  obtain ⟨g2, h⟩ := oif_some h
  obtain ⟨n3, en3, h⟩ := obind_some h
  obtain ⟨g4, h⟩ := oif_some h
  obtain ⟨v5, -, h⟩ := elet_some h
  rw [← (osome2 h).2]
  exact p0
set_option maxHeartbeats 4000000 in
set_option maxRecDepth 100000 in
theorem si_X11_trialBest {T : AT} {o : Nat} {r1 : Int32} {T1 : AT} (h : g_X11_trialBest T o = some (r1, T1)) : GI T T1 := by
  have p0 := GI.rf T
  unfold g_X11_trialBest at h
  obtain ⟨g2, h⟩ := oif_some h
  obtain ⟨n3, en3, h⟩ := obind_some h
  obtain ⟨g4, h⟩ := oif_some h
  obtain ⟨n5, en5, h⟩ := obind_some h
  obtain ⟨g6, h⟩ := oif_some h
  obtain ⟨n7, en7, h⟩ := obind_some h
  obtain ⟨g8, h⟩ := oif_some h
  obtain ⟨T9, eT9, h⟩ := obind_some h
  have p1 : GI T T9 := GI.tr p0 (si_X4_measure eT9)
  exact GI.tr p1 (si_X11_trialBest_b15 _ _ h)
set_option maxHeartbeats 4000000 in
set_option maxRecDepth 100000 in
theorem si_X11_pointBest_b26 {e1 : Nat} {r1 : Int32} {T1 : AT} : ∀ (T : AT) (s0 : Int32), g_X11_pointBest_b26 T s0 = some (e1, r1, T1) → GI T T1 := by
  intro T s0 h
  have p0 := GI.rf T
  unfold g_X11_pointBest_b26 at h
  rw [← (osome3 h).2.2]
  exact p0
set_option maxHeartbeats 4000000 in
set_option maxRecDepth 100000 in
theorem si_X11_pointBest_b22 {e1 : Nat} {r1 : Int32} {T1 : AT} : ∀ (T : AT) (l0 : Nat), g_X11_pointBest_b22 T l0 = some (e1, r1, T1) → GI T T1 := by
  intro T l0 h
  have p0 := GI.rf T
  unfold g_X11_pointBest_b22 at h
  obtain ⟨g2, h⟩ := oif_some h
  obtain ⟨r4, T3, eT3, h⟩ := obind2_some h
  have p1 : GI T T3 := GI.tr p0 (si_X11_trialBest eT3)
  exact GI.tr p1 (si_X11_pointBest_b26 _ _ h)
set_option maxHeartbeats 4000000 in
set_option maxRecDepth 100000 in
theorem si_X11_pointBest {T : AT} {o : Nat} {a0 : Int32} {a1 : Int32} {e1 : Nat} {r1 : Int32} {T1 : AT} (h : g_X11_pointBest T o a0 a1 = some (e1, r1, T1)) : GI T T1 := by
  have p0 := GI.rf T
  unfold g_X11_pointBest at h
  obtain ⟨g2, h⟩ := oif_some h
  rcases othr_s h with ⟨k9, r9, e9, -⟩ | ⟨r4, T3, eT3, h⟩
  · exact GI.tr p0 (gi_sp (s_X11_needCamera e9))
  have p1 : GI T T3 := GI.tr p0 (gi_sp (s_X11_needCamera eT3))
  obtain ⟨g5, h⟩ := oif_some h
  rcases othr_s h with ⟨k9, r9, e9, -⟩ | ⟨r7, T6, eT6, h⟩
  · exact GI.tr p1 (gi_sp (s_X11_needCell e9))
  have p2 : GI T T6 := GI.tr p1 (gi_sp (s_X11_needCell eT6))
  rcases othr_s h with ⟨k9, r9, e9, -⟩ | ⟨r9, T8, eT8, h⟩
  · exact GI.tr p2 (gi_sp (s_X11_needRange e9))
  have p3 : GI T T8 := GI.tr p2 (gi_sp (s_X11_needRange eT8))
  obtain ⟨g10, h⟩ := oif_some h
  obtain ⟨T11, eT11, h⟩ := obind_some h
  have p4 : GI T T11 := GI.tr p3 (si_X11_recordPoint eT11)
  exact GI.tr p4 (si_X11_pointBest_b22 _ _ h)
set_option maxHeartbeats 4000000 in
set_option maxRecDepth 100000 in
theorem si_X11_pointPower_b48 {e1 : Nat} {r1 : Int64} {T1 : AT} : ∀ (T : AT) (l0 : Nat), g_X11_pointPower_b48 T l0 = some (e1, r1, T1) → GI T T1 := by
  intro T l0 h
  have p0 := GI.rf T
  unfold g_X11_pointPower_b48 at h
  obtain ⟨g2, h⟩ := oif_some h
  obtain ⟨n3, en3, h⟩ := obind_some h
  obtain ⟨g4, h⟩ := oif_some h
  obtain ⟨r6, T5, eT5, h⟩ := obind2_some h
  have p1 : GI T T5 := GI.tr p0 (gi_sp (s_X10_value eT5))
  rw [← (osome3 h).2.2]
  exact p1
set_option maxHeartbeats 4000000 in
set_option maxRecDepth 100000 in
theorem si_X11_pointPower_b27 {e1 : Nat} {r1 : Int64} {T1 : AT} : ∀ (T : AT) (l0 : Nat) (l2 : Int32), g_X11_pointPower_b27 T l0 l2 = some (e1, r1, T1) → GI T T1 := by
  intro T l0 l2 h
  have p0 := GI.rf T
  unfold g_X11_pointPower_b27 at h
  obtain ⟨g2, h⟩ := oif_some h
  obtain ⟨n3, en3, h⟩ := obind_some h
  obtain ⟨g4, h⟩ := oif_some h
  obtain ⟨n5, en5, h⟩ := obind_some h
  obtain ⟨g6, h⟩ := oif_some h
  obtain ⟨n7, en7, h⟩ := obind_some h
  obtain ⟨g8, h⟩ := oif_some h
  obtain ⟨g9, h⟩ := oif_some h
  obtain ⟨n10, en10, h⟩ := obind_some h
  obtain ⟨g11, h⟩ := oif_some h
  obtain ⟨n12, en12, h⟩ := obind_some h
  obtain ⟨g13, h⟩ := oif_some h
  obtain ⟨T14, eT14, h⟩ := obind_some h
  have p1 : GI T T14 := GI.tr p0 (si_X8_powerOf eT14)
  exact GI.tr p1 (si_X11_pointPower_b48 _ _ h)
set_option maxHeartbeats 4000000 in
set_option maxRecDepth 100000 in
theorem si_X11_pointPower {T : AT} {o : Nat} {a0 : Int32} {a1 : Int32} {a2 : Int32} {e1 : Nat} {r1 : Int64} {T1 : AT} (h : g_X11_pointPower T o a0 a1 a2 = some (e1, r1, T1)) : GI T T1 := by
  have p0 := GI.rf T
  unfold g_X11_pointPower at h
  obtain ⟨g2, h⟩ := oif_some h
  rcases othr_s h with ⟨k9, r9, e9, -⟩ | ⟨r4, T3, eT3, h⟩
  · exact GI.tr p0 (gi_sp (s_X11_needCamera e9))
  have p1 : GI T T3 := GI.tr p0 (gi_sp (s_X11_needCamera eT3))
  obtain ⟨g5, h⟩ := oif_some h
  rcases othr_s h with ⟨k9, r9, e9, -⟩ | ⟨r7, T6, eT6, h⟩
  · exact GI.tr p1 (gi_sp (s_X11_needCell e9))
  have p2 : GI T T6 := GI.tr p1 (gi_sp (s_X11_needCell eT6))
  obtain ⟨g8, h⟩ := oif_some h
  rcases othr_s h with ⟨k9, r9, e9, -⟩ | ⟨r10, T9, eT9, h⟩
  · exact GI.tr p2 (gi_sp (s_X11_needCell e9))
  have p3 : GI T T9 := GI.tr p2 (gi_sp (s_X11_needCell eT9))
  rcases othr_s h with ⟨k9, r9, e9, -⟩ | ⟨r12, T11, eT11, h⟩
  · exact GI.tr p3 (gi_sp (s_X11_needRange e9))
  have p4 : GI T T11 := GI.tr p3 (gi_sp (s_X11_needRange eT11))
  obtain ⟨g13, h⟩ := oif_some h
  obtain ⟨T14, eT14, h⟩ := obind_some h
  have p5 : GI T T14 := GI.tr p4 (si_X11_recordPoint eT14)
  exact GI.tr p5 (si_X11_pointPower_b27 _ _ _ h)
set_option maxHeartbeats 4000000 in
set_option maxRecDepth 100000 in
theorem si_X11_bestWithout_b34 {e1 : Nat} {r1 : Int32} {T1 : AT} : ∀ (T : AT) (s0 : Int32), g_X11_bestWithout_b34 T s0 = some (e1, r1, T1) → GI T T1 := by
  intro T s0 h
  have p0 := GI.rf T
  unfold g_X11_bestWithout_b34 at h
  rw [← (osome3 h).2.2]
  exact p0
set_option maxHeartbeats 4000000 in
set_option maxRecDepth 100000 in
theorem si_X11_bestWithout_b20 {e1 : Nat} {r1 : Int32} {T1 : AT} : ∀ (T : AT) (l0 : Nat) (l1 : Int32), g_X11_bestWithout_b20 T l0 l1 = some (e1, r1, T1) → GI T T1 := by
  intro T l0 l1 h
  have p0 := GI.rf T
  unfold g_X11_bestWithout_b20 at h
  obtain ⟨g2, h⟩ := oif_some h
  obtain ⟨n3, en3, h⟩ := obind_some h
  obtain ⟨g4, h⟩ := oif_some h
  obtain ⟨n5, en5, h⟩ := obind_some h
  obtain ⟨g6, h⟩ := oif_some h
  obtain ⟨g7, h⟩ := oif_some h
  obtain ⟨T8, eT8, h⟩ := elet_some h
  have p1 : GI T T8 := GI.tr p0 (by rw [eT8]; exact gi_sp sp_uI)
  obtain ⟨g9, h⟩ := oif_some h
  obtain ⟨r11, T10, eT10, h⟩ := obind2_some h
  have p2 : GI T T10 := GI.tr p1 (si_X11_trialBest eT10)
  exact GI.tr p2 (si_X11_bestWithout_b34 _ _ h)
set_option maxHeartbeats 4000000 in
set_option maxRecDepth 100000 in
theorem si_X11_bestWithout {T : AT} {o : Nat} {a0 : Int32} {e1 : Nat} {r1 : Int32} {T1 : AT} (h : g_X11_bestWithout T o a0 = some (e1, r1, T1)) : GI T T1 := by
  have p0 := GI.rf T
  unfold g_X11_bestWithout at h
  obtain ⟨g2, h⟩ := oif_some h
  rcases othr_s h with ⟨k9, r9, e9, -⟩ | ⟨r4, T3, eT3, h⟩
  · exact GI.tr p0 (gi_sp (s_X11_needCamera e9))
  have p1 : GI T T3 := GI.tr p0 (gi_sp (s_X11_needCamera eT3))
  obtain ⟨g5, h⟩ := oif_some h
  rcases othr_s h with ⟨k9, r9, e9, -⟩ | ⟨r7, T6, eT6, h⟩
  · exact GI.tr p1 (gi_sp (s_X11_needMic e9))
  have p2 : GI T T6 := GI.tr p1 (gi_sp (s_X11_needMic eT6))
  obtain ⟨g8, h⟩ := oif_some h
  obtain ⟨n9, en9, h⟩ := obind_some h
  obtain ⟨g10, h⟩ := oif_some h
  obtain ⟨n11, en11, h⟩ := obind_some h
  obtain ⟨g12, h⟩ := oif_some h
  obtain ⟨T13, eT13, h⟩ := obind_some h
  have p3 : GI T T13 := GI.tr p2 (si_X8_copyFrom eT13)
  exact GI.tr p3 (si_X11_bestWithout_b20 _ _ _ h)
set_option maxHeartbeats 4000000 in
set_option maxRecDepth 100000 in
theorem si_X11_bestIfOff_b49 {e1 : Nat} {r1 : Int32} {T1 : AT} : ∀ (T : AT) (s0 : Int32), g_X11_bestIfOff_b49 T s0 = some (e1, r1, T1) → GI T T1 := by
  intro T s0 h
  have p0 := GI.rf T
  unfold g_X11_bestIfOff_b49 at h
  rw [← (osome3 h).2.2]
  exact p0
set_option maxHeartbeats 4000000 in
set_option maxRecDepth 100000 in
theorem si_X11_bestIfOff_b45 {e1 : Nat} {r1 : Int32} {T1 : AT} : ∀ (T : AT) (l0 : Nat), g_X11_bestIfOff_b45 T l0 = some (e1, r1, T1) → GI T T1 := by
  intro T l0 h
  have p0 := GI.rf T
  unfold g_X11_bestIfOff_b45 at h
  obtain ⟨g2, h⟩ := oif_some h
  obtain ⟨r4, T3, eT3, h⟩ := obind2_some h
  have p1 : GI T T3 := GI.tr p0 (si_X11_trialBest eT3)
  exact GI.tr p1 (si_X11_bestIfOff_b49 _ _ h)
set_option maxHeartbeats 4000000 in
set_option maxRecDepth 100000 in
theorem si_X11_bestIfOff_b20 {e1 : Nat} {r1 : Int32} {T1 : AT} : ∀ (T : AT) (l0 : Nat) (l1 : Int32), g_X11_bestIfOff_b20 T l0 l1 = some (e1, r1, T1) → GI T T1 := by
  intro T l0 l1 h
  have p0 := GI.rf T
  unfold g_X11_bestIfOff_b20 at h
  obtain ⟨g2, h⟩ := oif_some h
  obtain ⟨n3, en3, h⟩ := obind_some h
  obtain ⟨g4, h⟩ := oif_some h
  obtain ⟨n5, en5, h⟩ := obind_some h
  obtain ⟨g6, h⟩ := oif_some h
  obtain ⟨g7, h⟩ := oif_some h
  obtain ⟨T8, eT8, h⟩ := elet_some h
  have p1 : GI T T8 := GI.tr p0 (by rw [eT8]; exact gi_sp sp_uI)
  obtain ⟨g9, h⟩ := oif_some h
  obtain ⟨n10, en10, h⟩ := obind_some h
  obtain ⟨g11, h⟩ := oif_some h
  obtain ⟨n12, en12, h⟩ := obind_some h
  obtain ⟨g13, h⟩ := oif_some h
  obtain ⟨n14, en14, h⟩ := obind_some h
  obtain ⟨g15, h⟩ := oif_some h
  obtain ⟨T16, eT16, h⟩ := obind_some h
  have p2 : GI T T16 := GI.tr p1 (si_X5_record eT16)
  exact GI.tr p2 (si_X11_bestIfOff_b45 _ _ h)
set_option maxHeartbeats 4000000 in
set_option maxRecDepth 100000 in
theorem si_X11_bestIfOff {T : AT} {o : Nat} {a0 : Int32} {e1 : Nat} {r1 : Int32} {T1 : AT} (h : g_X11_bestIfOff T o a0 = some (e1, r1, T1)) : GI T T1 := by
  have p0 := GI.rf T
  unfold g_X11_bestIfOff at h
  obtain ⟨g2, h⟩ := oif_some h
  rcases othr_s h with ⟨k9, r9, e9, -⟩ | ⟨r4, T3, eT3, h⟩
  · exact GI.tr p0 (gi_sp (s_X11_needCamera e9))
  have p1 : GI T T3 := GI.tr p0 (gi_sp (s_X11_needCamera eT3))
  obtain ⟨g5, h⟩ := oif_some h
  rcases othr_s h with ⟨k9, r9, e9, -⟩ | ⟨r7, T6, eT6, h⟩
  · exact GI.tr p1 (gi_sp (s_X11_needSource e9))
  have p2 : GI T T6 := GI.tr p1 (gi_sp (s_X11_needSource eT6))
  obtain ⟨g8, h⟩ := oif_some h
  obtain ⟨n9, en9, h⟩ := obind_some h
  obtain ⟨g10, h⟩ := oif_some h
  obtain ⟨n11, en11, h⟩ := obind_some h
  obtain ⟨g12, h⟩ := oif_some h
  obtain ⟨T13, eT13, h⟩ := obind_some h
  have p3 : GI T T13 := GI.tr p2 (si_X8_copyFrom eT13)
  exact GI.tr p3 (si_X11_bestIfOff_b20 _ _ _ h)
set_option maxHeartbeats 4000000 in
set_option maxRecDepth 100000 in
theorem si_X11_keepForUndo_b48 {T1 : AT} : ∀ (T : AT) (l0 : Nat), g_X11_keepForUndo_b48 T l0 = some T1 → GI T T1 := by
  intro T l0 h
  have p0 := GI.rf T
  unfold g_X11_keepForUndo_b48 at h
  obtain ⟨g2, h⟩ := oif_some h
  obtain ⟨n3, en3, h⟩ := obind_some h
  obtain ⟨g4, h⟩ := oif_some h
  obtain ⟨T5, eT5, h⟩ := elet_some h
  have p1 : GI T T5 := GI.tr p0 (by rw [eT5]; exact gi_sp sp_uI)
  rw [← osome1 h]
  exact p1
set_option maxHeartbeats 4000000 in
set_option maxRecDepth 100000 in
theorem si_X11_keepForUndo_b29 {T1 : AT} : ∀ (T : AT) (l0 : Nat), g_X11_keepForUndo_b29 T l0 = some T1 → GI T T1 := by
  intro T l0 h
  have p0 := GI.rf T
  unfold g_X11_keepForUndo_b29 at h
  obtain ⟨g2, h⟩ := oif_some h
  obtain ⟨v3, -, h⟩ := elet_some h
  rcases oif_or h with ⟨c4, h⟩ | ⟨c4, h⟩
  · have h := h
    exact GI.tr p0 (si_X11_keepForUndo_b48 _ _ h)
  · have h := h
    obtain ⟨g5, h⟩ := oif_some h
    obtain ⟨v6, -, h⟩ := elet_some h
    obtain ⟨v7, -, h⟩ := elet_some h
    obtain ⟨g8, h⟩ := oif_some h
    obtain ⟨T9, eT9, h⟩ := elet_some h
    have p1 : GI T T9 := GI.tr p0 (by rw [eT9]; exact gi_sp sp_uI)
    exact GI.tr p1 (si_X11_keepForUndo_b48 _ _ h)
set_option maxHeartbeats 4000000 in
set_option maxRecDepth 100000 in
theorem si_X11_keepForUndo {T : AT} {o : Nat} {T1 : AT} (h : g_X11_keepForUndo T o = some T1) : GI T T1 := by
  have p0 := GI.rf T
  unfold g_X11_keepForUndo at h
  obtain ⟨g2, h⟩ := oif_some h
  obtain ⟨v3, -, h⟩ := elet_some h
  obtain ⟨v4, -, h⟩ := elet_some h
  obtain ⟨v5, -, h⟩ := elet_some h
  obtain ⟨g6, h⟩ := oif_some h
  obtain ⟨T7, eT7, h⟩ := elet_some h
  have p1 : GI T T7 := GI.tr p0 (by rw [eT7]; exact gi_sp sp_uI)
  obtain ⟨g8, h⟩ := oif_some h
  obtain ⟨n9, en9, h⟩ := obind_some h
  obtain ⟨g10, h⟩ := oif_some h
  obtain ⟨v11, -, h⟩ := elet_some h
  obtain ⟨g12, h⟩ := oif_some h
  obtain ⟨g13, h⟩ := oif_some h
  obtain ⟨n14, en14, h⟩ := obind_some h
  obtain ⟨g15, h⟩ := oif_some h
  obtain ⟨n16, en16, h⟩ := obind_some h
  obtain ⟨g17, h⟩ := oif_some h
  obtain ⟨T18, eT18, h⟩ := obind_some h
  have p2 : GI T T18 := GI.tr p1 (si_X8_copyFrom eT18)
  exact GI.tr p2 (si_X11_keepForUndo_b29 _ _ h)
set_option maxHeartbeats 4000000 in
set_option maxRecDepth 100000 in
theorem si_X11_mute_b23 {e1 : Nat} {r1 : Int32} {T1 : AT} : ∀ (T : AT) (l0 : Nat) (l1 : Int32) (l2 : Int32) (l3 : Int32), g_X11_mute_b23 T l0 l1 l2 l3 = some (e1, r1, T1) → GI T T1 := by
  intro T l0 l1 l2 l3 h
  have p0 := GI.rf T
  unfold g_X11_mute_b23 at h
  obtain ⟨g2, h⟩ := oif_some h
  obtain ⟨n3, en3, h⟩ := obind_some h
  obtain ⟨g4, h⟩ := oif_some h
  obtain ⟨n5, en5, h⟩ := obind_some h
  obtain ⟨g6, h⟩ := oif_some h
  obtain ⟨g7, h⟩ := oif_some h
  obtain ⟨gz, h⟩ := oif_some h
  obtain ⟨T8, eT8, h⟩ := elet_some h
  have p1 : GI T T8 := GI.tr p0 (by rw [eT8]; exact gi_sp sp_uI)
  obtain ⟨gz, h⟩ := oif_some h
  rw [← (osome3 h).2.2]
  exact p1
set_option maxHeartbeats 4000000 in
set_option maxRecDepth 100000 in
theorem si_X11_mute {T : AT} {o : Nat} {a0 : Int32} {a1 : Int32} {e1 : Nat} {r1 : Int32} {T1 : AT} (h : g_X11_mute T o a0 a1 = some (e1, r1, T1)) : GI T T1 := by
  have p0 := GI.rf T
  unfold g_X11_mute at h
  obtain ⟨g2, h⟩ := oif_some h
  rcases othr_s h with ⟨k9, r9, e9, -⟩ | ⟨r4, T3, eT3, h⟩
  · exact GI.tr p0 (gi_sp (s_X11_needCamera e9))
  have p1 : GI T T3 := GI.tr p0 (gi_sp (s_X11_needCamera eT3))
  obtain ⟨g5, h⟩ := oif_some h
  rcases othr_s h with ⟨k9, r9, e9, -⟩ | ⟨r7, T6, eT6, h⟩
  · exact GI.tr p1 (gi_sp (s_X11_needMic e9))
  have p2 : GI T T6 := GI.tr p1 (gi_sp (s_X11_needMic eT6))
  obtain ⟨g8, h⟩ := oif_some h
  obtain ⟨n9, en9, h⟩ := obind_some h
  obtain ⟨g10, h⟩ := oif_some h
  obtain ⟨n11, en11, h⟩ := obind_some h
  obtain ⟨g12, h⟩ := oif_some h
  obtain ⟨g13, h⟩ := oif_some h
  obtain ⟨v14, -, h⟩ := elet_some h
  obtain ⟨g15, h⟩ := oif_some h
  obtain ⟨T16, eT16, h⟩ := obind_some h
  have p3 : GI T T16 := GI.tr p2 (si_X11_keepForUndo eT16)
  exact GI.tr p3 (si_X11_mute_b23 _ _ _ _ _ h)
set_option maxHeartbeats 4000000 in
set_option maxRecDepth 100000 in
theorem si_X11_setWeight_b30 {e1 : Nat} {r1 : Int32} {T1 : AT} : ∀ (T : AT) (l0 : Nat) (l1 : Int32) (l2 : Int32) (l3 : Int32), g_X11_setWeight_b30 T l0 l1 l2 l3 = some (e1, r1, T1) → GI T T1 := by
  intro T l0 l1 l2 l3 h
  have p0 := GI.rf T
  unfold g_X11_setWeight_b30 at h
  obtain ⟨g2, h⟩ := oif_some h
  obtain ⟨n3, en3, h⟩ := obind_some h
  obtain ⟨g4, h⟩ := oif_some h
  obtain ⟨n5, en5, h⟩ := obind_some h
  obtain ⟨g6, h⟩ := oif_some h
  obtain ⟨g7, h⟩ := oif_some h
  obtain ⟨T8, eT8, h⟩ := elet_some h
  have p1 : GI T T8 := GI.tr p0 (by rw [eT8]; exact gi_sp sp_uI)
  rw [← (osome3 h).2.2]
  exact p1
set_option maxHeartbeats 4000000 in
set_option maxRecDepth 100000 in
theorem si_X11_setWeight {T : AT} {o : Nat} {a0 : Int32} {a1 : Int32} {e1 : Nat} {r1 : Int32} {T1 : AT} (h : g_X11_setWeight T o a0 a1 = some (e1, r1, T1)) : GI T T1 := by
  have p0 := GI.rf T
  unfold g_X11_setWeight at h
  obtain ⟨g2, h⟩ := oif_some h
  rcases othr_s h with ⟨k9, r9, e9, -⟩ | ⟨r4, T3, eT3, h⟩
  · exact GI.tr p0 (gi_sp (s_X11_needCamera e9))
  have p1 : GI T T3 := GI.tr p0 (gi_sp (s_X11_needCamera eT3))
  obtain ⟨g5, h⟩ := oif_some h
  rcases othr_s h with ⟨k9, r9, e9, -⟩ | ⟨r7, T6, eT6, h⟩
  · exact GI.tr p1 (gi_sp (s_X11_needMic e9))
  have p2 : GI T T6 := GI.tr p1 (gi_sp (s_X11_needMic eT6))
  rcases othr_s h with ⟨k9, r9, e9, -⟩ | ⟨r9, T8, eT8, h⟩
  · exact GI.tr p2 (gi_sp (s_X11_needRange e9))
  have p3 : GI T T8 := GI.tr p2 (gi_sp (s_X11_needRange eT8))
  obtain ⟨g10, h⟩ := oif_some h
  obtain ⟨n11, en11, h⟩ := obind_some h
  obtain ⟨g12, h⟩ := oif_some h
  obtain ⟨n13, en13, h⟩ := obind_some h
  obtain ⟨g14, h⟩ := oif_some h
  obtain ⟨g15, h⟩ := oif_some h
  obtain ⟨v16, -, h⟩ := elet_some h
  obtain ⟨g17, h⟩ := oif_some h
  obtain ⟨T18, eT18, h⟩ := obind_some h
  have p4 : GI T T18 := GI.tr p3 (si_X11_keepForUndo eT18)
  exact GI.tr p4 (si_X11_setWeight_b30 _ _ _ _ _ h)
set_option maxHeartbeats 4000000 in
set_option maxRecDepth 100000 in
theorem si_X11_setOn_b48 {e1 : Nat} {r1 : Int32} {T1 : AT} : ∀ (T : AT) (l3 : Int32), g_X11_setOn_b48 T l3 = some (e1, r1, T1) → GI T T1 := by
  intro T l3 h
  have p0 := GI.rf T
  unfold g_X11_setOn_b48 at h
  obtain ⟨gz, h⟩ := oif_some h
  rw [← (osome3 h).2.2]
  exact p0
set_option maxHeartbeats 4000000 in
set_option maxRecDepth 100000 in
theorem si_X11_setOn_b23 {e1 : Nat} {r1 : Int32} {T1 : AT} : ∀ (T : AT) (l0 : Nat) (l1 : Int32) (l2 : Int32) (l3 : Int32), g_X11_setOn_b23 T l0 l1 l2 l3 = some (e1, r1, T1) → GI T T1 := by
  intro T l0 l1 l2 l3 h
  have p0 := GI.rf T
  unfold g_X11_setOn_b23 at h
  obtain ⟨g2, h⟩ := oif_some h
  obtain ⟨n3, en3, h⟩ := obind_some h
  obtain ⟨g4, h⟩ := oif_some h
  obtain ⟨n5, en5, h⟩ := obind_some h
  obtain ⟨g6, h⟩ := oif_some h
  obtain ⟨g7, h⟩ := oif_some h
  obtain ⟨gz, h⟩ := oif_some h
  obtain ⟨T8, eT8, h⟩ := elet_some h
  have p1 : GI T T8 := GI.tr p0 (by rw [eT8]; exact gi_sp sp_uI)
  obtain ⟨g9, h⟩ := oif_some h
  obtain ⟨n10, en10, h⟩ := obind_some h
  obtain ⟨g11, h⟩ := oif_some h
  obtain ⟨n12, en12, h⟩ := obind_some h
  obtain ⟨g13, h⟩ := oif_some h
  obtain ⟨n14, en14, h⟩ := obind_some h
  obtain ⟨g15, h⟩ := oif_some h
  obtain ⟨T16, eT16, h⟩ := obind_some h
  have p2 : GI T T16 := GI.tr p1 (si_X5_record eT16)
  exact GI.tr p2 (si_X11_setOn_b48 _ _ h)
set_option maxHeartbeats 4000000 in
set_option maxRecDepth 100000 in
theorem si_X11_setOn {T : AT} {o : Nat} {a0 : Int32} {a1 : Int32} {e1 : Nat} {r1 : Int32} {T1 : AT} (h : g_X11_setOn T o a0 a1 = some (e1, r1, T1)) : GI T T1 := by
  have p0 := GI.rf T
  unfold g_X11_setOn at h
  obtain ⟨g2, h⟩ := oif_some h
  rcases othr_s h with ⟨k9, r9, e9, -⟩ | ⟨r4, T3, eT3, h⟩
  · exact GI.tr p0 (gi_sp (s_X11_needCamera e9))
  have p1 : GI T T3 := GI.tr p0 (gi_sp (s_X11_needCamera eT3))
  obtain ⟨g5, h⟩ := oif_some h
  rcases othr_s h with ⟨k9, r9, e9, -⟩ | ⟨r7, T6, eT6, h⟩
  · exact GI.tr p1 (gi_sp (s_X11_needSource e9))
  have p2 : GI T T6 := GI.tr p1 (gi_sp (s_X11_needSource eT6))
  obtain ⟨g8, h⟩ := oif_some h
  obtain ⟨n9, en9, h⟩ := obind_some h
  obtain ⟨g10, h⟩ := oif_some h
  obtain ⟨n11, en11, h⟩ := obind_some h
  obtain ⟨g12, h⟩ := oif_some h
  obtain ⟨g13, h⟩ := oif_some h
  obtain ⟨v14, -, h⟩ := elet_some h
  obtain ⟨g15, h⟩ := oif_some h
  obtain ⟨T16, eT16, h⟩ := obind_some h
  have p3 : GI T T16 := GI.tr p2 (si_X11_keepForUndo eT16)
  exact GI.tr p3 (si_X11_setOn_b23 _ _ _ _ _ h)
set_option maxHeartbeats 4000000 in
set_option maxRecDepth 100000 in
theorem si_X11_moveSource_b72 {e1 : Nat} {r1 : Int32} {T1 : AT} : ∀ (T : AT) (s0 : Nat), g_X11_moveSource_b72 T s0 = some (e1, r1, T1) → GI T T1 := by
  intro T s0 h
  have p0 := GI.rf T
  unfold g_X11_moveSource_b72 at h
  obtain ⟨g2, h⟩ := oif_some h
  obtain ⟨v3, -, h⟩ := elet_some h
  rw [← (osome3 h).2.2]
  exact p0
set_option maxHeartbeats 4000000 in
set_option maxRecDepth 100000 in
theorem si_X11_moveSource_b68 {e1 : Nat} {r1 : Int32} {T1 : AT} : ∀ (T : AT) (l0 : Nat), g_X11_moveSource_b68 T l0 = some (e1, r1, T1) → GI T T1 := by
  intro T l0 h
  have p0 := GI.rf T
  unfold g_X11_moveSource_b68 at h
  obtain ⟨g2, h⟩ := oif_some h
  obtain ⟨r4, T3, eT3, h⟩ := obind2_some h
  obtain ⟨g5, h⟩ := oif_some h
  have p1 : GI T T3 := GI.tr p0 (si_X11_powersNow eT3)
  exact GI.tr p1 (si_X11_moveSource_b72 _ _ h)
set_option maxHeartbeats 4000000 in
set_option maxRecDepth 100000 in
theorem si_X11_moveSource_b33 {e1 : Nat} {r1 : Int32} {T1 : AT} : ∀ (T : AT) (l0 : Nat) (l1 : Int32) (l2 : Int32) (l3 : Int32), g_X11_moveSource_b33 T l0 l1 l2 l3 = some (e1, r1, T1) → GI T T1 := by
  intro T l0 l1 l2 l3 h
  have p0 := GI.rf T
  unfold g_X11_moveSource_b33 at h
  obtain ⟨g2, h⟩ := oif_some h
  obtain ⟨n3, en3, h⟩ := obind_some h
  obtain ⟨g4, h⟩ := oif_some h
  obtain ⟨n5, en5, h⟩ := obind_some h
  obtain ⟨g6, h⟩ := oif_some h
  obtain ⟨g7, h⟩ := oif_some h
  obtain ⟨T8, eT8, h⟩ := elet_some h
  have p1 : GI T T8 := GI.tr p0 (by rw [eT8]; exact gi_sp sp_uI)
  obtain ⟨g9, h⟩ := oif_some h
  obtain ⟨n10, en10, h⟩ := obind_some h
  obtain ⟨g11, h⟩ := oif_some h
  obtain ⟨n12, en12, h⟩ := obind_some h
  obtain ⟨g13, h⟩ := oif_some h
  obtain ⟨g14, h⟩ := oif_some h
  obtain ⟨T15, eT15, h⟩ := elet_some h
  have p2 : GI T T15 := GI.tr p1 (by rw [eT15]; exact gi_sp sp_uI)
  obtain ⟨g16, h⟩ := oif_some h
  obtain ⟨n17, en17, h⟩ := obind_some h
  obtain ⟨g18, h⟩ := oif_some h
  obtain ⟨n19, en19, h⟩ := obind_some h
  obtain ⟨g20, h⟩ := oif_some h
  obtain ⟨n21, en21, h⟩ := obind_some h
  obtain ⟨g22, h⟩ := oif_some h
  obtain ⟨T23, eT23, h⟩ := obind_some h
  have p3 : GI T T23 := GI.tr p2 (si_X5_record eT23)
  exact GI.tr p3 (si_X11_moveSource_b68 _ _ h)
set_option maxHeartbeats 4000000 in
set_option maxRecDepth 100000 in
theorem si_X11_moveSource {T : AT} {o : Nat} {a0 : Int32} {a1 : Int32} {a2 : Int32} {e1 : Nat} {r1 : Int32} {T1 : AT} (h : g_X11_moveSource T o a0 a1 a2 = some (e1, r1, T1)) : GI T T1 := by
  have p0 := GI.rf T
  unfold g_X11_moveSource at h
  obtain ⟨g2, h⟩ := oif_some h
  rcases othr_s h with ⟨k9, r9, e9, -⟩ | ⟨r4, T3, eT3, h⟩
  · exact GI.tr p0 (gi_sp (s_X11_needCamera e9))
  have p1 : GI T T3 := GI.tr p0 (gi_sp (s_X11_needCamera eT3))
  obtain ⟨g5, h⟩ := oif_some h
  rcases othr_s h with ⟨k9, r9, e9, -⟩ | ⟨r7, T6, eT6, h⟩
  · exact GI.tr p1 (gi_sp (s_X11_needSource e9))
  have p2 : GI T T6 := GI.tr p1 (gi_sp (s_X11_needSource eT6))
  rcases othr_s h with ⟨k9, r9, e9, -⟩ | ⟨r9, T8, eT8, h⟩
  · exact GI.tr p2 (gi_sp (s_X11_needRange e9))
  have p3 : GI T T8 := GI.tr p2 (gi_sp (s_X11_needRange eT8))
  rcases othr_s h with ⟨k9, r9, e9, -⟩ | ⟨r11, T10, eT10, h⟩
  · exact GI.tr p3 (gi_sp (s_X11_needRange e9))
  have p4 : GI T T10 := GI.tr p3 (gi_sp (s_X11_needRange eT10))
  obtain ⟨g12, h⟩ := oif_some h
  obtain ⟨T13, eT13, h⟩ := obind_some h
  have p5 : GI T T13 := GI.tr p4 (si_X11_keepForUndo eT13)
  exact GI.tr p5 (si_X11_moveSource_b33 _ _ _ _ _ h)
set_option maxHeartbeats 4000000 in
set_option maxRecDepth 100000 in
theorem si_X11_setVelocity_b72 {e1 : Nat} {r1 : Int32} {T1 : AT} : ∀ (T : AT) (s0 : Nat), g_X11_setVelocity_b72 T s0 = some (e1, r1, T1) → GI T T1 := by
  intro T s0 h
  have p0 := GI.rf T
  unfold g_X11_setVelocity_b72 at h
  obtain ⟨g2, h⟩ := oif_some h
  obtain ⟨v3, -, h⟩ := elet_some h
  rw [← (osome3 h).2.2]
  exact p0
set_option maxHeartbeats 4000000 in
set_option maxRecDepth 100000 in
theorem si_X11_setVelocity_b68 {e1 : Nat} {r1 : Int32} {T1 : AT} : ∀ (T : AT) (l0 : Nat), g_X11_setVelocity_b68 T l0 = some (e1, r1, T1) → GI T T1 := by
  intro T l0 h
  have p0 := GI.rf T
  unfold g_X11_setVelocity_b68 at h
  obtain ⟨g2, h⟩ := oif_some h
  obtain ⟨r4, T3, eT3, h⟩ := obind2_some h
  obtain ⟨g5, h⟩ := oif_some h
  have p1 : GI T T3 := GI.tr p0 (si_X11_powersNow eT3)
  exact GI.tr p1 (si_X11_setVelocity_b72 _ _ h)
set_option maxHeartbeats 4000000 in
set_option maxRecDepth 100000 in
theorem si_X11_setVelocity_b33 {e1 : Nat} {r1 : Int32} {T1 : AT} : ∀ (T : AT) (l0 : Nat) (l1 : Int32) (l2 : Int32) (l3 : Int32), g_X11_setVelocity_b33 T l0 l1 l2 l3 = some (e1, r1, T1) → GI T T1 := by
  intro T l0 l1 l2 l3 h
  have p0 := GI.rf T
  unfold g_X11_setVelocity_b33 at h
  obtain ⟨g2, h⟩ := oif_some h
  obtain ⟨n3, en3, h⟩ := obind_some h
  obtain ⟨g4, h⟩ := oif_some h
  obtain ⟨n5, en5, h⟩ := obind_some h
  obtain ⟨g6, h⟩ := oif_some h
  obtain ⟨g7, h⟩ := oif_some h
  obtain ⟨T8, eT8, h⟩ := elet_some h
  have p1 : GI T T8 := GI.tr p0 (by rw [eT8]; exact gi_sp sp_uI)
  obtain ⟨g9, h⟩ := oif_some h
  obtain ⟨n10, en10, h⟩ := obind_some h
  obtain ⟨g11, h⟩ := oif_some h
  obtain ⟨n12, en12, h⟩ := obind_some h
  obtain ⟨g13, h⟩ := oif_some h
  obtain ⟨g14, h⟩ := oif_some h
  obtain ⟨T15, eT15, h⟩ := elet_some h
  have p2 : GI T T15 := GI.tr p1 (by rw [eT15]; exact gi_sp sp_uI)
  obtain ⟨g16, h⟩ := oif_some h
  obtain ⟨n17, en17, h⟩ := obind_some h
  obtain ⟨g18, h⟩ := oif_some h
  obtain ⟨n19, en19, h⟩ := obind_some h
  obtain ⟨g20, h⟩ := oif_some h
  obtain ⟨n21, en21, h⟩ := obind_some h
  obtain ⟨g22, h⟩ := oif_some h
  obtain ⟨T23, eT23, h⟩ := obind_some h
  have p3 : GI T T23 := GI.tr p2 (si_X5_record eT23)
  exact GI.tr p3 (si_X11_setVelocity_b68 _ _ h)
set_option maxHeartbeats 4000000 in
set_option maxRecDepth 100000 in
theorem si_X11_setVelocity {T : AT} {o : Nat} {a0 : Int32} {a1 : Int32} {a2 : Int32} {e1 : Nat} {r1 : Int32} {T1 : AT} (h : g_X11_setVelocity T o a0 a1 a2 = some (e1, r1, T1)) : GI T T1 := by
  have p0 := GI.rf T
  unfold g_X11_setVelocity at h
  obtain ⟨g2, h⟩ := oif_some h
  rcases othr_s h with ⟨k9, r9, e9, -⟩ | ⟨r4, T3, eT3, h⟩
  · exact GI.tr p0 (gi_sp (s_X11_needCamera e9))
  have p1 : GI T T3 := GI.tr p0 (gi_sp (s_X11_needCamera eT3))
  obtain ⟨g5, h⟩ := oif_some h
  rcases othr_s h with ⟨k9, r9, e9, -⟩ | ⟨r7, T6, eT6, h⟩
  · exact GI.tr p1 (gi_sp (s_X11_needSource e9))
  have p2 : GI T T6 := GI.tr p1 (gi_sp (s_X11_needSource eT6))
  rcases othr_s h with ⟨k9, r9, e9, -⟩ | ⟨r9, T8, eT8, h⟩
  · exact GI.tr p2 (gi_sp (s_X11_needRange e9))
  have p3 : GI T T8 := GI.tr p2 (gi_sp (s_X11_needRange eT8))
  rcases othr_s h with ⟨k9, r9, e9, -⟩ | ⟨r11, T10, eT10, h⟩
  · exact GI.tr p3 (gi_sp (s_X11_needRange e9))
  have p4 : GI T T10 := GI.tr p3 (gi_sp (s_X11_needRange eT10))
  obtain ⟨g12, h⟩ := oif_some h
  obtain ⟨T13, eT13, h⟩ := obind_some h
  have p5 : GI T T13 := GI.tr p4 (si_X11_keepForUndo eT13)
  exact GI.tr p5 (si_X11_setVelocity_b33 _ _ _ _ _ h)
set_option maxHeartbeats 4000000 in
set_option maxRecDepth 100000 in
theorem si_X11_clean_b58 {e1 : Nat} {r1 : Int32} {T1 : AT} : ∀ (T : AT) (l2 : Int32), g_X11_clean_b58 T l2 = some (e1, r1, T1) → GI T T1 := by
  intro T l2 h
  have p0 := GI.rf T
  unfold g_X11_clean_b58 at h
  rw [← (osome3 h).2.2]
  exact p0
set_option maxHeartbeats 4000000 in
set_option maxRecDepth 100000 in
theorem si_X11_clean_b41 {e1 : Nat} {r1 : Int32} {T1 : AT} : ∀ (T : AT) (l0 : Nat) (l1 : Int32) (l2 : Int32), g_X11_clean_b41 T l0 l1 l2 = some (e1, r1, T1) → GI T T1 := by
  intro T l0 l1 l2 h
  have p0 := GI.rf T
  unfold g_X11_clean_b41 at h
  obtain ⟨g2, h⟩ := oif_some h
  obtain ⟨n3, en3, h⟩ := obind_some h
  obtain ⟨g4, h⟩ := oif_some h
  obtain ⟨n5, en5, h⟩ := obind_some h
  obtain ⟨g6, h⟩ := oif_some h
  obtain ⟨n7, en7, h⟩ := obind_some h
  obtain ⟨g8, h⟩ := oif_some h
  obtain ⟨g9, h⟩ := oif_some h
  obtain ⟨n10, en10, h⟩ := obind_some h
  obtain ⟨g11, h⟩ := oif_some h
  obtain ⟨T12, eT12, h⟩ := obind_some h
  have p1 : GI T T12 := GI.tr p0 (si_X8_subtractBeam eT12)
  exact GI.tr p1 (si_X11_clean_b58 _ _ h)
set_option maxHeartbeats 4000000 in
set_option maxRecDepth 100000 in
theorem si_X11_clean_b33 {e1 : Nat} {r1 : Int32} {T1 : AT} : ∀ (T : AT) (s0 : Nat) (l0 : Nat) (l1 : Int32), g_X11_clean_b33 T s0 l0 l1 = some (e1, r1, T1) → GI T T1 := by
  intro T s0 l0 l1 h
  have p0 := GI.rf T
  unfold g_X11_clean_b33 at h
  obtain ⟨g2, h⟩ := oif_some h
  obtain ⟨v3, -, h⟩ := elet_some h
  obtain ⟨g4, h⟩ := oif_some h
  obtain ⟨T5, eT5, h⟩ := obind_some h
  have p1 : GI T T5 := GI.tr p0 (si_X11_keepForUndo eT5)
  exact GI.tr p1 (si_X11_clean_b41 _ _ _ _ h)
set_option maxHeartbeats 4000000 in
set_option maxRecDepth 100000 in
theorem si_X11_clean {T : AT} {o : Nat} {a0 : Int32} {e1 : Nat} {r1 : Int32} {T1 : AT} (h : g_X11_clean T o a0 = some (e1, r1, T1)) : GI T T1 := by
  have p0 := GI.rf T
  unfold g_X11_clean at h
  obtain ⟨g2, h⟩ := oif_some h
  rcases othr_s h with ⟨k9, r9, e9, -⟩ | ⟨r4, T3, eT3, h⟩
  · exact GI.tr p0 (gi_sp (s_X11_needCamera e9))
  have p1 : GI T T3 := GI.tr p0 (gi_sp (s_X11_needCamera eT3))
  obtain ⟨g5, h⟩ := oif_some h
  obtain ⟨n6, en6, h⟩ := obind_some h
  obtain ⟨g7, h⟩ := oif_some h
  obtain ⟨r9, T8, eT8, h⟩ := obind2_some h
  have p2 : GI T T8 := GI.tr p1 (gi_sp (s_X8_activeWeight eT8))
  rcases oif_or h with ⟨c10, h⟩ | ⟨c10, h⟩
  · have h := h
    rw [← (osome3 h).2.2]
    exact p2
  · have h := h
    rcases othr_s h with ⟨k9, r9, e9, -⟩ | ⟨r12, T11, eT11, h⟩
    · exact GI.tr p2 (gi_sp (s_X11_needRange e9))
    have p3 : GI T T11 := GI.tr p2 (gi_sp (s_X11_needRange eT11))
    obtain ⟨g13, h⟩ := oif_some h
    obtain ⟨r15, T14, eT14, h⟩ := obind2_some h
    obtain ⟨g16, h⟩ := oif_some h
    have p4 : GI T T14 := GI.tr p3 (si_X11_powersNow eT14)
    exact GI.tr p4 (si_X11_clean_b33 _ _ _ _ h)
set_option maxHeartbeats 4000000 in
set_option maxRecDepth 100000 in
theorem si_X11_undo_b31 {e1 : Nat} {r1 : Int32} {T1 : AT} : ∀ (T : AT) (l0 : Nat), g_X11_undo_b31 T l0 = some (e1, r1, T1) → GI T T1 := by
  intro T l0 h
  have p0 := GI.rf T
  unfold g_X11_undo_b31 at h
  obtain ⟨g2, h⟩ := oif_some h
  obtain ⟨v3, -, h⟩ := elet_some h
  obtain ⟨v4, -, h⟩ := elet_some h
  obtain ⟨v5, -, h⟩ := elet_some h
  obtain ⟨v6, -, h⟩ := elet_some h
  obtain ⟨g7, h⟩ := oif_some h
  obtain ⟨T8, eT8, h⟩ := elet_some h
  have p1 : GI T T8 := GI.tr p0 (by rw [eT8]; exact gi_sp sp_uI)
  obtain ⟨g9, h⟩ := oif_some h
  obtain ⟨v10, -, h⟩ := elet_some h
  obtain ⟨v11, -, h⟩ := elet_some h
  obtain ⟨g12, h⟩ := oif_some h
  obtain ⟨T13, eT13, h⟩ := elet_some h
  have p2 : GI T T13 := GI.tr p1 (by rw [eT13]; exact gi_sp sp_uI)
  obtain ⟨g14, h⟩ := oif_some h
  obtain ⟨n15, en15, h⟩ := obind_some h
  obtain ⟨g16, h⟩ := oif_some h
  obtain ⟨T17, eT17, h⟩ := elet_some h
  have p3 : GI T T17 := GI.tr p2 (by rw [eT17]; exact gi_sp sp_uI)
  obtain ⟨g18, h⟩ := oif_some h
  obtain ⟨v19, -, h⟩ := elet_some h
  rw [← (osome3 h).2.2]
  exact p3
set_option maxHeartbeats 4000000 in
set_option maxRecDepth 100000 in
theorem si_X11_undo {T : AT} {o : Nat} {e1 : Nat} {r1 : Int32} {T1 : AT} (h : g_X11_undo T o = some (e1, r1, T1)) : GI T T1 := by
  have p0 := GI.rf T
  unfold g_X11_undo at h
  obtain ⟨g2, h⟩ := oif_some h
  obtain ⟨v3, -, h⟩ := elet_some h
  rcases oif_or h with ⟨c4, h⟩ | ⟨c4, h⟩
  · have h := h
    rw [← (osome3 h).2.2]
    exact p0
  · have h := h
    obtain ⟨g5, h⟩ := oif_some h
    obtain ⟨n6, en6, h⟩ := obind_some h
    obtain ⟨g7, h⟩ := oif_some h
    obtain ⟨n8, en8, h⟩ := obind_some h
    obtain ⟨g9, h⟩ := oif_some h
    obtain ⟨v10, -, h⟩ := elet_some h
    obtain ⟨g11, h⟩ := oif_some h
    obtain ⟨g12, h⟩ := oif_some h
    obtain ⟨n13, en13, h⟩ := obind_some h
    obtain ⟨g14, h⟩ := oif_some h
    obtain ⟨T15, eT15, h⟩ := obind_some h
    have p1 : GI T T15 := GI.tr p0 (si_X8_copyFrom eT15)
    exact GI.tr p1 (si_X11_undo_b31 _ _ h)
set_option maxHeartbeats 4000000 in
set_option maxRecDepth 100000 in
theorem si_X11_save_b33 {e1 : Nat} {r1 : Int32} {T1 : AT} : ∀ (T : AT) (s0 : Nat), g_X11_save_b33 T s0 = some (e1, r1, T1) → GI T T1 := by
  intro T s0 h
  have p0 := GI.rf T
  unfold g_X11_save_b33 at h
  obtain ⟨g2, h⟩ := oif_some h
  obtain ⟨v3, -, h⟩ := elet_some h
  rw [← (osome3 h).2.2]
  exact p0
set_option maxHeartbeats 4000000 in
set_option maxRecDepth 100000 in
theorem si_X11_save_b22 {e1 : Nat} {r1 : Int32} {T1 : AT} : ∀ (T : AT) (l0 : Nat) (l1 : Int32), g_X11_save_b22 T l0 l1 = some (e1, r1, T1) → GI T T1 := by
  intro T l0 l1 h
  have p0 := GI.rf T
  unfold g_X11_save_b22 at h
  obtain ⟨g2, h⟩ := oif_some h
  obtain ⟨n3, en3, h⟩ := obind_some h
  obtain ⟨g4, h⟩ := oif_some h
  obtain ⟨g5, h⟩ := oif_some h
  obtain ⟨T6, eT6, h⟩ := elet_some h
  have p1 : GI T T6 := GI.tr p0 (by rw [eT6]; exact gi_sp sp_uI)
  obtain ⟨g7, h⟩ := oif_some h
  obtain ⟨r9, T8, eT8, h⟩ := obind2_some h
  obtain ⟨g10, h⟩ := oif_some h
  have p2 : GI T T8 := GI.tr p1 (si_X11_powersNow eT8)
  exact GI.tr p2 (si_X11_save_b33 _ _ h)
set_option maxHeartbeats 4000000 in
set_option maxRecDepth 100000 in
theorem si_X11_save {T : AT} {o : Nat} {a0 : Int32} {e1 : Nat} {r1 : Int32} {T1 : AT} (h : g_X11_save T o a0 = some (e1, r1, T1)) : GI T T1 := by
  have p0 := GI.rf T
  unfold g_X11_save at h
  obtain ⟨g2, h⟩ := oif_some h
  rcases othr_s h with ⟨k9, r9, e9, -⟩ | ⟨r4, T3, eT3, h⟩
  · exact GI.tr p0 (gi_sp (s_X11_needCamera e9))
  have p1 : GI T T3 := GI.tr p0 (gi_sp (s_X11_needCamera eT3))
  rcases othr_s h with ⟨k9, r9, e9, -⟩ | ⟨r6, T5, eT5, h⟩
  · exact GI.tr p1 (gi_sp (s_X11_needIndex e9))
  have p2 : GI T T5 := GI.tr p1 (gi_sp (s_X11_needIndex eT5))
  obtain ⟨g7, h⟩ := oif_some h
  obtain ⟨n8, en8, h⟩ := obind_some h
  obtain ⟨g9, h⟩ := oif_some h
  obtain ⟨g10, h⟩ := oif_some h
  obtain ⟨n11, en11, h⟩ := obind_some h
  obtain ⟨g12, h⟩ := oif_some h
  obtain ⟨n13, en13, h⟩ := obind_some h
  obtain ⟨g14, h⟩ := oif_some h
  obtain ⟨T15, eT15, h⟩ := obind_some h
  have p3 : GI T T15 := GI.tr p2 (si_X8_copyFrom eT15)
  exact GI.tr p3 (si_X11_save_b22 _ _ _ h)
set_option maxHeartbeats 4000000 in
set_option maxRecDepth 100000 in
theorem si_X11_restore_b52 {e1 : Nat} {r1 : Int32} {T1 : AT} : ∀ (T : AT) (s0 : Nat), g_X11_restore_b52 T s0 = some (e1, r1, T1) → GI T T1 := by
  intro T s0 h
  have p0 := GI.rf T
  unfold g_X11_restore_b52 at h
  obtain ⟨g2, h⟩ := oif_some h
  obtain ⟨v3, -, h⟩ := elet_some h
  rw [← (osome3 h).2.2]
  exact p0
set_option maxHeartbeats 4000000 in
set_option maxRecDepth 100000 in
theorem si_X11_restore_b35 {e1 : Nat} {r1 : Int32} {T1 : AT} : ∀ (T : AT) (l0 : Nat), g_X11_restore_b35 T l0 = some (e1, r1, T1) → GI T T1 := by
  intro T l0 h
  have p0 := GI.rf T
  unfold g_X11_restore_b35 at h
  obtain ⟨g2, h⟩ := oif_some h
  obtain ⟨T3, eT3, h⟩ := elet_some h
  have p1 : GI T T3 := GI.tr p0 (by rw [eT3]; exact gi_sp sp_uI)
  obtain ⟨g4, h⟩ := oif_some h
  obtain ⟨n5, en5, h⟩ := obind_some h
  obtain ⟨g6, h⟩ := oif_some h
  obtain ⟨T7, eT7, h⟩ := elet_some h
  have p2 : GI T T7 := GI.tr p1 (by rw [eT7]; exact gi_sp sp_uI)
  obtain ⟨g8, h⟩ := oif_some h
  obtain ⟨r10, T9, eT9, h⟩ := obind2_some h
  obtain ⟨g11, h⟩ := oif_some h
  have p3 : GI T T9 := GI.tr p2 (si_X11_powersNow eT9)
  exact GI.tr p3 (si_X11_restore_b52 _ _ h)
set_option maxHeartbeats 4000000 in
set_option maxRecDepth 100000 in
theorem si_X11_restore {T : AT} {o : Nat} {a0 : Int32} {e1 : Nat} {r1 : Int32} {T1 : AT} (h : g_X11_restore T o a0 = some (e1, r1, T1)) : GI T T1 := by
  have p0 := GI.rf T
  unfold g_X11_restore at h
  rcases othr_s h with ⟨k9, r9, e9, -⟩ | ⟨r3, T2, eT2, h⟩
  · exact GI.tr p0 (gi_sp (s_X11_needIndex e9))
  have p1 : GI T T2 := GI.tr p0 (gi_sp (s_X11_needIndex eT2))
  obtain ⟨g4, h⟩ := oif_some h
  obtain ⟨n5, en5, h⟩ := obind_some h
  obtain ⟨g6, h⟩ := oif_some h
  obtain ⟨g7, h⟩ := oif_some h
  obtain ⟨v8, -, h⟩ := elet_some h
  rcases oif_or h with ⟨c9, h⟩ | ⟨c9, h⟩
  · have h := h
    rw [← (osome3 h).2.2]
    exact p1
  · have h := h
    obtain ⟨g10, h⟩ := oif_some h
    obtain ⟨n11, en11, h⟩ := obind_some h
    obtain ⟨g12, h⟩ := oif_some h
    obtain ⟨n13, en13, h⟩ := obind_some h
    obtain ⟨g14, h⟩ := oif_some h
    obtain ⟨g15, h⟩ := oif_some h
    obtain ⟨n16, en16, h⟩ := obind_some h
    obtain ⟨g17, h⟩ := oif_some h
    obtain ⟨T18, eT18, h⟩ := obind_some h
    have p2 : GI T T18 := GI.tr p1 (si_X8_copyFrom eT18)
    exact GI.tr p2 (si_X11_restore_b35 _ _ h)
/-- the array's place among the rows -/
def owW (x : Nat) : Nat × Nat := match ([24, 68, 112, 156, 200, 435, 251, 294, 345, 388, 843, 886, 937, 980, 1031, 1074, 1125, 1168, 1219, 1262, 1313, 1356, 1407, 1450, 1501, 1544] : List Nat).find? (fun q => Nat.blt q x && Nat.ble x (q + 41)) with
  | some q => (q, bif Nat.beq x (q + 41) then 0 else x - q - 1)
  | none => (0, 0)
def owL (n : Nat) : Nat → List (Option Nat) → Bool
  | _, [] => true
  | k, none :: l => owL n (k + 1) l
  | k, some x :: l => (!(Nat.beq (aT0.2.1 x).1 101) || (Nat.beq (owW x).1 n && Nat.beq (owW x).2 k)) && owL n (k + 1) l
theorem owL_get {n : Nat} : ∀ (l : List (Option Nat)) (k : Nat), owL n k l = true → ∀ i x, l.getD i none = some x → (aT0.2.1 x).1 = 101 → owW x = (n, k + i)
  | [], k, _, i, x, hx, _ => by
    have hx : (none : Option Nat) = some x := hx
    cases hx
  | none :: l, k, h, i, x, hx, hs => by
    cases i with
    | zero =>
      have hx : (none : Option Nat) = some x := hx
      cases hx
    | succ i =>
      have q := owL_get l (k + 1) h i x hx hs
      rw [q, show k + 1 + i = k + (i + 1) by omega]
  | some y :: l, k, h, i, x, hx, hs => by
    have h2 := (Bool.and_eq_true _ _).mp h
    cases i with
    | zero =>
      have e : y = x := Option.some.inj hx
      have q := h2.1
      rw [e, hs] at q
      have q2 := (Bool.and_eq_true _ _).mp (show (Nat.beq (owW x).1 n && Nat.beq (owW x).2 k) = true from q)
      exact Prod.ext (Nat.eq_of_beq_eq_true q2.1) (Nat.eq_of_beq_eq_true q2.2)
    | succ i =>
      have q := owL_get l (k + 1) h2.2 i x hx hs
      rw [q, show k + 1 + i = k + (i + 1) by omega]
set_option maxRecDepth 100000 in
theorem ow_all : (List.range 1586).all (fun n => owL n 0 (arf n)) = true := by decide +kernel
theorem a_RI : RI aT0 := by
  have key : ∀ n k x, aT0.2.2.2.2 n k = some x → (aT0.2.1 x).1 = 101 → owW x = (n, k) := by
    intro n k x h hs
    have h : (arf n).getD k none = some x := h
    by_cases hn : n < 1586
    · have q := owL_get (arf n) 0 (a_fin (p := fun n => owL n 0 (arf n)) ow_all hn) k x h hs
      rw [q, Nat.zero_add]
    · have e : arf n = [] := by
        unfold arf
        rw [a_hi (Nat.not_lt.mp hn)]
        rfl
      rw [e] at h
      cases h
  intro n k n' k' x h1 h2 h3
  have q := (key n k x h1 h3).symm.trans (key n' k' x h2 h3)
  cases q
  exact ⟨rfl, rfl⟩
end
section
/-! 27g.wide.lean.txt -/
/-! numbers of two parts: made wide, a square added, divided, compared -/
section
variable {T T1 T0 : AT} {o x y z b : Nat}
theorem l_xor {a b : Int64} (ha : 0 ≤ a.toInt) (hb : 0 ≤ b.toInt) : 0 ≤ (a ^^^ b).toInt := by
  have na := l_nat ha
  have nb := l_nat hb
  have la := Int64.toInt_lt a
  have lb := Int64.toInt_lt b
  have q : (a ^^^ b).toBitVec.toNat = a.toBitVec.toNat ^^^ b.toBitVec.toNat := by
    show (a.toBitVec ^^^ b.toBitVec).toNat = _
    rw [BitVec.toNat_xor]
  have l : a.toBitVec.toNat ^^^ b.toBitVec.toNat < 2 ^ 63 := Nat.xor_lt_two_pow (by omega) (by omega)
  rw [l_ofn q (by omega)]
  exact Int.natCast_nonneg _
theorem l_div {x y : Int64} (hx : 0 ≤ x.toInt) (hy : 1 ≤ y.toInt) : (x / y).toInt = x.toInt / y.toInt := by
  have l := Int64.toInt_lt x
  have q := Int.ediv_le_self y.toInt hx
  have n := Int.ediv_nonneg hx (by omega : 0 ≤ y.toInt)
  rw [Int64.toInt_div, Int.tdiv_eq_ediv_of_nonneg hx, bm64 (by omega) (by omega)]
theorem c_fdiv {a b r : Int64} (ha : 0 ≤ a.toInt) (hb : 1 ≤ b.toInt) (h : g_J9_floorDiv_f86c9 a b = some r) : r.toInt = a.toInt / b.toInt := by
  have z0 : (0 : Int64).toInt = 0 := by decide
  unfold g_J9_floorDiv_f86c9 g_J9_floorDiv_f86c9_b27 at h
  obtain ⟨-, h⟩ := oif_some h
  obtain ⟨v3, d3, h⟩ := elet_some h
  obtain ⟨v4, d4, h⟩ := elet_some h
  obtain ⟨v5, d5, h⟩ := elet_some h
  have q4 := l_xor ha (show 0 ≤ b.toInt by omega)
  rw [if_pos (by rw [d5, d4]; exact (lg_cmp_ge _ _).mpr (Int64.le_iff_toInt_le.mpr (by omega)))] at h
  rw [← osome1 h, d3, l_div ha hb]
theorem c_fmod {a b r : Int64} (ha : 0 ≤ a.toInt) (hb : 1 ≤ b.toInt) (h : g_J9_floorMod_f86c9 a b = some r) : r.toInt = a.toInt % b.toInt := by
  have z0 : (0 : Int64).toInt = 0 := by decide
  unfold g_J9_floorMod_f86c9 g_J9_floorMod_f86c9_b25 at h
  obtain ⟨-, h⟩ := oif_some h
  obtain ⟨v3, d3, h⟩ := elet_some h
  obtain ⟨v4, d4, h⟩ := elet_some h
  obtain ⟨v5, d5, h⟩ := elet_some h
  have q4 := l_xor ha (show 0 ≤ b.toInt by omega)
  rw [if_pos (by rw [d5, d4]; exact (lg_cmp_ge _ _).mpr (Int64.le_iff_toInt_le.mpr (by omega)))] at h
  have l := Int64.toInt_lt a
  have n := Int.ediv_nonneg ha (by omega : 0 ≤ b.toInt)
  have m := Int.mul_ediv_add_emod a.toInt b.toInt
  have m0 := Int.emod_nonneg a.toInt (show b.toInt ≠ 0 by omega)
  have mu := Int.mul_comm b.toInt (a.toInt / b.toInt)
  have mn := Int.mul_nonneg n (show 0 ≤ b.toInt by omega)
  have q := l_div ha hb
  have p : (a / b * b).toInt = a.toInt / b.toInt * b.toInt := by
    rw [l_mul rfl (by rw [q]; omega) (by rw [q]; omega), q]
  rw [← osome1 h, d3, Int64.toInt_sub, p, bm64 (by omega) (by omega)]
  omega
/-- a table of numbers of two parts, rows x and y -/
def U2 (T : AT) (o x y : Nat) : Prop := T.2.2.2.2 o 1 = some (o + 1) ∧ T.2.2.2.2 (o + 1) 0 = some x ∧ T.2.2.2.2 (o + 1) 1 = some y ∧ T.2.2.1 o 2 = 2 ∧ x ≠ y
theorem U2.lq (h : U2 T o x y) (k : LQ T T1) : U2 T1 o x y := by
  unfold U2
  rw [k.2.2.1, k.2.2.2]
  exact h
/-- number i is v -/
def V2 (T : AT) (x y i : Nat) (v : Int) : Prop := (0 ≤ (T.2.2.2.1 x i).toInt ∧ (T.2.2.2.1 x i).toInt < 268435456) ∧ (0 ≤ (T.2.2.2.1 y i).toInt ∧ (T.2.2.2.1 y i).toInt < 268435456) ∧ (T.2.2.2.1 y i).toInt * 268435456 + (T.2.2.2.1 x i).toInt = v
/-- the longs of all rows but x and y, and all others of these, are as they were -/
def LE (T T1 : AT) (x y i : Nat) : Prop := ∀ m j, (m ≠ x ∧ m ≠ y ∨ j ≠ i) → T1.2.2.2.1 m j = T.2.2.2.1 m j
end
end
section
/-! 27h.beam.lean.txt -/
/-! a table gets its second part; clearing; the class's beam -/
section
variable {T T1 T0 : AT} {P A : Nat → Int32} {o x y z d dl xs : Nat} {c4 n2 : Nat} {D : Nat → Int32}
theorem c_w40 {k5 : AT → Nat → Int32 → Int32 → Option AT} {N : Nat} (h1 : T0.2.2.2.2 o 1 = some (o + 1)) (hx : T0.2.2.2.2 (o + 1) 0 = some x) (hy : T0.2.2.2.2 (o + 1) 1 = some y) (hxy : x ≠ y) (hN : T0.2.2.1 o 0 = nI N) (hl : N ≤ 7200) : ∀ (f j : Nat) {T : AT}, j ≤ N → LQ T0 T → (∀ m k, m ≠ x → m ≠ y → T.2.2.2.1 m k = T0.2.2.2.1 m k) → (∀ k, j ≤ k → T.2.2.2.1 x k = T0.2.2.2.1 x k) → (∀ k, k < j → 0 ≤ (T0.2.2.2.1 x k).toInt → (T0.2.2.2.1 x k).toInt < 268435456 → V2 T x y k (T0.2.2.2.1 x k).toInt) → g_X10_widenTo_b40 k5 f T o 2 1 (nI j) = some T1 → ∃ T2, LQ T0 T2 ∧ (∀ m k, m ≠ x → m ≠ y → T2.2.2.2.1 m k = T0.2.2.2.1 m k) ∧ (∀ k, k < N → 0 ≤ (T0.2.2.2.1 x k).toInt → (T0.2.2.2.1 x k).toInt < 268435456 → V2 T2 x y k (T0.2.2.2.1 x k).toInt) ∧ k5 (uI T2 o 2 2) o 2 2 = some T1 := by
  intro f
  induction f with
  | zero => intro j T hj hq ho hr hv h; cases h
  | succ f ih =>
    intro j T hj hq ho hr hv h
    have kj : (nI j).toNatClampNeg = j := nI_clamp (by omega)
    unfold g_X10_widenTo_b40 at h
    obtain ⟨-, h⟩ := oif_some h
    obtain ⟨v3, d3, h⟩ := elet_some h
    rw [hq.2.2.1, hN] at d3
    rcases oif_or h with ⟨q, h⟩ | ⟨q, h⟩
    · rw [d3] at q
      have q2 := (nI_leI (a := N) (by omega) (by omega)).mp q
      obtain ⟨v5, d5, h⟩ := elet_some h
      obtain ⟨-, h⟩ := oif_some h
      obtain ⟨T7, e7, h⟩ := elet_some h
      obtain ⟨v8, d8, h⟩ := elet_some h
      have e5 : v5 = 2 := by rw [d5]; decide
      have e8 : v8 = 2 := by rw [d8]; decide
      rw [e7, e5, e8] at h
      exact ⟨T, hq, ho, fun k hk a b => hv k (by omega) a b, h⟩
    · rw [d3] at q
      have q2 : ¬ N ≤ j := fun z => q ((nI_leI (a := N) (by omega) (by omega)).mpr z)
      obtain ⟨-, h⟩ := oif_some h
      obtain ⟨n10, en, h⟩ := obind_some h
      rw [hq.2.2.2, h1] at en
      cases en
      obtain ⟨v11, d11, h⟩ := elet_some h
      have e11 : v11 = 0 := by rw [d11]; decide
      obtain ⟨-, h⟩ := oif_some h
      obtain ⟨-, h⟩ := oif_some h
      obtain ⟨n14, en, h⟩ := obind_some h
      rw [e11, show (0 : Int32).toNatClampNeg = 0 from rfl, hq.2.2.2, hx] at en
      cases en
      obtain ⟨-, h⟩ := oif_some h
      obtain ⟨-, h⟩ := oif_some h
      obtain ⟨v17, d17, h⟩ := elet_some h
      rw [kj, hr j (Nat.le_refl j)] at d17
      obtain ⟨-, h⟩ := oif_some h
      obtain ⟨n19, en, h⟩ := obind_some h
      rw [hq.2.2.2, h1] at en
      cases en
      obtain ⟨v20, d20, h⟩ := elet_some h
      have e20 : v20 = 0 := by rw [d20]; decide
      obtain ⟨-, h⟩ := oif_some h
      obtain ⟨-, h⟩ := oif_some h
      obtain ⟨n23, en, h⟩ := obind_some h
      rw [e20, show (0 : Int32).toNatClampNeg = 0 from rfl, hq.2.2.2, hx] at en
      cases en
      obtain ⟨v24, d24, h⟩ := elet_some h
      obtain ⟨-, h⟩ := oif_some h
      obtain ⟨-, h⟩ := oif_some h
      obtain ⟨T27, e27, h⟩ := elet_some h
      have l27 : LQ T T27 := by rw [e27]; exact lq_uJ
      obtain ⟨-, h⟩ := oif_some h
      obtain ⟨n29, en, h⟩ := obind_some h
      rw [l27.2.2.2, hq.2.2.2, h1] at en
      cases en
      obtain ⟨-, h⟩ := oif_some h
      obtain ⟨-, h⟩ := oif_some h
      obtain ⟨n32, en, h⟩ := obind_some h
      rw [show (1 : Int32).toNatClampNeg = 1 from rfl, l27.2.2.2, hq.2.2.2, hy] at en
      cases en
      obtain ⟨v33, d33, h⟩ := elet_some h
      obtain ⟨-, h⟩ := oif_some h
      obtain ⟨-, h⟩ := oif_some h
      obtain ⟨T36, e36, h⟩ := elet_some h
      have l36 : LQ T27 T36 := by rw [e36]; exact lq_uJ
      obtain ⟨v37, d37, h⟩ := elet_some h
      rw [show v37 = nI (j + 1) from d37.trans (nI_p1 j)] at h
      have at36 : ∀ m k, T36.2.2.2.1 m k = if m = y ∧ k = j then v33 else if m = x ∧ k = j then v24 else T.2.2.2.1 m k := by
        intro m k
        rw [e36, kj, uj_get, e27, kj, uj_get]
      refine ih (j + 1) (by omega) ((hq.tr l27).tr l36) (fun m k hmx hmy => ?_) (fun k hk => ?_) (fun k hk a b => ?_) h
      · rw [at36, if_neg (fun w => hmy w.1), if_neg (fun w => hmx w.1)]
        exact ho m k hmx hmy
      · rw [at36, if_neg (by omega), if_neg (by omega)]
        exact hr k (by omega)
      · by_cases e : k = j
        · rw [e] at a b ⊢
          have q17 : v17.toInt = (T0.2.2.2.1 x j).toInt := by rw [d17]
          have q24 := l_and d24 (by omega)
          have q33 := l_shr d33
          have ax : T36.2.2.2.1 x j = v24 := by rw [at36, if_neg (fun w => hxy w.1), if_pos ⟨rfl, rfl⟩]
          have ay : T36.2.2.2.1 y j = v33 := by rw [at36, if_pos ⟨rfl, rfl⟩]
          unfold V2
          rw [ax, ay]
          omega
        · have ax : T36.2.2.2.1 x k = T.2.2.2.1 x k := by rw [at36, if_neg (fun w => e w.2), if_neg (fun w => e w.2)]
          have ay : T36.2.2.2.1 y k = T.2.2.2.1 y k := by rw [at36, if_neg (fun w => e w.2), if_neg (fun w => e w.2)]
          unfold V2
          rw [ax, ay]
          exact hv k (by omega) a b
/-- the second part comes -/
theorem c_widen2 {N : Nat} (hw : W1 T o x) (hN : T.2.2.1 o 0 = nI N) (hl : N ≤ 7200) (hc : RC T) (hi : RI T) (hs : (T.2.1 x).1 = 101) (hg : g_X10_widenTo T o 2 = some T1) : ∃ y, U2 T1 o x y ∧ (T1.2.1 y).1 = 101 ∧ (∀ m k, m ≠ o ∨ k ≠ 2 → T1.2.2.1 m k = T.2.2.1 m k) ∧ (∀ m j, m ≠ o + 1 ∨ j ≠ 1 → T1.2.2.2.2 m j = T.2.2.2.2 m j) ∧ (∀ m k, m < T.1 → m ≠ x → m ≠ y → T1.2.2.2.1 m k = T.2.2.2.1 m k) ∧ ∀ k, k < N → 0 ≤ (T.2.2.2.1 x k).toInt → (T.2.2.2.1 x k).toInt < 268435456 → V2 T1 x y k (T.2.2.2.1 x k).toInt := by
  obtain ⟨h1, hx, hu⟩ := id hw
  unfold g_X10_widenTo at hg
  obtain ⟨-, hg⟩ := oif_some hg
  obtain ⟨v3, d3, hg⟩ := elet_some hg
  rw [hu] at d3
  rw [d3, show (16384 : Nat) = 16382 + 1 + 1 from rfl] at hg
  have fin : ∀ {U : AT} {y : Nat}, U.2.2.2.2 o 1 = some (o + 1) → U.2.2.2.2 (o + 1) 0 = some x → U.2.2.2.2 (o + 1) 1 = some y → x ≠ y → (U.2.1 y).1 = 101 → U.2.2.1 = T.2.2.1 → (∀ m j, m ≠ o + 1 ∨ j ≠ 1 → U.2.2.2.2 m j = T.2.2.2.2 m j) → (∀ m k, m < T.1 → U.2.2.2.1 m k = T.2.2.2.1 m k) → x < T.1 → g_X10_widenTo_b38 (g_X10_widenTo_b5 (16382 + 1)) U o 2 1 = some T1 → ∃ y, U2 T1 o x y ∧ (T1.2.1 y).1 = 101 ∧ (∀ m k, m ≠ o ∨ k ≠ 2 → T1.2.2.1 m k = T.2.2.1 m k) ∧ (∀ m j, m ≠ o + 1 ∨ j ≠ 1 → T1.2.2.2.2 m j = T.2.2.2.2 m j) ∧ (∀ m k, m < T.1 → m ≠ x → m ≠ y → T1.2.2.2.1 m k = T.2.2.2.1 m k) ∧ ∀ k, k < N → 0 ≤ (T.2.2.2.1 x k).toInt → (T.2.2.2.1 x k).toInt < 268435456 → V2 T1 x y k (T.2.2.2.1 x k).toInt := by
    intro U y u1 u2 u3 hxy us ui ur ul hxT h
    unfold g_X10_widenTo_b38 at h
    obtain ⟨T2, l2, o2, v2, h⟩ := c_w40 (T0 := U) u1 u2 u3 hxy (by rw [ui]; exact hN) hl 16384 0 (Nat.zero_le _) LQ.rf (fun _ _ _ _ => rfl) (fun _ _ => rfl) (fun k hk => absurd hk (Nat.not_lt_zero k)) h
    unfold g_X10_widenTo_b5 g_X10_widenTo_b108 at h
    rw [if_pos (by decide)] at h
    have e := osome1 h
    have ux : ∀ k, U.2.2.2.1 x k = T.2.2.2.1 x k := fun k => ul x k hxT
    refine ⟨y, ⟨?_, ?_, ?_, ?_, hxy⟩, ?_, fun m k hmk => ?_, fun m j hmj => ?_, fun m k hm hmx hmy => ?_, fun k hk a b => ?_⟩
    · rw [← e]; show T2.2.2.2.2 o 1 = _; rw [l2.2.2.2]; exact u1
    · rw [← e]; show T2.2.2.2.2 (o + 1) 0 = _; rw [l2.2.2.2]; exact u2
    · rw [← e]; show T2.2.2.2.2 (o + 1) 1 = _; rw [l2.2.2.2]; exact u3
    · rw [← e]; exact ui_at
    · rw [← e]; show (T2.2.1 y).1 = 101; rw [l2.2.1]; exact us
    · rw [← e, ui_ne hmk, l2.2.2.1, ui]
    · rw [← e]; show T2.2.2.2.2 m j = _; rw [l2.2.2.2]; exact ur m j hmj
    · rw [← e]; show T2.2.2.2.1 m k = _; rw [o2 m k hmx hmy, ul m k hm]
    · have q := v2 k hk (by rw [ux]; exact a) (by rw [ux]; exact b)
      rw [ux] at q
      rw [← e]
      exact q
  unfold g_X10_widenTo_b5 at hg
  rw [if_neg (by decide), if_neg (by decide)] at hg
  obtain ⟨-, hg⟩ := oif_some hg
  obtain ⟨n5, en, hg⟩ := obind_some hg
  rw [h1] at en
  cases en
  obtain ⟨-, hg⟩ := oif_some hg
  obtain ⟨-, hg⟩ := oif_some hg
  obtain ⟨n8, e8, hg⟩ := obind_some hg
  rw [show (1 : Int32).toNatClampNeg = 1 from rfl] at e8
  obtain ⟨g9, hg⟩ := oif_some hg
  obtain ⟨v10, d10, hg⟩ := elet_some hg
  have hxT := hc _ _ _ hx
  rcases oif_or hg with ⟨q, hg⟩ | ⟨q, hg⟩
  · obtain ⟨-, hg⟩ := oif_some hg
    obtain ⟨n13, en, hg⟩ := obind_some hg
    rw [h1] at en
    cases en
    obtain ⟨-, hg⟩ := oif_some hg
    obtain ⟨v15, d15, hg⟩ := elet_some hg
    obtain ⟨-, hg⟩ := oif_some hg
    obtain ⟨T17, e17, hg⟩ := elet_some hg
    unfold g_X10_widenTo_b37 at hg
    obtain ⟨-, hg⟩ := oif_some hg
    obtain ⟨-, hg⟩ := oif_some hg
    obtain ⟨g5, hg⟩ := oif_some hg
    obtain ⟨T5, e5, hg⟩ := elet_some hg
    rw [show (1 : Int32).toNatClampNeg = 1 from rfl] at e5
    have ur : ∀ m j, T5.2.2.2.2 m j = if m = o + 1 ∧ j = 1 then some T.1 else T.2.2.2.2 m j := by
      intro m j
      rw [e5, ur_get, e17]
      rfl
    refine fin (U := T5) (y := T.1) ?_ ?_ ?_ (by omega) (by rw [e5]; exact (aA_k g5).2.1) ?_ (fun m j hmj => ?_) (fun m k hm => ?_) hxT hg
    · rw [ur, if_neg (by omega)]; exact h1
    · rw [ur, if_neg (by omega)]; exact hx
    · rw [ur, if_pos ⟨rfl, rfl⟩]
    · rw [e5, e17]; rfl
    · rw [ur, if_neg (by omega)]
    · rw [e5, e17]
      show va_up T.2.2.2.1 T.1 (fun _ => 0) m k = _
      rw [va_up_ne _ _ (by omega)]
  · refine fin (U := T) (y := n8) h1 hx e8 (fun w => ?_) (aA_k g9).2.1 rfl (fun _ _ _ => rfl) (fun _ _ _ => rfl) hxT hg
    rw [← w] at e8
    have q := hi _ _ _ _ _ hx e8 hs
    exact absurd q.2 (by decide)
theorem c_widenS {v : Int32} (h : ¬ (T.2.2.1 o 2).toInt < v.toInt) (hg : g_X10_widenTo T o v = some T1) : T1 = T := by
  unfold g_X10_widenTo at hg
  obtain ⟨-, hg⟩ := oif_some hg
  obtain ⟨v3, d3, hg⟩ := elet_some hg
  rw [show (16384 : Nat) = 16383 + 1 from rfl] at hg
  unfold g_X10_widenTo_b5 g_X10_widenTo_b108 at hg
  rw [if_pos (Int32.le_iff_toInt_le.mpr (by rw [d3]; omega))] at hg
  exact (osome1 hg).symm
/-- a beam as a whole number -/
def bmS (A D : Nat → Int32) (n2 t : Nat) : Nat → Int
  | 0 => 0
  | m + 1 => bmS A D n2 t m + (if A (1 + m) = 0 ∧ t + (D m).toNatClampNeg < n2 then (A (13 + m)).toInt * (A (55 + 200 * m + (t + (D m).toNatClampNeg))).toInt else 0)
def SMr (A : Nat → Int32) (c4 n2 : Nat) : Prop := (∀ m, m < c4 → 0 ≤ (A (13 + m)).toInt ∧ (A (13 + m)).toInt ≤ 9) ∧ ∀ m u, m < c4 → u < n2 → -9999 ≤ (A (55 + 200 * m + u)).toInt ∧ (A (55 + 200 * m + u)).toInt ≤ 9999
theorem mul9 {w a : Int} (h0 : 0 ≤ w) (h1 : w ≤ 9) (a0 : -9999 ≤ a) (a1 : a ≤ 9999) : -89991 ≤ w * a ∧ w * a ≤ 89991 := by
  rcases (show w = 0 ∨ w = 1 ∨ w = 2 ∨ w = 3 ∨ w = 4 ∨ w = 5 ∨ w = 6 ∨ w = 7 ∨ w = 8 ∨ w = 9 by omega) with e | e | e | e | e | e | e | e | e | e <;> rw [e] <;> omega
theorem bm_rg (hr : SMr A c4 n2) {t : Nat} : ∀ m, m ≤ c4 → -(89991 * (m : Int)) ≤ bmS A D n2 t m ∧ bmS A D n2 t m ≤ 89991 * (m : Int) := by
  intro m
  induction m with
  | zero =>
    intro _
    refine ⟨?_, ?_⟩
    · show -(89991 * ((0 : Nat) : Int)) ≤ 0
      decide
    · show (0 : Int) ≤ 89991 * ((0 : Nat) : Int)
      decide
  | succ m ih =>
    intro hm
    have q := ih (by omega)
    show -(89991 * ((m + 1 : Nat) : Int)) ≤ bmS A D n2 t m + _ ∧ bmS A D n2 t m + _ ≤ 89991 * ((m + 1 : Nat) : Int)
    by_cases c : A (1 + m) = 0 ∧ t + (D m).toNatClampNeg < n2
    · rw [if_pos c]
      have a := hr.1 m (by omega)
      have b := hr.2 m (t + (D m).toNatClampNeg) (by omega) c.2
      have p := mul9 a.1 a.2 b.1 b.2
      generalize (A (13 + m)).toInt * (A (55 + 200 * m + (t + (D m).toNatClampNeg))).toInt = k at p ⊢
      omega
    · rw [if_neg c]
      omega
/-- the class's state d has what the row A has -/
def SVa (T : AT) (d xs : Nat) (P A : Nat → Int32) (c4 n2 : Nat) : Prop := T.2.2.1 d 0 = P 4 ∧ T.2.2.1 d 1 = P 2 ∧ (∀ m, m < c4 → T.2.2.1 (d + 1) m = A (1 + m) ∧ T.2.2.1 (d + 2) m = A (13 + m)) ∧ ∀ m u, m < c4 → u < n2 → T.2.2.2.1 xs (200 * m + u) = (A (55 + 200 * m + u)).toInt64
def DLs (T : AT) (dl : Nat) (D : Nat → Int32) (c4 : Nat) : Prop := ∀ m, m < c4 → T.2.2.1 dl m = D m ∧ 0 ≤ (D m).toInt ∧ (D m).toInt ≤ 65535
theorem c_weighted {t : Nat} {r : Int64} (hc : CRF T) (hd : d ∈ sds) (e4 : P 4 = nI c4) (l4 : c4 ≤ 12) (e2 : P 2 = nI n2) (l2 : n2 ≤ 200) (hS : SVa T d xs P A c4 n2) (hr : SMr A c4 n2) (hD : DLs T dl D c4) (ht : t < 200) (hg : g_X8_weighted T d xs dl (nI t) = some (r, T1)) : T1 = T ∧ r.toInt = bmS A D n2 t c4 := by
  obtain ⟨r3, r4, -⟩ := sd_rf hc hd
  obtain ⟨s0, s1, s2, s3⟩ := hS
  have tI : (nI t).toInt = (t : Int) := nI_toInt (by omega)
  have lp : ∀ (n m : Nat) {u : Int64}, m ≤ c4 → u.toInt = bmS A D n2 t m → g_X8_weighted_b6 n T d xs dl (nI t) u (nI m) = some (r, T1) → T1 = T ∧ r.toInt = bmS A D n2 t c4 := by
    intro n
    induction n with
    | zero => intro m u hm hu h; cases h
    | succ n ih =>
      intro m u hm hu h
      have mI : (nI m).toInt = (m : Int) := nI_toInt (by omega)
      have km : (nI m).toNatClampNeg = m := nI_clamp (by omega)
      have b70 : ∀ {w : Int64}, m < c4 → w.toInt = bmS A D n2 t (m + 1) → g_X8_weighted_b70 (g_X8_weighted_b6 n) T d xs dl (nI t) w (nI m) = some (r, T1) → T1 = T ∧ r.toInt = bmS A D n2 t c4 := by
        intro w hm hw h
        unfold g_X8_weighted_b70 at h
        obtain ⟨v2, d2, h⟩ := elet_some h
        rw [show v2 = nI (m + 1) from d2.trans (nI_p1 m)] at h
        exact ih (m + 1) (by omega) hw h
      unfold g_X8_weighted_b6 at h
      obtain ⟨-, h⟩ := oif_some h
      obtain ⟨v3, d3, h⟩ := elet_some h
      rw [s0, e4] at d3
      rcases oif_or h with ⟨q, h⟩ | ⟨q, h⟩
      · rw [d3] at q
        have q2 := (nI_leI (a := c4) (by omega) (by omega)).mp q
        rw [← (osome2 h).1, ← (osome2 h).2, hu, show m = c4 by omega]
        exact ⟨rfl, rfl⟩
      · rw [d3] at q
        have q2 : ¬ c4 ≤ m := fun z => q ((nI_leI (a := c4) (by omega) (by omega)).mpr z)
        obtain ⟨D1, D2, D3⟩ := hD m (by omega)
        obtain ⟨a1, a2⟩ := s2 m (by omega)
        have kD := i_cl D2
        have i2 : (nI n2).toInt = (n2 : Int) := nI_toInt (by omega)
        have z0 : (0 : Int32).toInt = 0 := by decide
        obtain ⟨-, h⟩ := oif_some h
        obtain ⟨-, h⟩ := oif_some h
        obtain ⟨v7, d7, h⟩ := elet_some h
        rw [km, D1] at d7
        obtain ⟨v8, d8, h⟩ := elet_some h
        have q7 : v7.toInt = (D m).toInt := by rw [d7]
        have q8 := i_add d8 (by omega) (by omega)
        obtain ⟨-, h⟩ := oif_some h
        obtain ⟨n10, en, h⟩ := obind_some h
        rw [r3] at en
        cases en
        obtain ⟨-, h⟩ := oif_some h
        obtain ⟨-, h⟩ := oif_some h
        obtain ⟨v13, d13, h⟩ := elet_some h
        rw [km, a1] at d13
        have no : ¬ (A (1 + m) = 0 ∧ t + (D m).toNatClampNeg < n2) → u.toInt = bmS A D n2 t (m + 1) := fun c => by
          show _ = bmS A D n2 t m + _
          rw [if_neg c, Int.add_zero]
          exact hu
        rcases oif_or h with ⟨c, h⟩ | ⟨c, h⟩
        · rcases oif_or h with ⟨c2, h⟩ | ⟨c2, h⟩
          · have c2 := i_lt c2
            omega
          · obtain ⟨-, h⟩ := oif_some h
            obtain ⟨v17, d17, h⟩ := elet_some h
            rw [s1, e2] at d17
            rcases oif_or h with ⟨c3, h⟩ | ⟨c3, h⟩
            · have c3 := i_le c3
              rw [d17] at c3
              exact b70 (by omega) (no (fun w => by have := w.2; omega)) h
            · have c3 := i_nle c3
              rw [d17] at c3
              obtain ⟨-, h⟩ := oif_some h
              obtain ⟨n20, en, h⟩ := obind_some h
              rw [r4] at en
              cases en
              obtain ⟨-, h⟩ := oif_some h
              obtain ⟨-, h⟩ := oif_some h
              obtain ⟨v23, d23, h⟩ := elet_some h
              rw [km, a2] at d23
              obtain ⟨v24, d24, h⟩ := elet_some h
              obtain ⟨r25, g25, h⟩ := obind_some h
              unfold g_X8_placeOf at g25
              obtain ⟨u2, h2, g25⟩ := elet_some g25
              obtain ⟨u3, h3, g25⟩ := elet_some g25
              have w8 : (nI (t + (D m).toNatClampNeg)).toInt = ((t + (D m).toNatClampNeg : Nat) : Int) := nI_toInt (by omega)
              have e8 : v8 = nI (t + (D m).toNatClampNeg) := Int32.toInt_inj.mp (by rw [q8, w8]; omega)
              have k25 : r25 = nI (200 * m + (t + (D m).toNatClampNeg)) := by
                rw [← osome1 g25, h3, h2, e8, Int32.mul_comm, ← nI_add (200 * m) (t + (D m).toNatClampNeg), ← nI_mulk]
                rfl
              obtain ⟨-, h⟩ := oif_some h
              obtain ⟨-, h⟩ := oif_some h
              obtain ⟨v29, d29, h⟩ := elet_some h
              rw [k25, nI_clamp (by omega), s3 m _ (by omega) (by omega)] at d29
              obtain ⟨v30, d30, h⟩ := elet_some h
              obtain ⟨v31, d31, h⟩ := elet_some h
              have a := hr.1 m (by omega)
              have b := hr.2 m (t + (D m).toNatClampNeg) (by omega) (by omega)
              have p := mul9 a.1 a.2 b.1 b.2
              have q24 : v24.toInt = (A (13 + m)).toInt := by rw [d24, Int32.toInt_toInt64, d23]
              have q29 : v29.toInt = (A (55 + 200 * m + (t + (D m).toNatClampNeg))).toInt := by rw [d29, Int32.toInt_toInt64]
              have q30 : v30.toInt = (A (13 + m)).toInt * (A (55 + 200 * m + (t + (D m).toNatClampNeg))).toInt := by
                rw [l_mul d30 (by rw [q24, q29]; omega) (by rw [q24, q29]; omega), q24, q29]
              have bm := bm_rg (D := D) hr (t := t) m (by omega)
              have q31 := l_add d31 (by omega) (by omega)
              refine b70 (by omega) ?_ h
              show _ = bmS A D n2 t m + _
              rw [if_pos ⟨d13.symm.trans c, by omega⟩, q31, hu, q30]
        · exact b70 (by omega) (no (fun w => c (d13.trans w.1))) h
  unfold g_X8_weighted at hg
  exact lp 16384 0 (Nat.zero_le _) (show (0 : Int64).toInt = 0 by decide) hg
/-- the beam at t, made in one part -/
theorem c_focus {t : Nat} (hc : CRF T) (hd : d ∈ sds) (e4 : P 4 = nI c4) (l4 : c4 ≤ 12) (e2 : P 2 = nI n2) (l2 : n2 ≤ 200) (hw : W1 T (d + 8) xs) (hS : SVa T d xs P A c4 n2) (hr : SMr A c4 n2) (hD : DLs T dl D c4) (hdl : dl < 242 ∨ 430 ≤ dl ∧ dl < 834) (ht : t < 200) (hb1 : T.2.2.2.2 (d + 51) 1 = some (d + 52)) (hb : T.2.2.2.2 (d + 52) 0 = some z) (hzx : z ≠ xs) (hg : g_X8_focus T d dl (nI t) = some T1) : (∃ w : Int64, w.toInt = bmS A D n2 t c4 ∧ T1 = uJ (uI T (d + 51) 2 1) z 0 w) ∧ W1 T1 (d + 51) z := by
  have si := sd_in hd
  obtain ⟨r3, r4, r5, r6, r7, r8, r9, r10, r11⟩ := sd_rf hc hd
  unfold g_X8_focus at hg
  obtain ⟨-, hg⟩ := oif_some hg
  obtain ⟨n3, en, hg⟩ := obind_some hg
  rw [r11] at en
  cases en
  obtain ⟨-, hg⟩ := oif_some hg
  obtain ⟨T5, g5, hg⟩ := obind_some hg
  unfold g_X10_narrow at g5
  obtain ⟨-, g5⟩ := oif_some g5
  obtain ⟨T3, e3, g5⟩ := elet_some g5
  have e5 : T5 = uI T (d + 51) 2 1 := by rw [← osome1 g5, e3]
  have hc5 : CRF T5 := crf_eq hc (by rw [e5]; rfl)
  have i5 : ∀ m k, m ≠ d + 51 → T5.2.2.1 m k = T.2.2.1 m k := fun m k h => by rw [e5]; exact ui_ne (.inl h)
  have f5 : T5.2.2.2.2 = T.2.2.2.2 := by rw [e5]; rfl
  have j5 : T5.2.2.2.1 = T.2.2.2.1 := by rw [e5]; rfl
  obtain ⟨-, hg⟩ := oif_some hg
  obtain ⟨n8, en, hg⟩ := obind_some hg
  rw [f5, r11] at en
  cases en
  obtain ⟨-, hg⟩ := oif_some hg
  obtain ⟨n10, en, hg⟩ := obind_some hg
  rw [f5, r10] at en
  cases en
  obtain ⟨-, hg⟩ := oif_some hg
  obtain ⟨v12, d12, hg⟩ := elet_some hg
  rw [i5 _ _ (by omega), hw.2.2] at d12
  obtain ⟨-, hg⟩ := oif_some hg
  obtain ⟨T14, g14, hg⟩ := obind_some hg
  have u5 : T5.2.2.1 (d + 51) 2 = 1 := by rw [e5]; exact ui_at
  have e14 := c_widenS (by rw [u5, d12]; decide) g14
  rw [e14] at hg
  unfold g_X8_focus_b21 at hg
  rw [show (16384 : Nat) = 16382 + 1 + 1 from rfl] at hg
  unfold g_X8_focus_b23 at hg
  obtain ⟨-, hg⟩ := oif_some hg
  obtain ⟨n3, en, hg⟩ := obind_some hg
  rw [f5, r10] at en
  cases en
  obtain ⟨-, hg⟩ := oif_some hg
  obtain ⟨w5, f5', hg⟩ := elet_some hg
  rw [i5 _ _ (by omega), hw.2.2] at f5'
  rw [if_neg (by rw [f5']; decide)] at hg
  obtain ⟨-, hg⟩ := oif_some hg
  obtain ⟨n13, en, hg⟩ := obind_some hg
  rw [f5, r11] at en
  cases en
  obtain ⟨-, hg⟩ := oif_some hg
  obtain ⟨n15, en, hg⟩ := obind_some hg
  rw [f5, hb1] at en
  cases en
  obtain ⟨-, hg⟩ := oif_some hg
  obtain ⟨-, hg⟩ := oif_some hg
  obtain ⟨n18, en, hg⟩ := obind_some hg
  rw [show (0 : Int32).toNatClampNeg = 0 from rfl, f5, hb] at en
  cases en
  obtain ⟨-, hg⟩ := oif_some hg
  obtain ⟨n20, en, hg⟩ := obind_some hg
  rw [f5, r10] at en
  cases en
  obtain ⟨-, hg⟩ := oif_some hg
  obtain ⟨n22, en, hg⟩ := obind_some hg
  rw [f5, hw.1] at en
  cases en
  obtain ⟨-, hg⟩ := oif_some hg
  obtain ⟨-, hg⟩ := oif_some hg
  obtain ⟨n25, en, hg⟩ := obind_some hg
  rw [show (0 : Int32).toNatClampNeg = 0 from rfl, f5, hw.2.1] at en
  cases en
  obtain ⟨-, hg⟩ := oif_some hg
  obtain ⟨r29, T27, g27, hg⟩ := obind2_some hg
  have S5 : SVa T5 d xs P A c4 n2 := ⟨by rw [i5 _ _ (by omega)]; exact hS.1, by rw [i5 _ _ (by omega)]; exact hS.2.1, fun m hm => by rw [i5 _ _ (by omega), i5 _ _ (by omega)]; exact hS.2.2.1 m hm, fun m u hm hu => by rw [j5]; exact hS.2.2.2 m u hm hu⟩
  have D5 : DLs T5 dl D c4 := fun m hm => by rw [i5 _ _ (by omega)]; exact hD m hm
  obtain ⟨e27, q27⟩ := c_weighted hc5 hd e4 l4 e2 l2 S5 hr D5 ht g27
  rw [e27] at hg
  obtain ⟨-, hg⟩ := oif_some hg
  obtain ⟨-, hg⟩ := oif_some hg
  obtain ⟨T33, e33, hg⟩ := elet_some hg
  rw [show (0 : Int32).toNatClampNeg = 0 from rfl] at e33
  have l33 : LQ T5 T33 := by rw [e33]; exact lq_uJ
  have w5 : W1 T5 (d + 51) z := ⟨by rw [f5]; exact hb1, by rw [f5]; exact hb, u5⟩
  obtain ⟨v34, d34, hg⟩ := elet_some hg
  unfold g_X8_focus_b23 at hg
  obtain ⟨-, hg⟩ := oif_some hg
  obtain ⟨n3, en, hg⟩ := obind_some hg
  rw [l33.2.2.2, f5, r10] at en
  cases en
  obtain ⟨-, hg⟩ := oif_some hg
  obtain ⟨y5, p5, hg⟩ := elet_some hg
  rw [l33.2.2.1, i5 _ _ (by omega), hw.2.2] at p5
  rw [if_pos (by rw [p5, d34]; decide)] at hg
  obtain ⟨-, hg⟩ := oif_some hg
  obtain ⟨n8, en, hg⟩ := obind_some hg
  rw [l33.2.2.2, f5, r11] at en
  cases en
  obtain ⟨-, hg⟩ := oif_some hg
  obtain ⟨T10, g10, hg⟩ := obind_some hg
  unfold g_X8_focus_b74 at hg
  have bm := bm_rg (D := D) hr (t := t) c4 (Nat.le_refl _)
  have e10 := c_settle1 (w5.lq l33) (by rw [show (0 : Int32).toNatClampNeg = 0 from rfl, e33, uj_get, if_pos ⟨rfl, rfl⟩]; omega) g10
  rw [← osome1 hg, e10]
  exact ⟨⟨r29, q27, by rw [e33, e5]⟩, w5.lq l33⟩
end
end
section
/-! 27i.power.lean.txt -/
/-! the class's powers as whole numbers -/
section
variable {T T1 T0 : AT} {P A : Nat → Int32} {o x y z d dl xs ro : Nat} {c4 n2 C : Nat} {D : Nat → Int32} {v : Nat → Int}
def mxS (A D : Nat → Int32) : Nat → Int
  | 0 => 0
  | m + 1 => if A (1 + m) = 0 then (if mxS A D m < (D m).toInt then (D m).toInt else mxS A D m) else mxS A D m
def wdS (A D : Nat → Int32) (n2 c4 : Nat) : Nat := ((n2 : Int) - mxS A D c4).toNat
def enS (A D : Nat → Int32) (n2 c4 : Nat) : Nat → Int
  | 0 => 0
  | t + 1 => enS A D n2 c4 t + bmS A D n2 t c4 * bmS A D n2 t c4
def pwS (A D : Nat → Int32) (n2 c4 : Nat) : Int := if wdS A D n2 c4 = 0 then 0 else enS A D n2 c4 (wdS A D n2 c4) / (wdS A D n2 c4 : Int)
theorem mx_rg (hD : ∀ m, m < c4 → 0 ≤ (D m).toInt ∧ (D m).toInt ≤ 65535) : ∀ m, m ≤ c4 → 0 ≤ mxS A D m ∧ mxS A D m ≤ 65535 := by
  intro m
  induction m with
  | zero =>
    intro _
    refine ⟨?_, ?_⟩
    · show (0 : Int) ≤ 0
      decide
    · show (0 : Int) ≤ 65535
      decide
  | succ m ih =>
    intro hm
    have q := ih (by omega)
    have p := hD m (by omega)
    show 0 ≤ (if A (1 + m) = 0 then (if mxS A D m < (D m).toInt then (D m).toInt else mxS A D m) else mxS A D m) ∧ (if A (1 + m) = 0 then (if mxS A D m < (D m).toInt then (D m).toInt else mxS A D m) else mxS A D m) ≤ 65535
    by_cases c : A (1 + m) = 0
    · rw [if_pos c]
      by_cases c2 : mxS A D m < (D m).toInt
      · rw [if_pos c2]; exact p
      · rw [if_neg c2]; exact q
    · rw [if_neg c]; exact q
theorem wd_le (hD : ∀ m, m < c4 → 0 ≤ (D m).toInt ∧ (D m).toInt ≤ 65535) : wdS A D n2 c4 ≤ n2 := by
  have q := mx_rg (A := A) hD c4 (Nat.le_refl _)
  unfold wdS
  omega
theorem sq_rg {b : Int} (h0 : -1079892 ≤ b) (h1 : b ≤ 1079892) : 0 ≤ b * b ∧ b * b ≤ 1166166731664 := by
  rcases Int.le_total 0 b with h | h
  · exact ⟨Int.mul_nonneg h h, Int.mul_le_mul h1 h1 h (by decide)⟩
  · have e : b * b = (-b) * (-b) := (Int.neg_mul_neg b b).symm
    rw [e]
    exact ⟨Int.mul_nonneg (by omega) (by omega), Int.mul_le_mul (by omega : -b ≤ 1079892) (by omega : -b ≤ 1079892) (by omega) (by decide)⟩
theorem en_rg (hr : SMr A c4 n2) (l4 : c4 ≤ 12) : ∀ t : Nat, 0 ≤ enS A D n2 c4 t ∧ enS A D n2 c4 t ≤ 1166166731664 * (t : Int) := by
  intro t
  induction t with
  | zero =>
    refine ⟨?_, ?_⟩
    · show (0 : Int) ≤ 0
      decide
    · show (0 : Int) ≤ 1166166731664 * ((0 : Nat) : Int)
      decide
  | succ t ih =>
    have b := bm_rg (D := D) hr (t := t) c4 (Nat.le_refl _)
    have s := sq_rg (b := bmS A D n2 t c4) (by omega) (by omega)
    show 0 ≤ enS A D n2 c4 t + _ ∧ enS A D n2 c4 t + _ ≤ 1166166731664 * ((t + 1 : Nat) : Int)
    generalize bmS A D n2 t c4 * bmS A D n2 t c4 = k at s ⊢
    omega
theorem c_mx {r : Int32} (hc : CRF T) (hd : d ∈ sds) (e4 : P 4 = nI c4) (l4 : c4 ≤ 12) (hS : SVa T d xs P A c4 n2) (hD : DLs T dl D c4) (hg : g_X8_greatestDelay T d dl = some (r, T1)) : T1 = T ∧ r.toInt = mxS A D c4 := by
  obtain ⟨r3, r4, -⟩ := sd_rf hc hd
  obtain ⟨s0, s1, s2, s3⟩ := hS
  have z0 : (0 : Int32).toInt = 0 := by decide
  have lp : ∀ (n m : Nat) {u : Int32}, m ≤ c4 → u.toInt = mxS A D m → g_X8_greatestDelay_b4 n T d dl u (nI m) = some (r, T1) → T1 = T ∧ r.toInt = mxS A D c4 := by
    intro n
    induction n with
    | zero => intro m u hm hu h; cases h
    | succ n ih =>
      intro m u hm hu h
      have km : (nI m).toNatClampNeg = m := nI_clamp (by omega)
      have b29 : ∀ {w : Int32}, m < c4 → w.toInt = mxS A D (m + 1) → g_X8_greatestDelay_b29 (g_X8_greatestDelay_b4 n) T d dl w (nI m) = some (r, T1) → T1 = T ∧ r.toInt = mxS A D c4 := by
        intro w hm hw h
        unfold g_X8_greatestDelay_b29 at h
        obtain ⟨v2, d2, h⟩ := elet_some h
        rw [show v2 = nI (m + 1) from d2.trans (nI_p1 m)] at h
        exact ih (m + 1) (by omega) hw h
      unfold g_X8_greatestDelay_b4 at h
      obtain ⟨-, h⟩ := oif_some h
      obtain ⟨v3, d3, h⟩ := elet_some h
      rw [s0, e4] at d3
      rcases oif_or h with ⟨q, h⟩ | ⟨q, h⟩
      · rw [d3] at q
        have q2 := (nI_leI (a := c4) (by omega) (by omega)).mp q
        rw [← (osome2 h).1, ← (osome2 h).2, hu, show m = c4 by omega]
        exact ⟨rfl, rfl⟩
      · rw [d3] at q
        have q2 : ¬ c4 ≤ m := fun z => q ((nI_leI (a := c4) (by omega) (by omega)).mpr z)
        obtain ⟨D1, -⟩ := hD m (by omega)
        obtain ⟨a1, -⟩ := s2 m (by omega)
        obtain ⟨-, h⟩ := oif_some h
        obtain ⟨n6, en, h⟩ := obind_some h
        rw [r3] at en
        cases en
        obtain ⟨-, h⟩ := oif_some h
        obtain ⟨-, h⟩ := oif_some h
        obtain ⟨v9, d9, h⟩ := elet_some h
        rw [km, a1] at d9
        rcases oif_or h with ⟨c, h⟩ | ⟨c, h⟩
        · obtain ⟨-, h⟩ := oif_some h
          obtain ⟨-, h⟩ := oif_some h
          obtain ⟨v13, d13, h⟩ := elet_some h
          rw [km, D1] at d13
          obtain ⟨v14, d14, h⟩ := elet_some h
          refine b29 (by omega) ?_ h
          show _ = if A (1 + m) = 0 then (if mxS A D m < (D m).toInt then (D m).toInt else mxS A D m) else mxS A D m
          rw [if_pos (d9.symm.trans c), d14, d13]
          by_cases c2 : u < D m
          · have c3 := i_lt c2
            rw [if_pos c2, if_pos (by omega)]
          · have c3 := i_nlt c2
            rw [if_neg c2, if_neg (by omega), hu]
        · refine b29 (by omega) ?_ h
          show _ = if A (1 + m) = 0 then (if mxS A D m < (D m).toInt then (D m).toInt else mxS A D m) else mxS A D m
          rw [if_neg (fun w => c (d9.trans w)), hu]
  unfold g_X8_greatestDelay at hg
  exact lp 16384 0 (Nat.zero_le _) z0 hg
theorem c_wnd {r : Int32} (hc : CRF T) (hd : d ∈ sds) (e4 : P 4 = nI c4) (l4 : c4 ≤ 12) (e2 : P 2 = nI n2) (l2 : n2 ≤ 200) (hS : SVa T d xs P A c4 n2) (hD : DLs T dl D c4) (hg : g_X8_windowOf T d dl = some (r, T1)) : T1 = T ∧ r = nI (wdS A D n2 c4) := by
  have i2 : (nI n2).toInt = (n2 : Int) := nI_toInt (by omega)
  have z0 : (0 : Int32).toInt = 0 := by decide
  have mr := mx_rg (A := A) (fun m hm => (hD m hm).2) c4 (Nat.le_refl _)
  unfold g_X8_windowOf at hg
  obtain ⟨-, hg⟩ := oif_some hg
  obtain ⟨v3, d3, hg⟩ := elet_some hg
  rw [hS.2.1, e2] at d3
  obtain ⟨-, hg⟩ := oif_some hg
  obtain ⟨r7, T5, g5, hg⟩ := obind2_some hg
  obtain ⟨e5, q5⟩ := c_mx hc hd e4 l4 hS hD g5
  obtain ⟨v9, d9, hg⟩ := elet_some hg
  have q3 : v3.toInt = (n2 : Int) := by rw [d3]; exact i2
  have q9 := i_sub d9 (by omega) (by omega)
  obtain ⟨v10, d10, hg⟩ := elet_some hg
  rw [← (osome2 hg).1, ← (osome2 hg).2, e5, d10]
  refine ⟨rfl, Int32.toInt_inj.mp ?_⟩
  have wl := wd_le (A := A) (n2 := n2) (fun m hm => (hD m hm).2)
  rw [nI_toInt (by omega)]
  unfold wdS
  by_cases c : v9 < 0
  · have c2 := i_lt c
    rw [if_pos c]
    omega
  · have c2 := i_nlt c
    rw [if_neg c]
    omega
/-- what the sums of a state need of the class's cells: out o with first row x, samples' row xs, beam's row z -/
def BN (T : AT) (d xs z o x : Nat) (P A : Nat → Int32) (c4 n2 : Nat) : Prop := (IV aR0 1586 aK1 aK2 T ∧ CRF T ∧ RC T ∧ RI T) ∧ (W1 T (d + 8) xs ∧ SVa T d xs P A c4 n2) ∧ (T.2.2.2.2 (d + 51) 1 = some (d + 52) ∧ T.2.2.2.2 (d + 52) 0 = some z ∧ T.2.2.2.2 o 1 = some (o + 1) ∧ T.2.2.2.2 (o + 1) 0 = some x) ∧ ((T.2.1 xs).1 = 101 ∧ (T.2.1 z).1 = 101 ∧ (T.2.1 x).1 = 101)
theorem BN.ne (h : BN T d xs z o x P A c4 n2) (h1 : o ≠ d + 8) (h2 : o ≠ d + 51) : z ≠ xs ∧ x ≠ xs ∧ x ≠ z := by
  obtain ⟨⟨-, -, -, ri⟩, ⟨⟨w1, w2, -⟩, -⟩, ⟨b1, b2, o1, o2⟩, s1, s2, s3⟩ := h
  refine ⟨fun e => ?_, fun e => ?_, fun e => ?_⟩
  · rw [e] at b2
    have := ri _ _ _ _ _ b2 w2 s1
    omega
  · rw [e] at o2
    have := ri _ _ _ _ _ o2 w2 s1
    omega
  · rw [e] at o2
    have := ri _ _ _ _ _ o2 b2 s2
    omega
/-- the numbers below C are v: in one part, or in two -/
def RGU (T : AT) (o x C : Nat) (v : Nat → Int) : Prop := ∃ y, U2 T o x y ∧ (T.2.1 y).1 = 101 ∧ ∀ c, c < C → V2 T x y c (v c)
def RG (T : AT) (o x C : Nat) (v : Nat → Int) : Prop := (W1 T o x ∧ ∀ c, c < C → (T.2.2.2.1 x c).toInt = v c ∧ 0 ≤ v c ∧ v c < 268435456) ∨ RGU T o x C v
/-- but for the tables o and b (how many parts) and rows that change, T1 is T -/
def FQ (T T1 : AT) (o b : Nat) : Prop := (∀ m k, m ≠ o → m ≠ b → T1.2.2.1 m k = T.2.2.1 m k) ∧ (∀ m j, m ≠ o + 1 → T1.2.2.2.2 m j = T.2.2.2.2 m j) ∧ (∀ m, m < T.1 → T1.2.1 m = T.2.1 m) ∧ T.1 ≤ T1.1
theorem FQ.rf {b : Nat} : FQ T T o b := ⟨fun _ _ _ _ => rfl, fun _ _ _ => rfl, fun _ _ => rfl, Nat.le_refl _⟩
theorem FQ.tr {b : Nat} (h : FQ T0 T o b) (k : FQ T T1 o b) : FQ T0 T1 o b := ⟨fun m j a c => (k.1 m j a c).trans (h.1 m j a c), fun m j a => (k.2.1 m j a).trans (h.2.1 m j a), fun m a => (k.2.2.1 m (Nat.lt_of_lt_of_le a h.2.2.2)).trans (h.2.2.1 m a), Nat.le_trans h.2.2.2 k.2.2.2⟩
theorem fq_lq {b : Nat} (h : LQ T T1) : FQ T T1 o b := ⟨fun m k _ _ => by rw [h.2.2.1], fun m j _ => by rw [h.2.2.2], fun m _ => by rw [h.2.1], Nat.le_of_eq h.1.symm⟩
/-- the bundle goes on -/
theorem BN.go (h : BN T d xs z o x P A c4 n2) (h1 : o ≠ d + 8) (hod : o < d ∨ d + 94 ≤ o) (f : FQ T T1 o (d + 51)) (hV : IV aR0 1586 aK1 aK2 T1) (hc : CRF T1) (hrc : RC T1) (hri : RI T1) (hx : T1.2.2.2.2 (o + 1) 0 = some x) (hl : ∀ k, T1.2.2.2.1 xs k = T.2.2.2.1 xs k) : BN T1 d xs z o x P A c4 n2 := by
  obtain ⟨⟨-, -, rc, ri⟩, ⟨⟨w1, w2, w3⟩, s0, s1, s2, s3⟩, ⟨b1, b2, o1, o2⟩, t1, t2, t3⟩ := h
  obtain ⟨f1, f2, f3, f4⟩ := f
  refine ⟨⟨hV, hc, hrc, hri⟩, ⟨⟨?_, ?_, ?_⟩, ?_, ?_, fun m hm => ?_, fun m u hm hu => ?_⟩, ⟨?_, ?_, ?_, hx⟩, ?_, ?_, ?_⟩
  · rw [f2 _ _ (by omega)]; exact w1
  · rw [f2 _ _ (by omega)]; exact w2
  · rw [f1 _ _ (by omega) (by omega)]; exact w3
  · rw [f1 _ _ (by omega) (by omega)]; exact s0
  · rw [f1 _ _ (by omega) (by omega)]; exact s1
  · rw [f1 _ _ (by omega) (by omega), f1 _ _ (by omega) (by omega)]; exact s2 m hm
  · rw [hl]; exact s3 m u hm hu
  · rw [f2 _ _ (by omega)]; exact b1
  · rw [f2 _ _ (by omega)]; exact b2
  · rw [f2 _ _ (by omega)]; exact o1
  · rw [f3 _ (rc _ _ _ w2)]; exact t1
  · rw [f3 _ (rc _ _ _ b2)]; exact t2
  · rw [f3 _ (rc _ _ _ o2)]; exact t3
end
end
section
/-! 27j.block.lean.txt -/
/-! the class's power of a cell: number C of a table -/
section
variable {T T1 T0 : AT} {P A : Nat → Int32} {o x y z d dl xs ro : Nat} {c4 n2 C : Nat} {D : Nat → Int32} {v : Nat → Int}
theorem dls_fq {b : Nat} (h : FQ T T1 o b) (h1 : dl ≠ o) (h2 : dl ≠ b) (hD : DLs T dl D c4) : DLs T1 dl D c4 := fun m hm => by
  rw [h.1 _ _ h1 h2]
  exact hD m hm
theorem RG.cg {v1 : Nat → Int} (h : RG T o x C v) (e : ∀ c, c < C → v1 c = v c) : RG T o x C v1 := by
  rcases h with ⟨a, b⟩ | ⟨y, a, b, c⟩
  · exact .inl ⟨a, fun c hc => by rw [e c hc]; exact b c hc⟩
  · exact .inr ⟨y, a, b, fun k hk => by rw [e k hk]; exact c k hk⟩
theorem RGU.cg {v1 : Nat → Int} (h : RGU T o x C v) (e : ∀ c, c < C → v1 c = v c) : RGU T o x C v1 := by
  obtain ⟨y, a, b, c⟩ := h
  exact ⟨y, a, b, fun k hk => by rw [e k hk]; exact c k hk⟩
end
end
section
/-! 27l.meas.lean.txt -/
/-! the class measures all cells: the best cell -/
section
variable {T T1 T0 : AT} {P A : Nat → Int32} {o x y z d xs ro s po : Nat} {c4 n2 C c r N : Nat} {v : Nat → Int} {D : Nat → Nat → Int32}
set_option maxRecDepth 100000 in
theorem sdw_dec : sds.all (fun d => okc (d + 8) && okc (d + 51) && decide ((arf (d + 8)).getD 1 none = some (d + 9)) && decide ((arf (d + 51)).getD 1 none = some (d + 52))) = true := by decide +kernel
theorem sdw_rf (hc : CRF T) (hd : d ∈ sds) : T.2.2.2.2 (d + 8) 1 = some (d + 9) ∧ T.2.2.2.2 (d + 51) 1 = some (d + 52) := by
  have q := List.all_eq_true.mp sdw_dec d hd
  simp only [Bool.and_eq_true, decide_eq_true_eq] at q
  obtain ⟨⟨⟨q0, q1⟩, q2⟩, q3⟩ := q
  exact ⟨(hc.at _ q0 _).trans q2, (hc.at _ q1 _).trans q3⟩
/-- the first row of a table -/
theorem w_row0 (hV : IV aR0 1586 aK1 aK2 T) (ho : aR0 o = ro) (hro : isW ro = true) {q : Nat} (e : T.2.2.2.2 o 1 = some q) : ∃ x, T.2.2.2.2 q 0 = some x ∧ (T.2.1 x).1 = 101 := by
  have w := isW_f hro
  have hs := iv_sta hV ho w.1.1.1 w.1.1.2
  have u := w_used hV ho hro
  obtain ⟨x, x1, x2⟩ := hV.2.2.2.2.1 o hs (by rw [ho]; exact hro) q e 0 (by omega)
  exact ⟨x, x1, by rw [x2]⟩
end
end
section
/-! 27m.rpow.lean.txt -/
/-! the reference's powers and best cell as whole numbers -/
section
variable {S S1 : MS} {D : Nat → Int32} {c4 n2 : Nat}
theorem r_hears_14 {m : Nat} {r : Int32} (hm : m < 12) (hf : fr_hears_14 S (nI m) = some (r, S1)) : S1 = S ∧ (S.2.1 14 (1 + m) = 0 ∧ ¬ r = 0 ∨ ¬ S.2.1 14 (1 + m) = 0 ∧ r = 0) := by
  have mI : (nI m).toInt = (m : Int) := nI_toInt (by omega)
  have km : (nI m).toNatClampNeg = m := nI_clamp (by omega)
  unfold fr_hears_14 fr_hears_14_b13 at hf
  obtain ⟨v2, d2, hf⟩ := elet_some hf
  obtain ⟨-, hf⟩ := oif_some hf
  obtain ⟨v4, d4, hf⟩ := elet_some hf
  rw [d2, cl_off (n := 1) (by decide) (by decide) (by omega) (by omega), km] at d4
  rcases oif_or hf with ⟨c, hf⟩ | ⟨c, hf⟩
  · obtain ⟨-, hf⟩ := oif_some hf
    rw [← (osome2 hf).1, ← (osome2 hf).2]
    exact ⟨rfl, .inl ⟨d4.symm.trans c, by decide⟩⟩
  · obtain ⟨-, hf⟩ := oif_some hf
    rw [← (osome2 hf).1, ← (osome2 hf).2]
    exact ⟨rfl, .inr ⟨fun w => c (d4.trans w), rfl⟩⟩
theorem r_beam_14 {t : Nat} {r : Int32} (e4 : S.2.1 10 4 = nI c4) (l4 : c4 ≤ 12) (e2 : S.2.1 10 2 = nI n2) (l2 : n2 ≤ 200) (hr : SMr (S.2.1 14) c4 n2) (hD : ∀ m, m < c4 → S.2.1 24 m = D m ∧ 0 ≤ (D m).toInt ∧ (D m).toInt ≤ 65535) (ht : t < 200) (hf : fr_beamAt_14 S (nI t) = some (r, S1)) : S1 = S ∧ r.toInt = bmS (S.2.1 14) D n2 t c4 := by
  have tI : (nI t).toInt = (t : Int) := nI_toInt (by omega)
  have i2 : (nI n2).toInt = (n2 : Int) := nI_toInt (by omega)
  have z0 : (0 : Int32).toInt = 0 := by decide
  have lp : ∀ (n m : Nat) {u : Int32}, m ≤ c4 → u.toInt = bmS (S.2.1 14) D n2 t m → fr_beamAt_14_b5 n S (nI t) u (nI m) = some (r, S1) → S1 = S ∧ r.toInt = bmS (S.2.1 14) D n2 t c4 := by
    intro n
    induction n with
    | zero => intro m u hm hu h; cases h
    | succ n ih =>
      intro m u hm hu h
      have mI : (nI m).toInt = (m : Int) := nI_toInt (by omega)
      have km : (nI m).toNatClampNeg = m := nI_clamp (by omega)
      have bm := bm_rg (D := D) hr (t := t) m hm
      have b78 : ∀ {w : Int32}, m < c4 → -89991 ≤ w.toInt ∧ w.toInt ≤ 89991 → u.toInt + w.toInt = bmS (S.2.1 14) D n2 t (m + 1) → fr_beamAt_14_b78 (fr_beamAt_14_b5 n) S w u (nI t) (nI m) = some (r, S1) → S1 = S ∧ r.toInt = bmS (S.2.1 14) D n2 t c4 := by
        intro w hm wr hw h
        unfold fr_beamAt_14_b78 at h
        obtain ⟨v2, d2, h⟩ := elet_some h
        obtain ⟨v3, d3, h⟩ := elet_some h
        rw [show v3 = nI (m + 1) from d3.trans (nI_p1 m)] at h
        have q2 := i_add d2 (by omega) (by omega)
        exact ih (m + 1) (by omega) (by rw [q2]; exact hw) h
      have no : m < c4 → ¬ (S.2.1 14 (1 + m) = 0 ∧ t + (D m).toNatClampNeg < n2) → fr_beamAt_14_b77 (fr_beamAt_14_b5 n) S u (nI t) (nI m) = some (r, S1) → S1 = S ∧ r.toInt = bmS (S.2.1 14) D n2 t c4 := by
        intro hm c h
        unfold fr_beamAt_14_b77 at h
        refine b78 hm (by decide) ?_ h
        show _ = bmS (S.2.1 14) D n2 t m + _
        rw [if_neg c, z0, hu]
      unfold fr_beamAt_14_b5 at h
      obtain ⟨v2, d2, h⟩ := elet_some h
      rw [e4] at d2
      rcases oif_or h with ⟨q, h⟩ | ⟨q, h⟩
      · rw [d2] at q
        have q2 := (nI_leI (a := c4) (by omega) (by omega)).mp q
        rw [← (osome2 h).1, ← (osome2 h).2, hu, show m = c4 by omega]
        exact ⟨rfl, rfl⟩
      · rw [d2] at q
        have q2 : ¬ c4 ≤ m := fun z => q ((nI_leI (a := c4) (by omega) (by omega)).mpr z)
        obtain ⟨D1, D2, D3⟩ := hD m (by omega)
        have kD := i_cl D2
        obtain ⟨r7, S4, f4, h⟩ := obind2_some h
        obtain ⟨e4', q4⟩ := r_hears_14 (by omega) f4
        rw [e4'] at h
        rcases oif_or h with ⟨c, h⟩ | ⟨c, h⟩
        · rcases q4 with ⟨-, w⟩ | ⟨w, -⟩
          · exact absurd c w
          · exact no (by omega) (fun y => w y.1) h
        · have act : S.2.1 14 (1 + m) = 0 := by
            rcases q4 with ⟨w, -⟩ | ⟨-, w⟩
            · exact w
            · exact absurd w c
          obtain ⟨-, h⟩ := oif_some h
          obtain ⟨v10, d10, h⟩ := elet_some h
          rw [km, D1] at d10
          obtain ⟨v11, d11, h⟩ := elet_some h
          have q10 : v10.toInt = (D m).toInt := by rw [d10]
          have q11 := i_add d11 (by omega) (by omega)
          obtain ⟨v12, d12, h⟩ := elet_some h
          rw [e2] at d12
          have q12 : v12.toInt = (n2 : Int) := by rw [d12]; exact i2
          rcases oif_or h with ⟨c2, h⟩ | ⟨c2, h⟩
          · have c2 := i_le c2
            exact no (by omega) (fun y => by have := y.2; omega) h
          · have c2 := i_nle c2
            obtain ⟨v14, d14, h⟩ := elet_some h
            obtain ⟨-, h⟩ := oif_some h
            obtain ⟨v16, d16, h⟩ := elet_some h
            rw [d14, cl_off (n := 13) (by decide) (by decide) (by omega) (by omega), km] at d16
            obtain ⟨v17, d17, h⟩ := elet_some h
            obtain ⟨v18, d18, h⟩ := elet_some h
            obtain ⟨v19, d19, h⟩ := elet_some h
            obtain ⟨-, h⟩ := oif_some h
            obtain ⟨v21, d21, h⟩ := elet_some h
            rw [km, D1] at d21
            obtain ⟨v22, d22, h⟩ := elet_some h
            obtain ⟨-, h⟩ := oif_some h
            obtain ⟨v24, d24, h⟩ := elet_some h
            have eD : D m = nI (D m).toNatClampNeg := Int32.toInt_inj.mp (by rw [nI_toInt (by omega)]; omega)
            have k22 : v22 = nI (55 + 200 * m + (t + (D m).toNatClampNeg)) := by
              have a : v22 = nI (55 + 200 * m + t + (D m).toNatClampNeg) := by
                rw [d22, d21, d19, d18, d17, ← nI_add, ← nI_add, ← nI_add, ← nI_mulk, ← eD]
                rfl
              rw [a, Nat.add_assoc (55 + 200 * m)]
            rw [k22, nI_clamp (by omega)] at d24
            obtain ⟨v25, d25, h⟩ := elet_some h
            have a := hr.1 m (by omega)
            have b := hr.2 m (t + (D m).toNatClampNeg) (by omega) (by omega)
            have p := mul9 a.1 a.2 b.1 b.2
            have q25 : v25.toInt = (S.2.1 14 (13 + m)).toInt * (S.2.1 14 (55 + 200 * m + (t + (D m).toNatClampNeg))).toInt := by
              rw [d25, d24, d16, Int32.toInt_mul, bm32 (by omega) (by omega)]
            refine b78 (by omega) (by rw [q25]; exact p) ?_ h
            show _ = bmS (S.2.1 14) D n2 t m + _
            rw [if_pos ⟨act, by omega⟩, hu, q25]
  unfold fr_beamAt_14 at hf
  exact lp 16384 0 (Nat.zero_le _) z0 hf
theorem r_wnd_14 {r : Int32} (e4 : S.2.1 10 4 = nI c4) (l4 : c4 ≤ 12) (e2 : S.2.1 10 2 = nI n2) (l2 : n2 ≤ 200) (hD : ∀ m, m < c4 → S.2.1 24 m = D m ∧ 0 ≤ (D m).toInt ∧ (D m).toInt ≤ 65535) (hf : fr_windowOf_14 S = some (r, S1)) : S1 = S ∧ r = nI (wdS (S.2.1 14) D n2 c4) := by
  have i2 : (nI n2).toInt = (n2 : Int) := nI_toInt (by omega)
  have z0 : (0 : Int32).toInt = 0 := by decide
  have mr := mx_rg (A := S.2.1 14) (fun m hm => (hD m hm).2) c4 (Nat.le_refl _)
  have wl := wd_le (A := S.2.1 14) (n2 := n2) (fun m hm => (hD m hm).2)
  have lp : ∀ (n m : Nat) {u : Int32}, m ≤ c4 → u.toInt = mxS (S.2.1 14) D m → fr_windowOf_14_b4 n S u (nI m) = some (r, S1) → S1 = S ∧ r = nI (wdS (S.2.1 14) D n2 c4) := by
    intro n
    induction n with
    | zero => intro m u hm hu h; cases h
    | succ n ih =>
      intro m u hm hu h
      have km : (nI m).toNatClampNeg = m := nI_clamp (by omega)
      have b37 : ∀ {w : Int32}, m < c4 → w.toInt = mxS (S.2.1 14) D (m + 1) → fr_windowOf_14_b37 (fr_windowOf_14_b4 n) S w (nI m) = some (r, S1) → S1 = S ∧ r = nI (wdS (S.2.1 14) D n2 c4) := by
        intro w hm hw h
        unfold fr_windowOf_14_b37 at h
        obtain ⟨v2, d2, h⟩ := elet_some h
        rw [show v2 = nI (m + 1) from d2.trans (nI_p1 m)] at h
        exact ih (m + 1) (by omega) hw h
      unfold fr_windowOf_14_b4 at h
      obtain ⟨v2, d2, h⟩ := elet_some h
      rw [e4] at d2
      rcases oif_or h with ⟨q, h⟩ | ⟨q, h⟩
      · rw [d2] at q
        have q2 := (nI_leI (a := c4) (by omega) (by omega)).mp q
        have em : m = c4 := by omega
        rw [em] at hu
        obtain ⟨v4, d4, h⟩ := elet_some h
        obtain ⟨v5, d5, h⟩ := elet_some h
        obtain ⟨v6, d6, h⟩ := elet_some h
        rw [e2] at d4
        have q4 : v4.toInt = (n2 : Int) := by rw [d4]; exact i2
        have q5 := i_sub d5 (by omega) (by omega)
        rw [← (osome2 h).1, ← (osome2 h).2, d6]
        refine ⟨rfl, Int32.toInt_inj.mp ?_⟩
        rw [nI_toInt (by omega)]
        unfold wdS
        by_cases c : 0 < v5
        · have c2 := i_lt c
          rw [if_pos c]
          omega
        · have c2 := i_nlt c
          rw [if_neg c]
          omega
      · rw [d2] at q
        have q2 : ¬ c4 ≤ m := fun z => q ((nI_leI (a := c4) (by omega) (by omega)).mpr z)
        obtain ⟨D1, -⟩ := hD m (by omega)
        obtain ⟨r10, S7, f7, h⟩ := obind2_some h
        obtain ⟨e7, q7⟩ := r_hears_14 (by omega) f7
        rw [e7] at h
        rcases oif_or h with ⟨c, h⟩ | ⟨c, h⟩
        · refine b37 (by omega) ?_ h
          show _ = if S.2.1 14 (1 + m) = 0 then (if mxS (S.2.1 14) D m < (D m).toInt then (D m).toInt else mxS (S.2.1 14) D m) else mxS (S.2.1 14) D m
          rcases q7 with ⟨-, w⟩ | ⟨w, -⟩
          · exact absurd c w
          · rw [if_neg w, hu]
        · obtain ⟨-, h⟩ := oif_some h
          obtain ⟨v13, d13, h⟩ := elet_some h
          rw [km, D1] at d13
          obtain ⟨v14, d14, h⟩ := elet_some h
          refine b37 (by omega) ?_ h
          show _ = if S.2.1 14 (1 + m) = 0 then (if mxS (S.2.1 14) D m < (D m).toInt then (D m).toInt else mxS (S.2.1 14) D m) else mxS (S.2.1 14) D m
          rcases q7 with ⟨w, -⟩ | ⟨-, w⟩
          · rw [if_pos w, d14, d13]
            by_cases c2 : u < D m
            · have c3 := i_lt c2
              rw [if_pos c2, if_pos (by omega)]
            · have c3 := i_nlt c2
              rw [if_neg c2, if_neg (by omega), hu]
          · exact absurd w c
  unfold fr_windowOf_14 at hf
  exact lp 16384 0 (Nat.zero_le _) z0 hf
theorem r_pow_14 {r : Int64} (e4 : S.2.1 10 4 = nI c4) (l4 : c4 ≤ 12) (e2 : S.2.1 10 2 = nI n2) (l2 : n2 ≤ 200) (hr : SMr (S.2.1 14) c4 n2) (hD : ∀ m, m < c4 → S.2.1 24 m = D m ∧ 0 ≤ (D m).toInt ∧ (D m).toInt ≤ 65535) (hf : fr_powerHere_14 S = some (r, S1)) : S1 = S ∧ r.toInt = pwS (S.2.1 14) D n2 c4 := by
  have wl := wd_le (A := S.2.1 14) (n2 := n2) (fun m hm => (hD m hm).2)
  have z0 : (0 : Int64).toInt = 0 := by decide
  unfold fr_powerHere_14 fr_powerHere_14_b24 at hf
  obtain ⟨r5, S2, f2, hf⟩ := obind2_some hf
  obtain ⟨e5, q5⟩ := r_wnd_14 e4 l4 e2 l2 hD f2
  rw [e5] at hf
  unfold pwS
  generalize wdS (S.2.1 14) D n2 c4 = W at wl q5 ⊢
  have WI : (nI W).toInt = (W : Int) := nI_toInt (by omega)
  have y0 : (0 : Int32).toInt = 0 := by decide
  rcases oif_or hf with ⟨c, hf⟩ | ⟨c, hf⟩
  · have w0 : W = 0 := by
      have := congrArg Int32.toInt (q5.symm.trans c)
      omega
    rw [if_pos w0, ← (osome2 hf).1, ← (osome2 hf).2]
    exact ⟨rfl, z0⟩
  · have w0 : ¬ W = 0 := fun w => c (by rw [q5, w]; rfl)
    rw [if_neg w0]
    obtain ⟨r10, S7, f7, hf⟩ := obind2_some hf
    have lp : ∀ (n t : Nat) {u : Int64}, t ≤ W → u.toInt = enS (S.2.1 14) D n2 c4 t → fr_energy_14_b6 n S (nI W) u (nI t) = some (r10, S7) → S7 = S ∧ r10.toInt = enS (S.2.1 14) D n2 c4 W := by
      intro n
      induction n with
      | zero => intro t u ht hu h; cases h
      | succ n ih =>
        intro t u ht hu h
        have en := en_rg (D := D) hr l4 t
        unfold fr_energy_14_b6 at h
        rcases oif_or h with ⟨q, h⟩ | ⟨q, h⟩
        · have q2 := (nI_leI (a := W) (by omega) (by omega)).mp q
          rw [← (osome2 h).1, ← (osome2 h).2, hu, show t = W by omega]
          exact ⟨rfl, rfl⟩
        · have q2 : ¬ W ≤ t := fun z => q ((nI_leI (a := W) (by omega) (by omega)).mpr z)
          obtain ⟨r6, S3, f3, h⟩ := obind2_some h
          obtain ⟨e3, q3⟩ := r_beam_14 e4 l4 e2 l2 hr hD (by omega) f3
          rw [e3] at h
          obtain ⟨v7, d7, h⟩ := elet_some h
          obtain ⟨v8, d8, h⟩ := elet_some h
          obtain ⟨v9, d9, h⟩ := elet_some h
          obtain ⟨v10, d10, h⟩ := elet_some h
          rw [show v10 = nI (t + 1) from d10.trans (nI_p1 t)] at h
          have bm := bm_rg (D := D) hr (t := t) c4 (Nat.le_refl _)
          have sq := sq_rg (b := bmS (S.2.1 14) D n2 t c4) (by omega) (by omega)
          have q7 : v7.toInt = bmS (S.2.1 14) D n2 t c4 := by rw [d7, Int32.toInt_toInt64, q3]
          have q8 : v8.toInt = bmS (S.2.1 14) D n2 t c4 * bmS (S.2.1 14) D n2 t c4 := by
            rw [l_mul d8 (by rw [q7]; omega) (by rw [q7]; omega), q7]
          have q9 := l_add d9 (by omega) (by omega)
          refine ih (t + 1) (by omega) ?_ h
          rw [q9, hu, q8]
          rfl
    unfold fr_energy_14 at f7
    rw [q5] at f7
    obtain ⟨e7, q7⟩ := lp 16384 0 (Nat.zero_le _) z0 f7
    rw [e7] at hf
    obtain ⟨v11, d11, hf⟩ := elet_some hf
    obtain ⟨-, hf⟩ := oif_some hf
    obtain ⟨v13, d13, hf⟩ := elet_some hf
    have en := en_rg (D := D) hr l4 W
    have q11 : v11.toInt = (W : Int) := by rw [d11, Int32.toInt_toInt64, q5, WI]
    rw [← (osome2 hf).1, ← (osome2 hf).2, d13, l_div (by omega) (by omega), q7, q11]
    exact ⟨rfl, rfl⟩
end
end
section
/-! 27n.alike.lean.txt -/
/-! what is recorded is alike in both *-/
section
variable {T T1 : AT} {S S1 : MS} {P A : Nat → Int32} {s d xs : Nat} {c4 n2 c5 c71 c77 : Nat}
theorem rw_pt {pt pp u : Int32} {m : Nat} (h : ¬ pt = -1) : rwS P A pt pp m u = rwG P (fun m t => hvS P pt pp m (cxS P pt) (cyS P pt) 0 t) m u := by
  unfold rwS rwG
  rw [if_neg h]
theorem rc_cg {pt pp : Int32} {G : Nat → Int32 → Int32} {m t : Nat} (h : ∀ u, rwS P A pt pp m u = rwG P G m u) : rcS P A pt pp m t = bdS P (fiS P (fun u => rwG P G m (nI u)) t) := by
  unfold rcS
  rw [fi_cg (W := fun u => rwG P G m (nI u)) (fun u _ => h (nI u))]
theorem heard_len (hV : IV aR0 1586 aK1 aK2 T) : ∀ i, i < 12 → (T.2.1 (9 + i)).2 = 200 := fun i hi => iv_len hV (heard_ro hi) (by decide) (by decide) (rfl : shp 46 = (100, 200))
/-- the probe sounds as the point -/
theorem snd_pt {pt pp : Int32} (h : ¬ pt = -1) (hp : 2 ≤ pp.toInt ∧ pp.toInt ≤ 99) (e0 : T.2.2.1 21 0 = 0) (e5 : T.2.2.1 21 5 = 100) (e6 : T.2.2.1 21 6 = pp) (e7 : T.2.2.1 21 7 = 0) (e8 : T.2.2.1 21 8 = 0) : SND T P pt pp 21 0 := by
  have z0 : (0 : Int32).toInt = 0 := by decide
  refine ⟨?_, ?_, fun u hu => ?_⟩
  · rw [e6]
    intro w
    rw [w] at hp
    omega
  · rw [e5]; decide
  · unfold wvT wvF wnS
    rw [e0, e5, e6, e7, e8, if_neg h, if_pos (Int32.le_iff_toInt_le.mpr (by omega)), if_pos rfl, Int32.add_zero]
theorem c_ctrX {a v r : Int32} {g : Nat} (hv : 1 ≤ v.toInt) (e : T.2.2.1 g 3 = v) (h : g_X1_centreX T g a = some (r, T1)) : T1 = T ∧ r = T.2.2.1 g 0 + T.2.2.1 g 2 * (a - a / v * v) := by
  have z0 : (0 : Int32).toInt = 0 := by decide
  unfold g_X1_centreX at h
  obtain ⟨-, h⟩ := oif_some h
  obtain ⟨v3, d3, h⟩ := elet_some h
  obtain ⟨-, h⟩ := oif_some h
  obtain ⟨v5, d5, h⟩ := elet_some h
  obtain ⟨-, h⟩ := oif_some h
  obtain ⟨r9, T7, g7, h⟩ := obind2_some h
  obtain ⟨e7, q7⟩ := a_col (fun w => by rw [w] at hv; omega) e g7
  obtain ⟨v10, d10, h⟩ := elet_some h
  obtain ⟨v11, d11, h⟩ := elet_some h
  rw [← (osome2 h).1, ← (osome2 h).2, e7, d11, d10, q7, d5, d3]
  exact ⟨rfl, rfl⟩
theorem c_ctrY {a v r : Int32} {g : Nat} (ha : 0 ≤ a.toInt) (hv : 1 ≤ v.toInt) (e : T.2.2.1 g 3 = v) (h : g_X1_centreY T g a = some (r, T1)) : T1 = T ∧ r = T.2.2.1 g 1 + T.2.2.1 g 2 * (a / v) := by
  unfold g_X1_centreY at h
  obtain ⟨-, h⟩ := oif_some h
  obtain ⟨v3, d3, h⟩ := elet_some h
  obtain ⟨-, h⟩ := oif_some h
  obtain ⟨v5, d5, h⟩ := elet_some h
  obtain ⟨-, h⟩ := oif_some h
  obtain ⟨r9, T7, g7, h⟩ := obind2_some h
  obtain ⟨e7, q7⟩ := a_row ha hv e g7
  obtain ⟨v10, d10, h⟩ := elet_some h
  obtain ⟨v11, d11, h⟩ := elet_some h
  rw [← (osome2 h).1, ← (osome2 h).2, e7, d11, d10, q7, d5, d3]
  exact ⟨rfl, rfl⟩
end
end
section
/-! 27o.off.lean.txt -/
/-! R3; the answer of bestIfOff -/
section
variable {T T1 : AT} {S S1 : MS} {P : Nat → Int32} {s xs : Nat} {c4 n2 c5 c71 c77 : Nat} {k1 : Nat} {r1 r2 : Int32}
def WH0 (T : AT) : Prop := ∀ s, s = 478 ∨ s = 656 → T.2.2.1 (s + 3) 0 = 0 ∧ T.2.2.1 (s + 3) 1 = 0
/-- R2, no rows are one array, the probe's phase and from and the map's corner are 0, no point is recorded -/
def R3 (T : AT) (S : MS) : Prop := R2 T S ∧ (RC T ∧ RI T) ∧ (T.2.2.1 21 7 = 0 ∧ T.2.2.1 21 8 = 0) ∧ WH0 T ∧ S.1 21 = -1
/-- what the sums need between their steps -/
def AL (T : AT) (s : Nat) (P : Nat → Int32) : Prop := (IV aR0 1586 aK1 aK2 T ∧ CRF T) ∧ (RC T ∧ RI T) ∧ SCE s T P ∧ WH0 T ∧ T.2.2.2.2 0 14 = some s
theorem wh_fw {W : List Nat} (hw : FW aR0 W T T1) (c : W.contains 1888 = false) (h : WH0 T) : WH0 T1 := fun s hs => by
  have r := (sro hs).2.2.1
  rw [hw _ 0 (by rw [r]; exact c), hw _ 1 (by rw [r]; exact c)]
  exact h s hs
theorem al_go {W : List Nat} (hs : s = 478 ∨ s = 656) (h : AL T s P) (hV : IV aR0 1586 aK1 aK2 T1) (hc : CRF T1) (hi : GI T T1) (hw : FW aR0 W T T1) (c : scodes.all (fun x => !(W.contains x)) = true) (c2 : W.contains 1888 = false) (h14 : T1.2.2.2.2 0 14 = T.2.2.2.2 0 14) : AL T1 s P :=
  ⟨⟨hV, hc⟩, hi h.2.1.1 h.2.1.2, sce_eq h.2.2.1 (fw_seq hw c hs) (fun _ _ => rfl), wh_fw hw c2 h.2.2.2.1, h14.trans h.2.2.2.2⟩
theorem al_of (hV : IV aR0 1586 aK1 aK2 T) (h : R3 T S) (h20 : S.1 20 = 1) : ∃ s, (s = 478 ∨ s = 656) ∧ AL T s (S.2.1 10) := by
  obtain ⟨s, hs, h14, -, hE, -⟩ := r1_sce h.1.1 h20
  exact ⟨s, hs, ⟨hV, h.1.1.1⟩, h.2.1, hE, h.2.2.2.1, h14⟩
/-- the delays of the cells -/
def DRw (T : AT) (s : Nat) (S : MS) : Prop := ∀ k m : Nat, (k : Int) < (S.2.1 10 9 * S.2.1 10 10).toInt → (m : Int) < (S.2.1 10 4).toInt → T.2.2.1 (s + 16 + k) m = S.2.1 17 (12 * k + m)
/-- the state of trials is now's -/
theorem tr_copy (hs : s = 478 ∨ s = 656) (hA : AL T s (S.2.1 10)) (hP : PL (S.2.1 10)) (h : R2 T S) (h20 : S.1 20 = 1) (g : g_X8_copyFrom T 336 242 = some T1) (f : fr_copy_12_14 S 0 0 = some S1) : AL T1 s (S1.2.1 10) ∧ STa T1 336 (S1.2.1 10) (S1.2.1 14) 0 ∧ DRw T1 s S1 ∧ S1.2.1 10 = S.2.1 10 ∧ S1.2.1 17 = S.2.1 17 ∧ S1.1 0 = S.1 0 ∧ S1.1 21 = S.1 21 ∧ ∀ k, T1.2.2.1 21 k = T.2.2.1 21 k := by
  obtain ⟨hV, hc⟩ := hA.1
  obtain ⟨p4, p5⟩ := r2_pl hP
  have w := w_fr_copy_12_14 f
  have x := x_copy_12_14 (o1 := 0) (o3 := 0) (by decide) (by decide) f
  have cp := c_stcopy hc hV d336 d242 (by decide) g
  have c := tgo (cs_X8_copyFrom T 336 242 hV (sd_ro d336).1 (sd_ro d242).1) g
  have gr := sr_X8_copyFrom g
  have hc1 := crf_gr hc hV gr
  have e10 : S1.2.1 10 = S.2.1 10 := w.2 10 (by decide)
  have e17 : S1.2.1 17 = S.2.1 17 := w.2 17 (by decide)
  have pc := (pl_cell hP).2.2.1
  refine ⟨?_, (h.2.2.2 h20).1.cp p4 p5 cp (fun j hj => ?_) (fun j _ => by rw [e10]), fun k m hk hm => ?_, e10, e17, w.1 0 (by decide), w.1 21 (by decide), fun k => cp.2.2.2 21 k (.inl (by decide)) (by decide +kernel)⟩
  · rw [e10]
    exact al_go hs hA c.1 hc1 (si_X8_copyFrom g) c.2 (by decide +kernel) (by decide) (e14_gr hV gr)
  · rw [x, if_pos (by omega)]
    rw [show 0 + (0 + j - 0) = 0 + j by omega]
  · rw [e10] at hk hm
    rw [cp.2.2.2 _ m (.inr (by omega)) (by rw [dl_ro hs (by omega)]; rfl), e17]
    exact (h.2.2.2 h20).2.1 s hA.2.2.2.2 k m hk hm
end
end
section
/-! 27p.point.lean.txt -/
/-! the recordings of a point; the answer of pointBest -/
section
variable {T T1 T0 : AT} {S S1 : MS} {P A : Nat → Int32} {s d xs : Nat} {c4 n2 c5 c71 c77 : Nat} {k1 : Nat} {r1 r2 : Int32}
theorem rm_rg {a v : Int32} (ha : 0 ≤ a.toInt) (hv : 1 ≤ v.toInt) : 0 ≤ (rmS a v).toInt ∧ (rmS a v).toInt < v.toInt := by
  have q := i_divq (v := a / v) rfl ha hv
  have l := Int32.toInt_lt a
  have m := Int.mul_ediv_add_emod a.toInt v.toInt
  have m0 := Int.emod_nonneg a.toInt (show v.toInt ≠ 0 by omega)
  have m1 := Int.emod_lt_of_pos a.toInt (show 0 < v.toInt by omega)
  have n := Int.ediv_nonneg ha (show 0 ≤ v.toInt by omega)
  have mn := Int.mul_nonneg (show 0 ≤ v.toInt by omega) n
  have p : (a / v * v).toInt = v.toInt * (a.toInt / v.toInt) := by
    rw [Int32.toInt_mul, q, Int.mul_comm, bm32 (by omega) (by omega)]
  have s := i_sub (v := a - a / v * v) rfl (by omega) (by omega)
  unfold rmS
  omega
theorem ctr_rg {a : Int32} (hP : PL P) (ha : 0 ≤ a.toInt) (h9 : a.toInt < (P 9).toInt * (P 10).toInt) : (-4000 ≤ (cxS P a).toInt ∧ (cxS P a).toInt ≤ 4000) ∧ -4000 ≤ (cyS P a).toInt ∧ (cyS P a).toInt ≤ 4000 := by
  have p6 := pl_6 hP
  have p7 := pl_7 hP
  have p8 := pl_8 hP
  have p9 := pl_9 hP
  have p10 := pl_10 hP
  have r := rm_rg (v := P 9) ha p9.1
  have m := i_muls (v := P 8 * rmS a (P 9)) (b := 99) (d := 11) rfl (by omega) (by omega) (by omega) (by omega) (by decide)
  have s := i_add (v := P 6 + P 8 * rmS a (P 9)) rfl (by omega) (by omega)
  have q := i_divq (v := a / P 9) rfl ha p9.1
  have q0 := Int.ediv_nonneg ha (show 0 ≤ (P 9).toInt by omega)
  have q1 : a.toInt / (P 9).toInt < (P 10).toInt := Int.ediv_lt_of_lt_mul (by omega) (by rw [Int.mul_comm]; exact h9)
  have m2 := i_muls (v := P 8 * (a / P 9)) (b := 99) (d := 11) rfl (by omega) (by omega) (by omega) (by omega) (by decide)
  have s2 := i_add (v := P 7 + P 8 * (a / P 9)) rfl (by omega) (by omega)
  unfold cxS cyS
  omega
theorem c_recp {a pp : Int32} (hs : s = 478 ∨ s = 656) (hP : PL P) (hI : IC P S) (hC : PCs P c4 n2 c5 c71 c77) (hc : CRF T) (hL : ∀ i, i < 12 → (T.2.1 (9 + i)).2 = 200) (hE : SCE s T P) (ha : 0 ≤ a.toInt) (h9 : a.toInt < (P 9).toInt * (P 10).toInt) (hp : 2 ≤ pp.toInt ∧ pp.toInt ≤ 99) (e7 : T.2.2.1 21 7 = 0) (e8 : T.2.2.1 21 8 = 0) (h : g_X5_recordPoint T 7 s d a pp = some T1) : ∃ T16 T2, (T16.2.1 = T.2.1 ∧ T16.2.2.2.2 = T.2.2.2.2 ∧ ∀ m k, ¬ (9 ≤ m ∧ m < 22) → T16.2.2.1 m k = T.2.2.1 m k) ∧ HQ T16 T2 ∧ HG T2 (fun m t => hvS P a pp m (cxS P a) (cyS P a) 0 t) c4 n2 ∧ g_X5_finish T2 7 s d = some T1 := by
  obtain ⟨e4, l4, e2, l2, e5, l5, e71, l71, e77, l77⟩ := hC
  have p9 := pl_9 hP
  have na : ¬ a = -1 := fun w => by rw [w] at ha; exact absurd ha (by decide)
  have i2 : (nI n2).toInt = (n2 : Int) := nI_toInt (by omega)
  unfold g_X5_recordPoint at h
  obtain ⟨-, h⟩ := oif_some h
  obtain ⟨T3, g3, h⟩ := obind_some h
  obtain ⟨hq, hz⟩ := c_silence hc hL g3
  have hc3 := crf_eq hc hq.2.1
  obtain ⟨-, h⟩ := oif_some h
  obtain ⟨n6, en, h⟩ := obind_some h
  rw [(rc_rf hc3).2.1] at en
  cases en
  obtain ⟨-, h⟩ := oif_some h
  obtain ⟨T8, e8', h⟩ := elet_some h
  have hc8 := crf_eq hc3 (show T8.2.2.2.2 = T3.2.2.2.2 by rw [e8']; rfl)
  obtain ⟨-, h⟩ := oif_some h
  obtain ⟨n10, en, h⟩ := obind_some h
  rw [(rc_rf hc8).2.1] at en
  cases en
  obtain ⟨-, h⟩ := oif_some h
  obtain ⟨T12, e12, h⟩ := elet_some h
  have hc12 := crf_eq hc8 (show T12.2.2.2.2 = T8.2.2.2.2 by rw [e12]; rfl)
  obtain ⟨-, h⟩ := oif_some h
  obtain ⟨n14, en, h⟩ := obind_some h
  rw [(rc_rf hc12).2.1] at en
  cases en
  obtain ⟨-, h⟩ := oif_some h
  obtain ⟨T16, e16, h⟩ := elet_some h
  have hc16 := crf_eq hc12 (show T16.2.2.2.2 = T12.2.2.2.2 by rw [e16]; rfl)
  have at16 : ∀ m k, m ≠ 21 → T16.2.2.1 m k = T3.2.2.1 m k := fun m k c => by
    rw [e16, ui_ne (.inl c), e12, ui_ne (.inl c), e8', ui_ne (.inl c)]
  have f0 : T16.2.2.1 21 0 = 0 := by rw [e16, ui_ne (.inr (by decide)), e12, ui_ne (.inr (by decide)), e8']; exact ui_at
  have f5 : T16.2.2.1 21 5 = 100 := by rw [e16, ui_ne (.inr (by decide)), e12]; exact ui_at
  have f6 : T16.2.2.1 21 6 = pp := by rw [e16]; exact ui_at
  have f7 : T16.2.2.1 21 7 = 0 := by rw [e16, ui_ne (.inr (by decide)), e12, ui_ne (.inr (by decide)), e8', ui_ne (.inr (by decide)), hq.2.2 _ _ (by decide)]; exact e7
  have f8 : T16.2.2.1 21 8 = 0 := by rw [e16, ui_ne (.inr (by decide)), e12, ui_ne (.inr (by decide)), e8', ui_ne (.inr (by decide)), hq.2.2 _ _ (by decide)]; exact e8
  have fr : ∀ m k, ¬ (9 ≤ m ∧ m < 22) → T16.2.2.1 m k = T.2.2.1 m k := fun m k c => by
    rw [at16 m k (by omega), hq.2.2 m k (by omega)]
  have sh16 : T16.2.1 = T.2.1 := by rw [e16, e12, e8']; exact hq.1
  have rf16 : T16.2.2.2.2 = T.2.2.2.2 := by rw [e16, e12, e8']; exact hq.2.1
  have hE16 : SCE s T16 P := sce_eq hE ⟨fun j _ => fr _ _ (by omega), fun j _ => fr _ _ (by omega), fun j => fr _ _ (by omega), fun m j _ _ => fr _ _ (by omega), fun m j _ _ => fr _ _ (by omega), fun m j _ _ _ => fr _ _ (by omega), fun m j _ _ _ => fr _ _ (by omega)⟩ (fun _ _ => rfl)
  have hS16 := snd_pt (P := P) na hp f0 f5 f6 f7 f8
  have hF := hc16.srf hs
  obtain ⟨-, -, ⟨y3, y4, gg⟩, -⟩ := id hE16
  have gg : T16.2.2.1 (s + 2) 0 = P 6 ∧ T16.2.2.1 (s + 2) 1 = P 7 ∧ T16.2.2.1 (s + 2) 2 = P 8 := by
    rcases gg with ⟨-, q1, -⟩ | ⟨-, -, x0, x1, x2, -⟩
    · rw [q1] at p9
      exact absurd p9.1 (by decide)
    · exact ⟨x0, x1, x2⟩
  obtain ⟨-, h⟩ := oif_some h
  obtain ⟨n18, en, h⟩ := obind_some h
  rw [hF.2.1] at en
  cases en
  obtain ⟨-, h⟩ := oif_some h
  obtain ⟨r22, T20, g20, h⟩ := obind2_some h
  obtain ⟨e20, q20⟩ := c_ctrX p9.1 y3 g20
  rw [e20] at h
  obtain ⟨-, h⟩ := oif_some h
  obtain ⟨n25, en, h⟩ := obind_some h
  rw [hF.2.1] at en
  cases en
  obtain ⟨-, h⟩ := oif_some h
  obtain ⟨r29, T27, g27, h⟩ := obind2_some h
  obtain ⟨e27, q27⟩ := c_ctrY ha p9.1 y3 g27
  rw [e27] at h
  rw [gg.1, gg.2.2] at q20
  rw [gg.2.1, gg.2.2] at q27
  have qx : r22 = cxS P a := q20
  have qy : r29 = cyS P a := q27
  rw [qx, qy] at h
  obtain ⟨gx, gy⟩ := ctr_rg hP ha h9
  have lp : ∀ (n t : Nat) {U : AT}, t ≤ n2 → HQ T16 U → (∀ m u, m < c4 → u < n2 → U.2.2.1 (9 + m) u = if u < t then hvS P a pp m (cxS P a) (cyS P a) 0 (nI u) else 0) → g_X5_recordPoint_b53 n U 7 s d (cxS P a) (cyS P a) (nI t) = some T1 → ∃ T2, HQ T16 T2 ∧ HG T2 (fun m t => hvS P a pp m (cxS P a) (cyS P a) 0 t) c4 n2 ∧ g_X5_finish T2 7 s d = some T1 := by
    intro n
    induction n with
    | zero => intro t U ht hu hh h; cases h
    | succ n ih =>
      intro t U ht hu hh h
      have tI : (nI t).toInt = (t : Int) := nI_toInt (by omega)
      have kt : (nI t).toNatClampNeg = t := nI_clamp (by omega)
      have hcU := crf_eq hc16 hu.2.1
      have hEU := hq_sce hu hs hE16
      unfold g_X5_recordPoint_b53 at h
      obtain ⟨-, h⟩ := oif_some h
      obtain ⟨v3, d3, h⟩ := elet_some h
      rw [hEU.1.2.2.1, e2] at d3
      rcases oif_or h with ⟨q, h⟩ | ⟨q, h⟩
      · rw [d3] at q
        have q2 := (nI_leI (a := n2) (by omega) (by omega)).mp q
        obtain ⟨-, h⟩ := oif_some h
        obtain ⟨T6, g6, h⟩ := obind_some h
        unfold g_X5_recordPoint_b89 at h
        rw [osome1 h] at g6
        exact ⟨U, hu, fun m u hm hu2 => by rw [hh m u hm hu2, if_pos (by omega)], g6⟩
      · rw [d3] at q
        have q2 : ¬ n2 ≤ t := fun z => q ((nI_leI (a := n2) (by omega) (by omega)).mpr z)
        obtain ⟨-, h⟩ := oif_some h
        obtain ⟨n9, en, h⟩ := obind_some h
        rw [(rc_rf hcU).2.1] at en
        cases en
        obtain ⟨-, h⟩ := oif_some h
        obtain ⟨T11, g11, h⟩ := obind_some h
        obtain ⟨v13, d13, h⟩ := elet_some h
        rw [show v13 = nI (t + 1) from d13.trans (nI_p1 t)] at h
        obtain ⟨hq11, hv⟩ := c_hear (pp := pp) hs (by decide) hP hI e4 l4 e71 l71 gx gy ⟨by omega, by omega⟩ hcU hEU (hq_snd hu (by decide) hS16) g11
        refine ih (t + 1) (by omega) (hu.tr hq11) (fun m u hm hu2 => ?_) h
        rw [hv m (by omega), kt, hh m u hm hu2]
        by_cases e : u = t
        · rw [if_pos (by omega), if_neg (by omega), if_pos (by omega), e, Int32.zero_add]
        · rw [if_neg (by omega)]
          by_cases e2 : u < t
          · rw [if_pos e2, if_pos (by omega)]
          · rw [if_neg e2, if_neg (by omega)]
  obtain ⟨T2, x1, x2, x3⟩ := lp 16384 0 (Nat.zero_le _) HQ.rf (fun m u hm hu => by rw [if_neg (by omega), at16 _ _ (by omega)]; exact hz m u (by omega) (by omega)) h
  exact ⟨T16, T2, ⟨sh16, rf16, fr⟩, x1, x2, x3⟩
/-- both record the point -/
theorem rp_alike {S' : MS} {a pp : Int32} (hs : s = 478 ∨ s = 656) (hP : PL (S.2.1 10)) (hI : IC (S.2.1 10) S') (hV : IV aR0 1586 aK1 aK2 T) (hc : CRF T) (hE : SCE s T (S.2.1 10)) (hS : STa T 336 (S.2.1 10) (S.2.1 14) 0) (hC : PCs (S.2.1 10) c4 n2 c5 c71 c77) (ha : 0 ≤ a.toInt) (h9 : a.toInt < (S.2.1 10 9).toInt * (S.2.1 10 10).toInt) (hp : 2 ≤ pp.toInt ∧ pp.toInt ≤ 99) (e7 : T.2.2.1 21 7 = 0) (e8 : T.2.2.1 21 8 = 0) (g : g_X5_recordPoint T 7 s 336 a pp = some T1) (f : fr_recordsPoint_14 S a pp = some S1) : ∃ xs, W1 T1 (336 + 8) xs ∧ SVa T1 336 xs (S.2.1 10) (S1.2.1 14) c4 n2 ∧ SMr (S1.2.1 14) c4 n2 ∧ ∀ m k, ¬ (9 ≤ m ∧ m < 22) → m ≠ 336 → m ≠ 344 → T1.2.2.1 m k = T.2.2.1 m k := by
  have na : ¬ a = -1 := fun w => by rw [w] at ha; exact absurd ha (by decide)
  have rd := sd_ro d336
  obtain ⟨b8, b51⟩ := sdw_rf hc d336
  obtain ⟨xs, hx, -⟩ := w_row0 hV rd.2.2.2.2.2.2.2.2.1 (by decide) b8
  obtain ⟨T16, T2, ⟨sh, rf, fr⟩, hq, hh, g2⟩ := c_recp hs hP hI hC hc (heard_len hV) hE ha h9 hp e7 e8 g
  unfold fr_recordsPoint_14 at f
  obtain ⟨U2, d2, f⟩ := elet_some f
  obtain ⟨U3, d3, f⟩ := elet_some f
  obtain ⟨U4, f4, f⟩ := obind_some f
  obtain ⟨U7, d7, f⟩ := elet_some f
  have u10 : U3.2.1 10 = S.2.1 10 := by rw [d3, d2]; rfl
  have u14 : U3.2.1 14 = S.2.1 14 := by rw [d3, d2]; rfl
  have u21 : U3.1 21 = a := by rw [d3, mi_ne (by decide), d2, mi_at]
  have u22 : U3.1 22 = pp := by rw [d3, mi_at]
  have iv := x_records_14 (by rw [u10]; exact hC) f4
  rw [u10, u14, u21, u22] at iv
  obtain ⟨i1, i2, i3, i4, i5⟩ := iv
  have e14 : S1.2.1 14 = U4.2.1 14 := by rw [← osome1 f, d7]; rfl
  -- the state's numbers and the scene's, behind silence and the probe
  have V16 : ∃ V : AT, V.2.1 = T.2.1 := ⟨T, rfl⟩
  have hE16 : SCE s T16 (S.2.1 10) := sce_eq hE ⟨fun j _ => fr _ _ (by omega), fun j _ => fr _ _ (by omega), fun j => fr _ _ (by omega), fun m j _ _ => fr _ _ (by omega), fun m j _ _ => fr _ _ (by omega), fun m j _ _ _ => fr _ _ (by omega), fun m j _ _ _ => fr _ _ (by omega)⟩ (fun _ _ => rfl)
  have hB : ∀ x, 1 ≤ x → x < 55 → S1.2.1 14 x = S.2.1 14 x := fun x h1 h2 => by rw [e14]; exact i4 x h1 h2
  have hR : ∀ m t, m < c4 → t < n2 → S1.2.1 14 (55 + 200 * m + t) = bdS (S.2.1 10) (fiS (S.2.1 10) (fun u => rwG (S.2.1 10) (fun m t => hvS (S.2.1 10) a pp m (cxS (S.2.1 10) a) (cyS (S.2.1 10) a) 0 t) m (nI u)) t) := fun m t hm ht => by
    rw [e14, i5 m t hm ht]
    exact rc_cg (fun u => rw_pt na)
  obtain ⟨T3, l3, o3, r3, e1⟩ := c_finish hs d336 hP hC (crf_eq (crf_eq hc rf) hq.2.1) (hq_sce hq hs hE16) hh (by rw [hq.2.1, rf]; exact b8) (by rw [hq.2.1, rf]; exact hx) g2
  have i4c : (S.2.1 10 4).toInt = (c4 : Int) := by rw [hC.1]; exact nI_toInt (by have := hC.2.1; omega)
  have l4 := hC.2.1
  have refs : T1.2.2.2.2 = T.2.2.2.2 := by
    rw [e1]
    show T3.2.2.2.2 = _
    rw [l3.2.2.2]
    exact hq.2.1.trans rf
  have i3' : ∀ m k, m ≠ 344 → T3.2.2.1 m k = T2.2.2.1 m k := fun m k hm => by
    rw [l3.2.2.1]
    exact ui_ne (.inl hm)
  have i1' : ∀ m k, ¬ (9 ≤ m ∧ m < 22) → m ≠ 344 → (m ≠ 336 ∨ k ≠ 2) → T1.2.2.1 m k = T.2.2.1 m k := fun m k c1 c2 c3 => by
    rw [e1, ui_ne c3, i3' m k c2, hq.2.2 m k (by omega), fr m k c1]
  have lng : T1.2.2.2.1 = T3.2.2.2.1 := by rw [e1]; rfl
  refine ⟨xs, ⟨by rw [refs]; exact b8, by rw [refs]; exact hx, ?_⟩, ⟨?_, ?_, fun m hm => ?_, fun m u hm hu => ?_⟩, ⟨fun m hm => ?_, fun m u hm hu => ?_⟩, fun m k c1 c2 c3 => i1' m k c1 c3 (.inl c2)⟩
  · rw [e1, ui_ne (.inl (by decide)), l3.2.2.1]
    exact ui_at
  · rw [i1' _ _ (by omega) (by omega) (.inr (by decide))]; exact hS.1
  · rw [i1' _ _ (by omega) (by omega) (.inr (by decide))]; exact hS.2.1
  · have q := hS.2.2.2.1 m (by omega)
    simp only [Nat.zero_add] at q
    rw [i1' _ _ (by omega) (by omega) (.inl (by omega)), i1' _ _ (by omega) (by omega) (.inl (by omega)), hB _ (by omega) (by omega), hB _ (by omega) (by omega)]
    exact q
  · rw [lng]
    have q := r3 m u hm hu
    unfold RCq at q
    rw [q, hR m u hm hu]
  · have q := hS.2.2.2.1 m (by omega)
    simp only [Nat.zero_add] at q
    rw [hB _ (by omega) (by omega)]
    exact iv_int hV rd.2.2.1 (by decide) (by decide) q.2.symm (rfl : iR 63 m = (0, 9))
  · rw [hR m u hm hu]
    exact bd_rg hP
end
end
section
/-! 27q.pbest.lean.txt -/
/-! the answer of pointBest -/
section
variable {T T1 : AT} {S S1 : MS} {s xs : Nat} {c4 n2 c5 c71 c77 : Nat} {k1 : Nat} {r1 r2 : Int32}
theorem q_per {a r : Int32} (hf : fr_isPeriod a = some r) : r = 1 ∧ 2 ≤ a.toInt ∧ a.toInt ≤ 99 ∨ r = 0 ∧ ¬ (2 ≤ a.toInt ∧ a.toInt ≤ 99) := by
  have z2 : (2 : Int32).toInt = 2 := by decide
  have z9 : (99 : Int32).toInt = 99 := by decide
  unfold fr_isPeriod at hf
  obtain ⟨w, g, hf⟩ := obind_some hf
  obtain ⟨-, hf⟩ := oif_some hf
  rw [← osome1 hf]
  rcases q_in g with ⟨e, q⟩ | ⟨e, q⟩
  · exact .inl ⟨e, by omega, by omega⟩
  · exact .inr ⟨e, fun u => q ⟨by omega, by omega⟩⟩
/-- both lay the point's recordings into the state of trials -/
theorem tp_alike {a b : Int32} {S0 : MS} (hs : s = 478 ∨ s = 656) (hA : AL T s (S.2.1 10)) (hP : PL (S.2.1 10)) (h : R2 T S) (h20 : S.1 20 = 1) (hI : IC (S.2.1 10) S0) (ha : 0 ≤ a.toInt ∧ a.toInt < (S.2.1 10 9 * S.2.1 10 10).toInt) (hb : 2 ≤ b.toInt ∧ b.toInt ≤ 99) (e7 : T.2.2.1 21 7 = 0) (e8 : T.2.2.1 21 8 = 0) {S11 S1 : MS} (f1 : fr_copy_12_14 S 0 0 = some S11) (f2 : fr_recordsPoint_14 S11 a b = some S1) (g : g_X11_recordPoint T 0 a b = some T1) (hC : PCs (S.2.1 10) c4 n2 c5 c71 c77) : AL T1 s (S1.2.1 10) ∧ DRw T1 s S1 ∧ S1.2.1 10 = S.2.1 10 ∧ S1.2.1 17 = S.2.1 17 ∧ S1.1 0 = S.1 0 ∧ ∃ xs, W1 T1 (336 + 8) xs ∧ SVa T1 336 xs (S1.2.1 10) (S1.2.1 14) c4 n2 ∧ SMr (S1.2.1 14) c4 n2 := by
  obtain ⟨hV, hc⟩ := hA.1
  obtain ⟨f4, f6, f7, -⟩ := c_fld hc
  have pc := pl_cell hP
  unfold g_X11_recordPoint at g
  obtain ⟨-, g⟩ := oif_some g
  obtain ⟨n3, en, g⟩ := obind_some g
  rw [f7] at en
  cases en
  obtain ⟨-, g⟩ := oif_some g
  obtain ⟨n5, en, g⟩ := obind_some g
  rw [f6] at en
  cases en
  obtain ⟨-, g⟩ := oif_some g
  obtain ⟨T7, g7, g⟩ := obind_some g
  obtain ⟨A1, st1, D1, e10, e17, t0, t21, pr⟩ := tr_copy hs hA hP h h20 g7 f1
  unfold g_X11_recordPoint_b11 g_X11_recordPoint_b28 at g
  obtain ⟨-, g⟩ := oif_some g
  obtain ⟨m3, en, g⟩ := obind_some g
  rw [(c_fld2 A1.1.2).2.2.2] at en
  cases en
  obtain ⟨-, g⟩ := oif_some g
  obtain ⟨m5, en, g⟩ := obind_some g
  rw [A1.2.2.2.2] at en
  cases en
  obtain ⟨-, g⟩ := oif_some g
  obtain ⟨m7, en, g⟩ := obind_some g
  rw [(c_fld A1.1.2).2.2.1] at en
  cases en
  obtain ⟨-, g⟩ := oif_some g
  obtain ⟨T9, g9, g⟩ := obind_some g
  rw [osome1 g] at g9
  have hP1 : PL (S11.2.1 10) := by rw [e10]; exact hP
  obtain ⟨xs, w1, sv, sm, ints⟩ := rp_alike hs hP1 (S' := S0) (by rw [e10]; exact hI) A1.1.1 A1.1.2 A1.2.2.1 st1 (by rw [e10]; exact hC) ha.1 (by rw [e10]; omega) hb (by rw [pr]; exact e7) (by rw [pr]; exact e8) g9 f2
  have wr := w_fr_recordsPoint_14 f2
  have z10 : S1.2.1 10 = S11.2.1 10 := wr.2 10 (by decide)
  have z17 : S1.2.1 17 = S11.2.1 17 := wr.2 17 (by decide)
  have fw := tgo (cs_X5_recordPoint T7 7 s 336 a b A1.1.1 (by decide +kernel) (rsrole hs) (sd_ro d336).1 ⟨ha.1, by omega⟩ hb) g9
  obtain ⟨o, hV9, -⟩ := rp_out A1.1.2 A1.1.1 hs ⟨ha.1, by omega⟩ hb g9
  have gr := sr_X5_recordPoint g9
  have hc9 := crf_gr A1.1.2 A1.1.1 gr
  have i9 := si_X5_recordPoint g9 A1.2.1.1 A1.2.1.2
  refine ⟨⟨⟨hV9, hc9⟩, i9, ?_, ?_, (e14_gr A1.1.1 gr).trans A1.2.2.2.2⟩, fun k m hk hm => ?_, z10.trans e10, z17.trans e17, (wr.1 0 (by decide)).trans t0, xs, w1, by rw [z10]; exact sv, sm⟩
  · rw [z10]
    exact sce_eq A1.2.2.1 ⟨fun j _ => ints _ _ (by omega) (by omega) (by omega), fun j _ => ints _ _ (by omega) (by omega) (by omega), fun j => ints _ _ (by omega) (by omega) (by omega), fun m j _ _ => ints _ _ (by omega) (by omega) (by omega), fun m j _ _ => ints _ _ (by omega) (by omega) (by omega), fun m j _ _ _ => ints _ _ (by omega) (by omega) (by omega), fun m j _ _ _ => ints _ _ (by omega) (by omega) (by omega)⟩ (fun _ _ => rfl)
  · intro s' hs'
    rw [ints _ _ (by omega) (by omega) (by omega), ints _ _ (by omega) (by omega) (by omega)]
    exact A1.2.2.2.1 s' hs'
  · rw [z10] at hk hm
    rw [ints _ _ (by omega) (by rw [e10] at hk; omega) (by rw [e10] at hk; omega), z17]
    exact D1 k m hk hm
end
end
section
/-! 27t.keep3.lean.txt -/
/-! R3: at the start, and kept by every call but load -/
section
variable {T T1 : AT} {S S1 : MS}
theorem r21 : aR0 21 = 7 := by decide +kernel
theorem r3_keep {W : List Nat} (h : R3 T S) (h2 : R2 T1 S1) (hi : GI T T1) (hw : FW aR0 W T T1) (c : [231, 232, 1888].all (fun x => !(W.contains x)) = true) (h21 : S1.1 21 = S.1 21) : R3 T1 S1 := by
  have f := fun (x : Nat) (hx : x ∈ [231, 232, 1888]) => con_f (W := W) (List.all_eq_true.mp c x hx)
  refine ⟨h2, hi h.2.1.1 h.2.1.2, ⟨?_, ?_⟩, wh_fw hw (f 1888 (by decide)) h.2.2.2.1, h21.trans h.2.2.2.2⟩
  · rw [hw 21 7 (by rw [r21]; exact f 231 (by decide))]; exact h.2.2.1.1
  · rw [hw 21 8 (by rw [r21]; exact f 232 (by decide))]; exact h.2.2.1.2
theorem r3_eq (h : R3 T S) (h2 : R2 T1 S1) (e : T1 = T) (h21 : S1.1 21 = S.1 21) : R3 T1 S1 := by
  rw [e] at h2 ⊢
  exact ⟨h2, h.2.1, h.2.2.1, h.2.2.2.1, h21.trans h.2.2.2.2⟩
theorem x_rp21 {a b : Int32} (f : fr_recordsPoint_14 S a b = some S1) : S1.1 21 = -1 := by
  unfold fr_recordsPoint_14 at f
  obtain ⟨U2, d2, f⟩ := elet_some f
  obtain ⟨U3, d3, f⟩ := elet_some f
  obtain ⟨U4, f4, f⟩ := obind_some f
  obtain ⟨U7, d7, f⟩ := elet_some f
  rw [← osome1 f, d7, mi_at]
theorem p21_pointBest {a0 a1 r : Int32} (h : S.1 21 = -1) (hf : fr_pointBest S a0 a1 = some (r, S1)) : S1.1 21 = S.1 21 := by
  unfold fr_pointBest at hf
  obtain ⟨r5, S2, f5, hf⟩ := obind2_some hf
  obtain ⟨r9, S6, f9, hf⟩ := obind2_some hf
  have e6 : S6.1 21 = S.1 21 := ((w_fr_mayAsk f9).1 21 (by decide)).trans (by rw [(r_cell f5).1])
  rcases oif_or hf with ⟨-, hf⟩ | ⟨-, hf⟩
  · rw [← (osome2 hf).2, e6]
  · obtain ⟨r11, f11, hf⟩ := obind_some hf
    rcases oif_or hf with ⟨-, hf⟩ | ⟨-, hf⟩
    · obtain ⟨r17, S14, f17, hf⟩ := obind2_some hf
      rw [← (osome2 hf).2, r_thr f17, mi_ne (by decide), e6]
    · obtain ⟨S18, f18, hf⟩ := obind_some hf
      obtain ⟨S21, f21, hf⟩ := obind_some hf
      obtain ⟨r27, S24, f27, hf⟩ := obind2_some hf
      rw [← (osome2 hf).2, (w_fr_bestIn_14 f27).1 21 (by decide), x_rp21 f21, h]
theorem p21_pointPower {a0 a1 a2 : Int32} {r : Int64} (h : S.1 21 = -1) (hf : fr_pointPower S a0 a1 a2 = some (r, S1)) : S1.1 21 = S.1 21 := by
  have b22 : ∀ {U : MS} {w : Int32}, U.1 21 = -1 → fr_pointPower_b22 U w a0 a1 a2 = some (r, S1) → S1.1 21 = -1 := by
    intro U w hU hf
    unfold fr_pointPower_b22 at hf
    obtain ⟨r5, S2, f5, hf⟩ := obind2_some hf
    have e2 : S2.1 21 = -1 := ((w_fr_mayAsk f5).1 21 (by decide)).trans hU
    rcases oif_or hf with ⟨-, hf⟩ | ⟨-, hf⟩
    · rw [← (osome2 hf).2, e2]
    · obtain ⟨r7, f7, hf⟩ := obind_some hf
      rcases oif_or hf with ⟨-, hf⟩ | ⟨-, hf⟩
      · obtain ⟨r13, S10, f13, hf⟩ := obind2_some hf
        obtain ⟨v14, -, hf⟩ := elet_some hf
        rw [← (osome2 hf).2, r_thr f13, mi_ne (by decide), e2]
      · obtain ⟨S15, f15, hf⟩ := obind_some hf
        obtain ⟨S18, f18, hf⟩ := obind_some hf
        obtain ⟨r24, S21, f24, hf⟩ := obind2_some hf
        rw [← (osome2 hf).2, (w_fr_powerOf_14 f24).1 21 (by decide), x_rp21 f18]
  rw [h]
  unfold fr_pointPower at hf
  obtain ⟨r5, S2, f5, hf⟩ := obind2_some hf
  have e2 : S2.1 21 = -1 := by rw [(r_cell f5).1]; exact h
  rcases oif_or hf with ⟨-, hf⟩ | ⟨-, hf⟩
  · unfold fr_pointPower_b21 at hf
    exact b22 e2 hf
  · obtain ⟨r10, S7, f7, hf⟩ := obind2_some hf
    have e7 : S7.1 21 = -1 := by rw [(r_cell f7).1]; exact e2
    rcases oif_or hf with ⟨-, hf⟩ | ⟨-, hf⟩
    · unfold fr_pointPower_b21 at hf
      exact b22 e7 hf
    · exact b22 e7 hf
end
set_option maxRecDepth 100000 in
theorem r3_0 : R3 aT0 mS0 := by
  refine ⟨r2_0, ⟨a_RC, a_RI⟩, by decide +kernel, fun s hs => ?_, by decide⟩
  rcases hs with e | e <;> rw [e] <;> decide +kernel
theorem r3_append {T : AT} {S : MS} {a0 a1 a2 a3 a4 : Int32} {r1 : Int32} {r2 : Int32} {T1 : AT} {S1 : MS} (hV : IV aR0 1586 aK1 aK2 T) (hJ : JJ S) (h : R3 T S) (hg : g_X11_append T 0 a0 a1 a2 a3 a4 = some (r1, T1)) (hf : fr_append S a0 a1 a2 a3 a4 = some (r2, S1)) : R3 T1 S1 := by
  have c := tgo (cs_X11_append T 0 a0 a1 a2 a3 a4 hV rrole.2.2.2) hg
  exact r3_keep h (r2_append hV hJ h.1 hg hf) (gi_sp (s_X11_append hg)) c.1.2 (by decide +kernel) ((w_fr_append hf).1 21 (by decide))
theorem r3_parseError {T : AT} {S : MS} {r1 : Int32} {r2 : Int32} {T1 : AT} {S1 : MS} (hV : IV aR0 1586 aK1 aK2 T) (hJ : JJ S) (h : R3 T S) (hg : g_X11_parseError T 0 = some (r1, T1)) (hf : fr_parseError S = some (r2, S1)) : R3 T1 S1 := by
  have c := tgo (cs_X11_parseError T 0  hV rrole.2.2.2) hg
  exact r3_eq h (r2_parseError hV hJ h.1 hg hf) c.1 ((w_fr_parseError hf).1 21 (by decide))
theorem r3_errorPosition {T : AT} {S : MS} {r1 : Int32} {r2 : Int32} {T1 : AT} {S1 : MS} (hV : IV aR0 1586 aK1 aK2 T) (hJ : JJ S) (h : R3 T S) (hg : g_X11_errorPosition T 0 = some (r1, T1)) (hf : fr_errorPosition S = some (r2, S1)) : R3 T1 S1 := by
  have c := tgo (cs_X11_errorPosition T 0  hV rrole.2.2.2) hg
  exact r3_eq h (r2_errorPosition hV hJ h.1 hg hf) c.1 ((w_fr_errorPosition hf).1 21 (by decide))
theorem r3_buffered {T : AT} {S : MS} {r1 : Int32} {r2 : Int32} {T1 : AT} {S1 : MS} (hV : IV aR0 1586 aK1 aK2 T) (hJ : JJ S) (h : R3 T S) (hg : g_X11_buffered T 0 = some (r1, T1)) (hf : fr_buffered S = some (r2, S1)) : R3 T1 S1 := by
  have c := tgo (cs_X11_buffered T 0  hV rrole.2.2.2) hg
  exact r3_eq h (r2_buffered hV hJ h.1 hg hf) c.1 ((w_fr_buffered hf).1 21 (by decide))
theorem r3_mics {T : AT} {S : MS} {r1 : Int32} {r2 : Int32} {T1 : AT} {S1 : MS} (hV : IV aR0 1586 aK1 aK2 T) (hJ : JJ S) (h : R3 T S) (hg : g_X11_mics T 0 = some (r1, T1)) (hf : fr_mics S = some (r2, S1)) : R3 T1 S1 := by
  have c := tgo (cs_X11_mics T 0  hV rrole.2.2.2) hg
  exact r3_eq h (r2_mics hV hJ h.1 hg hf) c.1 ((w_fr_mics hf).1 21 (by decide))
theorem r3_micAt {T : AT} {S : MS} {a0 a1 : Int32} {r1 : Int32} {r2 : Int32} {k1 : Nat} {T1 : AT} {S1 : MS} (hV : IV aR0 1586 aK1 aK2 T) (hJ : JJ S) (h : R3 T S) (hg : g_X11_micAt T 0 a0 a1 = some (k1, r1, T1)) (hf : fr_micAt S a0 a1 = some (r2, S1)) : R3 T1 S1 := by
  have c := tgo (cs_X11_micAt T 0 a0 a1 hV rrole.2.2.2) hg
  exact r3_eq h (r2_micAt hV hJ h.1 hg hf) c.1 ((w_fr_micAt hf).1 21 (by decide))
theorem r3_isMuted {T : AT} {S : MS} {a0 : Int32} {r1 : Int32} {r2 : Int32} {k1 : Nat} {T1 : AT} {S1 : MS} (hV : IV aR0 1586 aK1 aK2 T) (hJ : JJ S) (h : R3 T S) (hg : g_X11_isMuted T 0 a0 = some (k1, r1, T1)) (hf : fr_isMuted S a0 = some (r2, S1)) : R3 T1 S1 := by
  have c := tgo (cs_X11_isMuted T 0 a0 hV rrole.2.2.2) hg
  exact r3_eq h (r2_isMuted hV hJ h.1 hg hf) c.1 ((w_fr_isMuted hf).1 21 (by decide))
theorem r3_columns {T : AT} {S : MS} {r1 : Int32} {r2 : Int32} {T1 : AT} {S1 : MS} (hV : IV aR0 1586 aK1 aK2 T) (hJ : JJ S) (h : R3 T S) (hg : g_X11_columns T 0 = some (r1, T1)) (hf : fr_columns S = some (r2, S1)) : R3 T1 S1 := by
  have c := tgo (cs_X11_columns T 0  hV rrole.2.2.2) hg
  exact r3_eq h (r2_columns hV hJ h.1 hg hf) c.1 ((w_fr_columns hf).1 21 (by decide))
theorem r3_rows {T : AT} {S : MS} {r1 : Int32} {r2 : Int32} {T1 : AT} {S1 : MS} (hV : IV aR0 1586 aK1 aK2 T) (hJ : JJ S) (h : R3 T S) (hg : g_X11_rows T 0 = some (r1, T1)) (hf : fr_rows S = some (r2, S1)) : R3 T1 S1 := by
  have c := tgo (cs_X11_rows T 0  hV rrole.2.2.2) hg
  exact r3_eq h (r2_rows hV hJ h.1 hg hf) c.1 ((w_fr_rows hf).1 21 (by decide))
theorem r3_cellAt {T : AT} {S : MS} {a0 a1 : Int32} {r1 : Int32} {r2 : Int32} {k1 : Nat} {T1 : AT} {S1 : MS} (hV : IV aR0 1586 aK1 aK2 T) (hJ : JJ S) (h : R3 T S) (hg : g_X11_cellAt T 0 a0 a1 = some (k1, r1, T1)) (hf : fr_cellAt S a0 a1 = some (r2, S1)) : R3 T1 S1 := by
  have c := tgo (cs_X11_cellAt T 0 a0 a1 hV rrole.2.2.2) hg
  exact r3_eq h (r2_cellAt hV hJ h.1 hg hf) c.1 ((w_fr_cellAt hf).1 21 (by decide))
theorem r3_sources {T : AT} {S : MS} {r1 : Int32} {r2 : Int32} {T1 : AT} {S1 : MS} (hV : IV aR0 1586 aK1 aK2 T) (hJ : JJ S) (h : R3 T S) (hg : g_X11_sources T 0 = some (r1, T1)) (hf : fr_sources S = some (r2, S1)) : R3 T1 S1 := by
  have c := tgo (cs_X11_sources T 0  hV rrole.2.2.2) hg
  exact r3_eq h (r2_sources hV hJ h.1 hg hf) c.1 ((w_fr_sources hf).1 21 (by decide))
theorem r3_sourceAt {T : AT} {S : MS} {a0 a1 a2 : Int32} {r1 : Int32} {r2 : Int32} {k1 : Nat} {T1 : AT} {S1 : MS} (hV : IV aR0 1586 aK1 aK2 T) (hJ : JJ S) (h : R3 T S) (hg : g_X11_sourceAt T 0 a0 a1 a2 = some (k1, r1, T1)) (hf : fr_sourceAt S a0 a1 a2 = some (r2, S1)) : R3 T1 S1 := by
  have c := tgo (cs_X11_sourceAt T 0 a0 a1 a2 hV rrole.2.2.2) hg
  exact r3_eq h (r2_sourceAt hV hJ h.1 hg hf) c.1 ((w_fr_sourceAt hf).1 21 (by decide))
theorem r3_isOn {T : AT} {S : MS} {a0 : Int32} {r1 : Int32} {r2 : Int32} {k1 : Nat} {T1 : AT} {S1 : MS} (hV : IV aR0 1586 aK1 aK2 T) (hJ : JJ S) (h : R3 T S) (hg : g_X11_isOn T 0 a0 = some (k1, r1, T1)) (hf : fr_isOn S a0 = some (r2, S1)) : R3 T1 S1 := by
  have c := tgo (cs_X11_isOn T 0 a0 hV rrole.2.2.2) hg
  exact r3_eq h (r2_isOn hV hJ h.1 hg hf) c.1 ((w_fr_isOn hf).1 21 (by decide))
theorem r3_waveAt {T : AT} {S : MS} {a0 a1 : Int32} {r1 : Int32} {r2 : Int32} {k1 : Nat} {T1 : AT} {S1 : MS} (hV : IV aR0 1586 aK1 aK2 T) (hJ : JJ S) (h : R3 T S) (hg : g_X11_waveAt T 0 a0 a1 = some (k1, r1, T1)) (hf : fr_waveAt S a0 a1 = some (r2, S1)) : R3 T1 S1 := by
  have c := tgo (cs_X11_waveAt T 0 a0 a1 hV rrole.2.2.2) hg
  exact r3_eq h (r2_waveAt hV hJ h.1 hg hf) c.1 ((w_fr_waveAt hf).1 21 (by decide))
theorem r3_samples {T : AT} {S : MS} {r1 : Int32} {r2 : Int32} {T1 : AT} {S1 : MS} (hV : IV aR0 1586 aK1 aK2 T) (hJ : JJ S) (h : R3 T S) (hg : g_X11_samples T 0 = some (r1, T1)) (hf : fr_samples S = some (r2, S1)) : R3 T1 S1 := by
  have c := tgo (cs_X11_samples T 0  hV rrole.2.2.2) hg
  exact r3_eq h (r2_samples hV hJ h.1 hg hf) c.1 ((w_fr_samples hf).1 21 (by decide))
theorem r3_delay {T : AT} {S : MS} {a0 a1 : Int32} {r1 : Int32} {r2 : Int32} {k1 : Nat} {T1 : AT} {S1 : MS} (hV : IV aR0 1586 aK1 aK2 T) (hJ : JJ S) (h : R3 T S) (hg : g_X11_delay T 0 a0 a1 = some (k1, r1, T1)) (hf : fr_delay S a0 a1 = some (r2, S1)) : R3 T1 S1 := by
  have c := tgo (cs_X11_delay T 0 a0 a1 hV rrole.2.2.2) hg
  exact r3_eq h (r2_delay hV hJ h.1 hg hf) c.1 ((w_fr_delay hf).1 21 (by decide))
theorem r3_delayTo {T : AT} {S : MS} {a0 a1 a2 : Int32} {r1 : Int32} {r2 : Int32} {k1 : Nat} {T1 : AT} {S1 : MS} (hV : IV aR0 1586 aK1 aK2 T) (hJ : JJ S) (h : R3 T S) (hg : g_X11_delayTo T 0 a0 a1 a2 = some (k1, r1, T1)) (hf : fr_delayTo S a0 a1 a2 = some (r2, S1)) : R3 T1 S1 := by
  have c := tgo (cs_X11_delayTo T 0 a0 a1 a2 hV rrole.2.2.2) hg
  exact r3_eq h (r2_delayTo hV hJ h.1 hg hf) c.1 ((w_fr_delayTo hf).1 21 (by decide))
theorem r3_spread {T : AT} {S : MS} {a0 : Int32} {r1 : Int32} {r2 : Int32} {k1 : Nat} {T1 : AT} {S1 : MS} (hV : IV aR0 1586 aK1 aK2 T) (hJ : JJ S) (h : R3 T S) (hg : g_X11_spread T 0 a0 = some (k1, r1, T1)) (hf : fr_spread S a0 = some (r2, S1)) : R3 T1 S1 := by
  have c := tgo (cs_X11_spread T 0 a0 hV rrole.2.2.2) hg
  exact r3_eq h (r2_spread hV hJ h.1 hg hf) c.1 ((w_fr_spread hf).1 21 (by decide))
theorem r3_window {T : AT} {S : MS} {a0 : Int32} {r1 : Int32} {r2 : Int32} {k1 : Nat} {T1 : AT} {S1 : MS} (hV : IV aR0 1586 aK1 aK2 T) (hJ : JJ S) (h : R3 T S) (hg : g_X11_window T 0 a0 = some (k1, r1, T1)) (hf : fr_window S a0 = some (r2, S1)) : R3 T1 S1 := by
  have c := tgo (cs_X11_window T 0 a0 hV rrole.2.2.2) hg
  exact r3_eq h (r2_window hV hJ h.1 hg hf) c.1 ((w_fr_window hf).1 21 (by decide))
theorem r3_sample {T : AT} {S : MS} {a0 a1 : Int32} {r1 : Int32} {r2 : Int32} {k1 : Nat} {T1 : AT} {S1 : MS} (hV : IV aR0 1586 aK1 aK2 T) (hJ : JJ S) (h : R3 T S) (hg : g_X11_sample T 0 a0 a1 = some (k1, r1, T1)) (hf : fr_sample S a0 a1 = some (r2, S1)) : R3 T1 S1 := by
  have c := tgo (cs_X11_sample T 0 a0 a1 hV rrole.2.2.2) hg
  exact r3_eq h (r2_sample hV hJ h.1 hg hf) c.1 ((w_fr_sample hf).1 21 (by decide))
theorem r3_beam {T : AT} {S : MS} {a0 a1 : Int32} {r1 : Int32} {r2 : Int32} {k1 : Nat} {T1 : AT} {S1 : MS} (hV : IV aR0 1586 aK1 aK2 T) (hJ : JJ S) (h : R3 T S) (hg : g_X11_beam T 0 a0 a1 = some (k1, r1, T1)) (hf : fr_beam S a0 a1 = some (r2, S1)) : R3 T1 S1 := by
  have c := tgo (cs_X11_beam T 0 a0 a1 hV rrole.2.2.2) hg
  exact r3_keep h (r2_beam hV hJ h.1 hg hf) (si_X11_beam hg) c.1.2 (by decide +kernel) ((w_fr_beam hf).1 21 (by decide))
theorem r3_power {T : AT} {S : MS} {a0 : Int32} {r1 : Int64} {r2 : Int64} {k1 : Nat} {T1 : AT} {S1 : MS} (hV : IV aR0 1586 aK1 aK2 T) (hJ : JJ S) (h : R3 T S) (hg : g_X11_power T 0 a0 = some (k1, r1, T1)) (hf : fr_power S a0 = some (r2, S1)) : R3 T1 S1 := by
  have c := tgo (cs_X11_power T 0 a0 hV rrole.2.2.2) hg
  exact r3_keep h (r2_power hV hJ h.1 hg hf) (si_X11_power hg) c.1.2 (by decide +kernel) ((w_fr_power hf).1 21 (by decide))
theorem r3_powerAt {T : AT} {S : MS} {a0 a1 : Int32} {r1 : Int64} {r2 : Int64} {k1 : Nat} {T1 : AT} {S1 : MS} (hV : IV aR0 1586 aK1 aK2 T) (hJ : JJ S) (h : R3 T S) (hg : g_X11_powerAt T 0 a0 a1 = some (k1, r1, T1)) (hf : fr_powerAt S a0 a1 = some (r2, S1)) : R3 T1 S1 := by
  have c := tgo (cs_X11_powerAt T 0 a0 a1 hV rrole.2.2.2) hg
  exact r3_keep h (r2_powerAt hV hJ h.1 hg hf) (si_X11_powerAt hg) c.1.2 (by decide +kernel) ((w_fr_powerAt hf).1 21 (by decide))
theorem r3_best {T : AT} {S : MS} {r1 : Int32} {r2 : Int32} {k1 : Nat} {T1 : AT} {S1 : MS} (hV : IV aR0 1586 aK1 aK2 T) (hJ : JJ S) (h : R3 T S) (hg : g_X11_best T 0 = some (k1, r1, T1)) (hf : fr_best S = some (r2, S1)) : R3 T1 S1 := by
  have c := tgo (cs_X11_best T 0  hV rrole.2.2.2) hg
  exact r3_keep h (r2_best hV hJ h.1 hg hf) (si_X11_best hg) c.1.2 (by decide +kernel) ((w_fr_best hf).1 21 (by decide))
theorem r3_bestPower {T : AT} {S : MS} {r1 : Int64} {r2 : Int64} {k1 : Nat} {T1 : AT} {S1 : MS} (hV : IV aR0 1586 aK1 aK2 T) (hJ : JJ S) (h : R3 T S) (hg : g_X11_bestPower T 0 = some (k1, r1, T1)) (hf : fr_bestPower S = some (r2, S1)) : R3 T1 S1 := by
  have c := tgo (cs_X11_bestPower T 0  hV rrole.2.2.2) hg
  exact r3_keep h (r2_bestPower hV hJ h.1 hg hf) (si_X11_bestPower hg) c.1.2 (by decide +kernel) ((w_fr_bestPower hf).1 21 (by decide))
theorem r3_meanPower {T : AT} {S : MS} {r1 : Int64} {r2 : Int64} {k1 : Nat} {T1 : AT} {S1 : MS} (hV : IV aR0 1586 aK1 aK2 T) (hJ : JJ S) (h : R3 T S) (hg : g_X11_meanPower T 0 = some (k1, r1, T1)) (hf : fr_meanPower S = some (r2, S1)) : R3 T1 S1 := by
  have c := tgo (cs_X11_meanPower T 0  hV rrole.2.2.2) hg
  exact r3_keep h (r2_meanPower hV hJ h.1 hg hf) (si_X11_meanPower hg) c.1.2 (by decide +kernel) ((w_fr_meanPower hf).1 21 (by decide))
theorem r3_peaks {T : AT} {S : MS} {r1 : Int32} {r2 : Int32} {k1 : Nat} {T1 : AT} {S1 : MS} (hV : IV aR0 1586 aK1 aK2 T) (hJ : JJ S) (h : R3 T S) (hg : g_X11_peaks T 0 = some (k1, r1, T1)) (hf : fr_peaks S = some (r2, S1)) : R3 T1 S1 := by
  have c := tgo (cs_X11_peaks T 0  hV rrole.2.2.2) hg
  exact r3_keep h (r2_peaks hV hJ h.1 hg hf) (si_X11_peaks hg) c.1.2 (by decide +kernel) ((w_fr_peaks hf).1 21 (by decide))
theorem r3_peakAt {T : AT} {S : MS} {a0 : Int32} {r1 : Int32} {r2 : Int32} {k1 : Nat} {T1 : AT} {S1 : MS} (hV : IV aR0 1586 aK1 aK2 T) (hJ : JJ S) (h : R3 T S) (hg : g_X11_peakAt T 0 a0 = some (k1, r1, T1)) (hf : fr_peakAt S a0 = some (r2, S1)) : R3 T1 S1 := by
  have c := tgo (cs_X11_peakAt T 0 a0 hV rrole.2.2.2) hg
  exact r3_keep h (r2_peakAt hV hJ h.1 hg hf) (si_X11_peakAt hg) c.1.2 (by decide +kernel) ((w_fr_peakAt hf).1 21 (by decide))
theorem r3_isPeak {T : AT} {S : MS} {a0 : Int32} {r1 : Int32} {r2 : Int32} {k1 : Nat} {T1 : AT} {S1 : MS} (hV : IV aR0 1586 aK1 aK2 T) (hJ : JJ S) (h : R3 T S) (hg : g_X11_isPeak T 0 a0 = some (k1, r1, T1)) (hf : fr_isPeak S a0 = some (r2, S1)) : R3 T1 S1 := by
  have c := tgo (cs_X11_isPeak T 0 a0 hV rrole.2.2.2) hg
  exact r3_keep h (r2_isPeak hV hJ h.1 hg hf) (si_X11_isPeak hg) c.1.2 (by decide +kernel) ((w_fr_isPeak hf).1 21 (by decide))
theorem r3_zonePower {T : AT} {S : MS} {a0 : Int32} {r1 : Int64} {r2 : Int64} {k1 : Nat} {T1 : AT} {S1 : MS} (hV : IV aR0 1586 aK1 aK2 T) (hJ : JJ S) (h : R3 T S) (hg : g_X11_zonePower T 0 a0 = some (k1, r1, T1)) (hf : fr_zonePower S a0 = some (r2, S1)) : R3 T1 S1 := by
  have c := tgo (cs_X11_zonePower T 0 a0 hV rrole.2.2.2) hg
  exact r3_keep h (r2_zonePower hV hJ h.1 hg hf) (si_X11_zonePower hg) c.1.2 (by decide +kernel) ((w_fr_zonePower hf).1 21 (by decide))
theorem r3_zoneBest {T : AT} {S : MS} {a0 : Int32} {r1 : Int32} {r2 : Int32} {k1 : Nat} {T1 : AT} {S1 : MS} (hV : IV aR0 1586 aK1 aK2 T) (hJ : JJ S) (h : R3 T S) (hg : g_X11_zoneBest T 0 a0 = some (k1, r1, T1)) (hf : fr_zoneBest S a0 = some (r2, S1)) : R3 T1 S1 := by
  have c := tgo (cs_X11_zoneBest T 0 a0 hV rrole.2.2.2) hg
  exact r3_keep h (r2_zoneBest hV hJ h.1 hg hf) (si_X11_zoneBest hg) c.1.2 (by decide +kernel) ((w_fr_zoneBest hf).1 21 (by decide))
theorem r3_contrast {T : AT} {S : MS} {r1 : UInt32} {r2 : UInt32} {k1 : Nat} {T1 : AT} {S1 : MS} (hV : IV aR0 1586 aK1 aK2 T) (hJ : JJ S) (h : R3 T S) (hg : g_X11_contrast T 0 = some (k1, r1, T1)) (hf : fr_contrast S = some (r2, S1)) : R3 T1 S1 := by
  have c := tgo (cs_X11_contrast T 0  hV rrole.2.2.2) hg
  exact r3_keep h (r2_contrast hV hJ h.1 hg hf) (si_X11_contrast hg) c.1.2 (by decide +kernel) ((w_fr_contrast hf).1 21 (by decide))
theorem r3_alias {T : AT} {S : MS} {a0 a1 a2 : Int32} {r1 : Int32} {r2 : Int32} {k1 : Nat} {T1 : AT} {S1 : MS} (hV : IV aR0 1586 aK1 aK2 T) (hJ : JJ S) (h : R3 T S) (hg : g_X11_alias T 0 a0 a1 a2 = some (k1, r1, T1)) (hf : fr_alias S a0 a1 a2 = some (r2, S1)) : R3 T1 S1 := by
  have c := tgo (cs_X11_alias T 0 a0 a1 a2 hV rrole.2.2.2) hg
  exact r3_eq h (r2_alias hV hJ h.1 hg hf) c.1 ((w_fr_alias hf).1 21 (by decide))
theorem r3_isAlias {T : AT} {S : MS} {a0 a1 a2 : Int32} {r1 : Int32} {r2 : Int32} {k1 : Nat} {T1 : AT} {S1 : MS} (hV : IV aR0 1586 aK1 aK2 T) (hJ : JJ S) (h : R3 T S) (hg : g_X11_isAlias T 0 a0 a1 a2 = some (k1, r1, T1)) (hf : fr_isAlias S a0 a1 a2 = some (r2, S1)) : R3 T1 S1 := by
  have c := tgo (cs_X11_isAlias T 0 a0 a1 a2 hV rrole.2.2.2) hg
  exact r3_keep h (r2_isAlias hV hJ h.1 hg hf) (si_X11_isAlias hg) c.1.2 (by decide +kernel) ((w_fr_isAlias hf).1 21 (by decide))
theorem r3_aliases {T : AT} {S : MS} {a0 a1 : Int32} {r1 : Int32} {r2 : Int32} {k1 : Nat} {T1 : AT} {S1 : MS} (hV : IV aR0 1586 aK1 aK2 T) (hJ : JJ S) (h : R3 T S) (hg : g_X11_aliases T 0 a0 a1 = some (k1, r1, T1)) (hf : fr_aliases S a0 a1 = some (r2, S1)) : R3 T1 S1 := by
  have c := tgo (cs_X11_aliases T 0 a0 a1 hV rrole.2.2.2) hg
  exact r3_keep h (r2_aliases hV hJ h.1 hg hf) (si_X11_aliases hg) c.1.2 (by decide +kernel) ((w_fr_aliases hf).1 21 (by decide))
theorem r3_blockPower {T : AT} {S : MS} {a0 a1 a2 : Int32} {r1 : Int64} {r2 : Int64} {k1 : Nat} {T1 : AT} {S1 : MS} (hV : IV aR0 1586 aK1 aK2 T) (hJ : JJ S) (h : R3 T S) (hg : g_X11_blockPower T 0 a0 a1 a2 = some (k1, r1, T1)) (hf : fr_blockPower S a0 a1 a2 = some (r2, S1)) : R3 T1 S1 := by
  have c := tgo (cs_X11_blockPower T 0 a0 a1 a2 hV rrole.2.2.2) hg
  exact r3_keep h (r2_blockPower hV hJ h.1 hg hf) (si_X11_blockPower hg) c.1.2 (by decide +kernel) ((w_fr_blockPower hf).1 21 (by decide))
theorem r3_blockBest {T : AT} {S : MS} {a0 a1 : Int32} {r1 : Int32} {r2 : Int32} {k1 : Nat} {T1 : AT} {S1 : MS} (hV : IV aR0 1586 aK1 aK2 T) (hJ : JJ S) (h : R3 T S) (hg : g_X11_blockBest T 0 a0 a1 = some (k1, r1, T1)) (hf : fr_blockBest S a0 a1 = some (r2, S1)) : R3 T1 S1 := by
  have c := tgo (cs_X11_blockBest T 0 a0 a1 hV rrole.2.2.2) hg
  exact r3_keep h (r2_blockBest hV hJ h.1 hg hf) (si_X11_blockBest hg) c.1.2 (by decide +kernel) ((w_fr_blockBest hf).1 21 (by decide))
theorem r3_path {T : AT} {S : MS} {a0 : Int32} {r1 : Int32} {r2 : Int32} {k1 : Nat} {T1 : AT} {S1 : MS} (hV : IV aR0 1586 aK1 aK2 T) (hJ : JJ S) (h : R3 T S) (hg : g_X11_path T 0 a0 = some (k1, r1, T1)) (hf : fr_path S a0 = some (r2, S1)) : R3 T1 S1 := by
  have c := tgo (cs_X11_path T 0 a0 hV rrole.2.2.2) hg
  exact r3_keep h (r2_path hV hJ h.1 hg hf) (si_X11_path hg) c.1.2 (by decide +kernel) ((w_fr_path hf).1 21 (by decide))
theorem r3_trackScore {T : AT} {S : MS} {a0 : Int32} {r1 : Int64} {r2 : Int64} {k1 : Nat} {T1 : AT} {S1 : MS} (hV : IV aR0 1586 aK1 aK2 T) (hJ : JJ S) (h : R3 T S) (hg : g_X11_trackScore T 0 a0 = some (k1, r1, T1)) (hf : fr_trackScore S a0 = some (r2, S1)) : R3 T1 S1 := by
  have c := tgo (cs_X11_trackScore T 0 a0 hV rrole.2.2.2) hg
  exact r3_keep h (r2_trackScore hV hJ h.1 hg hf) (si_X11_trackScore hg) c.1.2 (by decide +kernel) ((w_fr_trackScore hf).1 21 (by decide))
theorem r3_trackCell {T : AT} {S : MS} {a0 a1 : Int32} {r1 : Int32} {r2 : Int32} {k1 : Nat} {T1 : AT} {S1 : MS} (hV : IV aR0 1586 aK1 aK2 T) (hJ : JJ S) (h : R3 T S) (hg : g_X11_trackCell T 0 a0 a1 = some (k1, r1, T1)) (hf : fr_trackCell S a0 a1 = some (r2, S1)) : R3 T1 S1 := by
  have c := tgo (cs_X11_trackCell T 0 a0 a1 hV rrole.2.2.2) hg
  exact r3_keep h (r2_trackCell hV hJ h.1 hg hf) (si_X11_trackCell hg) c.1.2 (by decide +kernel) ((w_fr_trackCell hf).1 21 (by decide))
theorem r3_movingPower {T : AT} {S : MS} {a0 a1 a2 : Int32} {r1 : Int64} {r2 : Int64} {k1 : Nat} {T1 : AT} {S1 : MS} (hV : IV aR0 1586 aK1 aK2 T) (hJ : JJ S) (h : R3 T S) (hg : g_X11_movingPower T 0 a0 a1 a2 = some (k1, r1, T1)) (hf : fr_movingPower S a0 a1 a2 = some (r2, S1)) : R3 T1 S1 := by
  have c := tgo (cs_X11_movingPower T 0 a0 a1 a2 hV rrole.2.2.2) hg
  exact r3_keep h (r2_movingPower hV hJ h.1 hg hf) (si_X11_movingPower hg) c.1.2 (by decide +kernel) ((w_fr_movingPower hf).1 21 (by decide))
theorem r3_bestVelocity {T : AT} {S : MS} {a0 a1 a2 : Int32} {r1 : Int32} {r2 : Int32} {k1 : Nat} {T1 : AT} {S1 : MS} (hV : IV aR0 1586 aK1 aK2 T) (hJ : JJ S) (h : R3 T S) (hg : g_X11_bestVelocity T 0 a0 a1 a2 = some (k1, r1, T1)) (hf : fr_bestVelocity S a0 a1 a2 = some (r2, S1)) : R3 T1 S1 := by
  have c := tgo (cs_X11_bestVelocity T 0 a0 a1 a2 hV rrole.2.2.2) hg
  exact r3_keep h (r2_bestVelocity hV hJ h.1 hg hf) (si_X11_bestVelocity hg) c.1.2 (by decide +kernel) ((w_fr_bestVelocity hf).1 21 (by decide))
theorem r3_correlation {T : AT} {S : MS} {a0 a1 a2 : Int32} {r1 : Int64} {r2 : Int64} {k1 : Nat} {T1 : AT} {S1 : MS} (hV : IV aR0 1586 aK1 aK2 T) (hJ : JJ S) (h : R3 T S) (hg : g_X11_correlation T 0 a0 a1 a2 = some (k1, r1, T1)) (hf : fr_correlation S a0 a1 a2 = some (r2, S1)) : R3 T1 S1 := by
  have c := tgo (cs_X11_correlation T 0 a0 a1 a2 hV rrole.2.2.2) hg
  exact r3_keep h (r2_correlation hV hJ h.1 hg hf) (si_X11_correlation hg) c.1.2 (by decide +kernel) ((w_fr_correlation hf).1 21 (by decide))
theorem r3_bestLag {T : AT} {S : MS} {a0 a1 a2 : Int32} {r1 : Int32} {r2 : Int32} {k1 : Nat} {T1 : AT} {S1 : MS} (hV : IV aR0 1586 aK1 aK2 T) (hJ : JJ S) (h : R3 T S) (hg : g_X11_bestLag T 0 a0 a1 a2 = some (k1, r1, T1)) (hf : fr_bestLag S a0 a1 a2 = some (r2, S1)) : R3 T1 S1 := by
  have c := tgo (cs_X11_bestLag T 0 a0 a1 a2 hV rrole.2.2.2) hg
  exact r3_keep h (r2_bestLag hV hJ h.1 hg hf) (si_X11_bestLag hg) c.1.2 (by decide +kernel) ((w_fr_bestLag hf).1 21 (by decide))
theorem r3_level {T : AT} {S : MS} {a0 : Int32} {r1 : Int64} {r2 : Int64} {k1 : Nat} {T1 : AT} {S1 : MS} (hV : IV aR0 1586 aK1 aK2 T) (hJ : JJ S) (h : R3 T S) (hg : g_X11_level T 0 a0 = some (k1, r1, T1)) (hf : fr_level S a0 = some (r2, S1)) : R3 T1 S1 := by
  have c := tgo (cs_X11_level T 0 a0 hV rrole.2.2.2) hg
  exact r3_keep h (r2_level hV hJ h.1 hg hf) (si_X11_level hg) c.1.2 (by decide +kernel) ((w_fr_level hf).1 21 (by decide))
theorem r3_loudest {T : AT} {S : MS} {a0 : Int32} {r1 : Int32} {r2 : Int32} {k1 : Nat} {T1 : AT} {S1 : MS} (hV : IV aR0 1586 aK1 aK2 T) (hJ : JJ S) (h : R3 T S) (hg : g_X11_loudest T 0 a0 = some (k1, r1, T1)) (hf : fr_loudest S a0 = some (r2, S1)) : R3 T1 S1 := by
  have c := tgo (cs_X11_loudest T 0 a0 hV rrole.2.2.2) hg
  exact r3_keep h (r2_loudest hV hJ h.1 hg hf) (si_X11_loudest hg) c.1.2 (by decide +kernel) ((w_fr_loudest hf).1 21 (by decide))
theorem r3_writeMap {T : AT} {S : MS} {r1 : Int32} {r2 : Int32} {k1 : Nat} {T1 : AT} {S1 : MS} (hV : IV aR0 1586 aK1 aK2 T) (hJ : JJ S) (h : R3 T S) (hg : g_X11_writeMap T 0 = some (k1, r1, T1)) (hf : fr_writeMap S = some (r2, S1)) : R3 T1 S1 := by
  have c := tgo (cs_X11_writeMap T 0  hV rrole.2.2.2) hg
  exact r3_keep h (r2_writeMap hV hJ h.1 hg hf) (si_X11_writeMap hg) c.1.2 (by decide +kernel) ((w_fr_writeMap hf).1 21 (by decide))
theorem r3_mapByte {T : AT} {S : MS} {a0 : Int32} {r1 : Int32} {r2 : Int32} {k1 : Nat} {T1 : AT} {S1 : MS} (hV : IV aR0 1586 aK1 aK2 T) (hJ : JJ S) (h : R3 T S) (hg : g_X11_mapByte T 0 a0 = some (k1, r1, T1)) (hf : fr_mapByte S a0 = some (r2, S1)) : R3 T1 S1 := by
  have c := tgo (cs_X11_mapByte T 0 a0 hV rrole.2.2.2) hg
  exact r3_eq h (r2_mapByte hV hJ h.1 hg hf) c.1 ((w_fr_mapByte hf).1 21 (by decide))
theorem r3_pointBest {T : AT} {S : MS} {a0 a1 : Int32} {r1 : Int32} {r2 : Int32} {k1 : Nat} {T1 : AT} {S1 : MS} (hV : IV aR0 1586 aK1 aK2 T) (hJ : JJ S) (h : R3 T S) (hg : g_X11_pointBest T 0 a0 a1 = some (k1, r1, T1)) (hf : fr_pointBest S a0 a1 = some (r2, S1)) : R3 T1 S1 := by
  have c := tgo (cs_X11_pointBest T 0 a0 a1 hV rrole.2.2.2) hg
  exact r3_keep h (r2_pointBest hV hJ h.1 hg hf) (si_X11_pointBest hg) c.1.2 (by decide +kernel) (p21_pointBest h.2.2.2.2 hf)
theorem r3_pointPower {T : AT} {S : MS} {a0 a1 a2 : Int32} {r1 : Int64} {r2 : Int64} {k1 : Nat} {T1 : AT} {S1 : MS} (hV : IV aR0 1586 aK1 aK2 T) (hJ : JJ S) (h : R3 T S) (hg : g_X11_pointPower T 0 a0 a1 a2 = some (k1, r1, T1)) (hf : fr_pointPower S a0 a1 a2 = some (r2, S1)) : R3 T1 S1 := by
  have c := tgo (cs_X11_pointPower T 0 a0 a1 a2 hV rrole.2.2.2) hg
  exact r3_keep h (r2_pointPower hV hJ h.1 hg hf) (si_X11_pointPower hg) c.1.2 (by decide +kernel) (p21_pointPower h.2.2.2.2 hf)
theorem r3_bestWithout {T : AT} {S : MS} {a0 : Int32} {r1 : Int32} {r2 : Int32} {k1 : Nat} {T1 : AT} {S1 : MS} (hV : IV aR0 1586 aK1 aK2 T) (hJ : JJ S) (h : R3 T S) (hg : g_X11_bestWithout T 0 a0 = some (k1, r1, T1)) (hf : fr_bestWithout S a0 = some (r2, S1)) : R3 T1 S1 := by
  have c := tgo (cs_X11_bestWithout T 0 a0 hV rrole.2.2.2) hg
  exact r3_keep h (r2_bestWithout hV hJ h.1 hg hf) (si_X11_bestWithout hg) c.1.2 (by decide +kernel) ((w_fr_bestWithout hf).1 21 (by decide))
theorem r3_bestIfOff {T : AT} {S : MS} {a0 : Int32} {r1 : Int32} {r2 : Int32} {k1 : Nat} {T1 : AT} {S1 : MS} (hV : IV aR0 1586 aK1 aK2 T) (hJ : JJ S) (h : R3 T S) (hg : g_X11_bestIfOff T 0 a0 = some (k1, r1, T1)) (hf : fr_bestIfOff S a0 = some (r2, S1)) : R3 T1 S1 := by
  have c := tgo (cs_X11_bestIfOff T 0 a0 hV rrole.2.2.2) hg
  exact r3_keep h (r2_bestIfOff hV hJ h.1 hg hf) (si_X11_bestIfOff hg) c.1.2 (by decide +kernel) ((w_fr_bestIfOff hf).1 21 (by decide))
theorem r3_mute {T : AT} {S : MS} {a0 a1 : Int32} {r1 : Int32} {r2 : Int32} {k1 : Nat} {T1 : AT} {S1 : MS} (hV : IV aR0 1586 aK1 aK2 T) (hJ : JJ S) (hb : 0 ≤ a1.toInt ∧ a1.toInt ≤ 1) (h : R3 T S) (hg : g_X11_mute T 0 a0 a1 = some (k1, r1, T1)) (hf : fr_mute S a0 a1 = some (r2, S1)) : R3 T1 S1 := by
  have c := tgo (cs_X11_mute T 0 a0 a1 hV rrole.2.2.2 hb) hg
  exact r3_keep h (r2_mute hV hJ hb h.1 hg hf) (si_X11_mute hg) c.1.2 (by decide +kernel) ((w_fr_mute hf).1 21 (by decide))
theorem r3_setWeight {T : AT} {S : MS} {a0 a1 : Int32} {r1 : Int32} {r2 : Int32} {k1 : Nat} {T1 : AT} {S1 : MS} (hV : IV aR0 1586 aK1 aK2 T) (hJ : JJ S) (h : R3 T S) (hg : g_X11_setWeight T 0 a0 a1 = some (k1, r1, T1)) (hf : fr_setWeight S a0 a1 = some (r2, S1)) : R3 T1 S1 := by
  have c := tgo (cs_X11_setWeight T 0 a0 a1 hV rrole.2.2.2) hg
  exact r3_keep h (r2_setWeight hV hJ h.1 hg hf) (si_X11_setWeight hg) c.1.2 (by decide +kernel) ((w_fr_setWeight hf).1 21 (by decide))
theorem r3_setOn {T : AT} {S : MS} {a0 a1 : Int32} {r1 : Int32} {r2 : Int32} {k1 : Nat} {T1 : AT} {S1 : MS} (hV : IV aR0 1586 aK1 aK2 T) (hJ : JJ S) (hb : 0 ≤ a1.toInt ∧ a1.toInt ≤ 1) (h : R3 T S) (hg : g_X11_setOn T 0 a0 a1 = some (k1, r1, T1)) (hf : fr_setOn S a0 a1 = some (r2, S1)) : R3 T1 S1 := by
  have c := tgo (cs_X11_setOn T 0 a0 a1 hV rrole.2.2.2 hb) hg
  exact r3_keep h (r2_setOn hV hJ hb h.1 hg hf) (si_X11_setOn hg) c.1.2 (by decide +kernel) ((w_fr_setOn hf).1 21 (by decide))
theorem r3_moveSource {T : AT} {S : MS} {r1 r2 : Int32} {k1 : Nat} {T1 : AT} {S1 : MS} {a0 a1 a2 : Int32} (hV : IV aR0 1586 aK1 aK2 T) (hJ : JJ S) (h : R3 T S) (hg : g_X11_moveSource T 0 a0 a1 a2 = some (k1, r1, T1)) (hf : fr_moveSource S a0 a1 a2 = some (r2, S1)) : R3 T1 S1 := by
  have c := tgo (cs_X11_moveSource T 0 a0 a1 a2 hV rrole.2.2.2) hg
  exact r3_keep h (r2_moveSource hV hJ h.1 hg hf) (si_X11_moveSource hg) c.1.2 (by decide +kernel) ((w_fr_moveSource hf).1 21 (by decide))
theorem r3_setVelocity {T : AT} {S : MS} {r1 r2 : Int32} {k1 : Nat} {T1 : AT} {S1 : MS} {a0 a1 a2 : Int32} (hV : IV aR0 1586 aK1 aK2 T) (hJ : JJ S) (h : R3 T S) (hg : g_X11_setVelocity T 0 a0 a1 a2 = some (k1, r1, T1)) (hf : fr_setVelocity S a0 a1 a2 = some (r2, S1)) : R3 T1 S1 := by
  have c := tgo (cs_X11_setVelocity T 0 a0 a1 a2 hV rrole.2.2.2) hg
  exact r3_keep h (r2_setVelocity hV hJ h.1 hg hf) (si_X11_setVelocity hg) c.1.2 (by decide +kernel) ((w_fr_setVelocity hf).1 21 (by decide))
theorem r3_clean {T : AT} {S : MS} {r1 r2 : Int32} {k1 : Nat} {T1 : AT} {S1 : MS} {a0 : Int32} (hV : IV aR0 1586 aK1 aK2 T) (hJ : JJ S) (h : R3 T S) (hg : g_X11_clean T 0 a0 = some (k1, r1, T1)) (hf : fr_clean S a0 = some (r2, S1)) : R3 T1 S1 := by
  have c := tgo (cs_X11_clean T 0 a0 hV rrole.2.2.2) hg
  exact r3_keep h (r2_clean hV hJ h.1 hg hf) (si_X11_clean hg) c.1.2 (by decide +kernel) ((w_fr_clean hf).1 21 (by decide))
theorem r3_cleaned {T : AT} {S : MS} {r1 : Int32} {r2 : Int32} {k1 : Nat} {T1 : AT} {S1 : MS} (hV : IV aR0 1586 aK1 aK2 T) (hJ : JJ S) (h : R3 T S) (hg : g_X11_cleaned T 0 = some (k1, r1, T1)) (hf : fr_cleaned S = some (r2, S1)) : R3 T1 S1 := by
  have c := tgo (cs_X11_cleaned T 0  hV rrole.2.2.2) hg
  exact r3_eq h (r2_cleaned hV hJ h.1 hg hf) c.1 ((w_fr_cleaned hf).1 21 (by decide))
theorem r3_undo {T : AT} {S : MS} {r1 : Int32} {r2 : Int32} {k1 : Nat} {T1 : AT} {S1 : MS} (hV : IV aR0 1586 aK1 aK2 T) (hJ : JJ S) (h : R3 T S) (hg : g_X11_undo T 0 = some (k1, r1, T1)) (hf : fr_undo S = some (r2, S1)) : R3 T1 S1 := by
  have c := tgo (cs_X11_undo T 0  hV rrole.2.2.2) hg
  exact r3_keep h (r2_undo hV hJ h.1 hg hf) (si_X11_undo hg) c.1.2 (by decide +kernel) ((w_fr_undo hf).1 21 (by decide))
theorem r3_undoable {T : AT} {S : MS} {r1 : Int32} {r2 : Int32} {T1 : AT} {S1 : MS} (hV : IV aR0 1586 aK1 aK2 T) (hJ : JJ S) (h : R3 T S) (hg : g_X11_undoable T 0 = some (r1, T1)) (hf : fr_undoable S = some (r2, S1)) : R3 T1 S1 := by
  have c := tgo (cs_X11_undoable T 0  hV rrole.2.2.2) hg
  exact r3_eq h (r2_undoable hV hJ h.1 hg hf) c.1 ((w_fr_undoable hf).1 21 (by decide))
theorem r3_save {T : AT} {S : MS} {r1 r2 : Int32} {k1 : Nat} {T1 : AT} {S1 : MS} {a0 : Int32} (hV : IV aR0 1586 aK1 aK2 T) (hJ : JJ S) (h : R3 T S) (hg : g_X11_save T 0 a0 = some (k1, r1, T1)) (hf : fr_save S a0 = some (r2, S1)) : R3 T1 S1 := by
  have c := tgo (cs_X11_save T 0 a0 hV rrole.2.2.2) hg
  exact r3_keep h (r2_save hV hJ h.1 hg hf) (si_X11_save hg) c.1.2 (by decide +kernel) ((w_fr_save hf).1 21 (by decide))
theorem r3_restore {T : AT} {S : MS} {r1 r2 : Int32} {k1 : Nat} {T1 : AT} {S1 : MS} {a0 : Int32} (hV : IV aR0 1586 aK1 aK2 T) (hJ : JJ S) (h : R3 T S) (hg : g_X11_restore T 0 a0 = some (k1, r1, T1)) (hf : fr_restore S a0 = some (r2, S1)) : R3 T1 S1 := by
  have c := tgo (cs_X11_restore T 0 a0 hV rrole.2.2.2) hg
  exact r3_keep h (r2_restore hV hJ h.1 hg hf) (si_X11_restore hg) c.1.2 (by decide +kernel) ((w_fr_restore hf).1 21 (by decide))
end
section
/-! 27u.kmap.lean.txt -/
/-! the corner of the map stays 0: lines map and zone -/
section
variable {T T1 T0 : AT} {s k : Nat} {r : Int32}
def KW (T T1 : AT) : Prop := ∀ s, s = 478 ∨ s = 656 → T1.2.2.1 (s + 3) 0 = T.2.2.1 (s + 3) 0 ∧ T1.2.2.1 (s + 3) 1 = T.2.2.1 (s + 3) 1
theorem KW.rf : KW T T := fun _ _ => ⟨rfl, rfl⟩
theorem KW.tr (h : KW T0 T) (k : KW T T1) : KW T0 T1 := fun s hs => ⟨(k s hs).1.trans (h s hs).1, (k s hs).2.trans (h s hs).2⟩
theorem kw_fw {W : List Nat} (hw : FW aR0 W T T1) (c : W.contains 1888 = false) : KW T T1 := fun s hs => by
  have r := (sro hs).2.2.1
  exact ⟨hw _ 0 (by rw [r]; exact c), hw _ 1 (by rw [r]; exact c)⟩
theorem kw_ui {n j : Nat} {v : Int32} (h : n ≠ 481 ∧ n ≠ 659 ∨ 2 ≤ j) : KW T (uI T n j v) := fun s hs => by
  have e0 : s + 3 ≠ n ∨ 0 ≠ j := by omega
  have e1 : s + 3 ≠ n ∨ 1 ≠ j := by omega
  exact ⟨ui_ne e0, ui_ne e1⟩
/-- a step of the parser: the cells are still in order, the references as they were, the corner as it was -/
def PS (T T1 : AT) : Prop := IV aR0 1586 aK1 aK2 T1 ∧ SP T T1 ∧ KW T T1
theorem PS.tr (h : PS T0 T) (k : PS T T1) : PS T0 T1 := ⟨k.1, h.2.1.tr k.2.1, h.2.2.tr k.2.2⟩
theorem ps_start {a b : Int32} (hV : IV aR0 1586 aK1 aK2 T) (h0 : 0 ≤ a.toInt ∧ a.toInt ≤ 1) (h1 : 3 ≤ b.toInt ∧ b.toInt ≤ 4) (h2 : (T.2.2.1 6 1).toInt ≤ 1000) (h : g_X3_startLine T 6 a b = some (k, r, T1)) : PS T T1 := by
  have c := tgo (cs_X3_startLine T 6 a b hV rrole.2.2.1 h0 h1 h2) h
  exact ⟨c.1.1, s_X3_startLine h, kw_fw c.1.2 (by decide)⟩
theorem ps_signed {a b : Int32} (hV : IV aR0 1586 aK1 aK2 T) (h0 : -2000 ≤ a.toInt ∧ a.toInt ≤ -9) (h1 : 9 ≤ b.toInt ∧ b.toInt ≤ 2000) (h : g_X3_signed T 6 a b = some (k, r, T1)) : PS T T1 ∧ (k = 0 → a.toInt ≤ r.toInt ∧ r.toInt ≤ b.toInt) := by
  have c := tgo (cs_X3_signed T 6 a b hV rrole.2.2.1 h0 h1) h
  exact ⟨⟨c.1.1, s_X3_signed h, kw_fw c.1.2 (by decide)⟩, c.2⟩
theorem ps_number {a b : Int32} (hV : IV aR0 1586 aK1 aK2 T) (h : g_X3_number T 6 a b = some (k, r, T1)) : PS T T1 ∧ (k = 0 → a.toInt ≤ r.toInt ∧ r.toInt ≤ b.toInt) := by
  have c := tgo (cs_X3_number T 6 a b hV rrole.2.2.1) h
  exact ⟨⟨c.1.1, s_X3_number h, kw_fw c.1.2 (by decide)⟩, c.2⟩
theorem k_open {a b : Int32} (hs : s = 478 ∨ s = 656) (hc : CRF T) (h : g_X1_open T (s + 2) a b = some T1) : KW T T1 := by
  unfold g_X1_open at h
  obtain ⟨-, h⟩ := oif_some h
  obtain ⟨T3, e3, h⟩ := elet_some h
  obtain ⟨-, h⟩ := oif_some h
  obtain ⟨T5, e5, h⟩ := elet_some h
  have hc5 := crf_eq hc (show T5.2.2.2.2 = T.2.2.2.2 by rw [e5, e3]; rfl)
  obtain ⟨-, h⟩ := oif_some h
  obtain ⟨n7, en, h⟩ := obind_some h
  rw [(hc5.srf hs).2.2.2.2.2.2.2.2.2.2.1] at en
  cases en
  obtain ⟨v8, d8, h⟩ := elet_some h
  obtain ⟨-, h⟩ := oif_some h
  obtain ⟨-, h⟩ := oif_some h
  obtain ⟨T11, e11, h⟩ := elet_some h
  have hc11 := crf_eq hc5 (show T11.2.2.2.2 = T5.2.2.2.2 by rw [e11]; rfl)
  obtain ⟨-, h⟩ := oif_some h
  obtain ⟨n13, en, h⟩ := obind_some h
  rw [(hc11.srf hs).2.2.2.2.2.2.2.2.2.2.1] at en
  cases en
  obtain ⟨v14, d14, h⟩ := elet_some h
  obtain ⟨-, h⟩ := oif_some h
  obtain ⟨-, h⟩ := oif_some h
  obtain ⟨T17, e17, h⟩ := elet_some h
  have k3 : KW T T3 := by rw [e3]; exact kw_ui (.inl (by omega))
  have k5 : KW T3 T5 := by rw [e5]; exact kw_ui (.inl (by omega))
  have k11 : KW T5 T11 := by rw [e11]; exact kw_ui (.inr (by decide))
  have k17 : KW T11 T17 := by rw [e17]; exact kw_ui (.inr (by decide))
  rw [← osome1 h]
  exact ((k3.tr k5).tr k11).tr k17
theorem ps_grid {j : Nat} {v : Int32} {a b : Int} (hs : s = 478 ∨ s = 656) (hV : IV aR0 1586 aK1 aK2 T) (hi : iR 1 j = (a, b)) (hv : a ≤ v.toInt ∧ v.toInt ≤ b) (e : T1 = uI T (s + 2) j v) : PS T T1 := by
  rw [e]
  exact ⟨iv_uI hV (sro hs).2.1 (by decide) (by decide) hi hv (.inl rfl), sp_uI, kw_ui (.inl (by omega))⟩
theorem k_map13 {a : Int32} (hs : s = 478 ∨ s = 656) (hc : CRF T) (hV : IV aR0 1586 aK1 aK2 T) (h0 : 0 ≤ a.toInt ∧ a.toInt ≤ 1) (h2 : (T.2.2.1 6 1).toInt ≤ 1000) (h : g_X3_parseMap_b13 T a 6 6 (s + 2) = some (k, r, T1)) : KW T T1 := by
  have z9 : (999 : Int32).toInt = 999 := by decide
  have zm : ((-999) : Int32).toInt = -999 := by decide
  have z1 : (1 : Int32).toInt = 1 := by decide
  have z99 : (99 : Int32).toInt = 99 := by decide
  unfold g_X3_parseMap_b13 at h
  obtain ⟨-, h⟩ := oif_some h
  rcases othr_k h with ⟨x, g, -⟩ | ⟨x, U3, g, h⟩
  · exact (ps_start hV h0 (by decide) h2 g).2.2
  have p3 := ps_start hV h0 (by decide) h2 g
  obtain ⟨-, h⟩ := oif_some h
  rcases othr_k h with ⟨x, g, -⟩ | ⟨x8, U8, g, h⟩
  · exact (p3.tr (ps_signed p3.1 (by decide) (by decide) g).1).2.2
  have q8 := ps_signed p3.1 (by decide) (by decide) g
  have p8 := p3.tr q8.1
  have b8 := q8.2 rfl
  obtain ⟨-, h⟩ := oif_some h
  obtain ⟨U13, e13, h⟩ := elet_some h
  have p13 := p8.tr (ps_grid (a := -999) (b := 999) hs p8.1 rfl (by omega) e13)
  obtain ⟨-, h⟩ := oif_some h
  rcases othr_k h with ⟨x, g, -⟩ | ⟨x15, U15, g, h⟩
  · exact (p13.tr (ps_signed p13.1 (by decide) (by decide) g).1).2.2
  have q15 := ps_signed p13.1 (by decide) (by decide) g
  have p15 := p13.tr q15.1
  have b15 := q15.2 rfl
  obtain ⟨-, h⟩ := oif_some h
  obtain ⟨U20, e20, h⟩ := elet_some h
  have p20 := p15.tr (ps_grid (a := -999) (b := 999) hs p15.1 rfl (by omega) e20)
  obtain ⟨-, h⟩ := oif_some h
  rcases othr_k h with ⟨x, g, -⟩ | ⟨x22, U22, g, h⟩
  · exact (p20.tr (ps_number p20.1 g).1).2.2
  have q22 := ps_number p20.1 g
  have p22 := p20.tr q22.1
  have b22 := q22.2 rfl
  obtain ⟨-, h⟩ := oif_some h
  obtain ⟨U27, e27, h⟩ := elet_some h
  have p27 := p22.tr (ps_grid (a := 0) (b := 99) hs p22.1 rfl (by omega) e27)
  obtain ⟨-, h⟩ := oif_some h
  rcases othr_k h with ⟨x, g, -⟩ | ⟨x29, U29, g, h⟩
  · exact (p27.tr (ps_number p27.1 g).1).2.2
  have p29 := p27.tr (ps_number p27.1 g).1
  obtain ⟨-, h⟩ := oif_some h
  rcases othr_k h with ⟨x, g, -⟩ | ⟨x34, U34, g, h⟩
  · exact (p29.tr (ps_number p29.1 g).1).2.2
  have p34 := p29.tr (ps_number p29.1 g).1
  obtain ⟨-, h⟩ := oif_some h
  obtain ⟨U39, g39, h⟩ := obind_some h
  rw [← (osome3 h).2.2]
  exact p34.2.2.tr (k_open hs (crf_eq hc p34.2.1.2.2) g39)
theorem k_map (hs : s = 478 ∨ s = 656) (hc : CRF T) (hV : IV aR0 1586 aK1 aK2 T) (h2 : (T.2.2.1 6 1).toInt ≤ 1000) (h : g_X3_parseMap T 6 (s + 2) = some (k, r, T1)) : KW T T1 := by
  unfold g_X3_parseMap at h
  obtain ⟨-, h⟩ := oif_some h
  obtain ⟨v3, -, h⟩ := elet_some h
  rcases oif_or h with ⟨-, h⟩ | ⟨-, h⟩
  · exact k_map13 hs hc hV (by decide) h2 h
  · exact k_map13 hs hc hV (by decide) h2 h
end
end
section
/-! 27v.kzone.lean.txt -/
/-! the corner of the map stays 0: line zone, all lines, the whole text -/
section
variable {T T1 T0 : AT} {s k : Nat} {r : Int32}
set_option maxRecDepth 100000 in
theorem zn_dec : [478, 656].all (fun s => okc (s + 4) && (arf (s + 4)).all (fun x => match x with | some q => !(Nat.beq q 481) && !(Nat.beq q 659) && Nat.beq (aR0 q) 59 | none => true)) = true := by decide +kernel
theorem l_some {q : Nat} : ∀ {l : List (Option Nat)} {k : Nat}, l.getD k none = some q → some q ∈ l := by
  intro l
  induction l with
  | nil =>
    intro k h
    have h : (none : Option Nat) = some q := h
    cases h
  | cons x l ih =>
    intro k h
    cases k with
    | zero =>
      have h : x = some q := h
      rw [h]
      exact List.mem_cons_self
    | succ k => exact List.mem_cons_of_mem _ (ih h)
theorem zn_ne {j n : Nat} (hs : s = 478 ∨ s = 656) (hc : CRF T) (h : T.2.2.2.2 (s + 4) j = some n) : (n ≠ 481 ∧ n ≠ 659) ∧ aR0 n = 59 := by
  have q := List.all_eq_true.mp zn_dec s (by rcases hs with e | e <;> rw [e] <;> decide)
  have q := (Bool.and_eq_true _ _).mp q
  rw [hc.at (s + 4) q.1] at h
  have m := List.all_eq_true.mp q.2 _ (l_some h)
  have m : (!(Nat.beq n 481) && !(Nat.beq n 659) && Nat.beq (aR0 n) 59) = true := m
  have m1 := (Bool.and_eq_true _ _).mp m
  have m2 := (Bool.and_eq_true _ _).mp m1.1
  refine ⟨⟨fun e => ?_, fun e => ?_⟩, Nat.eq_of_beq_eq_true m1.2⟩
  · rw [e] at m2; exact absurd m2.1 (by decide)
  · rw [e] at m2; exact absurd m2.2 (by decide)
theorem ps_zone {n j : Nat} {v : Int32} (hn : n ≠ 481 ∧ n ≠ 659) (hr : aR0 n = 59) (hV : IV aR0 1586 aK1 aK2 T) (hv : 0 ≤ v.toInt ∧ v.toInt ≤ 11) (e : T1 = uI T n j v) : PS T T1 := by
  rw [e]
  exact ⟨iv_uI (a := 0) (b := 11) hV hr (by decide) (by decide) rfl hv (.inl rfl), sp_uI, kw_ui (.inl hn)⟩
theorem k_zone14 {a : Int32} (hs : s = 478 ∨ s = 656) (hc : CRF T) (hV : IV aR0 1586 aK1 aK2 T) (h0 : 0 ≤ a.toInt ∧ a.toInt ≤ 1) (h2 : (T.2.2.1 6 1).toInt ≤ 1000) (h : g_X3_parseZone_b14 T a 6 6 (s + 2) = some (k, r, T1)) : KW T T1 := by
  have z0 : (0 : Int32).toInt = 0 := by decide
  have z1 : (1 : Int32).toInt = 1 := by decide
  have rg := (sro hs).2.1
  unfold g_X3_parseZone_b14 at h
  obtain ⟨-, h⟩ := oif_some h
  rcases othr_k h with ⟨x, g, -⟩ | ⟨x, U3, g, h⟩
  · exact (ps_start hV h0 (by decide) h2 g).2.2
  have p3 := ps_start hV h0 (by decide) h2 g
  have hc3 := crf_eq hc p3.2.1.2.2
  obtain ⟨-, h⟩ := oif_some h
  obtain ⟨n8, en, h⟩ := obind_some h
  rw [(hc3.srf hs).2.2.2.2.2.2.2.2.2.2.2.1] at en
  cases en
  obtain ⟨-, h⟩ := oif_some h
  obtain ⟨v10, d10, h⟩ := elet_some h
  obtain ⟨-, h⟩ := oif_some h
  obtain ⟨-, h⟩ := oif_some h
  obtain ⟨n13, en, h⟩ := obind_some h
  obtain ⟨nn, nr⟩ := zn_ne hs hc3 en
  obtain ⟨-, h⟩ := oif_some h
  obtain ⟨v15, d15, h⟩ := elet_some h
  have r15 := iv_int p3.1 rg (by decide) (by decide) d15 (rfl : iR 1 3 = (0, 12))
  obtain ⟨v16, d16, h⟩ := elet_some h
  have q16 := i_sub d16 (by omega) (by omega)
  obtain ⟨-, h⟩ := oif_some h
  rcases othr_k h with ⟨x, g, -⟩ | ⟨x18, U18, g, h⟩
  · exact (p3.tr (ps_number p3.1 g).1).2.2
  have p18 := p3.tr (ps_number p3.1 g).1
  have b18 := (ps_number p3.1 g).2 rfl
  obtain ⟨-, h⟩ := oif_some h
  obtain ⟨-, h⟩ := oif_some h
  obtain ⟨U24, e24, h⟩ := elet_some h
  have p24 := p18.tr (ps_zone nn nr p18.1 (by omega) e24)
  obtain ⟨-, h⟩ := oif_some h
  obtain ⟨v26, d26, h⟩ := elet_some h
  have r26 := iv_int p24.1 rg (by decide) (by decide) d26 (rfl : iR 1 4 = (0, 12))
  obtain ⟨v27, d27, h⟩ := elet_some h
  have q27 := i_sub d27 (by omega) (by omega)
  obtain ⟨-, h⟩ := oif_some h
  rcases othr_k h with ⟨x, g, -⟩ | ⟨x29, U29, g, h⟩
  · exact (p24.tr (ps_number p24.1 g).1).2.2
  have p29 := p24.tr (ps_number p24.1 g).1
  have b29 := (ps_number p24.1 g).2 rfl
  obtain ⟨-, h⟩ := oif_some h
  obtain ⟨-, h⟩ := oif_some h
  obtain ⟨U35, e35, h⟩ := elet_some h
  have p35 := p29.tr (ps_zone nn nr p29.1 (by omega) e35)
  obtain ⟨-, h⟩ := oif_some h
  obtain ⟨-, h⟩ := oif_some h
  obtain ⟨v38, d38, h⟩ := elet_some h
  have r38 := iv_int p35.1 nr (by decide) (by decide) d38 (rfl : iR 59 _ = (0, 11))
  obtain ⟨-, h⟩ := oif_some h
  obtain ⟨v40, d40, h⟩ := elet_some h
  have r40 := iv_int p35.1 rg (by decide) (by decide) d40 (rfl : iR 1 3 = (0, 12))
  obtain ⟨v41, d41, h⟩ := elet_some h
  have q41 := i_sub d41 (by omega) (by omega)
  obtain ⟨-, h⟩ := oif_some h
  rcases othr_k h with ⟨x, g, -⟩ | ⟨x43, U43, g, h⟩
  · exact (p35.tr (ps_number p35.1 g).1).2.2
  have p43 := p35.tr (ps_number p35.1 g).1
  have b43 := (ps_number p35.1 g).2 rfl
  obtain ⟨-, h⟩ := oif_some h
  obtain ⟨-, h⟩ := oif_some h
  obtain ⟨U49, e49, h⟩ := elet_some h
  have p49 := p43.tr (ps_zone nn nr p43.1 (by omega) e49)
  obtain ⟨-, h⟩ := oif_some h
  obtain ⟨-, h⟩ := oif_some h
  obtain ⟨v52, d52, h⟩ := elet_some h
  obtain ⟨-, h⟩ := oif_some h
  obtain ⟨v54, d54, h⟩ := elet_some h
  obtain ⟨v55, d55, h⟩ := elet_some h
  obtain ⟨-, h⟩ := oif_some h
  rcases othr_k h with ⟨x, g, -⟩ | ⟨x57, U57, g, h⟩
  · exact (p49.tr (ps_number p49.1 g).1).2.2
  have p57 := p49.tr (ps_number p49.1 g).1
  obtain ⟨-, h⟩ := oif_some h
  obtain ⟨-, h⟩ := oif_some h
  obtain ⟨U63, e63, h⟩ := elet_some h
  have k63 : KW U57 U63 := by rw [e63]; exact kw_ui (.inl nn)
  obtain ⟨-, h⟩ := oif_some h
  obtain ⟨v65, d65, h⟩ := elet_some h
  obtain ⟨v66, d66, h⟩ := elet_some h
  obtain ⟨-, h⟩ := oif_some h
  obtain ⟨U68, e68, h⟩ := elet_some h
  have k68 : KW U63 U68 := by rw [e68]; exact kw_ui (.inl (by omega))
  rw [← (osome3 h).2.2]
  exact (p57.2.2.tr k63).tr k68
theorem k_zone (hs : s = 478 ∨ s = 656) (hc : CRF T) (hV : IV aR0 1586 aK1 aK2 T) (h2 : (T.2.2.1 6 1).toInt ≤ 1000) (h : g_X3_parseZone T 6 (s + 2) = some (k, r, T1)) : KW T T1 := by
  unfold g_X3_parseZone at h
  obtain ⟨-, h⟩ := oif_some h
  obtain ⟨v3, -, h⟩ := elet_some h
  rcases oif_or h with ⟨-, h⟩ | ⟨-, h⟩
  · exact k_zone14 hs hc hV (by decide) h2 h
  · exact k_zone14 hs hc hV (by decide) h2 h
end
end
section
/-! 27w.kparse.lean.txt -/
/-! the corner of the map stays 0: all lines, the whole text -/
section
variable {T T1 T0 : AT} {s k : Nat} {r : Int32}
theorem k_93 {a : Int32} (hs : s = 478 ∨ s = 656) (hV : IV aR0 1586 aK1 aK2 T) (h0 : 0 ≤ a.toInt ∧ a.toInt ≤ 1) (h2 : (T.2.2.1 6 1).toInt ≤ 1000) (h : g_X3_parseLine_b93 T a 6 6 s = some (k, r, T1)) : KW T T1 := by
  unfold g_X3_parseLine_b93 g_X3_parseLine_b209 at h
  obtain ⟨-, h⟩ := oif_some h
  rcases othr_k h with ⟨x, g, -⟩ | ⟨x, U3, g, h⟩
  · exact (ps_start hV h0 (by decide) h2 g).2.2
  have p3 := ps_start hV h0 (by decide) h2 g
  obtain ⟨-, h⟩ := oif_some h
  rcases othr_k h with ⟨x, g, -⟩ | ⟨x8, U8, g, h⟩
  · exact (p3.tr (ps_number p3.1 g).1).2.2
  have p8 := p3.tr (ps_number p3.1 g).1
  obtain ⟨-, h⟩ := oif_some h
  obtain ⟨U13, e13, h⟩ := elet_some h
  have k13 : KW U8 U13 := by rw [e13]; exact kw_ui (.inl (by omega))
  rw [← (osome3 h).2.2]
  exact p8.2.2.tr k13
theorem kw_line (hs : s = 478 ∨ s = 656) (hc : CRF T) (hV : IV aR0 1586 aK1 aK2 T) (h : g_X3_parseLine T 6 s = some (k, r, T1)) : KW T T1 := by
  have r6 := rrole.2.2.1
  have rs := rsrole hs
  have hF := hc.srf hs
  have z0 : (0 : Int32).toInt = 0 := by decide
  have pos : ∀ {w : Int32} {b : Prop}, ¬ w = 0 → (w.toInt = 0 ∨ b) → b := fun c q => by
    rcases q with q | q
    · exact absurd (Int32.toInt_inj.mp q) c
    · exact q
  unfold g_X3_parseLine g_X3_parseLine_b209 at h
  obtain ⟨-, h⟩ := oif_some h
  obtain ⟨w, U, g, h⟩ := obind2_some h
  have q := tgo (cs_X3_isWord T (sTx "mic") 6 hV r6 (by decide)) g
  rw [show U = T from q.1] at h
  rcases oif_or h with ⟨c, h⟩ | ⟨c, h⟩
  case inr =>
    obtain ⟨-, h⟩ := oif_some h
    rcases othr_k h with ⟨x, g, -⟩ | ⟨x, U, g, h⟩
    · exact kw_fw (tgo (cs_X3_parseMic T 6 s hV r6 rs (pos c q.2.2.2)) g).1.2 (by decide)
    · rw [← (osome3 h).2.2]
      exact kw_fw (tgo (cs_X3_parseMic T 6 s hV r6 rs (pos c q.2.2.2)) g).1.2 (by decide)
  obtain ⟨-, h⟩ := oif_some h
  obtain ⟨w, U, g, h⟩ := obind2_some h
  have q := tgo (cs_X3_isWord T (sTx "map") 6 hV r6 (by decide)) g
  rw [show U = T from q.1] at h
  rcases oif_or h with ⟨c, h⟩ | ⟨c, h⟩
  case inr =>
    obtain ⟨-, h⟩ := oif_some h
    obtain ⟨n6, en, h⟩ := obind_some h
    rw [hF.2.1] at en
    cases en
    obtain ⟨-, h⟩ := oif_some h
    rcases othr_k h with ⟨x, g, -⟩ | ⟨x, U, g, h⟩
    · exact k_map hs hc hV (pos c q.2.2.2) g
    · rw [← (osome3 h).2.2]
      exact k_map hs hc hV (pos c q.2.2.2) g
  obtain ⟨-, h⟩ := oif_some h
  obtain ⟨w, U, g, h⟩ := obind2_some h
  have q := tgo (cs_X3_isWord T (sTx "source") 6 hV r6 (by decide)) g
  rw [show U = T from q.1] at h
  rcases oif_or h with ⟨c, h⟩ | ⟨c, h⟩
  case inr =>
    obtain ⟨-, h⟩ := oif_some h
    rcases othr_k h with ⟨x, g, -⟩ | ⟨x, U, g, h⟩
    · exact kw_fw (tgo (cs_X3_parseSource T 6 s hV r6 rs (pos c q.2.2.2)) g).1.2 (by decide)
    · rw [← (osome3 h).2.2]
      exact kw_fw (tgo (cs_X3_parseSource T 6 s hV r6 rs (pos c q.2.2.2)) g).1.2 (by decide)
  obtain ⟨-, h⟩ := oif_some h
  obtain ⟨w, U, g, h⟩ := obind2_some h
  have q := tgo (cs_X3_isWord T (sTx "wall") 6 hV r6 (by decide)) g
  rw [show U = T from q.1] at h
  rcases oif_or h with ⟨c, h⟩ | ⟨c, h⟩
  case inr =>
    obtain ⟨-, h⟩ := oif_some h
    rcases othr_k h with ⟨x, g, -⟩ | ⟨x, U, g, h⟩
    · exact kw_fw (tgo (cs_X3_parseWall T 6 s hV r6 rs (pos c q.2.2.2)) g).1.2 (by decide)
    · rw [← (osome3 h).2.2]
      exact kw_fw (tgo (cs_X3_parseWall T 6 s hV r6 rs (pos c q.2.2.2)) g).1.2 (by decide)
  obtain ⟨-, h⟩ := oif_some h
  obtain ⟨w, U, g, h⟩ := obind2_some h
  have q := tgo (cs_X3_isWord T (sTx "fade") 6 hV r6 (by decide)) g
  rw [show U = T from q.1] at h
  rcases oif_or h with ⟨c, h⟩ | ⟨c, h⟩
  case inr =>
    obtain ⟨-, h⟩ := oif_some h
    obtain ⟨v, -, h⟩ := elet_some h
    rcases oif_or h with ⟨-, h⟩ | ⟨-, h⟩
    · exact k_93 hs hV (by decide) (pos c q.2.2.2) h
    · exact k_93 hs hV (by decide) (pos c q.2.2.2) h
  obtain ⟨-, h⟩ := oif_some h
  obtain ⟨w, U, g, h⟩ := obind2_some h
  have q := tgo (cs_X3_isWord T (sTx "filter") 6 hV r6 (by decide)) g
  rw [show U = T from q.1] at h
  rcases oif_or h with ⟨c, h⟩ | ⟨c, h⟩
  case inr =>
    obtain ⟨-, h⟩ := oif_some h
    rcases othr_k h with ⟨x, g, -⟩ | ⟨x, U, g, h⟩
    · exact kw_fw (tgo (cs_X3_parseFilter T 6 s hV r6 rs (pos c q.2.2.2)) g).1.2 (by decide)
    · rw [← (osome3 h).2.2]
      exact kw_fw (tgo (cs_X3_parseFilter T 6 s hV r6 rs (pos c q.2.2.2)) g).1.2 (by decide)
  obtain ⟨-, h⟩ := oif_some h
  obtain ⟨w, U, g, h⟩ := obind2_some h
  have q := tgo (cs_X3_isWord T (sTx "clock") 6 hV r6 (by decide)) g
  rw [show U = T from q.1] at h
  rcases oif_or h with ⟨c, h⟩ | ⟨c, h⟩
  case inr =>
    obtain ⟨-, h⟩ := oif_some h
    rcases othr_k h with ⟨x, g, -⟩ | ⟨x, U, g, h⟩
    · exact kw_fw (tgo (cs_X3_parseClock T 6 s hV r6 rs (pos c q.2.2.2)) g).1.2 (by decide)
    · rw [← (osome3 h).2.2]
      exact kw_fw (tgo (cs_X3_parseClock T 6 s hV r6 rs (pos c q.2.2.2)) g).1.2 (by decide)
  obtain ⟨-, h⟩ := oif_some h
  obtain ⟨w, U, g, h⟩ := obind2_some h
  have q := tgo (cs_X3_isWord T (sTx "zone") 6 hV r6 (by decide)) g
  rw [show U = T from q.1] at h
  rcases oif_or h with ⟨c, h⟩ | ⟨c, h⟩
  case inr =>
    obtain ⟨-, h⟩ := oif_some h
    obtain ⟨n6, en, h⟩ := obind_some h
    rw [hF.2.1] at en
    cases en
    obtain ⟨-, h⟩ := oif_some h
    rcases othr_k h with ⟨x, g, -⟩ | ⟨x, U, g, h⟩
    · exact k_zone hs hc hV (pos c q.2.2.2) g
    · rw [← (osome3 h).2.2]
      exact k_zone hs hc hV (pos c q.2.2.2) g
  obtain ⟨-, h⟩ := oif_some h
  obtain ⟨w, U, g, h⟩ := obind2_some h
  have q := tgo (cs_X3_isWord T (sTx "shade") 6 hV r6 (by decide)) g
  rw [show U = T from q.1] at h
  rcases oif_or h with ⟨c, h⟩ | ⟨c, h⟩
  case inr =>
    obtain ⟨-, h⟩ := oif_some h
    rcases othr_k h with ⟨x, g, -⟩ | ⟨x, U, g, h⟩
    · exact kw_fw (tgo (cs_X3_parseShade T 6 s hV r6 rs (pos c q.2.2.2)) g).1.2 (by decide)
    · rw [← (osome3 h).2.2]
      exact kw_fw (tgo (cs_X3_parseShade T 6 s hV r6 rs (pos c q.2.2.2)) g).1.2 (by decide)
  obtain ⟨-, h⟩ := oif_some h
  obtain ⟨w, U, g, h⟩ := obind2_some h
  have q := tgo (cs_X3_isWord T (sTx "off") 6 hV r6 (by decide)) g
  rw [show U = T from q.1] at h
  rcases oif_or h with ⟨c, h⟩ | ⟨c, h⟩
  case inr =>
    obtain ⟨-, h⟩ := oif_some h
    rcases othr_k h with ⟨x, g, -⟩ | ⟨x, U, g, h⟩
    · exact kw_fw (tgo (cs_X3_parseOff T 6 s hV r6 rs (pos c q.2.2.2)) g).1.2 (by decide)
    · rw [← (osome3 h).2.2]
      exact kw_fw (tgo (cs_X3_parseOff T 6 s hV r6 rs (pos c q.2.2.2)) g).1.2 (by decide)
  obtain ⟨-, h⟩ := oif_some h
  obtain ⟨v, ev, h⟩ := elet_some h
  have rv := iv_int hV r6 (by decide) (by decide) ev (rfl : iR 3 1 = (0, 1001))
  obtain ⟨-, h⟩ := oif_some h
  rcases othr_k h with ⟨x, g, -⟩ | ⟨x, U, g, h⟩
  · exact kw_fw (tgo (cs_X3_failAt T 6 v 1 hV r6 (by omega) (by decide)) g).1.2 (by decide)
  · rw [← (osome3 h).2.2]
    exact kw_fw (tgo (cs_X3_failAt T 6 v 1 hV r6 (by omega) (by decide)) g).1.2 (by decide)
set_option maxRecDepth 100000 in
theorem pa_dec : okc 6 && decide ((arf 6).getD 0 none = some 1) = true := by decide +kernel
theorem kw_parse {n : Int32} (hs : s = 478 ∨ s = 656) (hc : CRF T) (hV : IV aR0 1586 aK1 aK2 T) (hn : 0 ≤ n.toInt ∧ n.toInt ≤ 1000) (h : g_X3_parse T 6 n s = some (k, r, T1)) : KW T T1 := by
  have r6 := rrole.2.2.1
  have rs := rsrole hs
  have z1 : (1 : Int32).toInt = 1 := by decide
  have pd := (Bool.and_eq_true _ _).mp pa_dec
  have ref6 : ∀ {U : AT}, CRF U → U.2.2.2.2 6 0 = some 1 := fun hU => (hU.at 6 pd.1 _).trans (of_decide_eq_true pd.2)
  have b107 : ∀ {U : AT}, g_X3_parse_b107 U 6 = some (k, r, T1) → KW U T1 := by
    intro U h
    unfold g_X3_parse_b107 at h
    obtain ⟨-, h⟩ := oif_some h
    obtain ⟨U3, e3, h⟩ := elet_some h
    obtain ⟨-, h⟩ := oif_some h
    obtain ⟨U5, e5, h⟩ := elet_some h
    have k3 : KW U U3 := by rw [e3]; exact kw_ui (.inl (by decide))
    have k5 : KW U3 U5 := by rw [e5]; exact kw_ui (.inl (by decide))
    rw [← (osome3 h).2.2]
    exact k3.tr k5
  have b98 : ∀ {U : AT}, IV aR0 1586 aK1 aK2 U → g_X3_parse_b98 U 6 = some (k, r, T1) → KW U T1 := by
    intro U hU h
    unfold g_X3_parse_b98 at h
    obtain ⟨-, h⟩ := oif_some h
    obtain ⟨v, ev, h⟩ := elet_some h
    have rv := iv_int hU r6 (by decide) (by decide) ev (rfl : iR 3 1 = (0, 1001))
    obtain ⟨-, h⟩ := oif_some h
    rcases othr_k h with ⟨x, g, -⟩ | ⟨x, V, g, h⟩
    · exact kw_fw (tgo (cs_X3_failAt U 6 v 5 hU r6 (by omega) (by decide)) g).1.2 (by decide)
    · exact (kw_fw (tgo (cs_X3_failAt U 6 v 5 hU r6 (by omega) (by decide)) g).1.2 (by decide)).tr (b107 h)
  have b81 : ∀ {U : AT}, IV aR0 1586 aK1 aK2 U → g_X3_parse_b81 U 6 s = some (k, r, T1) → KW U T1 := by
    intro U hU h
    unfold g_X3_parse_b81 at h
    obtain ⟨-, h⟩ := oif_some h
    obtain ⟨v3, -, h⟩ := elet_some h
    rcases oif_or h with ⟨-, h⟩ | ⟨-, h⟩
    · exact b98 hU h
    · obtain ⟨-, h⟩ := oif_some h
      obtain ⟨n6, -, h⟩ := obind_some h
      obtain ⟨-, h⟩ := oif_some h
      obtain ⟨v8, -, h⟩ := elet_some h
      rcases oif_or h with ⟨-, h⟩ | ⟨-, h⟩
      · exact b98 hU h
      · exact b107 h
  have lp : ∀ (f : Nat) {U : AT} {l : Int32}, CRF U → IV aR0 1586 aK1 aK2 U → g_X3_parse_b24 f U 6 s l = some (k, r, T1) → KW U T1 := by
    intro f
    induction f with
    | zero => intro U l hcU hU h; cases h
    | succ f ih =>
      intro U l hcU hU h
      have b60 : ∀ {V : AT}, (V.2.2.1 6 1).toInt ≤ 1000 → CRF V → IV aR0 1586 aK1 aK2 V → g_X3_parse_b60 (g_X3_parse_b24 f) V 6 s l = some (k, r, T1) → KW V T1 := by
        intro V h3 hcV hV2 h
        unfold g_X3_parse_b60 at h
        obtain ⟨-, h⟩ := oif_some h
        obtain ⟨v3, e3, h⟩ := elet_some h
        have r3 := iv_int hV2 r6 (by decide) (by decide) e3 (rfl : iR 3 1 = (0, 1001))
        rw [← e3] at h3
        obtain ⟨v4, e4, h⟩ := elet_some h
        have q4 := i_add e4 (by omega) (by omega)
        obtain ⟨-, h⟩ := oif_some h
        obtain ⟨V6, e6, h⟩ := elet_some h
        have hV6 : IV aR0 1586 aK1 aK2 V6 := by rw [e6]; exact iv_uI (a := 0) (b := 1001) hV2 r6 (by decide) (by decide) rfl (by omega) (.inl rfl)
        have hc6 : CRF V6 := crf_eq hcV (by rw [e6]; rfl)
        have k6 : KW V V6 := by rw [e6]; exact kw_ui (.inl (by decide))
        obtain ⟨-, h⟩ := oif_some h
        rcases othr_k h with ⟨x, g, -⟩ | ⟨x, V8, g, h⟩
        · exact k6.tr (kw_line hs hc6 hV6 g)
        · obtain ⟨v12, -, h⟩ := elet_some h
          have c := tgo (cs_X3_parseLine V6 6 s hV6 r6 rs) g
          exact (k6.tr (kw_line hs hc6 hV6 g)).tr (ih (crf_eq hc6 (s_X3_parseLine g).2.2) c.1.1 h)
      unfold g_X3_parse_b24 at h
      obtain ⟨-, h⟩ := oif_some h
      obtain ⟨n3, en, h⟩ := obind_some h
      obtain ⟨-, h⟩ := oif_some h
      obtain ⟨v5, -, h⟩ := elet_some h
      rcases oif_or h with ⟨-, h⟩ | ⟨-, h⟩
      · exact b81 hU h
      · obtain ⟨-, h⟩ := oif_some h
        obtain ⟨w, V, g, h⟩ := obind2_some h
        have q := tgo (cs_X3_kind U 6 hU r6) g
        rw [show V = U from q.1] at h
        rcases oif_or h with ⟨-, h⟩ | ⟨c, h⟩
        · exact b81 hU h
        · have h3 : (U.2.2.1 6 1).toInt ≤ 1000 := by
            rcases q.2 with e | e
            · exact absurd (Int32.toInt_inj.mp (e.trans (by decide))) c
            · exact e
          obtain ⟨-, h⟩ := oif_some h
          obtain ⟨w2, V2, g2, h⟩ := obind2_some h
          have q2 := tgo (cs_X3_kind U 6 hU r6) g2
          rw [show V2 = U from q2.1] at h
          rcases oif_or h with ⟨-, h⟩ | ⟨-, h⟩
          · exact b60 h3 hcU hU h
          · obtain ⟨-, h⟩ := oif_some h
            obtain ⟨v20, e20, h⟩ := elet_some h
            have r20 := iv_int hU r6 (by decide) (by decide) e20 (rfl : iR 3 1 = (0, 1001))
            obtain ⟨-, h⟩ := oif_some h
            rcases othr_k h with ⟨x, g, -⟩ | ⟨x, V, g, h⟩
            · exact kw_fw (tgo (cs_X3_failAt U 6 v20 1 hU r6 (by omega) (by decide)) g).1.2 (by decide)
            · exact ((tgo (cs_X3_failAt U 6 v20 1 hU r6 (by omega) (by decide)) g).2 rfl).elim
  unfold g_X3_parse at h
  obtain ⟨-, h⟩ := oif_some h
  obtain ⟨n3, en, h⟩ := obind_some h
  rw [ref6 hc] at en
  cases en
  obtain ⟨-, h⟩ := oif_some h
  obtain ⟨U5, g5, h⟩ := obind_some h
  have c5 := tgo (cs_X9_cut T 1 n hV rrole.1 hn) g5
  have hc5 := crf_eq hc (s_X9_cut g5).2.2
  obtain ⟨-, h⟩ := oif_some h
  obtain ⟨U8, e8, h⟩ := elet_some h
  have hV8 : IV aR0 1586 aK1 aK2 U8 := by rw [e8]; exact iv_uI (a := 0) (b := 1001) c5.1 r6 (by decide) (by decide) rfl (by decide) (.inl rfl)
  have hc8 : CRF U8 := crf_eq hc5 (by rw [e8]; rfl)
  have k8 : KW U5 U8 := by rw [e8]; exact kw_ui (.inl (by decide))
  obtain ⟨-, h⟩ := oif_some h
  obtain ⟨U10, g10, h⟩ := obind_some h
  have c10 := tgo (cs_X6_clear U8 s hV8 rs) g10
  have hc10 := crf_eq hc8 (s_X6_clear g10).2.2
  have k10 : KW T U10 := ((kw_fw c5.2 (by decide)).tr k8).tr (kw_fw c10.2 (by decide))
  obtain ⟨-, h⟩ := oif_some h
  rcases othr_k h with ⟨x, g, -⟩ | ⟨x, U13, g, h⟩
  · exact k10.tr (kw_fw (tgo (cs_X3_parseHead U10 6 s c10.1 r6 rs) g).1.2 (by decide))
  · have c := tgo (cs_X3_parseHead U10 6 s c10.1 r6 rs) g
    exact (k10.tr (kw_fw c.1.2 (by decide))).tr (lp 16384 (crf_eq hc10 (s_X3_parseHead g).2.2) c.1.1 h)
end
end
section
/-! 27x.load3.lean.txt -/
/-! load keeps R3 -/
section
variable {T T1 : AT} {S S1 : MS} {s k : Nat} {r : Int32}
/-- text, parser, one scene -/
def zPar (s n : Nat) : Bool := zbt 1 7 n || zbt s (s + 178) n
def zParL (s : Nat) : List Nat := (List.range 6).map (1 + ·) ++ (List.range 178).map (s + ·)
theorem zPar_L {n : Nat} (h : zPar s n = true) : n ∈ zParL s := by
  unfold zPar at h
  rcases (Bool.or_eq_true _ _).mp h with h | h
  · obtain ⟨a, b⟩ := zbt_t.mp h
    exact List.mem_append_left _ (mem_rg a b)
  · obtain ⟨a, b⟩ := zbt_t.mp h
    exact List.mem_append_right _ (mem_rg a b)
set_option maxRecDepth 100000 in
set_option maxHeartbeats 4000000 in
theorem zPar_ck : [478, 656].all (fun s => (zParL s).all (zck (zPar s))) = true := by decide +kernel
/-- reading a text leaves the probe -/
theorem pr_parse {a : Int32} (hc : CRF T) (hV : IV aR0 1586 aK1 aK2 T) (hs : s = 478 ∨ s = 656) (ha : 0 ≤ a.toInt ∧ a.toInt ≤ 1000) (h : g_X3_parse T 6 a s = some (k, r, T1)) : ∀ j, T1.2.2.1 21 j = T.2.2.1 21 j := by
  have q := List.all_eq_true.mp zPar_ck s (by rcases hs with e | e <;> rw [e] <;> decide)
  have iv := iv_pZ hc hV q (fun n => zPar_L)
  have z6 : pZ (zPar s) 6 = 3 := (pZ_t (by unfold zPar; rfl)).trans rrole.2.2.1
  have zs : pZ (zPar s) s = 6 := (pZ_t (by unfold zPar; rw [zbt_t.mpr ⟨Nat.le_refl s, by omega⟩, Bool.or_true])).trans (rsrole hs)
  have c := tgo (cs_X3_parse (R := pZ (zPar s)) T 6 a s iv z6 zs ha) h
  have o : pZ (zPar s) 21 = 30 := by
    refine pZ_f ?_
    unfold zPar
    rw [show zbt s (s + 178) 21 = false from Bool.eq_false_iff.mpr (fun w => by have := zbt_t.mp w; omega)]
    rfl
  exact fun j => c.1.2 21 j (by rw [o]; rfl)
theorem r3_load {a0 r1 r2 : Int32} {k1 : Nat} (hV : IV aR0 1586 aK1 aK2 T) (hJ : JJ S) (h : R3 T S) (hg : g_X11_load T 0 a0 = some (k1, r1, T1)) (hf : fr_load S a0 = some (r2, S1)) : R3 T1 S1 := by
  have R := r2_load hV hJ h.1 hg hf
  have h21 := (w_fr_load hf).1 21 (by decide)
  have hc := h.1.1.1
  obtain ⟨d1, d2, d6, d0⟩ := rrole
  obtain ⟨-, -, -, -, -, -, -, t8, t9, -⟩ := txr_dec
  have c00 : T.2.2.2.2 0 0 = some 1 := (hc.2.1 0 (by decide) (by decide)).trans t8
  have c01 : T.2.2.2.2 0 1 = some 6 := (hc.2.1 1 (by decide) (by decide)).trans t9
  have z0 : (0 : Int32).toInt = 0 := by decide
  have key : ((RC T1 ∧ RI T1) ∧ (∀ j, j = 7 ∨ j = 8 → T1.2.2.1 21 j = T.2.2.1 21 j) ∧ KW T T1) → R3 T1 S1 := fun q => by
    refine ⟨R, q.1, ⟨?_, ?_⟩, fun s hs => ?_, h21.trans h.2.2.2.2⟩
    · rw [q.2.1 7 (.inl rfl)]; exact h.2.2.1.1
    · rw [q.2.1 8 (.inr rfl)]; exact h.2.2.1.2
    · have w := q.2.2 s hs
      rw [w.1, w.2]
      exact h.2.2.2.1 s hs
  refine key ?_
  have out : g_X11_load_b15 T = some (k1, r1, T1) → (RC T1 ∧ RI T1) ∧ (∀ j, j = 7 ∨ j = 8 → T1.2.2.1 21 j = T.2.2.1 21 j) ∧ KW T T1 := by
    intro hg
    unfold g_X11_load_b15 at hg
    rw [← (osome3 hg).2.2]
    exact ⟨h.2.1, fun _ _ => rfl, KW.rf⟩
  unfold g_X11_load at hg
  rcases oif_or hg with ⟨-, hg⟩ | ⟨b0, hg⟩
  · exact out hg
  have b0 := i_nlt b0
  obtain ⟨-, hg⟩ := oif_some hg
  obtain ⟨n4, en, hg⟩ := obind_some hg
  rw [c00] at en
  cases en
  obtain ⟨-, hg⟩ := oif_some hg
  obtain ⟨v6, e6, hg⟩ := elet_some hg
  have r6 := iv_int hV d1 (by decide) (by decide) e6 (rfl : iR 9 1 = (0, 1000))
  rcases oif_or hg with ⟨b1, hg⟩ | ⟨-, hg⟩
  case inr => exact out hg
  have b1 := i_le b1
  have ha : 0 ≤ a0.toInt ∧ a0.toInt ≤ 1000 := by omega
  obtain ⟨-, hg⟩ := oif_some hg
  obtain ⟨n9, en, hg⟩ := obind_some hg
  rw [c00] at en
  cases en
  obtain ⟨-, hg⟩ := oif_some hg
  obtain ⟨T11, e11, hg⟩ := elet_some hg
  have hV11 : IV aR0 1586 aK1 aK2 T11 := by rw [e11]; exact iv_uI (a := 0) (b := 1000) hV d1 (by decide) (by decide) rfl (by decide) (.inl rfl)
  have sp11 : SP T T11 := by rw [e11]; exact sp_uI
  have hc11 := crf_eq hc sp11.2.2
  have k11 : KW T T11 := by rw [e11]; exact kw_ui (.inl (by decide))
  have p11 : ∀ j, T11.2.2.1 21 j = T.2.2.1 21 j := fun j => by rw [e11]; exact ui_ne (.inl (by decide))
  obtain ⟨-, hg⟩ := oif_some hg
  obtain ⟨n13, en, hg⟩ := obind_some hg
  rw [sp11.2.2, c01] at en
  cases en
  obtain ⟨-, hg⟩ := oif_some hg
  obtain ⟨u, eu, hg⟩ := obind_some hg
  have hu : u = 478 ∨ u = 656 := by
    rcases hc11.2.2 with ⟨-, q⟩ | ⟨-, q⟩
    · rw [q] at eu; cases eu; exact .inr rfl
    · rw [q] at eu; cases eu; exact .inl rfl
  obtain ⟨-, hg⟩ := oif_some hg
  have par : ∀ {k : Nat} {r : Int32} {U : AT}, g_X3_parse T11 6 a0 u = some (k, r, U) → IV aR0 1586 aK1 aK2 U ∧ SP T U ∧ KW T U ∧ ∀ j, U.2.2.1 21 j = T.2.2.1 21 j := fun g =>
    ⟨(tgo (cs_X3_parse T11 6 a0 u hV11 d6 (rsrole hu) ha) g).1.1, sp11.tr (s_X3_parse g), k11.tr (kw_parse hu hc11 hV11 ha g), fun j => (pr_parse hc11 hV11 hu ha g j).trans (p11 j)⟩
  rcases othr_k hg with ⟨x, g, -⟩ | ⟨x, T17, g, hg⟩
  · obtain ⟨-, a2, a3, a4⟩ := par g
    exact ⟨gi_sp a2 h.2.1.1 h.2.1.2, fun j _ => a4 j, a3⟩
  obtain ⟨hV17, sp17, kw17, pr17⟩ := par g
  have hc17 := crf_eq hc sp17.2.2
  have i17 := gi_sp sp17 h.2.1.1 h.2.1.2
  obtain ⟨-, hg⟩ := oif_some hg
  obtain ⟨w0, ew0, hg⟩ := obind_some hg
  obtain ⟨-, hg⟩ := oif_some hg
  obtain ⟨u', eu', hg⟩ := obind_some hg
  have hw0 : w0 = 478 ∨ w0 = 656 := by
    rcases hc17.2.2 with ⟨q, -⟩ | ⟨q, -⟩
    · rw [q] at ew0; cases ew0; exact .inl rfl
    · rw [q] at ew0; cases ew0; exact .inr rfl
  have hu' : u' = 478 ∨ u' = 656 := by
    rcases hc17.2.2 with ⟨-, q⟩ | ⟨-, q⟩
    · rw [q] at eu'; cases eu'; exact .inr rfl
    · rw [q] at eu'; cases eu'; exact .inl rfl
  obtain ⟨-, hg⟩ := oif_some hg
  obtain ⟨lu, hg⟩ := oif_some hg
  obtain ⟨T27, e27, hg⟩ := elet_some hg
  obtain ⟨-, hg⟩ := oif_some hg
  obtain ⟨lw, hg⟩ := oif_some hg
  obtain ⟨T30, e30, hg⟩ := elet_some hg
  obtain ⟨-, hg⟩ := oif_some hg
  obtain ⟨T32, g32, hg⟩ := obind_some hg
  have sc : ∀ {x : Nat}, x = 478 ∨ x = 656 → (T17.2.1 x).1 ≠ 101 := fun {x} hx => by
    have q := hV17.2.1 x (iv_sta hV17 (rsrole hx) (by decide) (by decide))
    rw [q, rsrole hx]
    decide
  have hV27 : IV aR0 1586 aK1 aK2 T27 := by
    rw [e27]
    exact iv_uR hV17 d0 (by decide) (by decide) rfl rfl (rsrole hu') ⟨by decide, by decide⟩
  have hV30 : IV aR0 1586 aK1 aK2 T30 := by
    rw [e30]
    exact iv_uR hV27 d0 (by decide) (by decide) rfl rfl (rsrole hw0) ⟨by decide, by decide⟩
  have i30 : T30.2.2.1 = T17.2.2.1 := by rw [e30, e27]; rfl
  have g27 : GI T17 T27 := by rw [e27]; exact gi_uRo (Nat.le_of_ble_eq_true lu) (sc hu')
  have g30 : GI T27 T30 := by
    rw [e30]
    refine gi_uRo (Nat.le_of_ble_eq_true lw) ?_
    rw [e27]
    exact sc hw0
  have j27 := g27 i17.1 i17.2
  have j30 := g30 j27.1 j27.2
  have c32 := tgo (cs_X11_begin T30 0 hV30 d0) g32
  have j32 := si_X11_begin g32 j30.1 j30.2
  have eT : T1 = T32 := by
    unfold g_X11_load_b65 at hg
    obtain ⟨-, hg⟩ := oif_some hg
    obtain ⟨m3, -, hg⟩ := obind_some hg
    obtain ⟨-, hg⟩ := oif_some hg
    obtain ⟨m5, -, hg⟩ := obind_some hg
    obtain ⟨-, hg⟩ := oif_some hg
    obtain ⟨r9, T7, g7, hg⟩ := obind2_some hg
    unfold g_X1_cells at g7
    obtain ⟨-, g7⟩ := oif_some g7
    obtain ⟨x3, -, g7⟩ := elet_some g7
    obtain ⟨-, g7⟩ := oif_some g7
    obtain ⟨x5, -, g7⟩ := elet_some g7
    obtain ⟨x6, -, g7⟩ := elet_some g7
    rw [← (osome3 hg).2.2, ← (osome2 g7).2]
  rw [eT]
  have k30 : KW T17 T30 := fun s hs => by rw [i30]; exact ⟨rfl, rfl⟩
  refine ⟨j32, fun j hj => ?_, (kw17.tr k30).tr (kw_fw c32.2 (by decide))⟩
  rcases hj with e | e
  · rw [e, c32.2 21 7 (by rw [r21]; rfl), i30]
    exact pr17 7
  · rw [e, c32.2 21 8 (by rw [r21]; rfl), i30]
    exact pr17 8
end
end
section
/-! 27y.parts.lean.txt -/
/-! numbers of more parts, those from the third on 0: cleared, settled -/
section
variable {T T1 T0 : AT} {o x y u : Nat}
def UZ (T : AT) (o x y u : Nat) : Prop := T.2.2.2.2 o 1 = some (o + 1) ∧ T.2.2.2.2 (o + 1) 0 = some x ∧ T.2.2.2.2 (o + 1) 1 = some y ∧ T.2.2.1 o 2 = nI u ∧ 2 ≤ u ∧ u ≤ 40
theorem UZ.lq (h : UZ T o x y u) (k : LQ T T1) : UZ T1 o x y u := by
  unfold UZ
  rw [k.2.2.1, k.2.2.2]
  exact h
def ZH (T : AT) (o u i : Nat) : Prop := ∀ p w, 2 ≤ p → p < u → T.2.2.2.2 (o + 1) p = some w → T.2.2.2.1 w i = 0
/-- only numbers i of o's rows may have changed -/
def LR (T T1 : AT) (o i : Nat) : Prop := ∀ m j, ((∀ p, T.2.2.2.2 (o + 1) p ≠ some m) ∨ j ≠ i) → T1.2.2.2.1 m j = T.2.2.2.1 m j
theorem c_clearU {i : Int32} (hz : UZ T0 o x y u) (hg : g_X10_clear T0 o i = some T1) : LQ T0 T1 ∧ (∀ p w, p < u → T0.2.2.2.2 (o + 1) p = some w → T1.2.2.2.1 w i.toNatClampNeg = 0) ∧ LR T0 T1 o i.toNatClampNeg := by
  obtain ⟨h1, -, -, hu, u2, u40⟩ := hz
  have lp : ∀ (n j : Nat) {T : AT}, j ≤ u → LQ T0 T → (∀ p w, p < j → T0.2.2.2.2 (o + 1) p = some w → T.2.2.2.1 w i.toNatClampNeg = 0) → LR T0 T o i.toNatClampNeg → g_X10_clear_b2 n T o i (nI j) = some T1 → LQ T0 T1 ∧ (∀ p w, p < u → T0.2.2.2.2 (o + 1) p = some w → T1.2.2.2.1 w i.toNatClampNeg = 0) ∧ LR T0 T1 o i.toNatClampNeg := by
    intro n
    induction n with
    | zero => intro j T hj hq hz hl h; cases h
    | succ n ih =>
      intro j T hj hq hz hl h
      have kj : (nI j).toNatClampNeg = j := nI_clamp (by omega)
      unfold g_X10_clear_b2 at h
      obtain ⟨-, h⟩ := oif_some h
      obtain ⟨v3, d3, h⟩ := elet_some h
      rw [hq.2.2.1, hu] at d3
      rcases oif_or h with ⟨q, h⟩ | ⟨q, h⟩
      · rw [d3] at q
        have q2 := (nI_leI (a := u) (by omega) (by omega)).mp q
        rw [← osome1 h]
        exact ⟨hq, fun p w hp => hz p w (by omega), hl⟩
      · rw [d3] at q
        have q2 : ¬ u ≤ j := fun z => q ((nI_leI (a := u) (by omega) (by omega)).mpr z)
        obtain ⟨-, h⟩ := oif_some h
        obtain ⟨n6, en, h⟩ := obind_some h
        rw [hq.2.2.2, h1] at en
        cases en
        obtain ⟨-, h⟩ := oif_some h
        obtain ⟨-, h⟩ := oif_some h
        obtain ⟨n9, en, h⟩ := obind_some h
        rw [kj, hq.2.2.2] at en
        obtain ⟨-, h⟩ := oif_some h
        obtain ⟨-, h⟩ := oif_some h
        obtain ⟨T12, e12, h⟩ := elet_some h
        have l12 : LQ T T12 := by rw [e12]; exact lq_uJ
        obtain ⟨v13, d13, h⟩ := elet_some h
        rw [show v13 = nI (j + 1) from d13.trans (nI_p1 j)] at h
        have at12 : ∀ m k, T12.2.2.2.1 m k = if m = n9 ∧ k = i.toNatClampNeg then 0 else T.2.2.2.1 m k := fun m k => by rw [e12, uj_get]
        refine ih (j + 1) (by omega) (hq.tr l12) (fun p w hp hw => ?_) (fun m k hmk => ?_) h
        · rw [at12]
          by_cases e : w = n9
          · rw [if_pos ⟨e, rfl⟩]
          · rw [if_neg (fun c => e c.1)]
            by_cases e2 : p = j
            · rw [e2, en] at hw
              exact absurd (Option.some.inj hw).symm e
            · exact hz p w (by omega) hw
        · rw [at12, if_neg (fun c => by
            rcases hmk with q | q
            · rw [c.1] at q; exact q j en
            · exact q c.2)]
          exact hl m k hmk
  unfold g_X10_clear at hg
  exact lp 16384 0 (Nat.zero_le _) LQ.rf (fun p w hp => absurd hp (Nat.not_lt_zero p)) (fun _ _ _ => rfl) hg
/-- carrying where nothing is to be carried -/
theorem c_stU {i : Int32} (hz : UZ T0 o x y u) (hd : ∀ p w, 1 ≤ p → p < u → T0.2.2.2.2 (o + 1) p = some w → 0 ≤ (T0.2.2.2.1 w i.toNatClampNeg).toInt ∧ (T0.2.2.2.1 w i.toNatClampNeg).toInt < 268435456) : ∀ (n j : Nat) {T : AT}, 1 ≤ j → j < u → LQ T0 T → (∀ m k, T.2.2.2.1 m k = T0.2.2.2.1 m k) → g_X10_settle_b2 n T o i (nI j) = some T1 → LQ T0 T1 ∧ ∀ m k, T1.2.2.2.1 m k = T0.2.2.2.1 m k := by
  obtain ⟨h1, -, -, hu, u2, u40⟩ := hz
  have uI' : (nI u).toInt = (u : Int) := nI_toInt (by omega)
  have z1 : (1 : Int32).toInt = 1 := by decide
  intro n
  induction n with
  | zero => intro j T h0 hj hq hl h; cases h
  | succ n ih =>
    intro j T h0 hj hq hl h
    have kj : (nI j).toNatClampNeg = j := nI_clamp (by omega)
    unfold g_X10_settle_b2 at h
    obtain ⟨v2, d2, h⟩ := elet_some h
    have e2 : v2 = nI (j + 1) := d2.trans (nI_p1 j)
    obtain ⟨-, h⟩ := oif_some h
    obtain ⟨v4, d4, h⟩ := elet_some h
    rw [hq.2.2.1, hu] at d4
    rcases oif_or h with ⟨q, h⟩ | ⟨q, h⟩
    · obtain ⟨-, h⟩ := oif_some h
      obtain ⟨v7, d7, h⟩ := elet_some h
      obtain ⟨v8, d8, h⟩ := elet_some h
      rw [hq.2.2.1, hu] at d7
      have v7I : v7.toInt = (u : Int) := by rw [d7]; exact uI'
      have q8 := i_sub d8 (by omega) (by omega)
      have w8 : (nI (u - 1)).toInt = ((u - 1 : Nat) : Int) := nI_toInt (by omega)
      have e8 : v8 = nI (u - 1) := Int32.toInt_inj.mp (by rw [q8, w8]; omega)
      rw [e8, show (16384 : Nat) = 16383 + 1 from rfl] at h
      unfold g_X10_settle_b64 g_X10_settle_b99 at h
      obtain ⟨w2, f2, h⟩ := elet_some h
      rcases oif_or h with ⟨-, h⟩ | ⟨-, h⟩
      · rw [← osome1 h]
        exact ⟨hq, hl⟩
      · obtain ⟨-, h⟩ := oif_some h
        obtain ⟨n5, en, h⟩ := obind_some h
        rw [hq.2.2.2, h1] at en
        cases en
        obtain ⟨-, h⟩ := oif_some h
        obtain ⟨-, h⟩ := oif_some h
        obtain ⟨n8, en, h⟩ := obind_some h
        rw [nI_clamp (by omega), hq.2.2.2] at en
        obtain ⟨-, h⟩ := oif_some h
        obtain ⟨-, h⟩ := oif_some h
        obtain ⟨v11, d11, h⟩ := elet_some h
        rw [hl] at d11
        have dg := hd (u - 1) n8 (by omega) (by omega) en
        obtain ⟨r12, g12, h⟩ := obind_some h
        rw [d11] at g12
        rw [if_pos (l_beyond ⟨by omega, dg.2⟩ g12)] at h
        rw [← osome1 h]
        exact ⟨hq, hl⟩
    · have ju : j + 1 < u := by
        have c := i_nle q
        have w2 : (nI (j + 1)).toInt = ((j + 1 : Nat) : Int) := nI_toInt (by omega)
        rw [d4, e2] at c
        omega
      obtain ⟨-, h⟩ := oif_some h
      obtain ⟨n10, en, h⟩ := obind_some h
      rw [hq.2.2.2, h1] at en
      cases en
      obtain ⟨-, h⟩ := oif_some h
      obtain ⟨-, h⟩ := oif_some h
      obtain ⟨n13, ew, h⟩ := obind_some h
      rw [kj, hq.2.2.2] at ew
      obtain ⟨-, h⟩ := oif_some h
      obtain ⟨-, h⟩ := oif_some h
      obtain ⟨v16, d16, h⟩ := elet_some h
      rw [hl] at d16
      obtain ⟨-, h⟩ := oif_some h
      obtain ⟨n18, en, h⟩ := obind_some h
      rw [hq.2.2.2, h1] at en
      cases en
      obtain ⟨-, h⟩ := oif_some h
      obtain ⟨-, h⟩ := oif_some h
      obtain ⟨n21, en, h⟩ := obind_some h
      rw [kj, hq.2.2.2, ew] at en
      cases en
      have dg := hd j n13 h0 hj ew
      rw [← d16] at dg
      obtain ⟨v22, d22, h⟩ := elet_some h
      have q22 := l_and d22 dg.1
      have e22 : v22 = v16 := Int64.toInt_inj.mp (by omega)
      obtain ⟨-, h⟩ := oif_some h
      obtain ⟨-, h⟩ := oif_some h
      obtain ⟨T25, e25, h⟩ := elet_some h
      have l25 : LQ T T25 := by rw [e25]; exact lq_uJ
      have a25 : ∀ m k, T25.2.2.2.1 m k = T0.2.2.2.1 m k := fun m k => by
        rw [e25, uj_get]
        by_cases c : m = n13 ∧ k = i.toNatClampNeg
        · rw [if_pos c, e22, d16, c.1, c.2]
        · rw [if_neg c, hl]
      obtain ⟨-, h⟩ := oif_some h
      obtain ⟨n27, en, h⟩ := obind_some h
      rw [l25.2.2.2, hq.2.2.2, h1] at en
      cases en
      obtain ⟨v28, d28, h⟩ := elet_some h
      obtain ⟨-, h⟩ := oif_some h
      obtain ⟨-, h⟩ := oif_some h
      obtain ⟨n31, ew2, h⟩ := obind_some h
      obtain ⟨-, h⟩ := oif_some h
      obtain ⟨-, h⟩ := oif_some h
      obtain ⟨v34, d34, h⟩ := elet_some h
      rw [a25] at d34
      obtain ⟨v35, d35, h⟩ := elet_some h
      have q35 := l_shr d35
      have e35 : v35 = 0 := Int64.toInt_inj.mp (by
        have z0 : (0 : Int64).toInt = 0 := by decide
        omega)
      obtain ⟨v36, d36, h⟩ := elet_some h
      have e36 : v36 = v34 := by rw [d36, e35, Int64.add_zero]
      obtain ⟨-, h⟩ := oif_some h
      obtain ⟨-, h⟩ := oif_some h
      obtain ⟨T39, e39, h⟩ := elet_some h
      have l39 : LQ T25 T39 := by rw [e39]; exact lq_uJ
      have a39 : ∀ m k, T39.2.2.2.1 m k = T0.2.2.2.1 m k := fun m k => by
        rw [e39, uj_get]
        by_cases c : m = n31 ∧ k = i.toNatClampNeg
        · rw [if_pos c, e36, d34, c.1, c.2]
        · rw [if_neg c, a25]
      obtain ⟨v40, d40, h⟩ := elet_some h
      rw [show v40 = nI (j + 1) from d40.trans (nI_p1 j)] at h
      exact ih (j + 1) (by omega) ju ((hq.tr l25).tr l39) a39 h
end
end
section
/-! 27z.settle.lean.txt -/
/-! numbers of more parts: settled behind a sum -/
section
variable {T T1 T0 : AT} {o x y u : Nat}
theorem c_settleU {i : Int32} {v : Int} (hu : UZ T o x y u) (u5 : x ≠ y) (hz : ∀ p w, 2 ≤ p → p < u → T.2.2.2.2 (o + 1) p = some w → w ≠ x ∧ w ≠ y ∧ T.2.2.2.1 w i.toNatClampNeg = 0) (h0 : 0 ≤ (T.2.2.2.1 x i.toNatClampNeg).toInt) (h1 : 0 ≤ (T.2.2.2.1 y i.toNatClampNeg).toInt) (hv : (T.2.2.2.1 y i.toNatClampNeg).toInt * 268435456 + (T.2.2.2.1 x i.toNatClampNeg).toInt = v) (hb : v < 72057594037927936) (hg : g_X10_settle T o i = some T1) : LQ T T1 ∧ V2 T1 x y i.toNatClampNeg v ∧ LE T T1 x y i.toNatClampNeg := by
  obtain ⟨u1, u2, u3, u4, u2le, u40⟩ := id hu
  unfold g_X10_settle at hg
  rw [show (16384 : Nat) = 16382 + 1 + 1 from rfl] at hg
  unfold g_X10_settle_b2 at hg
  obtain ⟨v2, d2, hg⟩ := elet_some hg
  obtain ⟨-, hg⟩ := oif_some hg
  obtain ⟨v4, d4, hg⟩ := elet_some hg
  rw [u4] at d4
  have uI' : (nI u).toInt = (u : Int) := nI_toInt (by omega)
  have z01 : ((0 : Int32) + 1).toInt = 1 := by decide
  rw [if_neg (fun w => by have := i_le w; rw [d4, d2] at this; omega)] at hg
  obtain ⟨-, hg⟩ := oif_some hg
  obtain ⟨n10, en, hg⟩ := obind_some hg
  rw [u1] at en
  cases en
  obtain ⟨-, hg⟩ := oif_some hg
  obtain ⟨-, hg⟩ := oif_some hg
  obtain ⟨n13, en, hg⟩ := obind_some hg
  rw [show (0 : Int32).toNatClampNeg = 0 from rfl, u2] at en
  cases en
  obtain ⟨-, hg⟩ := oif_some hg
  obtain ⟨-, hg⟩ := oif_some hg
  obtain ⟨v16, d16, hg⟩ := elet_some hg
  obtain ⟨-, hg⟩ := oif_some hg
  obtain ⟨n18, en, hg⟩ := obind_some hg
  rw [u1] at en
  cases en
  obtain ⟨-, hg⟩ := oif_some hg
  obtain ⟨-, hg⟩ := oif_some hg
  obtain ⟨n21, en, hg⟩ := obind_some hg
  rw [show (0 : Int32).toNatClampNeg = 0 from rfl, u2] at en
  cases en
  obtain ⟨v22, d22, hg⟩ := elet_some hg
  obtain ⟨-, hg⟩ := oif_some hg
  obtain ⟨-, hg⟩ := oif_some hg
  obtain ⟨T25, e25, hg⟩ := elet_some hg
  have l25 : LQ T T25 := by rw [e25]; exact lq_uJ
  obtain ⟨-, hg⟩ := oif_some hg
  obtain ⟨n27, en, hg⟩ := obind_some hg
  rw [l25.2.2.2, u1] at en
  cases en
  obtain ⟨v28, d28, hg⟩ := elet_some hg
  have e28 : v28 = 1 := by rw [d28]; decide
  obtain ⟨-, hg⟩ := oif_some hg
  obtain ⟨-, hg⟩ := oif_some hg
  obtain ⟨n31, en, hg⟩ := obind_some hg
  rw [e28, show (1 : Int32).toNatClampNeg = 1 from rfl, l25.2.2.2, u3] at en
  cases en
  obtain ⟨-, hg⟩ := oif_some hg
  obtain ⟨-, hg⟩ := oif_some hg
  obtain ⟨v34, d34, hg⟩ := elet_some hg
  rw [e25, uj_get, if_neg (fun w => u5 w.1.symm)] at d34
  obtain ⟨v35, d35, hg⟩ := elet_some hg
  obtain ⟨v36, d36, hg⟩ := elet_some hg
  obtain ⟨-, hg⟩ := oif_some hg
  obtain ⟨-, hg⟩ := oif_some hg
  obtain ⟨T39, e39, hg⟩ := elet_some hg
  have l39 : LQ T25 T39 := by rw [e39]; exact lq_uJ
  have l := l25.tr l39
  obtain ⟨v40, d40, hg⟩ := elet_some hg
  have q16 : v16.toInt = (T.2.2.2.1 x i.toNatClampNeg).toInt := by rw [d16]
  have q22 := l_and d22 (by omega)
  have q34 : v34.toInt = (T.2.2.2.1 y i.toNatClampNeg).toInt := by rw [d34]
  have q35 := l_shr d35
  have q36 := l_add d36 (by omega) (by omega)
  have at39 : ∀ m j, T39.2.2.2.1 m j = if m = y ∧ j = i.toNatClampNeg then v36 else if m = x ∧ j = i.toNatClampNeg then v22 else T.2.2.2.1 m j := by
    intro m j
    rw [e39, uj_get, e25, uj_get]
  have e40 : v40 = nI 1 := by rw [d40]; decide
  rw [e40] at hg
  have ax : T39.2.2.2.1 x i.toNatClampNeg = v22 := by rw [at39, if_neg (fun w => u5 w.1), if_pos ⟨rfl, rfl⟩]
  have ay : T39.2.2.2.1 y i.toNatClampNeg = v36 := by rw [at39, if_pos ⟨rfl, rfl⟩]
  have y0 : (0 : Int64).toInt = 0 := by decide
  have hzz : ∀ p w, 2 ≤ p → p < u → T.2.2.2.2 (o + 1) p = some w → T39.2.2.2.1 w i.toNatClampNeg = 0 := fun p w a b c => by
    obtain ⟨n1, n2, n3⟩ := hz p w a b c
    rw [at39, if_neg (fun e => n2 e.1), if_neg (fun e => n1 e.1)]
    exact n3
  obtain ⟨l1, a1⟩ := c_stU (hu.lq l) (fun p w h1 h2 h3 => by
    rw [l.2.2.2] at h3
    by_cases e : p = 1
    · rw [e, u3] at h3
      cases h3
      rw [ay]
      omega
    · rw [hzz p w (by omega) h2 h3]
      omega) _ 1 (Nat.le_refl _) (by omega) LQ.rf (fun _ _ => rfl) hg
  refine ⟨l.tr l1, ⟨?_, ?_, ?_⟩, fun m j hmj => ?_⟩
  · rw [a1, ax]
    omega
  · rw [a1, ay]
    omega
  · rw [a1, a1, ax, ay]
    omega
  · rw [a1, at39, if_neg (fun w => by rcases hmj with q | q; exact q.2 w.1; exact q w.2), if_neg (fun w => by rcases hmj with q | q; exact q.1 w.1; exact q w.2)]
end
end
section
/-! 27za.addp.lean.txt -/
/-! numbers of more parts: a beam's square is added -/
section
variable {T T1 T0 : AT} {o x y z b u : Nat}
theorem c_addpU {i : Int32} {v s : Int} (hu : UZ T o x y u) (u5 : x ≠ y) (hz : ∀ p w, 2 ≤ p → p < u → T.2.2.2.2 (o + 1) p = some w → w ≠ x ∧ w ≠ y ∧ T.2.2.2.1 w i.toNatClampNeg = 0) (hb : W1 T b z) (hzx : z ≠ x) (hzy : z ≠ y) (hV : V2 T x y i.toNatClampNeg v) (hs : (T.2.2.2.1 z 0).toInt * (T.2.2.2.1 z 0).toInt = s) (hl : s ≤ 2000000000000) (hs0 : 0 ≤ s) (hv : v < 1000000000000000) (hg : g_X10_addProduct_b14 T o i b 0 b 0 = some T1) : LQ T T1 ∧ V2 T1 x y i.toNatClampNeg (v + s) ∧ LE T T1 x y i.toNatClampNeg := by
  obtain ⟨u1, u2, u3, u4, u2le, u40⟩ := id hu
  have uI' : (nI u).toInt = (u : Int) := nI_toInt (by omega)
  have zz0 : (0 : Int32).toInt = 0 := by decide
  obtain ⟨b1, b2, b3⟩ := id hb
  obtain ⟨V0, V1, Vv⟩ := hV
  unfold g_X10_addProduct_b14 at hg
  rw [show (16384 : Nat) = 16382 + 1 + 1 from rfl] at hg
  unfold g_X10_addProduct_b17 at hg
  obtain ⟨-, hg⟩ := oif_some hg
  obtain ⟨v3, d3, hg⟩ := elet_some hg
  rw [u4] at d3
  rw [if_neg (fun w => by have := i_le w; rw [d3] at this; omega)] at hg
  obtain ⟨-, hg⟩ := oif_some hg
  obtain ⟨v6, d6, hg⟩ := elet_some hg
  obtain ⟨-, hg⟩ := oif_some hg
  obtain ⟨v8, d8, hg⟩ := elet_some hg
  rw [b3] at d6 d8
  obtain ⟨v9, d9, hg⟩ := elet_some hg
  obtain ⟨v10, d10, hg⟩ := elet_some hg
  rw [if_neg (by rw [d10, d9, d8, d6]; decide)] at hg
  obtain ⟨-, hg⟩ := oif_some hg
  obtain ⟨v13, d13, hg⟩ := elet_some hg
  rw [b3] at d13
  obtain ⟨v14, d14, hg⟩ := elet_some hg
  obtain ⟨v15, d15, hg⟩ := elet_some hg
  obtain ⟨v16, d16, hg⟩ := elet_some hg
  have e16 : v16 = 0 := by rw [d16, d15, d14, d13]; decide
  rw [e16] at hg
  unfold g_X10_addProduct_b62 at hg
  rw [if_neg (by decide)] at hg
  obtain ⟨-, hg⟩ := oif_some hg
  obtain ⟨w4, f4, hg⟩ := elet_some hg
  rw [b3] at f4
  rw [if_neg (by rw [f4]; decide)] at hg
  obtain ⟨-, hg⟩ := oif_some hg
  obtain ⟨n7, en, hg⟩ := obind_some hg
  rw [b1] at en
  cases en
  obtain ⟨-, hg⟩ := oif_some hg
  obtain ⟨-, hg⟩ := oif_some hg
  obtain ⟨n10, en, hg⟩ := obind_some hg
  rw [show (0 : Int32).toNatClampNeg = 0 from rfl, b2] at en
  cases en
  obtain ⟨-, hg⟩ := oif_some hg
  obtain ⟨-, hg⟩ := oif_some hg
  obtain ⟨w13, f13, hg⟩ := elet_some hg
  obtain ⟨-, hg⟩ := oif_some hg
  obtain ⟨n15, en, hg⟩ := obind_some hg
  rw [b1] at en
  cases en
  obtain ⟨w16, f16, hg⟩ := elet_some hg
  have g16 : w16 = 0 := by rw [f16]; decide
  obtain ⟨-, hg⟩ := oif_some hg
  obtain ⟨-, hg⟩ := oif_some hg
  obtain ⟨n19, en, hg⟩ := obind_some hg
  rw [g16, show (0 : Int32).toNatClampNeg = 0 from rfl, b2] at en
  cases en
  obtain ⟨-, hg⟩ := oif_some hg
  obtain ⟨-, hg⟩ := oif_some hg
  obtain ⟨w22, f22, hg⟩ := elet_some hg
  obtain ⟨w23, f23, hg⟩ := elet_some hg
  obtain ⟨w24, f24, hg⟩ := elet_some hg
  obtain ⟨w25, f25, hg⟩ := elet_some hg
  rw [show (0 : Int32).toNatClampNeg = 0 from rfl] at f13 f22
  have q23 : w23.toInt = s := by
    rw [l_mul f23 (by rw [f13, f22]; omega) (by rw [f13, f22]; omega), f13, f22]
    exact hs
  have z0 : (0 : Int64).toInt = 0 := by decide
  have q24 := l_add f24 (by omega) (by omega)
  unfold g_X10_addProduct_b62 at hg
  rw [if_pos (by rw [f25]; decide)] at hg
  unfold g_X10_addProduct_b113 at hg
  obtain ⟨-, hg⟩ := oif_some hg
  obtain ⟨n3, en, hg⟩ := obind_some hg
  rw [u1] at en
  cases en
  obtain ⟨-, hg⟩ := oif_some hg
  obtain ⟨-, hg⟩ := oif_some hg
  obtain ⟨n6, en, hg⟩ := obind_some hg
  rw [show (0 : Int32).toNatClampNeg = 0 from rfl, u2] at en
  cases en
  obtain ⟨-, hg⟩ := oif_some hg
  obtain ⟨-, hg⟩ := oif_some hg
  obtain ⟨x9, h9, hg⟩ := elet_some hg
  obtain ⟨x10, h10, hg⟩ := elet_some hg
  obtain ⟨-, hg⟩ := oif_some hg
  obtain ⟨-, hg⟩ := oif_some hg
  obtain ⟨T13, e13, hg⟩ := elet_some hg
  obtain ⟨x14, h14, hg⟩ := elet_some hg
  have l13 : LQ T T13 := by rw [e13]; exact lq_uJ
  have q9 : x9.toInt = (T.2.2.2.1 x i.toNatClampNeg).toInt := by rw [h9]
  have q10 := l_add h10 (by omega) (by omega)
  unfold g_X10_addProduct_b17 at hg
  obtain ⟨-, hg⟩ := oif_some hg
  obtain ⟨y3, p3, hg⟩ := elet_some hg
  rw [l13.2.2.1, u4] at p3
  have w14 : x14.toInt = 1 := by rw [h14]; decide
  rw [if_neg (fun w => by have := i_le w; rw [p3] at this; omega)] at hg
  obtain ⟨-, hg⟩ := oif_some hg
  obtain ⟨y6, p6, hg⟩ := elet_some hg
  obtain ⟨-, hg⟩ := oif_some hg
  obtain ⟨y8, p8, hg⟩ := elet_some hg
  rw [l13.2.2.1, b3] at p6 p8
  obtain ⟨y9, p9, hg⟩ := elet_some hg
  obtain ⟨y10, p10, hg⟩ := elet_some hg
  rw [if_pos (by rw [p10, p9, p8, p6, h14]; decide)] at hg
  unfold g_X10_addProduct_b133 g_X10_addProduct_b138 at hg
  obtain ⟨-, hg⟩ := oif_some hg
  obtain ⟨T3, g3, hg⟩ := obind_some hg
  rw [osome1 hg] at g3
  have a0 : T13.2.2.2.1 x i.toNatClampNeg = x10 := by rw [e13, uj_get, if_pos ⟨rfl, rfl⟩]
  have a1 : T13.2.2.2.1 y i.toNatClampNeg = T.2.2.2.1 y i.toNatClampNeg := by rw [e13, uj_get, if_neg (fun w => u5 w.1.symm)]
  obtain ⟨l3, r3, le3⟩ := c_settleU (v := v + s) (hu.lq l13) u5 (fun p w h1 h2 h3 => by
    rw [l13.2.2.2] at h3
    obtain ⟨n1, n2, n3⟩ := hz p w h1 h2 h3
    exact ⟨n1, n2, by rw [e13, uj_get, if_neg (fun e => n1 e.1)]; exact n3⟩) (by rw [a0]; omega) (by rw [a1]; omega) (by rw [a0, a1]; omega) (by omega) g3
  refine ⟨l13.tr l3, r3, fun m j hmj => ?_⟩
  rw [le3 m j hmj, e13, uj_get, if_neg (fun w => by rcases hmj with q | q; exact q.1 w.1; exact q w.2)]
end
end
