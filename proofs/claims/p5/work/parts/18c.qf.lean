/-- no Source's field changes -/
def QF (T T1 : AT) : Prop := GL T T1 ∧ ∀ n k, n < T.1 → T.2.1 n = (7, 0) → T1.2.2.1 n k = T.2.2.1 n k
theorem QF.rf (T : AT) : QF T T := ⟨GL.rf T, fun _ _ _ _ => rfl⟩
theorem QF.tr {T T1 T2 : AT} (h : QF T T1) (k : QF T1 T2) : QF T T2 := ⟨h.1.tr k.1, fun n j hn a => (k.2 n j (Nat.lt_of_lt_of_le hn h.1.1) (by rw [h.1.2.1 n hn]; exact a)).trans (h.2 n j hn a)⟩
theorem qf_uO {T : AT} {n k c : Nat} {v : Int32} (h : T.2.1 n = (c, 0)) (hc : c ≠ 7) : QF T (uI T n k v) := ⟨gl_sp sp_uI, fun m j _ a => by
  show va_up T.2.2.1 n _ m j = _
  rw [va_up_ne _ _ (fun e => by rw [e, h] at a; exact hc (congrArg Prod.fst a))]⟩
theorem qf_uA {T : AT} {n k c : Nat} {v : Int32} (h : (T.2.1 n).1 = c) (hc : c ≠ 7) : QF T (uI T n k v) := ⟨gl_sp sp_uI, fun m j _ a => by
  show va_up T.2.2.1 n _ m j = _
  rw [va_up_ne _ _ (fun e => by rw [e] at a; rw [a] at h; exact hc h.symm)]⟩
theorem qf_uJ {T : AT} {n k : Nat} {v : Int64} : QF T (uJ T n k v) := ⟨gl_sp sp_uJ, fun _ _ _ _ => rfl⟩
theorem qf_uC {T : AT} {a b k : Nat} : QF T (uC T a b k) := ⟨gl_sp sp_uC, fun _ _ _ _ => rfl⟩
theorem qf_uR {T : AT} {n k x : Nat} (hx : x < T.1) : QF T (uR T n k x) := ⟨gl_uR hx, fun _ _ _ _ => rfl⟩
theorem qf_newJ {T : AT} {K : Nat} : QF T (newJ T K) := ⟨gl_newJ, fun _ _ _ _ => rfl⟩
set_option maxHeartbeats 4000000 in
set_option maxRecDepth 100000 in
theorem sq_X10_narrow {T : AT} {o : Nat} {T1 : AT} (h : g_X10_narrow T o = some T1) : QF T T1 := by
  have p0 := QF.rf T
  unfold g_X10_narrow at h
  obtain ⟨g2, h⟩ := oif_some h
  obtain ⟨T3, eT3, h⟩ := elet_some h
  have p1 : QF T T3 := QF.tr p0 (by rw [eT3]; first | exact qf_uO (oO_k g2).2 (by decide) | exact qf_uA (aA_k g2).2.1 (by decide))
  rw [← osome1 h]
  exact p1
set_option maxHeartbeats 4000000 in
set_option maxRecDepth 100000 in
theorem sq_X1_cells {T : AT} {o : Nat} {r1 : Int32} {T1 : AT} (h : g_X1_cells T o = some (r1, T1)) : QF T T1 := by
  have p0 := QF.rf T
  unfold g_X1_cells at h
  obtain ⟨g2, h⟩ := oif_some h
  obtain ⟨v3, -, h⟩ := elet_some h
  obtain ⟨g4, h⟩ := oif_some h
  obtain ⟨v5, -, h⟩ := elet_some h
  obtain ⟨v6, -, h⟩ := elet_some h
  rw [← (osome2 h).2]
  exact p0
set_option maxHeartbeats 4000000 in
set_option maxRecDepth 100000 in
theorem sq_X8_greatestDelay_b29 {r1 : Int32} {T1 : AT} {k4 : AT → Nat → Nat → Int32 → Int32 → Option (Int32 × AT)} (hk4 : ∀ (T : AT) (l0 : Nat) (l1 : Nat) (l2 : Int32) (l3 : Int32), k4 T l0 l1 l2 l3 = some (r1, T1) → QF T T1) : ∀ (T : AT) (l0 : Nat) (l1 : Nat) (l2 : Int32) (l3 : Int32), g_X8_greatestDelay_b29 k4 T l0 l1 l2 l3 = some (r1, T1) → QF T T1 := by
  intro T l0 l1 l2 l3 h
  have p0 := QF.rf T
  unfold g_X8_greatestDelay_b29 at h
  obtain ⟨v2, ev2, h⟩ := elet_some h
  exact QF.tr p0 (hk4 _ _ _ _ _ h)
set_option maxHeartbeats 4000000 in
set_option maxRecDepth 100000 in
theorem sq_X8_greatestDelay_b4 {r1 : Int32} {T1 : AT} : ∀ n : Nat, ∀ (T : AT) (l0 : Nat) (l1 : Nat) (l2 : Int32) (l3 : Int32), g_X8_greatestDelay_b4 n T l0 l1 l2 l3 = some (r1, T1) → QF T T1 := by
  intro n
  induction n with
  | zero =>
    intro T l0 l1 l2 l3 h
    have h : (none : Option (Int32 × AT)) = some (r1, T1) := h
    cases h
  | succ n ih =>
    intro T l0 l1 l2 l3 h
    have p0 := QF.rf T
    unfold g_X8_greatestDelay_b4 at h
    obtain ⟨g2, h⟩ := oif_some h
    obtain ⟨v3, -, h⟩ := elet_some h
    rcases oif_or h with ⟨c4, h⟩ | ⟨c4, h⟩
    · have h := h
      rw [← (osome2 h).2]
      exact p0
    · have h := h
      obtain ⟨g5, h⟩ := oif_some h
      obtain ⟨n6, en6, h⟩ := obind_some h
      obtain ⟨g7, h⟩ := oif_some h
      obtain ⟨g8, h⟩ := oif_some h
      obtain ⟨v9, -, h⟩ := elet_some h
      rcases oif_or h with ⟨c10, h⟩ | ⟨c10, h⟩
      · have h := h
        obtain ⟨g11, h⟩ := oif_some h
        obtain ⟨g12, h⟩ := oif_some h
        obtain ⟨v13, -, h⟩ := elet_some h
        obtain ⟨v14, -, h⟩ := elet_some h
        exact QF.tr p0 (sq_X8_greatestDelay_b29 ih _ _ _ _ _ h)
      · have h := h
        exact QF.tr p0 (sq_X8_greatestDelay_b29 ih _ _ _ _ _ h)
set_option maxHeartbeats 4000000 in
set_option maxRecDepth 100000 in
theorem sq_X8_greatestDelay {T : AT} {o : Nat} {a0 : Nat} {r1 : Int32} {T1 : AT} (h : g_X8_greatestDelay T o a0 = some (r1, T1)) : QF T T1 := by
  have p0 := QF.rf T
  unfold g_X8_greatestDelay at h
  exact QF.tr p0 (sq_X8_greatestDelay_b4 _ _ _ _ _ _ h)
set_option maxHeartbeats 4000000 in
set_option maxRecDepth 100000 in
theorem sq_X8_windowOf {T : AT} {o : Nat} {a0 : Nat} {r1 : Int32} {T1 : AT} (h : g_X8_windowOf T o a0 = some (r1, T1)) : QF T T1 := by
  have p0 := QF.rf T
  unfold g_X8_windowOf at h
  obtain ⟨g2, h⟩ := oif_some h
  obtain ⟨v3, -, h⟩ := elet_some h
  obtain ⟨g4, h⟩ := oif_some h
  obtain ⟨r6, T5, eT5, h⟩ := obind2_some h
  have p1 : QF T T5 := QF.tr p0 (sq_X8_greatestDelay eT5)
  obtain ⟨v7, -, h⟩ := elet_some h
  obtain ⟨v8, -, h⟩ := elet_some h
  rw [← (osome2 h).2]
  exact p1
set_option maxHeartbeats 4000000 in
set_option maxRecDepth 100000 in
theorem sq_X10_clear_b2 {T1 : AT} : ∀ n : Nat, ∀ (T : AT) (l0 : Nat) (l1 : Int32) (l2 : Int32), g_X10_clear_b2 n T l0 l1 l2 = some T1 → QF T T1 := by
  intro n
  induction n with
  | zero =>
    intro T l0 l1 l2 h
    have h : (none : Option (AT)) = some T1 := h
    cases h
  | succ n ih =>
    intro T l0 l1 l2 h
    have p0 := QF.rf T
    unfold g_X10_clear_b2 at h
    obtain ⟨g2, h⟩ := oif_some h
    obtain ⟨v3, -, h⟩ := elet_some h
    rcases oif_or h with ⟨c4, h⟩ | ⟨c4, h⟩
    · have h := h
      rw [← osome1 h]
      exact p0
    · have h := h
      obtain ⟨g5, h⟩ := oif_some h
      obtain ⟨n6, en6, h⟩ := obind_some h
      obtain ⟨g7, h⟩ := oif_some h
      obtain ⟨g8, h⟩ := oif_some h
      obtain ⟨n9, en9, h⟩ := obind_some h
      obtain ⟨g10, h⟩ := oif_some h
      obtain ⟨g11, h⟩ := oif_some h
      obtain ⟨T12, eT12, h⟩ := elet_some h
      have p1 : QF T T12 := QF.tr p0 (by rw [eT12]; exact qf_uJ)
      obtain ⟨v13, ev13, h⟩ := elet_some h
      exact QF.tr p1 (ih _ _ _ _ h)
set_option maxHeartbeats 4000000 in
set_option maxRecDepth 100000 in
theorem sq_X10_clear {T : AT} {o : Nat} {a0 : Int32} {T1 : AT} (h : g_X10_clear T o a0 = some T1) : QF T T1 := by
  have p0 := QF.rf T
  unfold g_X10_clear at h
  exact QF.tr p0 (sq_X10_clear_b2 _ _ _ _ _ h)
set_option maxHeartbeats 4000000 in
set_option maxRecDepth 100000 in
theorem sq_X10_widenTo_b108 {T1 : AT} : ∀ (T : AT), g_X10_widenTo_b108 T = some T1 → QF T T1 := by
  intro T h
  have p0 := QF.rf T
  unfold g_X10_widenTo_b108 at h
  rw [← osome1 h]
  exact p0
set_option maxHeartbeats 4000000 in
set_option maxRecDepth 100000 in
theorem sq_X10_widenTo_b40 {T1 : AT} {k5 : AT → Nat → Int32 → Int32 → Option (AT)} (hk5 : ∀ (T : AT) (l0 : Nat) (l1 : Int32) (l2 : Int32), k5 T l0 l1 l2 = some T1 → QF T T1) : ∀ n : Nat, ∀ (T : AT) (l0 : Nat) (l1 : Int32) (l2 : Int32) (l3 : Int32), g_X10_widenTo_b40 k5 n T l0 l1 l2 l3 = some T1 → QF T T1 := by
  intro n
  induction n with
  | zero =>
    intro T l0 l1 l2 l3 h
    have h : (none : Option (AT)) = some T1 := h
    cases h
  | succ n ih =>
    intro T l0 l1 l2 l3 h
    have p0 := QF.rf T
    unfold g_X10_widenTo_b40 at h
    obtain ⟨g2, h⟩ := oif_some h
    obtain ⟨v3, -, h⟩ := elet_some h
    rcases oif_or h with ⟨c4, h⟩ | ⟨c4, h⟩
    · have h := h
      obtain ⟨v5, -, h⟩ := elet_some h
      obtain ⟨g6, h⟩ := oif_some h
      obtain ⟨T7, eT7, h⟩ := elet_some h
      have p1 : QF T T7 := QF.tr p0 (by rw [eT7]; first | exact qf_uO (oO_k g6).2 (by decide) | exact qf_uA (aA_k g2).2.1 (by decide))
      obtain ⟨v8, ev8, h⟩ := elet_some h
      exact QF.tr p1 (hk5 _ _ _ _ h)
    · have h := h
      obtain ⟨g9, h⟩ := oif_some h
      obtain ⟨n10, en10, h⟩ := obind_some h
      obtain ⟨v11, -, h⟩ := elet_some h
      obtain ⟨g12, h⟩ := oif_some h
      obtain ⟨g13, h⟩ := oif_some h
      obtain ⟨n14, en14, h⟩ := obind_some h
      obtain ⟨g15, h⟩ := oif_some h
      obtain ⟨g16, h⟩ := oif_some h
      obtain ⟨v17, -, h⟩ := elet_some h
      obtain ⟨g18, h⟩ := oif_some h
      obtain ⟨n19, en19, h⟩ := obind_some h
      obtain ⟨v20, -, h⟩ := elet_some h
      obtain ⟨g21, h⟩ := oif_some h
      obtain ⟨g22, h⟩ := oif_some h
      obtain ⟨n23, en23, h⟩ := obind_some h
      obtain ⟨v24, -, h⟩ := elet_some h
      obtain ⟨g25, h⟩ := oif_some h
      obtain ⟨g26, h⟩ := oif_some h
      obtain ⟨T27, eT27, h⟩ := elet_some h
      have p1 : QF T T27 := QF.tr p0 (by rw [eT27]; exact qf_uJ)
      obtain ⟨g28, h⟩ := oif_some h
      obtain ⟨n29, en29, h⟩ := obind_some h
      obtain ⟨g30, h⟩ := oif_some h
      obtain ⟨g31, h⟩ := oif_some h
      obtain ⟨n32, en32, h⟩ := obind_some h
      obtain ⟨v33, -, h⟩ := elet_some h
      obtain ⟨g34, h⟩ := oif_some h
      obtain ⟨g35, h⟩ := oif_some h
      obtain ⟨T36, eT36, h⟩ := elet_some h
      have p2 : QF T T36 := QF.tr p1 (by rw [eT36]; exact qf_uJ)
      obtain ⟨v37, ev37, h⟩ := elet_some h
      exact QF.tr p2 (ih _ _ _ _ _ h)
set_option maxHeartbeats 4000000 in
set_option maxRecDepth 100000 in
theorem sq_X10_widenTo_b38 {T1 : AT} {k5 : AT → Nat → Int32 → Int32 → Option (AT)} (hk5 : ∀ (T : AT) (l0 : Nat) (l1 : Int32) (l2 : Int32), k5 T l0 l1 l2 = some T1 → QF T T1) : ∀ (T : AT) (l0 : Nat) (l1 : Int32) (l2 : Int32), g_X10_widenTo_b38 k5 T l0 l1 l2 = some T1 → QF T T1 := by
  intro T l0 l1 l2 h
  have p0 := QF.rf T
  unfold g_X10_widenTo_b38 at h
  exact QF.tr p0 (sq_X10_widenTo_b40 hk5 _ _ _ _ _ _ h)
set_option maxHeartbeats 4000000 in
set_option maxRecDepth 100000 in
theorem sq_X10_widenTo_b37 {T1 : AT} {k5 : AT → Nat → Int32 → Int32 → Option (AT)} (hk5 : ∀ (T : AT) (l0 : Nat) (l1 : Int32) (l2 : Int32), k5 T l0 l1 l2 = some T1 → QF T T1) : ∀ (T : AT) (s0 : Nat) (s1 : Int32) (s2 : Nat) (l0 : Nat) (l1 : Int32) (l2 : Int32), g_X10_widenTo_b37 k5 T s0 s1 s2 l0 l1 l2 = some T1 → QF T T1 := by
  intro T s0 s1 s2 l0 l1 l2 h
  have p0 := QF.rf T
  unfold g_X10_widenTo_b37 at h
  obtain ⟨g2, h⟩ := oif_some h
  obtain ⟨g3, h⟩ := oif_some h
  obtain ⟨g4, h⟩ := oif_some h
  obtain ⟨T5, eT5, h⟩ := elet_some h
  have p1 : QF T T5 := QF.tr p0 (by rw [eT5]; exact qf_uR (aA_k g4).1)
  exact QF.tr p1 (sq_X10_widenTo_b38 hk5 _ _ _ _ h)
set_option maxHeartbeats 4000000 in
set_option maxRecDepth 100000 in
theorem sq_X10_widenTo_b5 {T1 : AT} : ∀ n : Nat, ∀ (T : AT) (l0 : Nat) (l1 : Int32) (l2 : Int32), g_X10_widenTo_b5 n T l0 l1 l2 = some T1 → QF T T1 := by
  intro n
  induction n with
  | zero =>
    intro T l0 l1 l2 h
    have h : (none : Option (AT)) = some T1 := h
    cases h
  | succ n ih =>
    intro T l0 l1 l2 h
    have p0 := QF.rf T
    unfold g_X10_widenTo_b5 at h
    rcases oif_or h with ⟨c2, h⟩ | ⟨c2, h⟩
    · have h := h
      exact QF.tr p0 (sq_X10_widenTo_b108 _ h)
    · have h := h
      rcases oif_or h with ⟨c3, h⟩ | ⟨c3, h⟩
      · have h := h
        exact QF.tr p0 (sq_X10_widenTo_b108 _ h)
      · have h := h
        obtain ⟨g4, h⟩ := oif_some h
        obtain ⟨n5, en5, h⟩ := obind_some h
        obtain ⟨g6, h⟩ := oif_some h
        obtain ⟨g7, h⟩ := oif_some h
        obtain ⟨n8, en8, h⟩ := obind_some h
        obtain ⟨g9, h⟩ := oif_some h
        obtain ⟨v10, -, h⟩ := elet_some h
        rcases oif_or h with ⟨c11, h⟩ | ⟨c11, h⟩
        · have h := h
          obtain ⟨g12, h⟩ := oif_some h
          obtain ⟨n13, en13, h⟩ := obind_some h
          obtain ⟨g14, h⟩ := oif_some h
          obtain ⟨v15, -, h⟩ := elet_some h
          obtain ⟨g16, h⟩ := oif_some h
          obtain ⟨T17, eT17, h⟩ := elet_some h
          have p1 : QF T T17 := QF.tr p0 (by rw [eT17]; exact qf_newJ)
          exact QF.tr p1 (sq_X10_widenTo_b37 ih _ _ _ _ _ _ _ h)
        · have h := h
          exact QF.tr p0 (sq_X10_widenTo_b38 ih _ _ _ _ h)
set_option maxHeartbeats 4000000 in
set_option maxRecDepth 100000 in
theorem sq_X10_widenTo {T : AT} {o : Nat} {a0 : Int32} {T1 : AT} (h : g_X10_widenTo T o a0 = some T1) : QF T T1 := by
  have p0 := QF.rf T
  unfold g_X10_widenTo at h
  obtain ⟨g2, h⟩ := oif_some h
  obtain ⟨v3, -, h⟩ := elet_some h
  exact QF.tr p0 (sq_X10_widenTo_b5 _ _ _ _ _ h)
set_option maxHeartbeats 4000000 in
set_option maxRecDepth 100000 in
theorem sq_X10_settle_b99 {T1 : AT} : ∀ (T : AT), g_X10_settle_b99 T = some T1 → QF T T1 := by
  intro T h
  have p0 := QF.rf T
  unfold g_X10_settle_b99 at h
  rw [← osome1 h]
  exact p0
set_option maxHeartbeats 4000000 in
set_option maxRecDepth 100000 in
theorem sq_X10_settle_b93 {T1 : AT} {k64 : AT → Nat → Int32 → Int32 → Option (AT)} (hk64 : ∀ (T : AT) (l0 : Nat) (l1 : Int32) (l2 : Int32), k64 T l0 l1 l2 = some T1 → QF T T1) : ∀ (T : AT) (l0 : Nat) (l1 : Int32) (l2 : Int32), g_X10_settle_b93 k64 T l0 l1 l2 = some T1 → QF T T1 := by
  intro T l0 l1 l2 h
  have p0 := QF.rf T
  unfold g_X10_settle_b93 at h
  obtain ⟨v2, ev2, h⟩ := elet_some h
  exact QF.tr p0 (hk64 _ _ _ _ h)
set_option maxHeartbeats 4000000 in
set_option maxRecDepth 100000 in
theorem sq_X10_settle_b64 {T1 : AT} : ∀ n : Nat, ∀ (T : AT) (l0 : Nat) (l1 : Int32) (l2 : Int32), g_X10_settle_b64 n T l0 l1 l2 = some T1 → QF T T1 := by
  intro n
  induction n with
  | zero =>
    intro T l0 l1 l2 h
    have h : (none : Option (AT)) = some T1 := h
    cases h
  | succ n ih =>
    intro T l0 l1 l2 h
    have p0 := QF.rf T
    unfold g_X10_settle_b64 at h
    obtain ⟨v2, -, h⟩ := elet_some h
    rcases oif_or h with ⟨c3, h⟩ | ⟨c3, h⟩
    · have h := h
      exact QF.tr p0 (sq_X10_settle_b99 _ h)
    · have h := h
      obtain ⟨g4, h⟩ := oif_some h
      obtain ⟨n5, en5, h⟩ := obind_some h
      obtain ⟨g6, h⟩ := oif_some h
      obtain ⟨g7, h⟩ := oif_some h
      obtain ⟨n8, en8, h⟩ := obind_some h
      obtain ⟨g9, h⟩ := oif_some h
      obtain ⟨g10, h⟩ := oif_some h
      obtain ⟨v11, -, h⟩ := elet_some h
      obtain ⟨r12, -, h⟩ := obind_some h
      rcases oif_or h with ⟨c13, h⟩ | ⟨c13, h⟩
      · have h := h
        exact QF.tr p0 (sq_X10_settle_b99 _ h)
      · have h := h
        obtain ⟨v14, -, h⟩ := elet_some h
        obtain ⟨g15, h⟩ := oif_some h
        obtain ⟨T16, eT16, h⟩ := obind_some h
        have p1 : QF T T16 := QF.tr p0 (sq_X10_widenTo eT16)
        exact QF.tr p1 (sq_X10_settle_b93 ih _ _ _ _ h)
set_option maxHeartbeats 4000000 in
set_option maxRecDepth 100000 in
theorem sq_X10_settle_b2 {T1 : AT} : ∀ n : Nat, ∀ (T : AT) (l0 : Nat) (l1 : Int32) (l2 : Int32), g_X10_settle_b2 n T l0 l1 l2 = some T1 → QF T T1 := by
  intro n
  induction n with
  | zero =>
    intro T l0 l1 l2 h
    have h : (none : Option (AT)) = some T1 := h
    cases h
  | succ n ih =>
    intro T l0 l1 l2 h
    have p0 := QF.rf T
    unfold g_X10_settle_b2 at h
    obtain ⟨v2, -, h⟩ := elet_some h
    obtain ⟨g3, h⟩ := oif_some h
    obtain ⟨v4, -, h⟩ := elet_some h
    rcases oif_or h with ⟨c5, h⟩ | ⟨c5, h⟩
    · have h := h
      obtain ⟨g6, h⟩ := oif_some h
      obtain ⟨v7, -, h⟩ := elet_some h
      obtain ⟨v8, -, h⟩ := elet_some h
      exact QF.tr p0 (sq_X10_settle_b64 _ _ _ _ _ h)
    · have h := h
      obtain ⟨g9, h⟩ := oif_some h
      obtain ⟨n10, en10, h⟩ := obind_some h
      obtain ⟨g11, h⟩ := oif_some h
      obtain ⟨g12, h⟩ := oif_some h
      obtain ⟨n13, en13, h⟩ := obind_some h
      obtain ⟨g14, h⟩ := oif_some h
      obtain ⟨g15, h⟩ := oif_some h
      obtain ⟨v16, -, h⟩ := elet_some h
      obtain ⟨g17, h⟩ := oif_some h
      obtain ⟨n18, en18, h⟩ := obind_some h
      obtain ⟨g19, h⟩ := oif_some h
      obtain ⟨g20, h⟩ := oif_some h
      obtain ⟨n21, en21, h⟩ := obind_some h
      obtain ⟨v22, -, h⟩ := elet_some h
      obtain ⟨g23, h⟩ := oif_some h
      obtain ⟨g24, h⟩ := oif_some h
      obtain ⟨T25, eT25, h⟩ := elet_some h
      have p1 : QF T T25 := QF.tr p0 (by rw [eT25]; exact qf_uJ)
      obtain ⟨g26, h⟩ := oif_some h
      obtain ⟨n27, en27, h⟩ := obind_some h
      obtain ⟨v28, -, h⟩ := elet_some h
      obtain ⟨g29, h⟩ := oif_some h
      obtain ⟨g30, h⟩ := oif_some h
      obtain ⟨n31, en31, h⟩ := obind_some h
      obtain ⟨g32, h⟩ := oif_some h
      obtain ⟨g33, h⟩ := oif_some h
      obtain ⟨v34, -, h⟩ := elet_some h
      obtain ⟨v35, -, h⟩ := elet_some h
      obtain ⟨v36, -, h⟩ := elet_some h
      obtain ⟨g37, h⟩ := oif_some h
      obtain ⟨g38, h⟩ := oif_some h
      obtain ⟨T39, eT39, h⟩ := elet_some h
      have p2 : QF T T39 := QF.tr p1 (by rw [eT39]; exact qf_uJ)
      obtain ⟨v40, ev40, h⟩ := elet_some h
      exact QF.tr p2 (ih _ _ _ _ h)
set_option maxHeartbeats 4000000 in
set_option maxRecDepth 100000 in
theorem sq_X10_settle {T : AT} {o : Nat} {a0 : Int32} {T1 : AT} (h : g_X10_settle T o a0 = some T1) : QF T T1 := by
  have p0 := QF.rf T
  unfold g_X10_settle at h
  exact QF.tr p0 (sq_X10_settle_b2 _ _ _ _ _ h)
set_option maxHeartbeats 4000000 in
set_option maxRecDepth 100000 in
theorem sq_X10_divide_b121 {T1 : AT} : ∀ (T : AT), g_X10_divide_b121 T = some T1 → QF T T1 := by
  intro T h
  have p0 := QF.rf T
  unfold g_X10_divide_b121 at h
  rw [← osome1 h]
  exact p0
set_option maxHeartbeats 4000000 in
set_option maxRecDepth 100000 in
theorem sq_X10_divide_b40 {T1 : AT} : ∀ n : Nat, ∀ (T : AT) (l0 : Nat) (l1 : Int32) (l2 : Int32) (l3 : Int32) (l4 : Int64) (l6 : Int32), g_X10_divide_b40 n T l0 l1 l2 l3 l4 l6 = some T1 → QF T T1 := by
  intro n
  induction n with
  | zero =>
    intro T l0 l1 l2 l3 l4 l6 h
    have h : (none : Option (AT)) = some T1 := h
    cases h
  | succ n ih =>
    intro T l0 l1 l2 l3 l4 l6 h
    have p0 := QF.rf T
    unfold g_X10_divide_b40 at h
    rcases oif_or h with ⟨c2, h⟩ | ⟨c2, h⟩
    · have h := h
      rcases oif_or h with ⟨c3, h⟩ | ⟨c3, h⟩
      · have h := h
        exact QF.tr p0 (sq_X10_divide_b121 _ h)
      · have h := h
        obtain ⟨v4, -, h⟩ := elet_some h
        rcases oif_or h with ⟨c5, h⟩ | ⟨c5, h⟩
        · have h := h
          exact QF.tr p0 (sq_X10_divide_b121 _ h)
        · have h := h
          obtain ⟨g6, h⟩ := oif_some h
          obtain ⟨n7, en7, h⟩ := obind_some h
          obtain ⟨g8, h⟩ := oif_some h
          obtain ⟨g9, h⟩ := oif_some h
          obtain ⟨n10, en10, h⟩ := obind_some h
          obtain ⟨g11, h⟩ := oif_some h
          obtain ⟨g12, h⟩ := oif_some h
          obtain ⟨v13, -, h⟩ := elet_some h
          obtain ⟨v14, -, h⟩ := elet_some h
          obtain ⟨g15, h⟩ := oif_some h
          obtain ⟨g16, h⟩ := oif_some h
          obtain ⟨T17, eT17, h⟩ := elet_some h
          have p1 : QF T T17 := QF.tr p0 (by rw [eT17]; exact qf_uJ)
          obtain ⟨g18, h⟩ := oif_some h
          obtain ⟨T19, eT19, h⟩ := obind_some h
          have p2 : QF T T19 := QF.tr p1 (sq_X10_settle eT19)
          exact QF.tr p2 (sq_X10_divide_b121 _ h)
    · have h := h
      obtain ⟨v21, -, h⟩ := elet_some h
      obtain ⟨g22, h⟩ := oif_some h
      obtain ⟨n23, en23, h⟩ := obind_some h
      obtain ⟨g24, h⟩ := oif_some h
      obtain ⟨g25, h⟩ := oif_some h
      obtain ⟨n26, en26, h⟩ := obind_some h
      obtain ⟨g27, h⟩ := oif_some h
      obtain ⟨g28, h⟩ := oif_some h
      obtain ⟨v29, -, h⟩ := elet_some h
      obtain ⟨v30, -, h⟩ := elet_some h
      obtain ⟨g31, h⟩ := oif_some h
      obtain ⟨n32, en32, h⟩ := obind_some h
      obtain ⟨g33, h⟩ := oif_some h
      obtain ⟨g34, h⟩ := oif_some h
      obtain ⟨n35, en35, h⟩ := obind_some h
      obtain ⟨v36, -, h⟩ := elet_some h
      obtain ⟨r37, -, h⟩ := obind_some h
      obtain ⟨g38, h⟩ := oif_some h
      obtain ⟨g39, h⟩ := oif_some h
      obtain ⟨T40, eT40, h⟩ := elet_some h
      have p1 : QF T T40 := QF.tr p0 (by rw [eT40]; exact qf_uJ)
      obtain ⟨v41, -, h⟩ := elet_some h
      obtain ⟨r42, -, h⟩ := obind_some h
      obtain ⟨v43, ev43, h⟩ := elet_some h
      exact QF.tr p1 (ih _ _ _ _ _ _ _ h)
set_option maxHeartbeats 4000000 in
set_option maxRecDepth 100000 in
theorem sq_X10_divide_b28 {T1 : AT} : ∀ (T : AT) (s0 : Int32) (l0 : Nat) (l1 : Int32) (l2 : Int32), g_X10_divide_b28 T s0 l0 l1 l2 = some T1 → QF T T1 := by
  intro T s0 l0 l1 l2 h
  have p0 := QF.rf T
  unfold g_X10_divide_b28 at h
  obtain ⟨g2, h⟩ := oif_some h
  obtain ⟨v3, -, h⟩ := elet_some h
  obtain ⟨v4, -, h⟩ := elet_some h
  exact QF.tr p0 (sq_X10_divide_b40 _ _ _ _ _ _ _ _ h)
set_option maxHeartbeats 4000000 in
set_option maxRecDepth 100000 in
theorem sq_X10_divide {T : AT} {o : Nat} {a0 : Int32} {a1 : Int32} {T1 : AT} (h : g_X10_divide T o a0 a1 = some T1) : QF T T1 := by
  have p0 := QF.rf T
  unfold g_X10_divide at h
  rcases oif_or h with ⟨c2, h⟩ | ⟨c2, h⟩
  · have h := h
    obtain ⟨g3, h⟩ := oif_some h
    obtain ⟨n4, en4, h⟩ := obind_some h
    obtain ⟨g5, h⟩ := oif_some h
    obtain ⟨v6, -, h⟩ := elet_some h
    obtain ⟨v7, -, h⟩ := elet_some h
    obtain ⟨g8, h⟩ := oif_some h
    obtain ⟨g9, h⟩ := oif_some h
    obtain ⟨n10, en10, h⟩ := obind_some h
    obtain ⟨g11, h⟩ := oif_some h
    obtain ⟨g12, h⟩ := oif_some h
    obtain ⟨v13, -, h⟩ := elet_some h
    obtain ⟨v14, -, h⟩ := elet_some h
    rcases oif_or h with ⟨c15, h⟩ | ⟨c15, h⟩
    · have h := h
      exact QF.tr p0 (sq_X10_divide_b28 _ _ _ _ _ h)
    · have h := h
      exact QF.tr p0 (sq_X10_divide_b28 _ _ _ _ _ h)
  · have h := h
    rw [← osome1 h]
    exact p0
set_option maxHeartbeats 4000000 in
set_option maxRecDepth 100000 in
theorem sq_X8_weighted_b70 {r1 : Int64} {T1 : AT} {k6 : AT → Nat → Nat → Nat → Int32 → Int64 → Int32 → Option (Int64 × AT)} (hk6 : ∀ (T : AT) (l0 : Nat) (l1 : Nat) (l2 : Nat) (l3 : Int32) (l4 : Int64) (l6 : Int32), k6 T l0 l1 l2 l3 l4 l6 = some (r1, T1) → QF T T1) : ∀ (T : AT) (l0 : Nat) (l1 : Nat) (l2 : Nat) (l3 : Int32) (l4 : Int64) (l6 : Int32), g_X8_weighted_b70 k6 T l0 l1 l2 l3 l4 l6 = some (r1, T1) → QF T T1 := by
  intro T l0 l1 l2 l3 l4 l6 h
  have p0 := QF.rf T
  unfold g_X8_weighted_b70 at h
  obtain ⟨v2, ev2, h⟩ := elet_some h
  exact QF.tr p0 (hk6 _ _ _ _ _ _ _ h)
set_option maxHeartbeats 4000000 in
set_option maxRecDepth 100000 in
theorem sq_X8_weighted_b6 {r1 : Int64} {T1 : AT} : ∀ n : Nat, ∀ (T : AT) (l0 : Nat) (l1 : Nat) (l2 : Nat) (l3 : Int32) (l4 : Int64) (l6 : Int32), g_X8_weighted_b6 n T l0 l1 l2 l3 l4 l6 = some (r1, T1) → QF T T1 := by
  intro n
  induction n with
  | zero =>
    intro T l0 l1 l2 l3 l4 l6 h
    have h : (none : Option (Int64 × AT)) = some (r1, T1) := h
    cases h
  | succ n ih =>
    intro T l0 l1 l2 l3 l4 l6 h
    have p0 := QF.rf T
    unfold g_X8_weighted_b6 at h
    obtain ⟨g2, h⟩ := oif_some h
    obtain ⟨v3, -, h⟩ := elet_some h
    rcases oif_or h with ⟨c4, h⟩ | ⟨c4, h⟩
    · have h := h
      rw [← (osome2 h).2]
      exact p0
    · have h := h
      obtain ⟨g5, h⟩ := oif_some h
      obtain ⟨g6, h⟩ := oif_some h
      obtain ⟨v7, -, h⟩ := elet_some h
      obtain ⟨v8, -, h⟩ := elet_some h
      obtain ⟨g9, h⟩ := oif_some h
      obtain ⟨n10, en10, h⟩ := obind_some h
      obtain ⟨g11, h⟩ := oif_some h
      obtain ⟨g12, h⟩ := oif_some h
      obtain ⟨v13, -, h⟩ := elet_some h
      rcases oif_or h with ⟨c14, h⟩ | ⟨c14, h⟩
      · have h := h
        rcases oif_or h with ⟨c15, h⟩ | ⟨c15, h⟩
        · have h := h
          exact QF.tr p0 (sq_X8_weighted_b70 ih _ _ _ _ _ _ _ h)
        · have h := h
          obtain ⟨g16, h⟩ := oif_some h
          obtain ⟨v17, -, h⟩ := elet_some h
          rcases oif_or h with ⟨c18, h⟩ | ⟨c18, h⟩
          · have h := h
            exact QF.tr p0 (sq_X8_weighted_b70 ih _ _ _ _ _ _ _ h)
          · have h := h
            obtain ⟨g19, h⟩ := oif_some h
            obtain ⟨n20, en20, h⟩ := obind_some h
            obtain ⟨g21, h⟩ := oif_some h
            obtain ⟨g22, h⟩ := oif_some h
            obtain ⟨v23, -, h⟩ := elet_some h
            obtain ⟨v24, -, h⟩ := elet_some h
            obtain ⟨r25, -, h⟩ := obind_some h
            obtain ⟨g26, h⟩ := oif_some h
            obtain ⟨g27, h⟩ := oif_some h
            obtain ⟨v28, -, h⟩ := elet_some h
            obtain ⟨v29, -, h⟩ := elet_some h
            obtain ⟨v30, -, h⟩ := elet_some h
            exact QF.tr p0 (sq_X8_weighted_b70 ih _ _ _ _ _ _ _ h)
      · have h := h
        exact QF.tr p0 (sq_X8_weighted_b70 ih _ _ _ _ _ _ _ h)
set_option maxHeartbeats 4000000 in
set_option maxRecDepth 100000 in
theorem sq_X8_weighted {T : AT} {o : Nat} {a0 : Nat} {a1 : Nat} {a2 : Int32} {r1 : Int64} {T1 : AT} (h : g_X8_weighted T o a0 a1 a2 = some (r1, T1)) : QF T T1 := by
  have p0 := QF.rf T
  unfold g_X8_weighted at h
  exact QF.tr p0 (sq_X8_weighted_b6 _ _ _ _ _ _ _ _ h)
set_option maxHeartbeats 4000000 in
set_option maxRecDepth 100000 in
theorem sq_X8_focus_b74 {T1 : AT} : ∀ (T : AT), g_X8_focus_b74 T = some T1 → QF T T1 := by
  intro T h
  have p0 := QF.rf T
  unfold g_X8_focus_b74 at h
  rw [← osome1 h]
  exact p0
set_option maxHeartbeats 4000000 in
set_option maxRecDepth 100000 in
theorem sq_X8_focus_b23 {T1 : AT} : ∀ n : Nat, ∀ (T : AT) (l0 : Nat) (l1 : Nat) (l2 : Int32) (l3 : Int32), g_X8_focus_b23 n T l0 l1 l2 l3 = some T1 → QF T T1 := by
  intro n
  induction n with
  | zero =>
    intro T l0 l1 l2 l3 h
    have h : (none : Option (AT)) = some T1 := h
    cases h
  | succ n ih =>
    intro T l0 l1 l2 l3 h
    have p0 := QF.rf T
    unfold g_X8_focus_b23 at h
    obtain ⟨g2, h⟩ := oif_some h
    obtain ⟨n3, en3, h⟩ := obind_some h
    obtain ⟨g4, h⟩ := oif_some h
    obtain ⟨v5, -, h⟩ := elet_some h
    rcases oif_or h with ⟨c6, h⟩ | ⟨c6, h⟩
    · have h := h
      obtain ⟨g7, h⟩ := oif_some h
      obtain ⟨n8, en8, h⟩ := obind_some h
      obtain ⟨g9, h⟩ := oif_some h
      obtain ⟨T10, eT10, h⟩ := obind_some h
      have p1 : QF T T10 := QF.tr p0 (sq_X10_settle eT10)
      exact QF.tr p1 (sq_X8_focus_b74 _ h)
    · have h := h
      obtain ⟨g12, h⟩ := oif_some h
      obtain ⟨n13, en13, h⟩ := obind_some h
      obtain ⟨g14, h⟩ := oif_some h
      obtain ⟨n15, en15, h⟩ := obind_some h
      obtain ⟨g16, h⟩ := oif_some h
      obtain ⟨g17, h⟩ := oif_some h
      obtain ⟨n18, en18, h⟩ := obind_some h
      obtain ⟨g19, h⟩ := oif_some h
      obtain ⟨n20, en20, h⟩ := obind_some h
      obtain ⟨g21, h⟩ := oif_some h
      obtain ⟨n22, en22, h⟩ := obind_some h
      obtain ⟨g23, h⟩ := oif_some h
      obtain ⟨g24, h⟩ := oif_some h
      obtain ⟨n25, en25, h⟩ := obind_some h
      obtain ⟨g26, h⟩ := oif_some h
      obtain ⟨r28, T27, eT27, h⟩ := obind2_some h
      have p1 : QF T T27 := QF.tr p0 ((sq_X8_weighted eT27))
      obtain ⟨g29, h⟩ := oif_some h
      obtain ⟨g30, h⟩ := oif_some h
      obtain ⟨T31, eT31, h⟩ := elet_some h
      have p2 : QF T T31 := QF.tr p1 (by rw [eT31]; exact qf_uJ)
      obtain ⟨v32, ev32, h⟩ := elet_some h
      exact QF.tr p2 (ih _ _ _ _ _ h)
set_option maxHeartbeats 4000000 in
set_option maxRecDepth 100000 in
theorem sq_X8_focus_b21 {T1 : AT} : ∀ (T : AT) (l0 : Nat) (l1 : Nat) (l2 : Int32), g_X8_focus_b21 T l0 l1 l2 = some T1 → QF T T1 := by
  intro T l0 l1 l2 h
  have p0 := QF.rf T
  unfold g_X8_focus_b21 at h
  exact QF.tr p0 (sq_X8_focus_b23 _ _ _ _ _ _ h)
set_option maxHeartbeats 4000000 in
set_option maxRecDepth 100000 in
theorem sq_X8_focus {T : AT} {o : Nat} {a0 : Nat} {a1 : Int32} {T1 : AT} (h : g_X8_focus T o a0 a1 = some T1) : QF T T1 := by
  have p0 := QF.rf T
  unfold g_X8_focus at h
  obtain ⟨g2, h⟩ := oif_some h
  obtain ⟨n3, en3, h⟩ := obind_some h
  obtain ⟨g4, h⟩ := oif_some h
  obtain ⟨T5, eT5, h⟩ := obind_some h
  have p1 : QF T T5 := QF.tr p0 ((sq_X10_narrow eT5))
  obtain ⟨g7, h⟩ := oif_some h
  obtain ⟨n8, en8, h⟩ := obind_some h
  obtain ⟨g9, h⟩ := oif_some h
  obtain ⟨n10, en10, h⟩ := obind_some h
  obtain ⟨g11, h⟩ := oif_some h
  obtain ⟨v12, -, h⟩ := elet_some h
  obtain ⟨g13, h⟩ := oif_some h
  obtain ⟨T14, eT14, h⟩ := obind_some h
  have p2 : QF T T14 := QF.tr p1 (sq_X10_widenTo eT14)
  exact QF.tr p2 (sq_X8_focus_b21 _ _ _ _ h)
set_option maxHeartbeats 4000000 in
set_option maxRecDepth 100000 in
theorem sq_X10_addProduct_b138 {T1 : AT} : ∀ (T : AT), g_X10_addProduct_b138 T = some T1 → QF T T1 := by
  intro T h
  have p0 := QF.rf T
  unfold g_X10_addProduct_b138 at h
  rw [← osome1 h]
  exact p0
set_option maxHeartbeats 4000000 in
set_option maxRecDepth 100000 in
theorem sq_X10_addProduct_b133 {T1 : AT} : ∀ (T : AT) (l0 : Nat) (l1 : Int32), g_X10_addProduct_b133 T l0 l1 = some T1 → QF T T1 := by
  intro T l0 l1 h
  have p0 := QF.rf T
  unfold g_X10_addProduct_b133 at h
  obtain ⟨g2, h⟩ := oif_some h
  obtain ⟨T3, eT3, h⟩ := obind_some h
  have p1 : QF T T3 := QF.tr p0 (sq_X10_settle eT3)
  exact QF.tr p1 (sq_X10_addProduct_b138 _ h)
set_option maxHeartbeats 4000000 in
set_option maxRecDepth 100000 in
theorem sq_X10_addProduct_b113 {T1 : AT} {k17 : AT → Nat → Int32 → Nat → Int32 → Nat → Int32 → Int32 → Option (AT)} (hk17 : ∀ (T : AT) (l0 : Nat) (l1 : Int32) (l2 : Nat) (l3 : Int32) (l4 : Nat) (l5 : Int32) (l6 : Int32), k17 T l0 l1 l2 l3 l4 l5 l6 = some T1 → QF T T1) : ∀ (T : AT) (l0 : Nat) (l1 : Int32) (l2 : Nat) (l3 : Int32) (l4 : Nat) (l5 : Int32) (l6 : Int32) (l7 : Int64), g_X10_addProduct_b113 k17 T l0 l1 l2 l3 l4 l5 l6 l7 = some T1 → QF T T1 := by
  intro T l0 l1 l2 l3 l4 l5 l6 l7 h
  have p0 := QF.rf T
  unfold g_X10_addProduct_b113 at h
  obtain ⟨g2, h⟩ := oif_some h
  obtain ⟨n3, en3, h⟩ := obind_some h
  obtain ⟨g4, h⟩ := oif_some h
  obtain ⟨g5, h⟩ := oif_some h
  obtain ⟨n6, en6, h⟩ := obind_some h
  obtain ⟨g7, h⟩ := oif_some h
  obtain ⟨g8, h⟩ := oif_some h
  obtain ⟨v9, -, h⟩ := elet_some h
  obtain ⟨v10, -, h⟩ := elet_some h
  obtain ⟨g11, h⟩ := oif_some h
  obtain ⟨g12, h⟩ := oif_some h
  obtain ⟨T13, eT13, h⟩ := elet_some h
  have p1 : QF T T13 := QF.tr p0 (by rw [eT13]; exact qf_uJ)
  obtain ⟨v14, ev14, h⟩ := elet_some h
  exact QF.tr p1 (hk17 _ _ _ _ _ _ _ _ h)
set_option maxHeartbeats 4000000 in
set_option maxRecDepth 100000 in
theorem sq_X10_addProduct_b62 {T1 : AT} {k17 : AT → Nat → Int32 → Nat → Int32 → Nat → Int32 → Int32 → Option (AT)} (hk17 : ∀ (T : AT) (l0 : Nat) (l1 : Int32) (l2 : Nat) (l3 : Int32) (l4 : Nat) (l5 : Int32) (l6 : Int32), k17 T l0 l1 l2 l3 l4 l5 l6 = some T1 → QF T T1) : ∀ n : Nat, ∀ (T : AT) (l0 : Nat) (l1 : Int32) (l2 : Nat) (l3 : Int32) (l4 : Nat) (l5 : Int32) (l6 : Int32) (l7 : Int64) (l9 : Int32), g_X10_addProduct_b62 k17 n T l0 l1 l2 l3 l4 l5 l6 l7 l9 = some T1 → QF T T1 := by
  intro n
  induction n with
  | zero =>
    intro T l0 l1 l2 l3 l4 l5 l6 l7 l9 h
    have h : (none : Option (AT)) = some T1 := h
    cases h
  | succ n ih =>
    intro T l0 l1 l2 l3 l4 l5 l6 l7 l9 h
    have p0 := QF.rf T
    unfold g_X10_addProduct_b62 at h
    rcases oif_or h with ⟨c2, h⟩ | ⟨c2, h⟩
    · have h := h
      exact QF.tr p0 (sq_X10_addProduct_b113 hk17 _ _ _ _ _ _ _ _ _ h)
    · have h := h
      obtain ⟨g3, h⟩ := oif_some h
      obtain ⟨v4, -, h⟩ := elet_some h
      rcases oif_or h with ⟨c5, h⟩ | ⟨c5, h⟩
      · have h := h
        exact QF.tr p0 (sq_X10_addProduct_b113 hk17 _ _ _ _ _ _ _ _ _ h)
      · have h := h
        obtain ⟨g6, h⟩ := oif_some h
        obtain ⟨n7, en7, h⟩ := obind_some h
        obtain ⟨g8, h⟩ := oif_some h
        obtain ⟨g9, h⟩ := oif_some h
        obtain ⟨n10, en10, h⟩ := obind_some h
        obtain ⟨g11, h⟩ := oif_some h
        obtain ⟨g12, h⟩ := oif_some h
        obtain ⟨v13, -, h⟩ := elet_some h
        obtain ⟨g14, h⟩ := oif_some h
        obtain ⟨n15, en15, h⟩ := obind_some h
        obtain ⟨v16, -, h⟩ := elet_some h
        obtain ⟨g17, h⟩ := oif_some h
        obtain ⟨g18, h⟩ := oif_some h
        obtain ⟨n19, en19, h⟩ := obind_some h
        obtain ⟨g20, h⟩ := oif_some h
        obtain ⟨g21, h⟩ := oif_some h
        obtain ⟨v22, -, h⟩ := elet_some h
        obtain ⟨v23, -, h⟩ := elet_some h
        obtain ⟨v24, -, h⟩ := elet_some h
        obtain ⟨v25, ev25, h⟩ := elet_some h
        exact QF.tr p0 (ih _ _ _ _ _ _ _ _ _ _ h)
set_option maxHeartbeats 4000000 in
set_option maxRecDepth 100000 in
theorem sq_X10_addProduct_b17 {T1 : AT} : ∀ n : Nat, ∀ (T : AT) (l0 : Nat) (l1 : Int32) (l2 : Nat) (l3 : Int32) (l4 : Nat) (l5 : Int32) (l6 : Int32), g_X10_addProduct_b17 n T l0 l1 l2 l3 l4 l5 l6 = some T1 → QF T T1 := by
  intro n
  induction n with
  | zero =>
    intro T l0 l1 l2 l3 l4 l5 l6 h
    have h : (none : Option (AT)) = some T1 := h
    cases h
  | succ n ih =>
    intro T l0 l1 l2 l3 l4 l5 l6 h
    have p0 := QF.rf T
    unfold g_X10_addProduct_b17 at h
    obtain ⟨g2, h⟩ := oif_some h
    obtain ⟨v3, -, h⟩ := elet_some h
    rcases oif_or h with ⟨c4, h⟩ | ⟨c4, h⟩
    · have h := h
      exact QF.tr p0 (sq_X10_addProduct_b133 _ _ _ h)
    · have h := h
      obtain ⟨g5, h⟩ := oif_some h
      obtain ⟨v6, -, h⟩ := elet_some h
      obtain ⟨g7, h⟩ := oif_some h
      obtain ⟨v8, -, h⟩ := elet_some h
      obtain ⟨v9, -, h⟩ := elet_some h
      obtain ⟨v10, -, h⟩ := elet_some h
      rcases oif_or h with ⟨c11, h⟩ | ⟨c11, h⟩
      · have h := h
        exact QF.tr p0 (sq_X10_addProduct_b133 _ _ _ h)
      · have h := h
        obtain ⟨g12, h⟩ := oif_some h
        obtain ⟨v13, -, h⟩ := elet_some h
        obtain ⟨v14, -, h⟩ := elet_some h
        obtain ⟨v15, -, h⟩ := elet_some h
        obtain ⟨v16, -, h⟩ := elet_some h
        exact QF.tr p0 (sq_X10_addProduct_b62 ih _ _ _ _ _ _ _ _ _ _ _ h)
set_option maxHeartbeats 4000000 in
set_option maxRecDepth 100000 in
theorem sq_X10_addProduct_b14 {T1 : AT} : ∀ (T : AT) (l0 : Nat) (l1 : Int32) (l2 : Nat) (l3 : Int32) (l4 : Nat) (l5 : Int32), g_X10_addProduct_b14 T l0 l1 l2 l3 l4 l5 = some T1 → QF T T1 := by
  intro T l0 l1 l2 l3 l4 l5 h
  have p0 := QF.rf T
  unfold g_X10_addProduct_b14 at h
  exact QF.tr p0 (sq_X10_addProduct_b17 _ _ _ _ _ _ _ _ _ h)
set_option maxHeartbeats 4000000 in
set_option maxRecDepth 100000 in
theorem sq_X10_addProduct {T : AT} {o : Nat} {a0 : Int32} {a1 : Nat} {a2 : Int32} {a3 : Nat} {a4 : Int32} {T1 : AT} (h : g_X10_addProduct T o a0 a1 a2 a3 a4 = some T1) : QF T T1 := by
  have p0 := QF.rf T
  unfold g_X10_addProduct at h
  obtain ⟨g2, h⟩ := oif_some h
  obtain ⟨v3, -, h⟩ := elet_some h
  obtain ⟨g4, h⟩ := oif_some h
  obtain ⟨v5, -, h⟩ := elet_some h
  obtain ⟨v6, -, h⟩ := elet_some h
  obtain ⟨g7, h⟩ := oif_some h
  obtain ⟨T8, eT8, h⟩ := obind_some h
  have p1 : QF T T8 := QF.tr p0 (sq_X10_widenTo eT8)
  exact QF.tr p1 (sq_X10_addProduct_b14 _ _ _ _ _ _ _ h)
set_option maxHeartbeats 4000000 in
set_option maxRecDepth 100000 in
theorem sq_X8_blockPowerOf_b68 {T1 : AT} : ∀ (T : AT), g_X8_blockPowerOf_b68 T = some T1 → QF T T1 := by
  intro T h
  have p0 := QF.rf T
  unfold g_X8_blockPowerOf_b68 at h
  rw [← osome1 h]
  exact p0
set_option maxHeartbeats 4000000 in
set_option maxRecDepth 100000 in
theorem sq_X8_blockPowerOf_b54 {T1 : AT} {k23 : AT → Nat → Nat → Int32 → Nat → Int32 → Int32 → Int32 → Option (AT)} (hk23 : ∀ (T : AT) (l0 : Nat) (l1 : Nat) (l3 : Int32) (l4 : Nat) (l5 : Int32) (l6 : Int32) (l7 : Int32), k23 T l0 l1 l3 l4 l5 l6 l7 = some T1 → QF T T1) : ∀ (T : AT) (l0 : Nat) (l1 : Nat) (l3 : Int32) (l4 : Nat) (l5 : Int32) (l6 : Int32) (l7 : Int32), g_X8_blockPowerOf_b54 k23 T l0 l1 l3 l4 l5 l6 l7 = some T1 → QF T T1 := by
  intro T l0 l1 l3 l4 l5 l6 l7 h
  have p0 := QF.rf T
  unfold g_X8_blockPowerOf_b54 at h
  obtain ⟨v2, ev2, h⟩ := elet_some h
  exact QF.tr p0 (hk23 _ _ _ _ _ _ _ _ h)
set_option maxHeartbeats 4000000 in
set_option maxRecDepth 100000 in
theorem sq_X8_blockPowerOf_b37 {T1 : AT} {k23 : AT → Nat → Nat → Int32 → Nat → Int32 → Int32 → Int32 → Option (AT)} (hk23 : ∀ (T : AT) (l0 : Nat) (l1 : Nat) (l3 : Int32) (l4 : Nat) (l5 : Int32) (l6 : Int32) (l7 : Int32), k23 T l0 l1 l3 l4 l5 l6 l7 = some T1 → QF T T1) : ∀ (T : AT) (l0 : Nat) (l1 : Nat) (l3 : Int32) (l4 : Nat) (l5 : Int32) (l6 : Int32) (l7 : Int32), g_X8_blockPowerOf_b37 k23 T l0 l1 l3 l4 l5 l6 l7 = some T1 → QF T T1 := by
  intro T l0 l1 l3 l4 l5 l6 l7 h
  have p0 := QF.rf T
  unfold g_X8_blockPowerOf_b37 at h
  obtain ⟨g2, h⟩ := oif_some h
  obtain ⟨n3, en3, h⟩ := obind_some h
  obtain ⟨g4, h⟩ := oif_some h
  obtain ⟨n5, en5, h⟩ := obind_some h
  obtain ⟨g6, h⟩ := oif_some h
  obtain ⟨T7, eT7, h⟩ := obind_some h
  have p1 : QF T T7 := QF.tr p0 (sq_X10_addProduct eT7)
  exact QF.tr p1 (sq_X8_blockPowerOf_b54 hk23 _ _ _ _ _ _ _ _ h)
set_option maxHeartbeats 4000000 in
set_option maxRecDepth 100000 in
theorem sq_X8_blockPowerOf_b23 {T1 : AT} : ∀ n : Nat, ∀ (T : AT) (l0 : Nat) (l1 : Nat) (l3 : Int32) (l4 : Nat) (l5 : Int32) (l6 : Int32) (l7 : Int32), g_X8_blockPowerOf_b23 n T l0 l1 l3 l4 l5 l6 l7 = some T1 → QF T T1 := by
  intro n
  induction n with
  | zero =>
    intro T l0 l1 l3 l4 l5 l6 l7 h
    have h : (none : Option (AT)) = some T1 := h
    cases h
  | succ n ih =>
    intro T l0 l1 l3 l4 l5 l6 l7 h
    have p0 := QF.rf T
    unfold g_X8_blockPowerOf_b23 at h
    rcases oif_or h with ⟨c2, h⟩ | ⟨c2, h⟩
    · have h := h
      obtain ⟨g3, h⟩ := oif_some h
      obtain ⟨T4, eT4, h⟩ := obind_some h
      have p1 : QF T T4 := QF.tr p0 (sq_X10_divide eT4)
      exact QF.tr p1 (sq_X8_blockPowerOf_b68 _ h)
    · have h := h
      obtain ⟨g6, h⟩ := oif_some h
      obtain ⟨T7, eT7, h⟩ := obind_some h
      have p1 : QF T T7 := QF.tr p0 (sq_X8_focus eT7)
      exact QF.tr p1 (sq_X8_blockPowerOf_b37 ih _ _ _ _ _ _ _ _ h)
set_option maxHeartbeats 4000000 in
set_option maxRecDepth 100000 in
theorem sq_X8_blockPowerOf {T : AT} {o : Nat} {a0 : Nat} {a1 : Int32} {a2 : Int32} {a3 : Nat} {a4 : Int32} {T1 : AT} (h : g_X8_blockPowerOf T o a0 a1 a2 a3 a4 = some T1) : QF T T1 := by
  have p0 := QF.rf T
  unfold g_X8_blockPowerOf at h
  obtain ⟨v2, -, h⟩ := elet_some h
  obtain ⟨g3, h⟩ := oif_some h
  obtain ⟨r5, T4, eT4, h⟩ := obind2_some h
  have p1 : QF T T4 := QF.tr p0 ((sq_X8_windowOf eT4))
  obtain ⟨v6, -, h⟩ := elet_some h
  obtain ⟨g7, h⟩ := oif_some h
  obtain ⟨T8, eT8, h⟩ := obind_some h
  have p2 : QF T T8 := QF.tr p1 ((sq_X10_clear eT8))
  exact QF.tr p2 (sq_X8_blockPowerOf_b23 _ _ _ _ _ _ _ _ _ h)
set_option maxHeartbeats 4000000 in
set_option maxRecDepth 100000 in
theorem sq_X0_measure_b41 {T1 : AT} {k3 : AT → Nat → Nat → Nat → Int32 → Int32 → Int32 → Int32 → Option (AT)} (hk3 : ∀ (T : AT) (l0 : Nat) (l1 : Nat) (l2 : Nat) (l3 : Int32) (l4 : Int32) (l5 : Int32) (l6 : Int32), k3 T l0 l1 l2 l3 l4 l5 l6 = some T1 → QF T T1) : ∀ (T : AT) (l0 : Nat) (l1 : Nat) (l2 : Nat) (l3 : Int32) (l4 : Int32) (l5 : Int32) (l6 : Int32), g_X0_measure_b41 k3 T l0 l1 l2 l3 l4 l5 l6 = some T1 → QF T T1 := by
  intro T l0 l1 l2 l3 l4 l5 l6 h
  have p0 := QF.rf T
  unfold g_X0_measure_b41 at h
  obtain ⟨v2, ev2, h⟩ := elet_some h
  exact QF.tr p0 (hk3 _ _ _ _ _ _ _ _ h)
set_option maxHeartbeats 4000000 in
set_option maxRecDepth 100000 in
theorem sq_X0_measure_b3 {T1 : AT} : ∀ n : Nat, ∀ (T : AT) (l0 : Nat) (l1 : Nat) (l2 : Nat) (l3 : Int32) (l4 : Int32) (l5 : Int32) (l6 : Int32), g_X0_measure_b3 n T l0 l1 l2 l3 l4 l5 l6 = some T1 → QF T T1 := by
  intro n
  induction n with
  | zero =>
    intro T l0 l1 l2 l3 l4 l5 l6 h
    have h : (none : Option (AT)) = some T1 := h
    cases h
  | succ n ih =>
    intro T l0 l1 l2 l3 l4 l5 l6 h
    have p0 := QF.rf T
    unfold g_X0_measure_b3 at h
    obtain ⟨g2, h⟩ := oif_some h
    obtain ⟨n3, en3, h⟩ := obind_some h
    obtain ⟨g4, h⟩ := oif_some h
    obtain ⟨r6, T5, eT5, h⟩ := obind2_some h
    have p1 : QF T T5 := QF.tr p0 ((sq_X1_cells eT5))
    rcases oif_or h with ⟨c7, h⟩ | ⟨c7, h⟩
    · have h := h
      rw [← osome1 h]
      exact p1
    · have h := h
      obtain ⟨g8, h⟩ := oif_some h
      obtain ⟨n9, en9, h⟩ := obind_some h
      obtain ⟨g10, h⟩ := oif_some h
      obtain ⟨g11, h⟩ := oif_some h
      obtain ⟨n12, en12, h⟩ := obind_some h
      obtain ⟨g13, h⟩ := oif_some h
      obtain ⟨n14, en14, h⟩ := obind_some h
      obtain ⟨r15, -, h⟩ := obind_some h
      obtain ⟨v16, -, h⟩ := elet_some h
      obtain ⟨g17, h⟩ := oif_some h
      obtain ⟨T18, eT18, h⟩ := obind_some h
      have p2 : QF T T18 := QF.tr p1 (sq_X8_blockPowerOf eT18)
      exact QF.tr p2 (sq_X0_measure_b41 ih _ _ _ _ _ _ _ _ h)
set_option maxHeartbeats 4000000 in
set_option maxRecDepth 100000 in
theorem sq_X0_measure {T : AT} {o : Nat} {a0 : Nat} {a1 : Nat} {a2 : Int32} {a3 : Int32} {a4 : Int32} {T1 : AT} (h : g_X0_measure T o a0 a1 a2 a3 a4 = some T1) : QF T T1 := by
  have p0 := QF.rf T
  unfold g_X0_measure at h
  exact QF.tr p0 (sq_X0_measure_b3 _ _ _ _ _ _ _ _ _ h)
set_option maxHeartbeats 4000000 in
set_option maxRecDepth 100000 in
theorem sq_X10_compare_b47 {r1 : Int32} {T1 : AT} : ∀ (T : AT) (l3 : Int32), g_X10_compare_b47 T l3 = some (r1, T1) → QF T T1 := by
  intro T l3 h
  have p0 := QF.rf T
  unfold g_X10_compare_b47 at h
  rw [← (osome2 h).2]
  exact p0
set_option maxHeartbeats 4000000 in
set_option maxRecDepth 100000 in
theorem sq_X10_compare_b10 {r1 : Int32} {T1 : AT} : ∀ n : Nat, ∀ (T : AT) (l0 : Nat) (l1 : Int32) (l2 : Int32) (l3 : Int32) (l4 : Int32), g_X10_compare_b10 n T l0 l1 l2 l3 l4 = some (r1, T1) → QF T T1 := by
  intro n
  induction n with
  | zero =>
    intro T l0 l1 l2 l3 l4 h
    have h : (none : Option (Int32 × AT)) = some (r1, T1) := h
    cases h
  | succ n ih =>
    intro T l0 l1 l2 l3 l4 h
    have p0 := QF.rf T
    unfold g_X10_compare_b10 at h
    rcases oif_or h with ⟨c2, h⟩ | ⟨c2, h⟩
    · have h := h
      exact QF.tr p0 (sq_X10_compare_b47 _ _ h)
    · have h := h
      rcases oif_or h with ⟨c3, h⟩ | ⟨c3, h⟩
      · have h := h
        obtain ⟨g4, h⟩ := oif_some h
        obtain ⟨n5, en5, h⟩ := obind_some h
        obtain ⟨g6, h⟩ := oif_some h
        obtain ⟨g7, h⟩ := oif_some h
        obtain ⟨n8, en8, h⟩ := obind_some h
        obtain ⟨g9, h⟩ := oif_some h
        obtain ⟨g10, h⟩ := oif_some h
        obtain ⟨v11, -, h⟩ := elet_some h
        obtain ⟨g12, h⟩ := oif_some h
        obtain ⟨n13, en13, h⟩ := obind_some h
        obtain ⟨g14, h⟩ := oif_some h
        obtain ⟨g15, h⟩ := oif_some h
        obtain ⟨n16, en16, h⟩ := obind_some h
        obtain ⟨g17, h⟩ := oif_some h
        obtain ⟨g18, h⟩ := oif_some h
        obtain ⟨v19, -, h⟩ := elet_some h
        obtain ⟨r20, -, h⟩ := obind_some h
        obtain ⟨v21, ev21, h⟩ := elet_some h
        exact QF.tr p0 (ih _ _ _ _ _ _ h)
      · have h := h
        exact QF.tr p0 (sq_X10_compare_b47 _ _ h)
set_option maxHeartbeats 4000000 in
set_option maxRecDepth 100000 in
theorem sq_X10_compare {T : AT} {o : Nat} {a0 : Int32} {a1 : Int32} {r1 : Int32} {T1 : AT} (h : g_X10_compare T o a0 a1 = some (r1, T1)) : QF T T1 := by
  have p0 := QF.rf T
  unfold g_X10_compare at h
  obtain ⟨g2, h⟩ := oif_some h
  obtain ⟨v3, -, h⟩ := elet_some h
  obtain ⟨v4, -, h⟩ := elet_some h
  exact QF.tr p0 (sq_X10_compare_b10 _ _ _ _ _ _ _ h)
set_option maxHeartbeats 4000000 in
set_option maxRecDepth 100000 in
theorem sq_X1_bestIn_b71 {r1 : Int32} {T1 : AT} {k19 : AT → Nat → Nat → Nat → Int32 → Int32 → Int32 → Option (Int32 × AT)} {k32 : AT → Nat → Nat → Nat → Int32 → Int32 → Int32 → Int32 → Option (Int32 × AT)} (hk19 : ∀ (T : AT) (l0 : Nat) (l1 : Nat) (l2 : Nat) (l3 : Int32) (l4 : Int32) (l5 : Int32), k19 T l0 l1 l2 l3 l4 l5 = some (r1, T1) → QF T T1) (hk32 : ∀ (T : AT) (l0 : Nat) (l1 : Nat) (l2 : Nat) (l3 : Int32) (l4 : Int32) (l5 : Int32) (l6 : Int32), k32 T l0 l1 l2 l3 l4 l5 l6 = some (r1, T1) → QF T T1) : ∀ (T : AT) (l0 : Nat) (l1 : Nat) (l2 : Nat) (l3 : Int32) (l4 : Int32) (l5 : Int32) (l6 : Int32), g_X1_bestIn_b71 k19 k32 T l0 l1 l2 l3 l4 l5 l6 = some (r1, T1) → QF T T1 := by
  intro T l0 l1 l2 l3 l4 l5 l6 h
  have p0 := QF.rf T
  unfold g_X1_bestIn_b71 at h
  obtain ⟨v2, ev2, h⟩ := elet_some h
  exact QF.tr p0 (hk32 _ _ _ _ _ _ _ _ h)
set_option maxHeartbeats 4000000 in
set_option maxRecDepth 100000 in
theorem sq_X1_bestIn_b32 {r1 : Int32} {T1 : AT} {k19 : AT → Nat → Nat → Nat → Int32 → Int32 → Int32 → Option (Int32 × AT)} (hk19 : ∀ (T : AT) (l0 : Nat) (l1 : Nat) (l2 : Nat) (l3 : Int32) (l4 : Int32) (l5 : Int32), k19 T l0 l1 l2 l3 l4 l5 = some (r1, T1) → QF T T1) : ∀ n : Nat, ∀ (T : AT) (l0 : Nat) (l1 : Nat) (l2 : Nat) (l3 : Int32) (l4 : Int32) (l5 : Int32) (l6 : Int32), g_X1_bestIn_b32 k19 n T l0 l1 l2 l3 l4 l5 l6 = some (r1, T1) → QF T T1 := by
  intro n
  induction n with
  | zero =>
    intro T l0 l1 l2 l3 l4 l5 l6 h
    have h : (none : Option (Int32 × AT)) = some (r1, T1) := h
    cases h
  | succ n ih =>
    intro T l0 l1 l2 l3 l4 l5 l6 h
    have p0 := QF.rf T
    unfold g_X1_bestIn_b32 at h
    obtain ⟨g2, h⟩ := oif_some h
    obtain ⟨g3, h⟩ := oif_some h
    obtain ⟨v4, -, h⟩ := elet_some h
    rcases oif_or h with ⟨c5, h⟩ | ⟨c5, h⟩
    · have h := h
      obtain ⟨v6, ev6, h⟩ := elet_some h
      exact QF.tr p0 (hk19 _ _ _ _ _ _ _ h)
    · have h := h
      obtain ⟨g7, h⟩ := oif_some h
      obtain ⟨v8, -, h⟩ := elet_some h
      obtain ⟨v9, -, h⟩ := elet_some h
      obtain ⟨v10, -, h⟩ := elet_some h
      obtain ⟨v11, -, h⟩ := elet_some h
      obtain ⟨v12, -, h⟩ := elet_some h
      obtain ⟨g13, h⟩ := oif_some h
      obtain ⟨r15, T14, eT14, h⟩ := obind2_some h
      have p1 : QF T T14 := QF.tr p0 (sq_X10_compare eT14)
      rcases oif_or h with ⟨c16, h⟩ | ⟨c16, h⟩
      · have h := h
        exact QF.tr p1 (sq_X1_bestIn_b71 hk19 ih _ _ _ _ _ _ _ _ h)
      · have h := h
        exact QF.tr p1 (sq_X1_bestIn_b71 hk19 ih _ _ _ _ _ _ _ _ h)
set_option maxHeartbeats 4000000 in
set_option maxRecDepth 100000 in
theorem sq_X1_bestIn_b19 {r1 : Int32} {T1 : AT} : ∀ n : Nat, ∀ (T : AT) (l0 : Nat) (l1 : Nat) (l2 : Nat) (l3 : Int32) (l4 : Int32) (l5 : Int32), g_X1_bestIn_b19 n T l0 l1 l2 l3 l4 l5 = some (r1, T1) → QF T T1 := by
  intro n
  induction n with
  | zero =>
    intro T l0 l1 l2 l3 l4 l5 h
    have h : (none : Option (Int32 × AT)) = some (r1, T1) := h
    cases h
  | succ n ih =>
    intro T l0 l1 l2 l3 l4 l5 h
    have p0 := QF.rf T
    unfold g_X1_bestIn_b19 at h
    obtain ⟨g2, h⟩ := oif_some h
    obtain ⟨g3, h⟩ := oif_some h
    obtain ⟨v4, -, h⟩ := elet_some h
    rcases oif_or h with ⟨c5, h⟩ | ⟨c5, h⟩
    · have h := h
      rw [← (osome2 h).2]
      exact p0
    · have h := h
      obtain ⟨g6, h⟩ := oif_some h
      obtain ⟨g7, h⟩ := oif_some h
      obtain ⟨v8, -, h⟩ := elet_some h
      exact QF.tr p0 (sq_X1_bestIn_b32 ih _ _ _ _ _ _ _ _ _ h)
set_option maxHeartbeats 4000000 in
set_option maxRecDepth 100000 in
theorem sq_X1_bestIn {T : AT} {o : Nat} {a0 : Nat} {a1 : Nat} {a2 : Int32} {r1 : Int32} {T1 : AT} (h : g_X1_bestIn T o a0 a1 a2 = some (r1, T1)) : QF T T1 := by
  have p0 := QF.rf T
  unfold g_X1_bestIn at h
  obtain ⟨g2, h⟩ := oif_some h
  obtain ⟨g3, h⟩ := oif_some h
  obtain ⟨v4, -, h⟩ := elet_some h
  obtain ⟨g5, h⟩ := oif_some h
  obtain ⟨v6, -, h⟩ := elet_some h
  obtain ⟨v7, -, h⟩ := elet_some h
  obtain ⟨g8, h⟩ := oif_some h
  obtain ⟨g9, h⟩ := oif_some h
  obtain ⟨v10, -, h⟩ := elet_some h
  obtain ⟨v11, -, h⟩ := elet_some h
  obtain ⟨g12, h⟩ := oif_some h
  obtain ⟨g13, h⟩ := oif_some h
  obtain ⟨v14, -, h⟩ := elet_some h
  exact QF.tr p0 (sq_X1_bestIn_b19 _ _ _ _ _ _ _ _ h)
set_option maxHeartbeats 4000000 in
set_option maxRecDepth 100000 in
theorem sq_X0_bestOf_b17 {r1 : Int32} {T1 : AT} : ∀ (T : AT) (l0 : Nat) (l1 : Nat), g_X0_bestOf_b17 T l0 l1 = some (r1, T1) → QF T T1 := by
  intro T l0 l1 h
  have p0 := QF.rf T
  unfold g_X0_bestOf_b17 at h
  obtain ⟨g2, h⟩ := oif_some h
  obtain ⟨n3, en3, h⟩ := obind_some h
  obtain ⟨g4, h⟩ := oif_some h
  obtain ⟨n5, en5, h⟩ := obind_some h
  obtain ⟨g6, h⟩ := oif_some h
  obtain ⟨n7, en7, h⟩ := obind_some h
  obtain ⟨g8, h⟩ := oif_some h
  obtain ⟨n9, en9, h⟩ := obind_some h
  obtain ⟨g10, h⟩ := oif_some h
  obtain ⟨r12, T11, eT11, h⟩ := obind2_some h
  have p1 : QF T T11 := QF.tr p0 ((sq_X1_bestIn eT11))
  rw [← (osome2 h).2]
  exact p1
set_option maxHeartbeats 4000000 in
set_option maxRecDepth 100000 in
theorem sq_X0_bestOf {T : AT} {o : Nat} {a0 : Nat} {a1 : Nat} {a2 : Int32} {a3 : Int32} {r1 : Int32} {T1 : AT} (h : g_X0_bestOf T o a0 a1 a2 a3 = some (r1, T1)) : QF T T1 := by
  have p0 := QF.rf T
  unfold g_X0_bestOf at h
  obtain ⟨g2, h⟩ := oif_some h
  obtain ⟨n3, en3, h⟩ := obind_some h
  obtain ⟨g4, h⟩ := oif_some h
  obtain ⟨T5, eT5, h⟩ := obind_some h
  have p1 : QF T T5 := QF.tr p0 ((sq_X10_narrow eT5))
  obtain ⟨g7, h⟩ := oif_some h
  obtain ⟨T8, eT8, h⟩ := obind_some h
  have p2 : QF T T8 := QF.tr p1 (sq_X0_measure eT8)
  exact QF.tr p2 (sq_X0_bestOf_b17 _ _ _ h)
set_option maxHeartbeats 4000000 in
set_option maxRecDepth 100000 in
theorem sq_X1_columnOf {T : AT} {o : Nat} {a0 : Int32} {r1 : Int32} {T1 : AT} (h : g_X1_columnOf T o a0 = some (r1, T1)) : QF T T1 := by
  have p0 := QF.rf T
  unfold g_X1_columnOf at h
  obtain ⟨g2, h⟩ := oif_some h
  obtain ⟨v3, -, h⟩ := elet_some h
  obtain ⟨r4, -, h⟩ := obind_some h
  rw [← (osome2 h).2]
  exact p0
set_option maxHeartbeats 4000000 in
set_option maxRecDepth 100000 in
theorem sq_X1_rowOf {T : AT} {o : Nat} {a0 : Int32} {r1 : Int32} {T1 : AT} (h : g_X1_rowOf T o a0 = some (r1, T1)) : QF T T1 := by
  have p0 := QF.rf T
  unfold g_X1_rowOf at h
  obtain ⟨v2, -, h⟩ := elet_some h
  obtain ⟨g3, h⟩ := oif_some h
  obtain ⟨v4, -, h⟩ := elet_some h
  obtain ⟨v5, -, h⟩ := elet_some h
  obtain ⟨r6, -, h⟩ := obind_some h
  obtain ⟨v7, -, h⟩ := elet_some h
  rw [← (osome2 h).2]
  exact p0
set_option maxHeartbeats 4000000 in
set_option maxRecDepth 100000 in
theorem sq_X1_areaAround {T : AT} {o : Nat} {a0 : Int32} {r1 : Nat} {T1 : AT} (h : g_X1_areaAround T o a0 = some (r1, T1)) : QF T T1 := by
  have p0 := QF.rf T
  unfold g_X1_areaAround at h
  obtain ⟨g2, h⟩ := oif_some h
  obtain ⟨r4, T3, eT3, h⟩ := obind2_some h
  have p1 : QF T T3 := QF.tr p0 (sq_X1_columnOf eT3)
  obtain ⟨g5, h⟩ := oif_some h
  obtain ⟨r7, T6, eT6, h⟩ := obind2_some h
  have p2 : QF T T6 := QF.tr p1 (sq_X1_rowOf eT6)
  obtain ⟨g8, h⟩ := oif_some h
  obtain ⟨n9, en9, h⟩ := obind_some h
  obtain ⟨v10, -, h⟩ := elet_some h
  obtain ⟨v11, -, h⟩ := elet_some h
  obtain ⟨g12, h⟩ := oif_some h
  obtain ⟨g13, h⟩ := oif_some h
  obtain ⟨T14, eT14, h⟩ := elet_some h
  have p3 : QF T T14 := QF.tr p2 (by rw [eT14]; first | exact qf_uO (oO_k g13).2 (by decide) | exact qf_uA (aA_k g12).2.1 (by decide))
  obtain ⟨g15, h⟩ := oif_some h
  obtain ⟨n16, en16, h⟩ := obind_some h
  obtain ⟨v17, -, h⟩ := elet_some h
  obtain ⟨v18, -, h⟩ := elet_some h
  obtain ⟨g19, h⟩ := oif_some h
  obtain ⟨g20, h⟩ := oif_some h
  obtain ⟨T21, eT21, h⟩ := elet_some h
  have p4 : QF T T21 := QF.tr p3 (by rw [eT21]; first | exact qf_uO (oO_k g20).2 (by decide) | exact qf_uA (aA_k g19).2.1 (by decide))
  obtain ⟨g22, h⟩ := oif_some h
  obtain ⟨n23, en23, h⟩ := obind_some h
  obtain ⟨v24, -, h⟩ := elet_some h
  obtain ⟨g25, h⟩ := oif_some h
  obtain ⟨v26, -, h⟩ := elet_some h
  obtain ⟨v27, -, h⟩ := elet_some h
  obtain ⟨v28, -, h⟩ := elet_some h
  obtain ⟨g29, h⟩ := oif_some h
  obtain ⟨g30, h⟩ := oif_some h
  obtain ⟨T31, eT31, h⟩ := elet_some h
  have p5 : QF T T31 := QF.tr p4 (by rw [eT31]; first | exact qf_uO (oO_k g30).2 (by decide) | exact qf_uA (aA_k g29).2.1 (by decide))
  obtain ⟨g32, h⟩ := oif_some h
  obtain ⟨n33, en33, h⟩ := obind_some h
  obtain ⟨v34, -, h⟩ := elet_some h
  obtain ⟨g35, h⟩ := oif_some h
  obtain ⟨v36, -, h⟩ := elet_some h
  obtain ⟨v37, -, h⟩ := elet_some h
  obtain ⟨v38, -, h⟩ := elet_some h
  obtain ⟨g39, h⟩ := oif_some h
  obtain ⟨g40, h⟩ := oif_some h
  obtain ⟨T41, eT41, h⟩ := elet_some h
  have p6 : QF T T41 := QF.tr p5 (by rw [eT41]; first | exact qf_uO (oO_k g40).2 (by decide) | exact qf_uA (aA_k g39).2.1 (by decide))
  obtain ⟨g42, h⟩ := oif_some h
  obtain ⟨n43, en43, h⟩ := obind_some h
  rw [← (osome2 h).2]
  exact p6
set_option maxHeartbeats 4000000 in
set_option maxRecDepth 100000 in
theorem sq_X10_add_b56 {T1 : AT} : ∀ (T : AT), g_X10_add_b56 T = some T1 → QF T T1 := by
  intro T h
  have p0 := QF.rf T
  unfold g_X10_add_b56 at h
  rw [← osome1 h]
  exact p0
set_option maxHeartbeats 4000000 in
set_option maxRecDepth 100000 in
theorem sq_X10_add_b11 {T1 : AT} : ∀ n : Nat, ∀ (T : AT) (l0 : Nat) (l1 : Int32) (l2 : Nat) (l3 : Int32) (l4 : Int32) (l5 : Int32), g_X10_add_b11 n T l0 l1 l2 l3 l4 l5 = some T1 → QF T T1 := by
  intro n
  induction n with
  | zero =>
    intro T l0 l1 l2 l3 l4 l5 h
    have h : (none : Option (AT)) = some T1 := h
    cases h
  | succ n ih =>
    intro T l0 l1 l2 l3 l4 l5 h
    have p0 := QF.rf T
    unfold g_X10_add_b11 at h
    obtain ⟨g2, h⟩ := oif_some h
    obtain ⟨v3, -, h⟩ := elet_some h
    rcases oif_or h with ⟨c4, h⟩ | ⟨c4, h⟩
    · have h := h
      obtain ⟨g5, h⟩ := oif_some h
      obtain ⟨T6, eT6, h⟩ := obind_some h
      have p1 : QF T T6 := QF.tr p0 (sq_X10_settle eT6)
      exact QF.tr p1 (sq_X10_add_b56 _ h)
    · have h := h
      obtain ⟨g8, h⟩ := oif_some h
      obtain ⟨n9, en9, h⟩ := obind_some h
      obtain ⟨g10, h⟩ := oif_some h
      obtain ⟨g11, h⟩ := oif_some h
      obtain ⟨n12, en12, h⟩ := obind_some h
      obtain ⟨g13, h⟩ := oif_some h
      obtain ⟨g14, h⟩ := oif_some h
      obtain ⟨v15, -, h⟩ := elet_some h
      obtain ⟨v16, -, h⟩ := elet_some h
      obtain ⟨g17, h⟩ := oif_some h
      obtain ⟨n18, en18, h⟩ := obind_some h
      obtain ⟨g19, h⟩ := oif_some h
      obtain ⟨g20, h⟩ := oif_some h
      obtain ⟨n21, en21, h⟩ := obind_some h
      obtain ⟨g22, h⟩ := oif_some h
      obtain ⟨g23, h⟩ := oif_some h
      obtain ⟨v24, -, h⟩ := elet_some h
      obtain ⟨v25, -, h⟩ := elet_some h
      obtain ⟨v26, -, h⟩ := elet_some h
      obtain ⟨g27, h⟩ := oif_some h
      obtain ⟨g28, h⟩ := oif_some h
      obtain ⟨T29, eT29, h⟩ := elet_some h
      have p1 : QF T T29 := QF.tr p0 (by rw [eT29]; exact qf_uJ)
      obtain ⟨v30, ev30, h⟩ := elet_some h
      exact QF.tr p1 (ih _ _ _ _ _ _ _ h)
set_option maxHeartbeats 4000000 in
set_option maxRecDepth 100000 in
theorem sq_X10_add_b8 {T1 : AT} : ∀ (T : AT) (l0 : Nat) (l1 : Int32) (l2 : Nat) (l3 : Int32) (l4 : Int32), g_X10_add_b8 T l0 l1 l2 l3 l4 = some T1 → QF T T1 := by
  intro T l0 l1 l2 l3 l4 h
  have p0 := QF.rf T
  unfold g_X10_add_b8 at h
  exact QF.tr p0 (sq_X10_add_b11 _ _ _ _ _ _ _ _ h)
set_option maxHeartbeats 4000000 in
set_option maxRecDepth 100000 in
theorem sq_X10_add {T : AT} {o : Nat} {a0 : Int32} {a1 : Nat} {a2 : Int32} {a3 : Int32} {T1 : AT} (h : g_X10_add T o a0 a1 a2 a3 = some T1) : QF T T1 := by
  have p0 := QF.rf T
  unfold g_X10_add at h
  obtain ⟨g2, h⟩ := oif_some h
  obtain ⟨v3, -, h⟩ := elet_some h
  obtain ⟨g4, h⟩ := oif_some h
  obtain ⟨T5, eT5, h⟩ := obind_some h
  have p1 : QF T T5 := QF.tr p0 (sq_X10_widenTo eT5)
  exact QF.tr p1 (sq_X10_add_b8 _ _ _ _ _ _ h)
set_option maxHeartbeats 4000000 in
set_option maxRecDepth 100000 in
theorem sq_X0_score_b137 {T1 : AT} {k31 : AT → Nat → Nat → Nat → Int32 → Int32 → Int32 → Option (AT)} (hk31 : ∀ (T : AT) (l0 : Nat) (l1 : Nat) (l2 : Nat) (l3 : Int32) (l4 : Int32) (l5 : Int32), k31 T l0 l1 l2 l3 l4 l5 = some T1 → QF T T1) : ∀ (T : AT) (l0 : Nat) (l1 : Nat) (l2 : Nat) (l3 : Int32) (l4 : Int32) (l5 : Int32), g_X0_score_b137 k31 T l0 l1 l2 l3 l4 l5 = some T1 → QF T T1 := by
  intro T l0 l1 l2 l3 l4 l5 h
  have p0 := QF.rf T
  unfold g_X0_score_b137 at h
  obtain ⟨v2, ev2, h⟩ := elet_some h
  exact QF.tr p0 (hk31 _ _ _ _ _ _ _ h)
set_option maxHeartbeats 4000000 in
set_option maxRecDepth 100000 in
theorem sq_X0_score_b131 {T1 : AT} {k31 : AT → Nat → Nat → Nat → Int32 → Int32 → Int32 → Option (AT)} {k52 : AT → Nat → Nat → Nat → Int32 → Int32 → Int32 → Int32 → Option (AT)} (hk31 : ∀ (T : AT) (l0 : Nat) (l1 : Nat) (l2 : Nat) (l3 : Int32) (l4 : Int32) (l5 : Int32), k31 T l0 l1 l2 l3 l4 l5 = some T1 → QF T T1) (hk52 : ∀ (T : AT) (l0 : Nat) (l1 : Nat) (l2 : Nat) (l3 : Int32) (l4 : Int32) (l5 : Int32) (l6 : Int32), k52 T l0 l1 l2 l3 l4 l5 l6 = some T1 → QF T T1) : ∀ (T : AT) (l0 : Nat) (l1 : Nat) (l2 : Nat) (l3 : Int32) (l4 : Int32) (l5 : Int32) (l6 : Int32), g_X0_score_b131 k31 k52 T l0 l1 l2 l3 l4 l5 l6 = some T1 → QF T T1 := by
  intro T l0 l1 l2 l3 l4 l5 l6 h
  have p0 := QF.rf T
  unfold g_X0_score_b131 at h
  obtain ⟨v2, ev2, h⟩ := elet_some h
  exact QF.tr p0 (hk52 _ _ _ _ _ _ _ _ h)
set_option maxHeartbeats 4000000 in
set_option maxRecDepth 100000 in
theorem sq_X0_score_b52 {T1 : AT} {k31 : AT → Nat → Nat → Nat → Int32 → Int32 → Int32 → Option (AT)} (hk31 : ∀ (T : AT) (l0 : Nat) (l1 : Nat) (l2 : Nat) (l3 : Int32) (l4 : Int32) (l5 : Int32), k31 T l0 l1 l2 l3 l4 l5 = some T1 → QF T T1) : ∀ n : Nat, ∀ (T : AT) (l0 : Nat) (l1 : Nat) (l2 : Nat) (l3 : Int32) (l4 : Int32) (l5 : Int32) (l6 : Int32), g_X0_score_b52 k31 n T l0 l1 l2 l3 l4 l5 l6 = some T1 → QF T T1 := by
  intro n
  induction n with
  | zero =>
    intro T l0 l1 l2 l3 l4 l5 l6 h
    have h : (none : Option (AT)) = some T1 := h
    cases h
  | succ n ih =>
    intro T l0 l1 l2 l3 l4 l5 l6 h
    have p0 := QF.rf T
    unfold g_X0_score_b52 at h
    obtain ⟨g2, h⟩ := oif_some h
    obtain ⟨n3, en3, h⟩ := obind_some h
    obtain ⟨g4, h⟩ := oif_some h
    obtain ⟨r6, T5, eT5, h⟩ := obind2_some h
    have p1 : QF T T5 := QF.tr p0 ((sq_X1_cells eT5))
    rcases oif_or h with ⟨c7, h⟩ | ⟨c7, h⟩
    · have h := h
      exact QF.tr p1 (sq_X0_score_b137 hk31 _ _ _ _ _ _ _ h)
    · have h := h
      obtain ⟨v8, -, h⟩ := elet_some h
      rcases oif_or h with ⟨c9, h⟩ | ⟨c9, h⟩
      · have h := h
        exact QF.tr p1 (sq_X0_score_b137 hk31 _ _ _ _ _ _ _ h)
      · have h := h
        obtain ⟨v10, -, h⟩ := elet_some h
        obtain ⟨r11, -, h⟩ := obind_some h
        obtain ⟨g12, h⟩ := oif_some h
        obtain ⟨n13, en13, h⟩ := obind_some h
        obtain ⟨g14, h⟩ := oif_some h
        obtain ⟨n15, en15, h⟩ := obind_some h
        obtain ⟨g16, h⟩ := oif_some h
        obtain ⟨r18, T17, eT17, h⟩ := obind2_some h
        obtain ⟨g19, h⟩ := oif_some h
        have p2 : QF T T17 := QF.tr p1 ((sq_X1_areaAround eT17))
        obtain ⟨g20, h⟩ := oif_some h
        obtain ⟨n21, en21, h⟩ := obind_some h
        obtain ⟨g22, h⟩ := oif_some h
        obtain ⟨r24, T23, eT23, h⟩ := obind2_some h
        have p3 : QF T T23 := QF.tr p2 ((sq_X1_bestIn eT23))
        obtain ⟨g25, h⟩ := oif_some h
        obtain ⟨n26, en26, h⟩ := obind_some h
        obtain ⟨r27, -, h⟩ := obind_some h
        obtain ⟨v28, -, h⟩ := elet_some h
        obtain ⟨g29, h⟩ := oif_some h
        obtain ⟨n30, en30, h⟩ := obind_some h
        obtain ⟨v31, -, h⟩ := elet_some h
        obtain ⟨g32, h⟩ := oif_some h
        obtain ⟨T33, eT33, h⟩ := obind_some h
        have p4 : QF T T33 := QF.tr p3 (sq_X10_add eT33)
        exact QF.tr p4 (sq_X0_score_b131 hk31 ih _ _ _ _ _ _ _ _ h)
set_option maxHeartbeats 4000000 in
set_option maxRecDepth 100000 in
theorem sq_X0_score_b49 {T1 : AT} {k31 : AT → Nat → Nat → Nat → Int32 → Int32 → Int32 → Option (AT)} (hk31 : ∀ (T : AT) (l0 : Nat) (l1 : Nat) (l2 : Nat) (l3 : Int32) (l4 : Int32) (l5 : Int32), k31 T l0 l1 l2 l3 l4 l5 = some T1 → QF T T1) : ∀ (T : AT) (l0 : Nat) (l1 : Nat) (l2 : Nat) (l3 : Int32) (l4 : Int32) (l5 : Int32), g_X0_score_b49 k31 T l0 l1 l2 l3 l4 l5 = some T1 → QF T T1 := by
  intro T l0 l1 l2 l3 l4 l5 h
  have p0 := QF.rf T
  unfold g_X0_score_b49 at h
  exact QF.tr p0 (sq_X0_score_b52 hk31 _ _ _ _ _ _ _ _ _ h)
set_option maxHeartbeats 4000000 in
set_option maxRecDepth 100000 in
theorem sq_X0_score_b31 {T1 : AT} : ∀ n : Nat, ∀ (T : AT) (l0 : Nat) (l1 : Nat) (l2 : Nat) (l3 : Int32) (l4 : Int32) (l5 : Int32), g_X0_score_b31 n T l0 l1 l2 l3 l4 l5 = some T1 → QF T T1 := by
  intro n
  induction n with
  | zero =>
    intro T l0 l1 l2 l3 l4 l5 h
    have h : (none : Option (AT)) = some T1 := h
    cases h
  | succ n ih =>
    intro T l0 l1 l2 l3 l4 l5 h
    have p0 := QF.rf T
    unfold g_X0_score_b31 at h
    rcases oif_or h with ⟨c2, h⟩ | ⟨c2, h⟩
    · have h := h
      rw [← osome1 h]
      exact p0
    · have h := h
      obtain ⟨v3, -, h⟩ := elet_some h
      obtain ⟨g4, h⟩ := oif_some h
      obtain ⟨T5, eT5, h⟩ := obind_some h
      have p1 : QF T T5 := QF.tr p0 (sq_X0_measure eT5)
      exact QF.tr p1 (sq_X0_score_b49 ih _ _ _ _ _ _ _ h)
set_option maxHeartbeats 4000000 in
set_option maxRecDepth 100000 in
theorem sq_X0_score {T : AT} {o : Nat} {a0 : Nat} {a1 : Nat} {a2 : Int32} {T1 : AT} (h : g_X0_score T o a0 a1 a2 = some T1) : QF T T1 := by
  have p0 := QF.rf T
  unfold g_X0_score at h
  obtain ⟨g2, h⟩ := oif_some h
  obtain ⟨v3, -, h⟩ := elet_some h
  obtain ⟨v4, -, h⟩ := elet_some h
  obtain ⟨v5, -, h⟩ := elet_some h
  obtain ⟨r6, -, h⟩ := obind_some h
  obtain ⟨v7, -, h⟩ := elet_some h
  obtain ⟨v8, -, h⟩ := elet_some h
  obtain ⟨g9, h⟩ := oif_some h
  obtain ⟨n10, en10, h⟩ := obind_some h
  obtain ⟨g11, h⟩ := oif_some h
  obtain ⟨T12, eT12, h⟩ := obind_some h
  have p1 : QF T T12 := QF.tr p0 ((sq_X10_narrow eT12))
  obtain ⟨v14, -, h⟩ := elet_some h
  exact QF.tr p1 (sq_X0_score_b31 _ _ _ _ _ _ _ _ h)
set_option maxHeartbeats 4000000 in
set_option maxRecDepth 100000 in
theorem sq_X0_trackCellIn_b55 {r1 : Int32} {T1 : AT} : ∀ (T : AT) (l3 : Int32), g_X0_trackCellIn_b55 T l3 = some (r1, T1) → QF T T1 := by
  intro T l3 h
  have p0 := QF.rf T
  unfold g_X0_trackCellIn_b55 at h
  rw [← (osome2 h).2]
  exact p0
set_option maxHeartbeats 4000000 in
set_option maxRecDepth 100000 in
theorem sq_X0_trackCellIn_b17 {r1 : Int32} {T1 : AT} : ∀ n : Nat, ∀ (T : AT) (l0 : Nat) (l1 : Nat) (l2 : Int32) (l3 : Int32) (l4 : Int32), g_X0_trackCellIn_b17 n T l0 l1 l2 l3 l4 = some (r1, T1) → QF T T1 := by
  intro n
  induction n with
  | zero =>
    intro T l0 l1 l2 l3 l4 h
    have h : (none : Option (Int32 × AT)) = some (r1, T1) := h
    cases h
  | succ n ih =>
    intro T l0 l1 l2 l3 l4 h
    have p0 := QF.rf T
    unfold g_X0_trackCellIn_b17 at h
    rcases oif_or h with ⟨c2, h⟩ | ⟨c2, h⟩
    · have h := h
      exact QF.tr p0 (sq_X0_trackCellIn_b55 _ _ h)
    · have h := h
      rcases oif_or h with ⟨c3, h⟩ | ⟨c3, h⟩
      · have h := h
        exact QF.tr p0 (sq_X0_trackCellIn_b55 _ _ h)
      · have h := h
        obtain ⟨g4, h⟩ := oif_some h
        obtain ⟨r6, T5, eT5, h⟩ := obind2_some h
        have p1 : QF T T5 := QF.tr p0 (sq_X1_areaAround eT5)
        obtain ⟨g7, h⟩ := oif_some h
        obtain ⟨n8, en8, h⟩ := obind_some h
        obtain ⟨r9, -, h⟩ := obind_some h
        obtain ⟨g10, h⟩ := oif_some h
        obtain ⟨r12, T11, eT11, h⟩ := obind2_some h
        have p2 : QF T T11 := QF.tr p1 (sq_X1_bestIn eT11)
        obtain ⟨v13, ev13, h⟩ := elet_some h
        exact QF.tr p2 (ih _ _ _ _ _ _ h)
set_option maxHeartbeats 4000000 in
set_option maxRecDepth 100000 in
theorem sq_X0_trackCellIn {T : AT} {o : Nat} {a0 : Nat} {a1 : Int32} {r1 : Int32} {T1 : AT} (h : g_X0_trackCellIn T o a0 a1 = some (r1, T1)) : QF T T1 := by
  have p0 := QF.rf T
  unfold g_X0_trackCellIn at h
  obtain ⟨g2, h⟩ := oif_some h
  obtain ⟨n3, en3, h⟩ := obind_some h
  obtain ⟨g4, h⟩ := oif_some h
  obtain ⟨n5, en5, h⟩ := obind_some h
  obtain ⟨g6, h⟩ := oif_some h
  obtain ⟨r8, T7, eT7, h⟩ := obind2_some h
  have p1 : QF T T7 := QF.tr p0 (sq_X1_bestIn eT7)
  exact QF.tr p1 (sq_X0_trackCellIn_b17 _ _ _ _ _ _ _ h)
set_option maxHeartbeats 4000000 in
set_option maxRecDepth 100000 in
theorem sq_X1_clear {T : AT} {o : Nat} {T1 : AT} (h : g_X1_clear T o = some T1) : QF T T1 := by
  have p0 := QF.rf T
  unfold g_X1_clear at h
  obtain ⟨g2, h⟩ := oif_some h
  obtain ⟨T3, eT3, h⟩ := elet_some h
  have p1 : QF T T3 := QF.tr p0 (by rw [eT3]; first | exact qf_uO (oO_k g2).2 (by decide) | exact qf_uA (aA_k g2).2.1 (by decide))
  obtain ⟨g4, h⟩ := oif_some h
  obtain ⟨T5, eT5, h⟩ := elet_some h
  have p2 : QF T T5 := QF.tr p1 (by rw [eT5]; first | exact qf_uO (oO_k g4).2 (by decide) | exact qf_uA (aA_k g2).2.1 (by decide))
  obtain ⟨g6, h⟩ := oif_some h
  obtain ⟨T7, eT7, h⟩ := elet_some h
  have p3 : QF T T7 := QF.tr p2 (by rw [eT7]; first | exact qf_uO (oO_k g6).2 (by decide) | exact qf_uA (aA_k g4).2.1 (by decide))
  rw [← osome1 h]
  exact p3
set_option maxHeartbeats 4000000 in
set_option maxRecDepth 100000 in
theorem sq_X1_open {T : AT} {o : Nat} {a0 : Int32} {a1 : Int32} {T1 : AT} (h : g_X1_open T o a0 a1 = some T1) : QF T T1 := by
  have p0 := QF.rf T
  unfold g_X1_open at h
  obtain ⟨g2, h⟩ := oif_some h
  obtain ⟨T3, eT3, h⟩ := elet_some h
  have p1 : QF T T3 := QF.tr p0 (by rw [eT3]; first | exact qf_uO (oO_k g2).2 (by decide) | exact qf_uA (aA_k g2).2.1 (by decide))
  obtain ⟨g4, h⟩ := oif_some h
  obtain ⟨T5, eT5, h⟩ := elet_some h
  have p2 : QF T T5 := QF.tr p1 (by rw [eT5]; first | exact qf_uO (oO_k g4).2 (by decide) | exact qf_uA (aA_k g2).2.1 (by decide))
  obtain ⟨g6, h⟩ := oif_some h
  obtain ⟨n7, en7, h⟩ := obind_some h
  obtain ⟨v8, -, h⟩ := elet_some h
  obtain ⟨g9, h⟩ := oif_some h
  obtain ⟨g10, h⟩ := oif_some h
  obtain ⟨T11, eT11, h⟩ := elet_some h
  have p3 : QF T T11 := QF.tr p2 (by rw [eT11]; first | exact qf_uO (oO_k g10).2 (by decide) | exact qf_uA (aA_k g9).2.1 (by decide))
  obtain ⟨g12, h⟩ := oif_some h
  obtain ⟨n13, en13, h⟩ := obind_some h
  obtain ⟨v14, -, h⟩ := elet_some h
  obtain ⟨g15, h⟩ := oif_some h
  obtain ⟨g16, h⟩ := oif_some h
  obtain ⟨T17, eT17, h⟩ := elet_some h
  have p4 : QF T T17 := QF.tr p3 (by rw [eT17]; first | exact qf_uO (oO_k g16).2 (by decide) | exact qf_uA (aA_k g15).2.1 (by decide))
  rw [← osome1 h]
  exact p4
set_option maxHeartbeats 4000000 in
set_option maxRecDepth 100000 in
theorem sq_X1_centreX {T : AT} {o : Nat} {a0 : Int32} {r1 : Int32} {T1 : AT} (h : g_X1_centreX T o a0 = some (r1, T1)) : QF T T1 := by
  have p0 := QF.rf T
  unfold g_X1_centreX at h
  obtain ⟨g2, h⟩ := oif_some h
  obtain ⟨v3, -, h⟩ := elet_some h
  obtain ⟨g4, h⟩ := oif_some h
  obtain ⟨v5, -, h⟩ := elet_some h
  obtain ⟨g6, h⟩ := oif_some h
  obtain ⟨r8, T7, eT7, h⟩ := obind2_some h
  have p1 : QF T T7 := QF.tr p0 (sq_X1_columnOf eT7)
  obtain ⟨v9, -, h⟩ := elet_some h
  obtain ⟨v10, -, h⟩ := elet_some h
  rw [← (osome2 h).2]
  exact p1
set_option maxHeartbeats 4000000 in
set_option maxRecDepth 100000 in
theorem sq_X1_centreY {T : AT} {o : Nat} {a0 : Int32} {r1 : Int32} {T1 : AT} (h : g_X1_centreY T o a0 = some (r1, T1)) : QF T T1 := by
  have p0 := QF.rf T
  unfold g_X1_centreY at h
  obtain ⟨g2, h⟩ := oif_some h
  obtain ⟨v3, -, h⟩ := elet_some h
  obtain ⟨g4, h⟩ := oif_some h
  obtain ⟨v5, -, h⟩ := elet_some h
  obtain ⟨g6, h⟩ := oif_some h
  obtain ⟨r8, T7, eT7, h⟩ := obind2_some h
  have p1 : QF T T7 := QF.tr p0 (sq_X1_rowOf eT7)
  obtain ⟨v9, -, h⟩ := elet_some h
  obtain ⟨v10, -, h⟩ := elet_some h
  rw [← (osome2 h).2]
  exact p1
set_option maxHeartbeats 4000000 in
set_option maxRecDepth 100000 in
theorem sq_X9_runEnd_b32 {r1 : Int32} {T1 : AT} : ∀ (T : AT) (l5 : Int32), g_X9_runEnd_b32 T l5 = some (r1, T1) → QF T T1 := by
  intro T l5 h
  have p0 := QF.rf T
  unfold g_X9_runEnd_b32 at h
  rw [← (osome2 h).2]
  exact p0
set_option maxHeartbeats 4000000 in
set_option maxRecDepth 100000 in
theorem sq_X9_runEnd_b3 {r1 : Int32} {T1 : AT} : ∀ n : Nat, ∀ (T : AT) (l0 : Nat) (l1 : Int32) (l3 : Int32) (l4 : Int32) (l5 : Int32), g_X9_runEnd_b3 n T l0 l1 l3 l4 l5 = some (r1, T1) → QF T T1 := by
  intro n
  induction n with
  | zero =>
    intro T l0 l1 l3 l4 l5 h
    have h : (none : Option (Int32 × AT)) = some (r1, T1) := h
    cases h
  | succ n ih =>
    intro T l0 l1 l3 l4 l5 h
    have p0 := QF.rf T
    unfold g_X9_runEnd_b3 at h
    rcases oif_or h with ⟨c2, h⟩ | ⟨c2, h⟩
    · have h := h
      rw [← (osome2 h).2]
      exact p0
    · have h := h
      obtain ⟨g3, h⟩ := oif_some h
      obtain ⟨n4, en4, h⟩ := obind_some h
      obtain ⟨g5, h⟩ := oif_some h
      obtain ⟨g6, h⟩ := oif_some h
      obtain ⟨v7, -, h⟩ := elet_some h
      rcases oif_or h with ⟨c8, h⟩ | ⟨c8, h⟩
      · have h := h
        exact QF.tr p0 (sq_X9_runEnd_b32 _ _ h)
      · have h := h
        obtain ⟨g9, h⟩ := oif_some h
        obtain ⟨n10, en10, h⟩ := obind_some h
        obtain ⟨g11, h⟩ := oif_some h
        obtain ⟨g12, h⟩ := oif_some h
        obtain ⟨v13, -, h⟩ := elet_some h
        rcases oif_or h with ⟨c14, h⟩ | ⟨c14, h⟩
        · have h := h
          obtain ⟨v15, ev15, h⟩ := elet_some h
          exact QF.tr p0 (ih _ _ _ _ _ _ h)
        · have h := h
          exact QF.tr p0 (sq_X9_runEnd_b32 _ _ h)
set_option maxHeartbeats 4000000 in
set_option maxRecDepth 100000 in
theorem sq_X9_runEnd {T : AT} {o : Nat} {a0 : Int32} {a1 : Int32} {a2 : Int32} {a3 : Int32} {r1 : Int32} {T1 : AT} (h : g_X9_runEnd T o a0 a1 a2 a3 = some (r1, T1)) : QF T T1 := by
  have p0 := QF.rf T
  unfold g_X9_runEnd at h
  exact QF.tr p0 (sq_X9_runEnd_b3 _ _ _ _ _ _ _ h)
set_option maxHeartbeats 4000000 in
set_option maxRecDepth 100000 in
theorem sq_X9_add_b52 {T1 : AT} : ∀ (T : AT), g_X9_add_b52 T = some T1 → QF T T1 := by
  intro T h
  have p0 := QF.rf T
  unfold g_X9_add_b52 at h
  rw [← osome1 h]
  exact p0
set_option maxHeartbeats 4000000 in
set_option maxRecDepth 100000 in
theorem sq_X9_add {T : AT} {o : Nat} {a0 : Int32} {a1 : Int32} {a2 : Int32} {T1 : AT} (h : g_X9_add T o a0 a1 a2 = some T1) : QF T T1 := by
  have p0 := QF.rf T
  unfold g_X9_add at h
  obtain ⟨g2, h⟩ := oif_some h
  obtain ⟨v3, -, h⟩ := elet_some h
  obtain ⟨g4, h⟩ := oif_some h
  obtain ⟨n5, en5, h⟩ := obind_some h
  obtain ⟨g6, h⟩ := oif_some h
  obtain ⟨v7, -, h⟩ := elet_some h
  rcases oif_or h with ⟨c8, h⟩ | ⟨c8, h⟩
  · have h := h
    exact QF.tr p0 (sq_X9_add_b52 _ h)
  · have h := h
    obtain ⟨g9, h⟩ := oif_some h
    obtain ⟨n10, en10, h⟩ := obind_some h
    obtain ⟨g11, h⟩ := oif_some h
    obtain ⟨v12, -, h⟩ := elet_some h
    obtain ⟨g13, h⟩ := oif_some h
    obtain ⟨g14, h⟩ := oif_some h
    obtain ⟨T15, eT15, h⟩ := elet_some h
    have p1 : QF T T15 := QF.tr p0 (by rw [eT15]; first | exact qf_uO (oO_k g14).2 (by decide) | exact qf_uA (aA_k g13).2.1 (by decide))
    obtain ⟨g16, h⟩ := oif_some h
    obtain ⟨n17, en17, h⟩ := obind_some h
    obtain ⟨g18, h⟩ := oif_some h
    obtain ⟨v19, -, h⟩ := elet_some h
    obtain ⟨g20, h⟩ := oif_some h
    obtain ⟨g21, h⟩ := oif_some h
    obtain ⟨T22, eT22, h⟩ := elet_some h
    have p2 : QF T T22 := QF.tr p1 (by rw [eT22]; first | exact qf_uO (oO_k g21).2 (by decide) | exact qf_uA (aA_k g20).2.1 (by decide))
    obtain ⟨g23, h⟩ := oif_some h
    obtain ⟨n24, en24, h⟩ := obind_some h
    obtain ⟨g25, h⟩ := oif_some h
    obtain ⟨v26, -, h⟩ := elet_some h
    obtain ⟨g27, h⟩ := oif_some h
    obtain ⟨g28, h⟩ := oif_some h
    obtain ⟨T29, eT29, h⟩ := elet_some h
    have p3 : QF T T29 := QF.tr p2 (by rw [eT29]; first | exact qf_uO (oO_k g28).2 (by decide) | exact qf_uA (aA_k g27).2.1 (by decide))
    obtain ⟨g30, h⟩ := oif_some h
    obtain ⟨v31, -, h⟩ := elet_some h
    obtain ⟨v32, -, h⟩ := elet_some h
    obtain ⟨g33, h⟩ := oif_some h
    obtain ⟨T34, eT34, h⟩ := elet_some h
    have p4 : QF T T34 := QF.tr p3 (by rw [eT34]; first | exact qf_uO (oO_k g33).2 (by decide) | exact qf_uA (aA_k g30).2.1 (by decide))
    exact QF.tr p4 (sq_X9_add_b52 _ h)
set_option maxHeartbeats 4000000 in
set_option maxRecDepth 100000 in
theorem sq_X9_cutOne_b158 {r1 : Int32} {T1 : AT} : ∀ (T : AT) (l4 : Int32), g_X9_cutOne_b158 T l4 = some (r1, T1) → QF T T1 := by
  intro T l4 h
  have p0 := QF.rf T
  unfold g_X9_cutOne_b158 at h
  rw [← (osome2 h).2]
  exact p0
set_option maxHeartbeats 4000000 in
set_option maxRecDepth 100000 in
theorem sq_X9_cutOne_b109 {r1 : Int32} {T1 : AT} : ∀ (T : AT) (l0 : Nat) (l2 : Int32) (l3 : Int32) (l4 : Int32), g_X9_cutOne_b109 T l0 l2 l3 l4 = some (r1, T1) → QF T T1 := by
  intro T l0 l2 l3 l4 h
  have p0 := QF.rf T
  unfold g_X9_cutOne_b109 at h
  rcases oif_or h with ⟨c2, h⟩ | ⟨c2, h⟩
  · have h := h
    obtain ⟨g3, h⟩ := oif_some h
    obtain ⟨T4, eT4, h⟩ := obind_some h
    have p1 : QF T T4 := QF.tr p0 (sq_X9_add eT4)
    exact QF.tr p1 (sq_X9_cutOne_b158 _ _ h)
  · have h := h
    rcases oif_or h with ⟨c6, h⟩ | ⟨c6, h⟩
    · have h := h
      obtain ⟨g7, h⟩ := oif_some h
      obtain ⟨T8, eT8, h⟩ := obind_some h
      have p1 : QF T T8 := QF.tr p0 (sq_X9_add eT8)
      exact QF.tr p1 (sq_X9_cutOne_b158 _ _ h)
    · have h := h
      rcases oif_or h with ⟨c10, h⟩ | ⟨c10, h⟩
      · have h := h
        exact QF.tr p0 (sq_X9_cutOne_b158 _ _ h)
      · have h := h
        obtain ⟨g11, h⟩ := oif_some h
        obtain ⟨T12, eT12, h⟩ := obind_some h
        have p1 : QF T T12 := QF.tr p0 (sq_X9_add eT12)
        exact QF.tr p1 (sq_X9_cutOne_b158 _ _ h)
set_option maxHeartbeats 4000000 in
set_option maxRecDepth 100000 in
theorem sq_X9_cutOne_b100 {r1 : Int32} {T1 : AT} : ∀ (T : AT) (s0 : Int32) (s1 : Nat) (l2 : Int32) (l4 : Int32), g_X9_cutOne_b100 T s0 s1 l2 l4 = some (r1, T1) → QF T T1 := by
  intro T s0 s1 l2 l4 h
  have p0 := QF.rf T
  unfold g_X9_cutOne_b100 at h
  obtain ⟨g2, h⟩ := oif_some h
  obtain ⟨T3, eT3, h⟩ := obind_some h
  have p1 : QF T T3 := QF.tr p0 (sq_X9_add eT3)
  exact QF.tr p1 (sq_X9_cutOne_b158 _ _ h)
set_option maxHeartbeats 4000000 in
set_option maxRecDepth 100000 in
theorem sq_X9_cutOne_b61 {r1 : Int32} {T1 : AT} : ∀ (T : AT) (l0 : Nat) (l1 : Int32) (l2 : Int32) (l3 : Int32) (l4 : Int32), g_X9_cutOne_b61 T l0 l1 l2 l3 l4 = some (r1, T1) → QF T T1 := by
  intro T l0 l1 l2 l3 l4 h
  have p0 := QF.rf T
  unfold g_X9_cutOne_b61 at h
  rcases oif_or h with ⟨c2, h⟩ | ⟨c2, h⟩
  · have h := h
    exact QF.tr p0 (sq_X9_cutOne_b109 _ _ _ _ _ h)
  · have h := h
    rcases oif_or h with ⟨c3, h⟩ | ⟨c3, h⟩
    · have h := h
      exact QF.tr p0 (sq_X9_cutOne_b109 _ _ _ _ _ h)
    · have h := h
      obtain ⟨g4, h⟩ := oif_some h
      obtain ⟨r6, T5, eT5, h⟩ := obind2_some h
      have p1 : QF T T5 := QF.tr p0 (sq_X9_runEnd eT5)
      obtain ⟨v7, -, h⟩ := elet_some h
      rcases oif_or h with ⟨c8, h⟩ | ⟨c8, h⟩
      · have h := h
        exact QF.tr p1 (sq_X9_cutOne_b100 _ _ _ _ _ h)
      · have h := h
        exact QF.tr p1 (sq_X9_cutOne_b100 _ _ _ _ _ h)
set_option maxHeartbeats 4000000 in
set_option maxRecDepth 100000 in
theorem sq_X9_cutOne_b52 {r1 : Int32} {T1 : AT} : ∀ (T : AT) (s0 : Int32) (s1 : Nat) (l2 : Int32) (l4 : Int32), g_X9_cutOne_b52 T s0 s1 l2 l4 = some (r1, T1) → QF T T1 := by
  intro T s0 s1 l2 l4 h
  have p0 := QF.rf T
  unfold g_X9_cutOne_b52 at h
  obtain ⟨g2, h⟩ := oif_some h
  obtain ⟨T3, eT3, h⟩ := obind_some h
  have p1 : QF T T3 := QF.tr p0 (sq_X9_add eT3)
  exact QF.tr p1 (sq_X9_cutOne_b158 _ _ h)
set_option maxHeartbeats 4000000 in
set_option maxRecDepth 100000 in
theorem sq_X9_cutOne {T : AT} {o : Nat} {a0 : Int32} {a1 : Int32} {r1 : Int32} {T1 : AT} (h : g_X9_cutOne T o a0 a1 = some (r1, T1)) : QF T T1 := by
  have p0 := QF.rf T
  unfold g_X9_cutOne at h
  obtain ⟨g2, h⟩ := oif_some h
  obtain ⟨n3, en3, h⟩ := obind_some h
  obtain ⟨g4, h⟩ := oif_some h
  obtain ⟨g5, h⟩ := oif_some h
  obtain ⟨v6, -, h⟩ := elet_some h
  obtain ⟨v7, -, h⟩ := elet_some h
  rcases oif_or h with ⟨c8, h⟩ | ⟨c8, h⟩
  · have h := h
    exact QF.tr p0 (sq_X9_cutOne_b61 _ _ _ _ _ _ h)
  · have h := h
    rcases oif_or h with ⟨c9, h⟩ | ⟨c9, h⟩
    · have h := h
      exact QF.tr p0 (sq_X9_cutOne_b61 _ _ _ _ _ _ h)
    · have h := h
      obtain ⟨g10, h⟩ := oif_some h
      obtain ⟨r12, T11, eT11, h⟩ := obind2_some h
      have p1 : QF T T11 := QF.tr p0 (sq_X9_runEnd eT11)
      obtain ⟨v13, -, h⟩ := elet_some h
      rcases oif_or h with ⟨c14, h⟩ | ⟨c14, h⟩
      · have h := h
        exact QF.tr p1 (sq_X9_cutOne_b52 _ _ _ _ _ h)
      · have h := h
        exact QF.tr p1 (sq_X9_cutOne_b52 _ _ _ _ _ h)
set_option maxHeartbeats 4000000 in
set_option maxRecDepth 100000 in
theorem sq_X9_cut_b32 {T1 : AT} : ∀ (T : AT) (l0 : Nat) (l1 : Int32), g_X9_cut_b32 T l0 l1 = some T1 → QF T T1 := by
  intro T l0 l1 h
  have p0 := QF.rf T
  unfold g_X9_cut_b32 at h
  obtain ⟨g2, h⟩ := oif_some h
  obtain ⟨T3, eT3, h⟩ := obind_some h
  have p1 : QF T T3 := QF.tr p0 (sq_X9_add eT3)
  rw [← osome1 h]
  exact p1
set_option maxHeartbeats 4000000 in
set_option maxRecDepth 100000 in
theorem sq_X9_cut_b9 {T1 : AT} : ∀ n : Nat, ∀ (T : AT) (l0 : Nat) (l1 : Int32) (l2 : Int32) (l3 : Int32), g_X9_cut_b9 n T l0 l1 l2 l3 = some T1 → QF T T1 := by
  intro n
  induction n with
  | zero =>
    intro T l0 l1 l2 l3 h
    have h : (none : Option (AT)) = some T1 := h
    cases h
  | succ n ih =>
    intro T l0 l1 l2 l3 h
    have p0 := QF.rf T
    unfold g_X9_cut_b9 at h
    rcases oif_or h with ⟨c2, h⟩ | ⟨c2, h⟩
    · have h := h
      exact QF.tr p0 (sq_X9_cut_b32 _ _ _ h)
    · have h := h
      rcases oif_or h with ⟨c3, h⟩ | ⟨c3, h⟩
      · have h := h
        exact QF.tr p0 (sq_X9_cut_b32 _ _ _ h)
      · have h := h
        obtain ⟨g4, h⟩ := oif_some h
        obtain ⟨r6, T5, eT5, h⟩ := obind2_some h
        have p1 : QF T T5 := QF.tr p0 (sq_X9_cutOne eT5)
        obtain ⟨v7, ev7, h⟩ := elet_some h
        exact QF.tr p1 (ih _ _ _ _ _ h)
set_option maxHeartbeats 4000000 in
set_option maxRecDepth 100000 in
theorem sq_X9_cut {T : AT} {o : Nat} {a0 : Int32} {T1 : AT} (h : g_X9_cut T o a0 = some T1) : QF T T1 := by
  have p0 := QF.rf T
  unfold g_X9_cut at h
  obtain ⟨g2, h⟩ := oif_some h
  obtain ⟨T3, eT3, h⟩ := elet_some h
  have p1 : QF T T3 := QF.tr p0 (by rw [eT3]; first | exact qf_uO (oO_k g2).2 (by decide) | exact qf_uA (aA_k g2).2.1 (by decide))
  exact QF.tr p1 (sq_X9_cut_b9 _ _ _ _ _ _ h)
set_option maxHeartbeats 4000000 in
set_option maxRecDepth 100000 in
theorem sq_X6_clear {T : AT} {o : Nat} {T1 : AT} (h : g_X6_clear T o = some T1) : QF T T1 := by
  have p0 := QF.rf T
  unfold g_X6_clear at h
  obtain ⟨g2, h⟩ := oif_some h
  obtain ⟨n3, en3, h⟩ := obind_some h
  obtain ⟨g4, h⟩ := oif_some h
  obtain ⟨T5, eT5, h⟩ := obind_some h
  have p1 : QF T T5 := QF.tr p0 (sq_X1_clear eT5)
  obtain ⟨g7, h⟩ := oif_some h
  obtain ⟨T8, eT8, h⟩ := elet_some h
  have p2 : QF T T8 := QF.tr p1 (by rw [eT8]; first | exact qf_uO (oO_k g7).2 (by decide) | exact qf_uA (aA_k g4).2.1 (by decide))
  obtain ⟨g9, h⟩ := oif_some h
  obtain ⟨T10, eT10, h⟩ := elet_some h
  have p3 : QF T T10 := QF.tr p2 (by rw [eT10]; first | exact qf_uO (oO_k g9).2 (by decide) | exact qf_uA (aA_k g7).2.1 (by decide))
  obtain ⟨g11, h⟩ := oif_some h
  obtain ⟨T12, eT12, h⟩ := elet_some h
  have p4 : QF T T12 := QF.tr p3 (by rw [eT12]; first | exact qf_uO (oO_k g11).2 (by decide) | exact qf_uA (aA_k g9).2.1 (by decide))
  obtain ⟨g13, h⟩ := oif_some h
  obtain ⟨T14, eT14, h⟩ := elet_some h
  have p5 : QF T T14 := QF.tr p4 (by rw [eT14]; first | exact qf_uO (oO_k g13).2 (by decide) | exact qf_uA (aA_k g11).2.1 (by decide))
  obtain ⟨g15, h⟩ := oif_some h
  obtain ⟨T16, eT16, h⟩ := elet_some h
  have p6 : QF T T16 := QF.tr p5 (by rw [eT16]; first | exact qf_uO (oO_k g15).2 (by decide) | exact qf_uA (aA_k g13).2.1 (by decide))
  obtain ⟨g17, h⟩ := oif_some h
  obtain ⟨T18, eT18, h⟩ := elet_some h
  have p7 : QF T T18 := QF.tr p6 (by rw [eT18]; first | exact qf_uO (oO_k g17).2 (by decide) | exact qf_uA (aA_k g15).2.1 (by decide))
  rw [← osome1 h]
  exact p7
set_option maxHeartbeats 4000000 in
set_option maxRecDepth 100000 in
theorem sq_X6_addShade_b29 {T1 : AT} : ∀ (T : AT), g_X6_addShade_b29 T = some T1 → QF T T1 := by
  intro T h
  have p0 := QF.rf T
  unfold g_X6_addShade_b29 at h
  rw [← osome1 h]
  exact p0
set_option maxHeartbeats 4000000 in
set_option maxRecDepth 100000 in
theorem sq_X6_addShade {T : AT} {o : Nat} {a0 : Int32} {T1 : AT} (h : g_X6_addShade T o a0 = some T1) : QF T T1 := by
  have p0 := QF.rf T
  unfold g_X6_addShade at h
  obtain ⟨g2, h⟩ := oif_some h
  obtain ⟨v3, -, h⟩ := elet_some h
  rcases oif_or h with ⟨c4, h⟩ | ⟨c4, h⟩
  · have h := h
    exact QF.tr p0 (sq_X6_addShade_b29 _ h)
  · have h := h
    obtain ⟨g5, h⟩ := oif_some h
    obtain ⟨n6, en6, h⟩ := obind_some h
    obtain ⟨g7, h⟩ := oif_some h
    obtain ⟨v8, -, h⟩ := elet_some h
    obtain ⟨g9, h⟩ := oif_some h
    obtain ⟨g10, h⟩ := oif_some h
    obtain ⟨T11, eT11, h⟩ := elet_some h
    have p1 : QF T T11 := QF.tr p0 (by rw [eT11]; first | exact qf_uO (oO_k g10).2 (by decide) | exact qf_uA (aA_k g9).2.1 (by decide))
    obtain ⟨g12, h⟩ := oif_some h
    obtain ⟨v13, -, h⟩ := elet_some h
    obtain ⟨v14, -, h⟩ := elet_some h
    obtain ⟨g15, h⟩ := oif_some h
    obtain ⟨T16, eT16, h⟩ := elet_some h
    have p2 : QF T T16 := QF.tr p1 (by rw [eT16]; first | exact qf_uO (oO_k g15).2 (by decide) | exact qf_uA (aA_k g12).2.1 (by decide))
    exact QF.tr p2 (sq_X6_addShade_b29 _ h)
set_option maxHeartbeats 4000000 in
set_option maxRecDepth 100000 in
theorem sq_X6_addTap_b28 {T1 : AT} : ∀ (T : AT), g_X6_addTap_b28 T = some T1 → QF T T1 := by
  intro T h
  have p0 := QF.rf T
  unfold g_X6_addTap_b28 at h
  rw [← osome1 h]
  exact p0
set_option maxHeartbeats 4000000 in
set_option maxRecDepth 100000 in
theorem sq_X6_addTap {T : AT} {o : Nat} {a0 : Int32} {T1 : AT} (h : g_X6_addTap T o a0 = some T1) : QF T T1 := by
  have p0 := QF.rf T
  unfold g_X6_addTap at h
  obtain ⟨g2, h⟩ := oif_some h
  obtain ⟨v3, -, h⟩ := elet_some h
  rcases oif_or h with ⟨c4, h⟩ | ⟨c4, h⟩
  · have h := h
    exact QF.tr p0 (sq_X6_addTap_b28 _ h)
  · have h := h
    obtain ⟨g5, h⟩ := oif_some h
    obtain ⟨n6, en6, h⟩ := obind_some h
    obtain ⟨g7, h⟩ := oif_some h
    obtain ⟨v8, -, h⟩ := elet_some h
    obtain ⟨g9, h⟩ := oif_some h
    obtain ⟨g10, h⟩ := oif_some h
    obtain ⟨T11, eT11, h⟩ := elet_some h
    have p1 : QF T T11 := QF.tr p0 (by rw [eT11]; first | exact qf_uO (oO_k g10).2 (by decide) | exact qf_uA (aA_k g9).2.1 (by decide))
    obtain ⟨g12, h⟩ := oif_some h
    obtain ⟨v13, -, h⟩ := elet_some h
    obtain ⟨v14, -, h⟩ := elet_some h
    obtain ⟨g15, h⟩ := oif_some h
    obtain ⟨T16, eT16, h⟩ := elet_some h
    have p2 : QF T T16 := QF.tr p1 (by rw [eT16]; first | exact qf_uO (oO_k g15).2 (by decide) | exact qf_uA (aA_k g12).2.1 (by decide))
    exact QF.tr p2 (sq_X6_addTap_b28 _ h)
set_option maxHeartbeats 4000000 in
set_option maxRecDepth 100000 in
theorem sq_X4_standsOut_b65 {r1 : Int32} {T1 : AT} {k11 : AT → Nat → Int32 → Nat → Nat → Int32 → Option (Int32 × AT)} {k24 : AT → Nat → Int32 → Nat → Nat → Int32 → Int32 → Option (Int32 × AT)} (hk11 : ∀ (T : AT) (l0 : Nat) (l1 : Int32) (l2 : Nat) (l3 : Nat) (l4 : Int32), k11 T l0 l1 l2 l3 l4 = some (r1, T1) → QF T T1) (hk24 : ∀ (T : AT) (l0 : Nat) (l1 : Int32) (l2 : Nat) (l3 : Nat) (l4 : Int32) (l5 : Int32), k24 T l0 l1 l2 l3 l4 l5 = some (r1, T1) → QF T T1) : ∀ (T : AT) (l0 : Nat) (l1 : Int32) (l2 : Nat) (l3 : Nat) (l4 : Int32) (l5 : Int32), g_X4_standsOut_b65 k11 k24 T l0 l1 l2 l3 l4 l5 = some (r1, T1) → QF T T1 := by
  intro T l0 l1 l2 l3 l4 l5 h
  have p0 := QF.rf T
  unfold g_X4_standsOut_b65 at h
  obtain ⟨v2, ev2, h⟩ := elet_some h
  exact QF.tr p0 (hk24 _ _ _ _ _ _ _ h)
set_option maxHeartbeats 4000000 in
set_option maxRecDepth 100000 in
theorem sq_X4_standsOut_b24 {r1 : Int32} {T1 : AT} {k11 : AT → Nat → Int32 → Nat → Nat → Int32 → Option (Int32 × AT)} (hk11 : ∀ (T : AT) (l0 : Nat) (l1 : Int32) (l2 : Nat) (l3 : Nat) (l4 : Int32), k11 T l0 l1 l2 l3 l4 = some (r1, T1) → QF T T1) : ∀ n : Nat, ∀ (T : AT) (l0 : Nat) (l1 : Int32) (l2 : Nat) (l3 : Nat) (l4 : Int32) (l5 : Int32), g_X4_standsOut_b24 k11 n T l0 l1 l2 l3 l4 l5 = some (r1, T1) → QF T T1 := by
  intro n
  induction n with
  | zero =>
    intro T l0 l1 l2 l3 l4 l5 h
    have h : (none : Option (Int32 × AT)) = some (r1, T1) := h
    cases h
  | succ n ih =>
    intro T l0 l1 l2 l3 l4 l5 h
    have p0 := QF.rf T
    unfold g_X4_standsOut_b24 at h
    obtain ⟨g2, h⟩ := oif_some h
    obtain ⟨g3, h⟩ := oif_some h
    obtain ⟨v4, -, h⟩ := elet_some h
    rcases oif_or h with ⟨c5, h⟩ | ⟨c5, h⟩
    · have h := h
      obtain ⟨v6, ev6, h⟩ := elet_some h
      exact QF.tr p0 (hk11 _ _ _ _ _ _ h)
    · have h := h
      obtain ⟨g7, h⟩ := oif_some h
      obtain ⟨v8, -, h⟩ := elet_some h
      obtain ⟨v9, -, h⟩ := elet_some h
      obtain ⟨v10, -, h⟩ := elet_some h
      rcases oif_or h with ⟨c11, h⟩ | ⟨c11, h⟩
      · have h := h
        exact QF.tr p0 (sq_X4_standsOut_b65 hk11 ih _ _ _ _ _ _ _ h)
      · have h := h
        obtain ⟨g12, h⟩ := oif_some h
        obtain ⟨n13, en13, h⟩ := obind_some h
        obtain ⟨g14, h⟩ := oif_some h
        obtain ⟨r16, T15, eT15, h⟩ := obind2_some h
        have p1 : QF T T15 := QF.tr p0 (sq_X10_compare eT15)
        rcases oif_or h with ⟨c17, h⟩ | ⟨c17, h⟩
        · have h := h
          exact QF.tr p1 (sq_X4_standsOut_b65 hk11 ih _ _ _ _ _ _ _ h)
        · have h := h
          rw [← (osome2 h).2]
          exact p1
set_option maxHeartbeats 4000000 in
set_option maxRecDepth 100000 in
theorem sq_X4_standsOut_b11 {r1 : Int32} {T1 : AT} : ∀ n : Nat, ∀ (T : AT) (l0 : Nat) (l1 : Int32) (l2 : Nat) (l3 : Nat) (l4 : Int32), g_X4_standsOut_b11 n T l0 l1 l2 l3 l4 = some (r1, T1) → QF T T1 := by
  intro n
  induction n with
  | zero =>
    intro T l0 l1 l2 l3 l4 h
    have h : (none : Option (Int32 × AT)) = some (r1, T1) := h
    cases h
  | succ n ih =>
    intro T l0 l1 l2 l3 l4 h
    have p0 := QF.rf T
    unfold g_X4_standsOut_b11 at h
    obtain ⟨g2, h⟩ := oif_some h
    obtain ⟨g3, h⟩ := oif_some h
    obtain ⟨v4, -, h⟩ := elet_some h
    rcases oif_or h with ⟨c5, h⟩ | ⟨c5, h⟩
    · have h := h
      rw [← (osome2 h).2]
      exact p0
    · have h := h
      obtain ⟨g6, h⟩ := oif_some h
      obtain ⟨g7, h⟩ := oif_some h
      obtain ⟨v8, -, h⟩ := elet_some h
      exact QF.tr p0 (sq_X4_standsOut_b24 ih _ _ _ _ _ _ _ _ h)
set_option maxHeartbeats 4000000 in
set_option maxRecDepth 100000 in
theorem sq_X4_standsOut {T : AT} {o : Nat} {a0 : Int32} {a1 : Nat} {r1 : Int32} {T1 : AT} (h : g_X4_standsOut T o a0 a1 = some (r1, T1)) : QF T T1 := by
  have p0 := QF.rf T
  unfold g_X4_standsOut at h
  obtain ⟨g2, h⟩ := oif_some h
  obtain ⟨r4, T3, eT3, h⟩ := obind2_some h
  have p1 : QF T T3 := QF.tr p0 (sq_X1_areaAround eT3)
  obtain ⟨g5, h⟩ := oif_some h
  obtain ⟨g6, h⟩ := oif_some h
  obtain ⟨v7, -, h⟩ := elet_some h
  exact QF.tr p1 (sq_X4_standsOut_b11 _ _ _ _ _ _ _ h)

set_option maxHeartbeats 4000000 in
set_option maxRecDepth 100000 in
theorem sq_X10_set_b13 {T1 : AT} : ∀ (T : AT), g_X10_set_b13 T = some T1 → QF T T1 := by
  intro T h
  have p0 := QF.rf T
  unfold g_X10_set_b13 at h
  rw [← osome1 h]
  exact p0
set_option maxHeartbeats 4000000 in
set_option maxRecDepth 100000 in
theorem sq_X10_set {T : AT} {o : Nat} {a0 : Int32} {a1 : Nat} {a2 : Int32} {T1 : AT} (h : g_X10_set T o a0 a1 a2 = some T1) : QF T T1 := by
  have p0 := QF.rf T
  unfold g_X10_set at h
  obtain ⟨g2, h⟩ := oif_some h
  obtain ⟨T3, eT3, h⟩ := obind_some h
  have p1 : QF T T3 := QF.tr p0 ((sq_X10_clear eT3))
  obtain ⟨g5, h⟩ := oif_some h
  obtain ⟨T6, eT6, h⟩ := obind_some h
  have p2 : QF T T6 := QF.tr p1 (sq_X10_add eT6)
  exact QF.tr p2 (sq_X10_set_b13 _ h)
set_option maxHeartbeats 4000000 in
set_option maxRecDepth 100000 in
theorem sq_X4_measure_b148 {T1 : AT} {k89 : AT → Nat → Nat → Int32 → Option (AT)} (hk89 : ∀ (T : AT) (l0 : Nat) (l1 : Nat) (l3 : Int32), k89 T l0 l1 l3 = some T1 → QF T T1) : ∀ (T : AT) (l0 : Nat) (l1 : Nat) (l3 : Int32), g_X4_measure_b148 k89 T l0 l1 l3 = some T1 → QF T T1 := by
  intro T l0 l1 l3 h
  have p0 := QF.rf T
  unfold g_X4_measure_b148 at h
  obtain ⟨v2, ev2, h⟩ := elet_some h
  exact QF.tr p0 (hk89 _ _ _ _ h)
set_option maxHeartbeats 4000000 in
set_option maxRecDepth 100000 in
theorem sq_X4_measure_b138 {T1 : AT} {k89 : AT → Nat → Nat → Int32 → Option (AT)} (hk89 : ∀ (T : AT) (l0 : Nat) (l1 : Nat) (l3 : Int32), k89 T l0 l1 l3 = some T1 → QF T T1) : ∀ (T : AT) (l0 : Nat) (l1 : Nat) (l3 : Int32), g_X4_measure_b138 k89 T l0 l1 l3 = some T1 → QF T T1 := by
  intro T l0 l1 l3 h
  have p0 := QF.rf T
  unfold g_X4_measure_b138 at h
  obtain ⟨g2, h⟩ := oif_some h
  obtain ⟨v3, -, h⟩ := elet_some h
  obtain ⟨v4, -, h⟩ := elet_some h
  obtain ⟨g5, h⟩ := oif_some h
  obtain ⟨T6, eT6, h⟩ := elet_some h
  have p1 : QF T T6 := QF.tr p0 (by rw [eT6]; first | exact qf_uO (oO_k g5).2 (by decide) | exact qf_uA (aA_k g2).2.1 (by decide))
  exact QF.tr p1 (sq_X4_measure_b148 hk89 _ _ _ _ h)
set_option maxHeartbeats 4000000 in
set_option maxRecDepth 100000 in
theorem sq_X4_measure_b89 {T1 : AT} : ∀ n : Nat, ∀ (T : AT) (l0 : Nat) (l1 : Nat) (l3 : Int32), g_X4_measure_b89 n T l0 l1 l3 = some T1 → QF T T1 := by
  intro n
  induction n with
  | zero =>
    intro T l0 l1 l3 h
    have h : (none : Option (AT)) = some T1 := h
    cases h
  | succ n ih =>
    intro T l0 l1 l3 h
    have p0 := QF.rf T
    unfold g_X4_measure_b89 at h
    obtain ⟨g2, h⟩ := oif_some h
    obtain ⟨n3, en3, h⟩ := obind_some h
    obtain ⟨g4, h⟩ := oif_some h
    obtain ⟨r6, T5, eT5, h⟩ := obind2_some h
    have p1 : QF T T5 := QF.tr p0 ((sq_X1_cells eT5))
    rcases oif_or h with ⟨c7, h⟩ | ⟨c7, h⟩
    · have h := h
      rw [← osome1 h]
      exact p1
    · have h := h
      obtain ⟨g8, h⟩ := oif_some h
      obtain ⟨n9, en9, h⟩ := obind_some h
      obtain ⟨g10, h⟩ := oif_some h
      obtain ⟨r12, T11, eT11, h⟩ := obind2_some h
      have p2 : QF T T11 := QF.tr p1 ((sq_X4_standsOut eT11))
      rcases oif_or h with ⟨c13, h⟩ | ⟨c13, h⟩
      · have h := h
        exact QF.tr p2 (sq_X4_measure_b148 ih _ _ _ _ h)
      · have h := h
        obtain ⟨g14, h⟩ := oif_some h
        obtain ⟨n15, en15, h⟩ := obind_some h
        obtain ⟨g16, h⟩ := oif_some h
        obtain ⟨v17, -, h⟩ := elet_some h
        obtain ⟨g18, h⟩ := oif_some h
        obtain ⟨g19, h⟩ := oif_some h
        obtain ⟨T20, eT20, h⟩ := elet_some h
        have p3 : QF T T20 := QF.tr p2 (by rw [eT20]; first | exact qf_uO (oO_k g19).2 (by decide) | exact qf_uA (aA_k g18).2.1 (by decide))
        obtain ⟨g21, h⟩ := oif_some h
        obtain ⟨n22, en22, h⟩ := obind_some h
        obtain ⟨g23, h⟩ := oif_some h
        obtain ⟨v24, -, h⟩ := elet_some h
        obtain ⟨g25, h⟩ := oif_some h
        obtain ⟨n26, en26, h⟩ := obind_some h
        obtain ⟨g27, h⟩ := oif_some h
        obtain ⟨T28, eT28, h⟩ := obind_some h
        have p4 : QF T T28 := QF.tr p3 (sq_X10_set eT28)
        exact QF.tr p4 (sq_X4_measure_b138 ih _ _ _ _ h)
set_option maxHeartbeats 4000000 in
set_option maxRecDepth 100000 in
theorem sq_X4_measure_b53 {T1 : AT} {k16 : AT → Nat → Nat → Nat → Int32 → Option (AT)} (hk16 : ∀ (T : AT) (l0 : Nat) (l1 : Nat) (l2 : Nat) (l3 : Int32), k16 T l0 l1 l2 l3 = some T1 → QF T T1) : ∀ (T : AT) (l0 : Nat) (l1 : Nat) (l2 : Nat) (l3 : Int32), g_X4_measure_b53 k16 T l0 l1 l2 l3 = some T1 → QF T T1 := by
  intro T l0 l1 l2 l3 h
  have p0 := QF.rf T
  unfold g_X4_measure_b53 at h
  obtain ⟨v2, ev2, h⟩ := elet_some h
  exact QF.tr p0 (hk16 _ _ _ _ _ h)
set_option maxHeartbeats 4000000 in
set_option maxRecDepth 100000 in
theorem sq_X4_measure_b16 {T1 : AT} : ∀ n : Nat, ∀ (T : AT) (l0 : Nat) (l1 : Nat) (l2 : Nat) (l3 : Int32), g_X4_measure_b16 n T l0 l1 l2 l3 = some T1 → QF T T1 := by
  intro n
  induction n with
  | zero =>
    intro T l0 l1 l2 l3 h
    have h : (none : Option (AT)) = some T1 := h
    cases h
  | succ n ih =>
    intro T l0 l1 l2 l3 h
    have p0 := QF.rf T
    unfold g_X4_measure_b16 at h
    obtain ⟨g2, h⟩ := oif_some h
    obtain ⟨n3, en3, h⟩ := obind_some h
    obtain ⟨g4, h⟩ := oif_some h
    obtain ⟨r6, T5, eT5, h⟩ := obind2_some h
    have p1 : QF T T5 := QF.tr p0 ((sq_X1_cells eT5))
    rcases oif_or h with ⟨c7, h⟩ | ⟨c7, h⟩
    · have h := h
      obtain ⟨g8, h⟩ := oif_some h
      obtain ⟨n9, en9, h⟩ := obind_some h
      obtain ⟨g10, h⟩ := oif_some h
      obtain ⟨n11, en11, h⟩ := obind_some h
      obtain ⟨g12, h⟩ := oif_some h
      obtain ⟨n13, en13, h⟩ := obind_some h
      obtain ⟨g14, h⟩ := oif_some h
      obtain ⟨n15, en15, h⟩ := obind_some h
      obtain ⟨g16, h⟩ := oif_some h
      obtain ⟨r18, T17, eT17, h⟩ := obind2_some h
      have p2 : QF T T17 := QF.tr p1 ((sq_X1_bestIn eT17))
      obtain ⟨g19, h⟩ := oif_some h
      obtain ⟨T20, eT20, h⟩ := elet_some h
      have p3 : QF T T20 := QF.tr p2 (by rw [eT20]; first | exact qf_uO (oO_k g19).2 (by decide) | exact qf_uA (aA_k g16).2.1 (by decide))
      obtain ⟨g21, h⟩ := oif_some h
      obtain ⟨T22, eT22, h⟩ := elet_some h
      have p4 : QF T T22 := QF.tr p3 (by rw [eT22]; first | exact qf_uO (oO_k g21).2 (by decide) | exact qf_uA (aA_k g19).2.1 (by decide))
      exact QF.tr p4 (sq_X4_measure_b89 _ _ _ _ _ h)
    · have h := h
      obtain ⟨g23, h⟩ := oif_some h
      obtain ⟨n24, en24, h⟩ := obind_some h
      obtain ⟨g25, h⟩ := oif_some h
      obtain ⟨g26, h⟩ := oif_some h
      obtain ⟨n27, en27, h⟩ := obind_some h
      obtain ⟨g28, h⟩ := oif_some h
      obtain ⟨r30, T29, eT29, h⟩ := obind2_some h
      have p2 : QF T T29 := QF.tr p1 ((sq_X8_windowOf eT29))
      obtain ⟨g31, h⟩ := oif_some h
      obtain ⟨n32, en32, h⟩ := obind_some h
      obtain ⟨g33, h⟩ := oif_some h
      obtain ⟨T34, eT34, h⟩ := obind_some h
      have p3 : QF T T34 := QF.tr p2 (sq_X8_blockPowerOf eT34)
      exact QF.tr p3 (sq_X4_measure_b53 ih _ _ _ _ _ h)
set_option maxHeartbeats 4000000 in
set_option maxRecDepth 100000 in
theorem sq_X4_measure {T : AT} {o : Nat} {a0 : Nat} {a1 : Nat} {T1 : AT} (h : g_X4_measure T o a0 a1 = some T1) : QF T T1 := by
  have p0 := QF.rf T
  unfold g_X4_measure at h
  obtain ⟨g2, h⟩ := oif_some h
  obtain ⟨n3, en3, h⟩ := obind_some h
  obtain ⟨g4, h⟩ := oif_some h
  obtain ⟨T5, eT5, h⟩ := obind_some h
  have p1 : QF T T5 := QF.tr p0 ((sq_X10_narrow eT5))
  obtain ⟨g7, h⟩ := oif_some h
  obtain ⟨n8, en8, h⟩ := obind_some h
  obtain ⟨g9, h⟩ := oif_some h
  obtain ⟨T10, eT10, h⟩ := obind_some h
  have p2 : QF T T10 := QF.tr p1 ((sq_X10_narrow eT10))
  exact QF.tr p2 (sq_X4_measure_b16 _ _ _ _ _ _ h)
set_option maxHeartbeats 4000000 in
set_option maxRecDepth 100000 in
theorem sq_X4_second_b36 {r1 : Int32} {T1 : AT} {k4 : AT → Nat → Int32 → Int32 → Int32 → Option (Int32 × AT)} (hk4 : ∀ (T : AT) (l0 : Nat) (l1 : Int32) (l2 : Int32) (l3 : Int32), k4 T l0 l1 l2 l3 = some (r1, T1) → QF T T1) : ∀ (T : AT) (l0 : Nat) (l1 : Int32) (l2 : Int32) (l3 : Int32), g_X4_second_b36 k4 T l0 l1 l2 l3 = some (r1, T1) → QF T T1 := by
  intro T l0 l1 l2 l3 h
  have p0 := QF.rf T
  unfold g_X4_second_b36 at h
  obtain ⟨v2, ev2, h⟩ := elet_some h
  exact QF.tr p0 (hk4 _ _ _ _ _ h)
set_option maxHeartbeats 4000000 in
set_option maxRecDepth 100000 in
theorem sq_X4_second_b34 {r1 : Int32} {T1 : AT} {k4 : AT → Nat → Int32 → Int32 → Int32 → Option (Int32 × AT)} (hk4 : ∀ (T : AT) (l0 : Nat) (l1 : Int32) (l2 : Int32) (l3 : Int32), k4 T l0 l1 l2 l3 = some (r1, T1) → QF T T1) : ∀ (T : AT) (l0 : Nat) (l1 : Int32) (l3 : Int32), g_X4_second_b34 k4 T l0 l1 l3 = some (r1, T1) → QF T T1 := by
  intro T l0 l1 l3 h
  have p0 := QF.rf T
  unfold g_X4_second_b34 at h
  exact QF.tr p0 (sq_X4_second_b36 hk4 _ _ _ _ _ h)
set_option maxHeartbeats 4000000 in
set_option maxRecDepth 100000 in
theorem sq_X4_second_b4 {r1 : Int32} {T1 : AT} : ∀ n : Nat, ∀ (T : AT) (l0 : Nat) (l1 : Int32) (l2 : Int32) (l3 : Int32), g_X4_second_b4 n T l0 l1 l2 l3 = some (r1, T1) → QF T T1 := by
  intro n
  induction n with
  | zero =>
    intro T l0 l1 l2 l3 h
    have h : (none : Option (Int32 × AT)) = some (r1, T1) := h
    cases h
  | succ n ih =>
    intro T l0 l1 l2 l3 h
    have p0 := QF.rf T
    unfold g_X4_second_b4 at h
    rcases oif_or h with ⟨c2, h⟩ | ⟨c2, h⟩
    · have h := h
      rw [← (osome2 h).2]
      exact p0
    · have h := h
      obtain ⟨g3, h⟩ := oif_some h
      obtain ⟨v4, -, h⟩ := elet_some h
      rcases oif_or h with ⟨c5, h⟩ | ⟨c5, h⟩
      · have h := h
        exact QF.tr p0 (sq_X4_second_b36 ih _ _ _ _ _ h)
      · have h := h
        rcases oif_or h with ⟨c6, h⟩ | ⟨c6, h⟩
        · have h := h
          exact QF.tr p0 (sq_X4_second_b34 ih _ _ _ _ h)
        · have h := h
          obtain ⟨g7, h⟩ := oif_some h
          obtain ⟨n8, en8, h⟩ := obind_some h
          obtain ⟨g9, h⟩ := oif_some h
          obtain ⟨r11, T10, eT10, h⟩ := obind2_some h
          have p1 : QF T T10 := QF.tr p0 (sq_X10_compare eT10)
          rcases oif_or h with ⟨c12, h⟩ | ⟨c12, h⟩
          · have h := h
            exact QF.tr p1 (sq_X4_second_b36 ih _ _ _ _ _ h)
          · have h := h
            exact QF.tr p1 (sq_X4_second_b34 ih _ _ _ _ h)
set_option maxHeartbeats 4000000 in
set_option maxRecDepth 100000 in
theorem sq_X4_second {T : AT} {o : Nat} {a0 : Int32} {r1 : Int32} {T1 : AT} (h : g_X4_second T o a0 = some (r1, T1)) : QF T T1 := by
  have p0 := QF.rf T
  unfold g_X4_second at h
  exact QF.tr p0 (sq_X4_second_b4 _ _ _ _ _ _ h)
set_option maxHeartbeats 4000000 in
set_option maxRecDepth 100000 in
theorem sq_X4_sumIn_b53 {T1 : AT} {k11 : AT → Nat → Nat → Nat → Nat → Int32 → Int32 → Option (AT)} {k24 : AT → Nat → Nat → Nat → Nat → Int32 → Int32 → Int32 → Option (AT)} (hk11 : ∀ (T : AT) (l0 : Nat) (l1 : Nat) (l2 : Nat) (l3 : Nat) (l4 : Int32) (l5 : Int32), k11 T l0 l1 l2 l3 l4 l5 = some T1 → QF T T1) (hk24 : ∀ (T : AT) (l0 : Nat) (l1 : Nat) (l2 : Nat) (l3 : Nat) (l4 : Int32) (l5 : Int32) (l6 : Int32), k24 T l0 l1 l2 l3 l4 l5 l6 = some T1 → QF T T1) : ∀ (T : AT) (l0 : Nat) (l1 : Nat) (l2 : Nat) (l3 : Nat) (l4 : Int32) (l5 : Int32) (l6 : Int32), g_X4_sumIn_b53 k11 k24 T l0 l1 l2 l3 l4 l5 l6 = some T1 → QF T T1 := by
  intro T l0 l1 l2 l3 l4 l5 l6 h
  have p0 := QF.rf T
  unfold g_X4_sumIn_b53 at h
  obtain ⟨v2, ev2, h⟩ := elet_some h
  exact QF.tr p0 (hk24 _ _ _ _ _ _ _ _ h)
set_option maxHeartbeats 4000000 in
set_option maxRecDepth 100000 in
theorem sq_X4_sumIn_b24 {T1 : AT} {k11 : AT → Nat → Nat → Nat → Nat → Int32 → Int32 → Option (AT)} (hk11 : ∀ (T : AT) (l0 : Nat) (l1 : Nat) (l2 : Nat) (l3 : Nat) (l4 : Int32) (l5 : Int32), k11 T l0 l1 l2 l3 l4 l5 = some T1 → QF T T1) : ∀ n : Nat, ∀ (T : AT) (l0 : Nat) (l1 : Nat) (l2 : Nat) (l3 : Nat) (l4 : Int32) (l5 : Int32) (l6 : Int32), g_X4_sumIn_b24 k11 n T l0 l1 l2 l3 l4 l5 l6 = some T1 → QF T T1 := by
  intro n
  induction n with
  | zero =>
    intro T l0 l1 l2 l3 l4 l5 l6 h
    have h : (none : Option (AT)) = some T1 := h
    cases h
  | succ n ih =>
    intro T l0 l1 l2 l3 l4 l5 l6 h
    have p0 := QF.rf T
    unfold g_X4_sumIn_b24 at h
    obtain ⟨g2, h⟩ := oif_some h
    obtain ⟨g3, h⟩ := oif_some h
    obtain ⟨v4, -, h⟩ := elet_some h
    rcases oif_or h with ⟨c5, h⟩ | ⟨c5, h⟩
    · have h := h
      obtain ⟨v6, ev6, h⟩ := elet_some h
      exact QF.tr p0 (hk11 _ _ _ _ _ _ _ h)
    · have h := h
      obtain ⟨g7, h⟩ := oif_some h
      obtain ⟨n8, en8, h⟩ := obind_some h
      obtain ⟨g9, h⟩ := oif_some h
      obtain ⟨v10, -, h⟩ := elet_some h
      obtain ⟨v11, -, h⟩ := elet_some h
      obtain ⟨v12, -, h⟩ := elet_some h
      obtain ⟨g13, h⟩ := oif_some h
      obtain ⟨T14, eT14, h⟩ := obind_some h
      have p1 : QF T T14 := QF.tr p0 (sq_X10_add eT14)
      exact QF.tr p1 (sq_X4_sumIn_b53 hk11 ih _ _ _ _ _ _ _ _ h)
set_option maxHeartbeats 4000000 in
set_option maxRecDepth 100000 in
theorem sq_X4_sumIn_b11 {T1 : AT} : ∀ n : Nat, ∀ (T : AT) (l0 : Nat) (l1 : Nat) (l2 : Nat) (l3 : Nat) (l4 : Int32) (l5 : Int32), g_X4_sumIn_b11 n T l0 l1 l2 l3 l4 l5 = some T1 → QF T T1 := by
  intro n
  induction n with
  | zero =>
    intro T l0 l1 l2 l3 l4 l5 h
    have h : (none : Option (AT)) = some T1 := h
    cases h
  | succ n ih =>
    intro T l0 l1 l2 l3 l4 l5 h
    have p0 := QF.rf T
    unfold g_X4_sumIn_b11 at h
    obtain ⟨g2, h⟩ := oif_some h
    obtain ⟨g3, h⟩ := oif_some h
    obtain ⟨v4, -, h⟩ := elet_some h
    rcases oif_or h with ⟨c5, h⟩ | ⟨c5, h⟩
    · have h := h
      rw [← osome1 h]
      exact p0
    · have h := h
      obtain ⟨g6, h⟩ := oif_some h
      obtain ⟨g7, h⟩ := oif_some h
      obtain ⟨v8, -, h⟩ := elet_some h
      exact QF.tr p0 (sq_X4_sumIn_b24 ih _ _ _ _ _ _ _ _ _ h)
set_option maxHeartbeats 4000000 in
set_option maxRecDepth 100000 in
theorem sq_X4_sumIn {T : AT} {o : Nat} {a0 : Nat} {a1 : Nat} {a2 : Nat} {a3 : Int32} {T1 : AT} (h : g_X4_sumIn T o a0 a1 a2 a3 = some T1) : QF T T1 := by
  have p0 := QF.rf T
  unfold g_X4_sumIn at h
  obtain ⟨g2, h⟩ := oif_some h
  obtain ⟨T3, eT3, h⟩ := obind_some h
  have p1 : QF T T3 := QF.tr p0 ((sq_X10_clear eT3))
  obtain ⟨g5, h⟩ := oif_some h
  obtain ⟨g6, h⟩ := oif_some h
  obtain ⟨v7, -, h⟩ := elet_some h
  exact QF.tr p1 (sq_X4_sumIn_b11 _ _ _ _ _ _ _ _ h)
set_option maxHeartbeats 4000000 in
set_option maxRecDepth 100000 in
theorem sq_X10_ranked_b47 {r1 : Int32} {T1 : AT} {k2 : AT → Nat → Int32 → Int32 → Int32 → Option (Int32 × AT)} {k13 : AT → Nat → Int32 → Int32 → Int32 → Int32 → Int32 → Option (Int32 × AT)} (hk2 : ∀ (T : AT) (l0 : Nat) (l1 : Int32) (l2 : Int32) (l3 : Int32), k2 T l0 l1 l2 l3 = some (r1, T1) → QF T T1) (hk13 : ∀ (T : AT) (l0 : Nat) (l1 : Int32) (l2 : Int32) (l3 : Int32) (l4 : Int32) (l5 : Int32), k13 T l0 l1 l2 l3 l4 l5 = some (r1, T1) → QF T T1) : ∀ (T : AT) (l0 : Nat) (l1 : Int32) (l2 : Int32) (l3 : Int32) (l4 : Int32) (l5 : Int32), g_X10_ranked_b47 k2 k13 T l0 l1 l2 l3 l4 l5 = some (r1, T1) → QF T T1 := by
  intro T l0 l1 l2 l3 l4 l5 h
  have p0 := QF.rf T
  unfold g_X10_ranked_b47 at h
  obtain ⟨v2, ev2, h⟩ := elet_some h
  exact QF.tr p0 (hk13 _ _ _ _ _ _ _ h)
set_option maxHeartbeats 4000000 in
set_option maxRecDepth 100000 in
theorem sq_X10_ranked_b44 {r1 : Int32} {T1 : AT} {k2 : AT → Nat → Int32 → Int32 → Int32 → Option (Int32 × AT)} {k13 : AT → Nat → Int32 → Int32 → Int32 → Int32 → Int32 → Option (Int32 × AT)} (hk2 : ∀ (T : AT) (l0 : Nat) (l1 : Int32) (l2 : Int32) (l3 : Int32), k2 T l0 l1 l2 l3 = some (r1, T1) → QF T T1) (hk13 : ∀ (T : AT) (l0 : Nat) (l1 : Int32) (l2 : Int32) (l3 : Int32) (l4 : Int32) (l5 : Int32), k13 T l0 l1 l2 l3 l4 l5 = some (r1, T1) → QF T T1) : ∀ (T : AT) (l0 : Nat) (l1 : Int32) (l2 : Int32) (l3 : Int32) (l4 : Int32) (l5 : Int32), g_X10_ranked_b44 k2 k13 T l0 l1 l2 l3 l4 l5 = some (r1, T1) → QF T T1 := by
  intro T l0 l1 l2 l3 l4 l5 h
  have p0 := QF.rf T
  unfold g_X10_ranked_b44 at h
  obtain ⟨v2, ev2, h⟩ := elet_some h
  exact QF.tr p0 (sq_X10_ranked_b47 hk2 hk13 _ _ _ _ _ _ _ h)
set_option maxHeartbeats 4000000 in
set_option maxRecDepth 100000 in
theorem sq_X10_ranked_b13 {r1 : Int32} {T1 : AT} {k2 : AT → Nat → Int32 → Int32 → Int32 → Option (Int32 × AT)} (hk2 : ∀ (T : AT) (l0 : Nat) (l1 : Int32) (l2 : Int32) (l3 : Int32), k2 T l0 l1 l2 l3 = some (r1, T1) → QF T T1) : ∀ n : Nat, ∀ (T : AT) (l0 : Nat) (l1 : Int32) (l2 : Int32) (l3 : Int32) (l4 : Int32) (l5 : Int32), g_X10_ranked_b13 k2 n T l0 l1 l2 l3 l4 l5 = some (r1, T1) → QF T T1 := by
  intro n
  induction n with
  | zero =>
    intro T l0 l1 l2 l3 l4 l5 h
    have h : (none : Option (Int32 × AT)) = some (r1, T1) := h
    cases h
  | succ n ih =>
    intro T l0 l1 l2 l3 l4 l5 h
    have p0 := QF.rf T
    unfold g_X10_ranked_b13 at h
    rcases oif_or h with ⟨c2, h⟩ | ⟨c2, h⟩
    · have h := h
      rcases oif_or h with ⟨c3, h⟩ | ⟨c3, h⟩
      · have h := h
        rw [← (osome2 h).2]
        exact p0
      · have h := h
        obtain ⟨v4, ev4, h⟩ := elet_some h
        exact QF.tr p0 (hk2 _ _ _ _ _ h)
    · have h := h
      obtain ⟨g5, h⟩ := oif_some h
      obtain ⟨r7, T6, eT6, h⟩ := obind2_some h
      have p1 : QF T T6 := QF.tr p0 (sq_X10_compare eT6)
      rcases oif_or h with ⟨c8, h⟩ | ⟨c8, h⟩
      · have h := h
        exact QF.tr p1 (sq_X10_ranked_b44 hk2 ih _ _ _ _ _ _ _ h)
      · have h := h
        rcases oif_or h with ⟨c9, h⟩ | ⟨c9, h⟩
        · have h := h
          rcases oif_or h with ⟨c10, h⟩ | ⟨c10, h⟩
          · have h := h
            exact QF.tr p1 (sq_X10_ranked_b47 hk2 ih _ _ _ _ _ _ _ h)
          · have h := h
            exact QF.tr p1 (sq_X10_ranked_b44 hk2 ih _ _ _ _ _ _ _ h)
        · have h := h
          exact QF.tr p1 (sq_X10_ranked_b47 hk2 ih _ _ _ _ _ _ _ h)
set_option maxHeartbeats 4000000 in
set_option maxRecDepth 100000 in
theorem sq_X10_ranked_b2 {r1 : Int32} {T1 : AT} : ∀ n : Nat, ∀ (T : AT) (l0 : Nat) (l1 : Int32) (l2 : Int32) (l3 : Int32), g_X10_ranked_b2 n T l0 l1 l2 l3 = some (r1, T1) → QF T T1 := by
  intro n
  induction n with
  | zero =>
    intro T l0 l1 l2 l3 h
    have h : (none : Option (Int32 × AT)) = some (r1, T1) := h
    cases h
  | succ n ih =>
    intro T l0 l1 l2 l3 h
    have p0 := QF.rf T
    unfold g_X10_ranked_b2 at h
    rcases oif_or h with ⟨c2, h⟩ | ⟨c2, h⟩
    · have h := h
      rw [← (osome2 h).2]
      exact p0
    · have h := h
      exact QF.tr p0 (sq_X10_ranked_b13 ih _ _ _ _ _ _ _ _ h)
set_option maxHeartbeats 4000000 in
set_option maxRecDepth 100000 in
theorem sq_X10_ranked {T : AT} {o : Nat} {a0 : Int32} {a1 : Int32} {r1 : Int32} {T1 : AT} (h : g_X10_ranked T o a0 a1 = some (r1, T1)) : QF T T1 := by
  have p0 := QF.rf T
  unfold g_X10_ranked at h
  exact QF.tr p0 (sq_X10_ranked_b2 _ _ _ _ _ _ h)
set_option maxHeartbeats 4000000 in
set_option maxRecDepth 100000 in
theorem sq_X4_peakRanked_b28 {r1 : Int32} {T1 : AT} : ∀ (T : AT) (s0 : Int32), g_X4_peakRanked_b28 T s0 = some (r1, T1) → QF T T1 := by
  intro T s0 h
  have p0 := QF.rf T
  unfold g_X4_peakRanked_b28 at h
  rw [← (osome2 h).2]
  exact p0
set_option maxHeartbeats 4000000 in
set_option maxRecDepth 100000 in
theorem sq_X4_peakRanked {T : AT} {o : Nat} {a0 : Int32} {r1 : Int32} {T1 : AT} (h : g_X4_peakRanked T o a0 = some (r1, T1)) : QF T T1 := by
  have p0 := QF.rf T
  unfold g_X4_peakRanked at h
  obtain ⟨g2, h⟩ := oif_some h
  obtain ⟨n3, en3, h⟩ := obind_some h
  obtain ⟨g4, h⟩ := oif_some h
  obtain ⟨v5, -, h⟩ := elet_some h
  obtain ⟨g6, h⟩ := oif_some h
  obtain ⟨r8, T7, eT7, h⟩ := obind2_some h
  have p1 : QF T T7 := QF.tr p0 (sq_X10_ranked eT7)
  rcases oif_or h with ⟨c9, h⟩ | ⟨c9, h⟩
  · have h := h
    exact QF.tr p1 (sq_X4_peakRanked_b28 _ _ h)
  · have h := h
    obtain ⟨g10, h⟩ := oif_some h
    obtain ⟨n11, en11, h⟩ := obind_some h
    obtain ⟨g12, h⟩ := oif_some h
    obtain ⟨g13, h⟩ := oif_some h
    obtain ⟨v14, -, h⟩ := elet_some h
    exact QF.tr p1 (sq_X4_peakRanked_b28 _ _ h)
set_option maxHeartbeats 4000000 in
set_option maxRecDepth 100000 in
theorem sq_X10_isZero_b43 {r1 : Int32} {T1 : AT} : ∀ (T : AT) (s0 : Int32), g_X10_isZero_b43 T s0 = some (r1, T1) → QF T T1 := by
  intro T s0 h
  have p0 := QF.rf T
  unfold g_X10_isZero_b43 at h
  obtain ⟨gz, h⟩ := oif_some h
  rw [← (osome2 h).2]
  exact p0
set_option maxHeartbeats 4000000 in
set_option maxRecDepth 100000 in
theorem sq_X10_isZero_b5 {r1 : Int32} {T1 : AT} : ∀ n : Nat, ∀ (T : AT) (l0 : Nat) (l1 : Int32) (l2 : Int64) (l4 : Int32), g_X10_isZero_b5 n T l0 l1 l2 l4 = some (r1, T1) → QF T T1 := by
  intro n
  induction n with
  | zero =>
    intro T l0 l1 l2 l4 h
    have h : (none : Option (Int32 × AT)) = some (r1, T1) := h
    cases h
  | succ n ih =>
    intro T l0 l1 l2 l4 h
    have p0 := QF.rf T
    unfold g_X10_isZero_b5 at h
    obtain ⟨g2, h⟩ := oif_some h
    obtain ⟨v3, -, h⟩ := elet_some h
    rcases oif_or h with ⟨c4, h⟩ | ⟨c4, h⟩
    · have h := h
      obtain ⟨v5, -, h⟩ := elet_some h
      rcases oif_or h with ⟨c6, h⟩ | ⟨c6, h⟩
      · have h := h
        exact QF.tr p0 (sq_X10_isZero_b43 _ _ h)
      · have h := h
        exact QF.tr p0 (sq_X10_isZero_b43 _ _ h)
    · have h := h
      obtain ⟨g7, h⟩ := oif_some h
      obtain ⟨n8, en8, h⟩ := obind_some h
      obtain ⟨g9, h⟩ := oif_some h
      obtain ⟨g10, h⟩ := oif_some h
      obtain ⟨n11, en11, h⟩ := obind_some h
      obtain ⟨g12, h⟩ := oif_some h
      obtain ⟨g13, h⟩ := oif_some h
      obtain ⟨v14, -, h⟩ := elet_some h
      obtain ⟨v15, -, h⟩ := elet_some h
      obtain ⟨v16, ev16, h⟩ := elet_some h
      exact QF.tr p0 (ih _ _ _ _ _ h)
set_option maxHeartbeats 4000000 in
set_option maxRecDepth 100000 in
theorem sq_X10_isZero {T : AT} {o : Nat} {a0 : Int32} {r1 : Int32} {T1 : AT} (h : g_X10_isZero T o a0 = some (r1, T1)) : QF T T1 := by
  have p0 := QF.rf T
  unfold g_X10_isZero at h
  exact QF.tr p0 (sq_X10_isZero_b5 _ _ _ _ _ _ h)
set_option maxHeartbeats 4000000 in
set_option maxRecDepth 100000 in
theorem sq_X4_digit_b84 {r1 : Int32} {T1 : AT} : ∀ (T : AT) (l3 : Int32), g_X4_digit_b84 T l3 = some (r1, T1) → QF T T1 := by
  intro T l3 h
  have p0 := QF.rf T
  unfold g_X4_digit_b84 at h
  rw [← (osome2 h).2]
  exact p0
set_option maxHeartbeats 4000000 in
set_option maxRecDepth 100000 in
theorem sq_X4_digit_b77 {r1 : Int32} {T1 : AT} {k27 : AT → Nat → Nat → Int32 → Int32 → Option (Int32 × AT)} (hk27 : ∀ (T : AT) (l0 : Nat) (l2 : Nat) (l3 : Int32) (l4 : Int32), k27 T l0 l2 l3 l4 = some (r1, T1) → QF T T1) : ∀ (T : AT) (s0 : Int32) (l0 : Nat) (l2 : Nat) (l4 : Int32), g_X4_digit_b77 k27 T s0 l0 l2 l4 = some (r1, T1) → QF T T1 := by
  intro T s0 l0 l2 l4 h
  have p0 := QF.rf T
  unfold g_X4_digit_b77 at h
  obtain ⟨v2, ev2, h⟩ := elet_some h
  exact QF.tr p0 (hk27 _ _ _ _ _ h)
set_option maxHeartbeats 4000000 in
set_option maxRecDepth 100000 in
theorem sq_X4_digit_b62 {r1 : Int32} {T1 : AT} {k27 : AT → Nat → Nat → Int32 → Int32 → Option (Int32 × AT)} (hk27 : ∀ (T : AT) (l0 : Nat) (l2 : Nat) (l3 : Int32) (l4 : Int32), k27 T l0 l2 l3 l4 = some (r1, T1) → QF T T1) : ∀ (T : AT) (l0 : Nat) (l2 : Nat) (l3 : Int32) (l4 : Int32), g_X4_digit_b62 k27 T l0 l2 l3 l4 = some (r1, T1) → QF T T1 := by
  intro T l0 l2 l3 l4 h
  have p0 := QF.rf T
  unfold g_X4_digit_b62 at h
  obtain ⟨g2, h⟩ := oif_some h
  obtain ⟨r4, T3, eT3, h⟩ := obind2_some h
  have p1 : QF T T3 := QF.tr p0 ((sq_X10_compare eT3))
  rcases oif_or h with ⟨c5, h⟩ | ⟨c5, h⟩
  · have h := h
    exact QF.tr p1 (sq_X4_digit_b77 hk27 _ _ _ _ _ h)
  · have h := h
    exact QF.tr p1 (sq_X4_digit_b77 hk27 _ _ _ _ _ h)
set_option maxHeartbeats 4000000 in
set_option maxRecDepth 100000 in
theorem sq_X4_digit_b27 {r1 : Int32} {T1 : AT} : ∀ n : Nat, ∀ (T : AT) (l0 : Nat) (l2 : Nat) (l3 : Int32) (l4 : Int32), g_X4_digit_b27 n T l0 l2 l3 l4 = some (r1, T1) → QF T T1 := by
  intro n
  induction n with
  | zero =>
    intro T l0 l2 l3 l4 h
    have h : (none : Option (Int32 × AT)) = some (r1, T1) := h
    cases h
  | succ n ih =>
    intro T l0 l2 l3 l4 h
    have p0 := QF.rf T
    unfold g_X4_digit_b27 at h
    rcases oif_or h with ⟨c2, h⟩ | ⟨c2, h⟩
    · have h := h
      exact QF.tr p0 (sq_X4_digit_b84 _ _ h)
    · have h := h
      obtain ⟨g3, h⟩ := oif_some h
      obtain ⟨n4, en4, h⟩ := obind_some h
      obtain ⟨g5, h⟩ := oif_some h
      obtain ⟨v6, -, h⟩ := elet_some h
      obtain ⟨g7, h⟩ := oif_some h
      obtain ⟨r9, T8, eT8, h⟩ := obind2_some h
      have p1 : QF T T8 := QF.tr p0 ((sq_X10_isZero eT8))
      rcases oif_or h with ⟨c10, h⟩ | ⟨c10, h⟩
      · have h := h
        obtain ⟨g11, h⟩ := oif_some h
        obtain ⟨n12, en12, h⟩ := obind_some h
        obtain ⟨g13, h⟩ := oif_some h
        obtain ⟨v14, -, h⟩ := elet_some h
        obtain ⟨g15, h⟩ := oif_some h
        obtain ⟨T16, eT16, h⟩ := obind_some h
        have p2 : QF T T16 := QF.tr p1 (sq_X10_add eT16)
        exact QF.tr p2 (sq_X4_digit_b62 ih _ _ _ _ _ h)
      · have h := h
        exact QF.tr p1 (sq_X4_digit_b84 _ _ h)
set_option maxHeartbeats 4000000 in
set_option maxRecDepth 100000 in
theorem sq_X4_digit_b22 {r1 : Int32} {T1 : AT} : ∀ (T : AT) (l0 : Nat) (l2 : Nat), g_X4_digit_b22 T l0 l2 = some (r1, T1) → QF T T1 := by
  intro T l0 l2 h
  have p0 := QF.rf T
  unfold g_X4_digit_b22 at h
  exact QF.tr p0 (sq_X4_digit_b27 _ _ _ _ _ _ h)
set_option maxHeartbeats 4000000 in
set_option maxRecDepth 100000 in
theorem sq_X4_digit {T : AT} {o : Nat} {a0 : Int32} {a1 : Nat} {r1 : Int32} {T1 : AT} (h : g_X4_digit T o a0 a1 = some (r1, T1)) : QF T T1 := by
  have p0 := QF.rf T
  unfold g_X4_digit at h
  obtain ⟨g2, h⟩ := oif_some h
  obtain ⟨T3, eT3, h⟩ := obind_some h
  have p1 : QF T T3 := QF.tr p0 ((sq_X10_clear eT3))
  obtain ⟨g5, h⟩ := oif_some h
  obtain ⟨T6, eT6, h⟩ := obind_some h
  have p2 : QF T T6 := QF.tr p1 ((sq_X10_clear eT6))
  obtain ⟨g8, h⟩ := oif_some h
  obtain ⟨n9, en9, h⟩ := obind_some h
  obtain ⟨g10, h⟩ := oif_some h
  obtain ⟨T11, eT11, h⟩ := obind_some h
  have p3 : QF T T11 := QF.tr p2 (sq_X10_add eT11)
  exact QF.tr p3 (sq_X4_digit_b22 _ _ _ h)
set_option maxHeartbeats 4000000 in
set_option maxRecDepth 100000 in
theorem sq_J7_fill_53178_b5 {T1 : AT} : ∀ n : Nat, ∀ (T : AT) (l0 : Nat) (l1 : Int32) (l2 : Int32) (l3 : Int32), g_J7_fill_53178_b5 n T l0 l1 l2 l3 = some T1 → QF T T1 := by
  intro n
  induction n with
  | zero =>
    intro T l0 l1 l2 l3 h
    have h : (none : Option (AT)) = some T1 := h
    cases h
  | succ n ih =>
    intro T l0 l1 l2 l3 h
    have p0 := QF.rf T
    unfold g_J7_fill_53178_b5 at h
    rcases oif_or h with ⟨c2, h⟩ | ⟨c2, h⟩
    · have h := h
      rw [← osome1 h]
      exact p0
    · have h := h
      obtain ⟨g3, h⟩ := oif_some h
      obtain ⟨g4, h⟩ := oif_some h
      obtain ⟨T5, eT5, h⟩ := elet_some h
      have p1 : QF T T5 := QF.tr p0 (by rw [eT5]; first | exact qf_uO (oO_k g4).2 (by decide) | exact qf_uA (aA_k g3).2.1 (by decide))
      obtain ⟨v6, ev6, h⟩ := elet_some h
      exact QF.tr p1 (ih _ _ _ _ _ h)
set_option maxHeartbeats 4000000 in
set_option maxRecDepth 100000 in
theorem sq_J7_fill_53178 {T : AT} {a0 : Nat} {a1 : Int32} {T1 : AT} (h : g_J7_fill_53178 T a0 a1 = some T1) : QF T T1 := by
  have p0 := QF.rf T
  unfold g_J7_fill_53178 at h
  obtain ⟨g2, h⟩ := oif_some h
  obtain ⟨v3, -, h⟩ := elet_some h
  exact QF.tr p0 (sq_J7_fill_53178_b5 _ _ _ _ _ _ h)
set_option maxHeartbeats 4000000 in
set_option maxRecDepth 100000 in
theorem sq_X5_silence_b2 {T1 : AT} : ∀ n : Nat, ∀ (T : AT) (l0 : Nat) (l1 : Int32), g_X5_silence_b2 n T l0 l1 = some T1 → QF T T1 := by
  intro n
  induction n with
  | zero =>
    intro T l0 l1 h
    have h : (none : Option (AT)) = some T1 := h
    cases h
  | succ n ih =>
    intro T l0 l1 h
    have p0 := QF.rf T
    unfold g_X5_silence_b2 at h
    rcases oif_or h with ⟨c2, h⟩ | ⟨c2, h⟩
    · have h := h
      rw [← osome1 h]
      exact p0
    · have h := h
      obtain ⟨g3, h⟩ := oif_some h
      obtain ⟨n4, en4, h⟩ := obind_some h
      obtain ⟨g5, h⟩ := oif_some h
      obtain ⟨g6, h⟩ := oif_some h
      obtain ⟨n7, en7, h⟩ := obind_some h
      obtain ⟨T8, eT8, h⟩ := obind_some h
      have p1 : QF T T8 := QF.tr p0 (sq_J7_fill_53178 eT8)
      obtain ⟨v10, ev10, h⟩ := elet_some h
      exact QF.tr p1 (ih _ _ _ h)
set_option maxHeartbeats 4000000 in
set_option maxRecDepth 100000 in
theorem sq_X5_silence {T : AT} {o : Nat} {T1 : AT} (h : g_X5_silence T o = some T1) : QF T T1 := by
  have p0 := QF.rf T
  unfold g_X5_silence at h
  exact QF.tr p0 (sq_X5_silence_b2 _ _ _ _ h)
set_option maxHeartbeats 4000000 in
set_option maxRecDepth 100000 in
theorem sq_X5_raw_b49 {r1 : Int32} {T1 : AT} : ∀ (T : AT) (s0 : Int32), g_X5_raw_b49 T s0 = some (r1, T1) → QF T T1 := by
  intro T s0 h
  have p0 := QF.rf T
  unfold g_X5_raw_b49 at h
  rw [← (osome2 h).2]
  exact p0
set_option maxHeartbeats 4000000 in
set_option maxRecDepth 100000 in
theorem sq_X5_raw_b48 {r1 : Int32} {T1 : AT} : ∀ (T : AT), g_X5_raw_b48 T = some (r1, T1) → QF T T1 := by
  intro T h
  have p0 := QF.rf T
  unfold g_X5_raw_b48 at h
  exact QF.tr p0 (sq_X5_raw_b49 _ _ h)
set_option maxHeartbeats 4000000 in
set_option maxRecDepth 100000 in
theorem sq_X5_raw {T : AT} {o : Nat} {a0 : Nat} {a1 : Int32} {a2 : Int32} {r1 : Int32} {T1 : AT} (h : g_X5_raw T o a0 a1 a2 = some (r1, T1)) : QF T T1 := by
  have p0 := QF.rf T
  unfold g_X5_raw at h
  obtain ⟨g2, h⟩ := oif_some h
  obtain ⟨n3, en3, h⟩ := obind_some h
  obtain ⟨g4, h⟩ := oif_some h
  obtain ⟨g5, h⟩ := oif_some h
  obtain ⟨n6, en6, h⟩ := obind_some h
  obtain ⟨g7, h⟩ := oif_some h
  obtain ⟨v8, -, h⟩ := elet_some h
  obtain ⟨v9, -, h⟩ := elet_some h
  rcases oif_or h with ⟨c10, h⟩ | ⟨c10, h⟩
  · have h := h
    exact QF.tr p0 (sq_X5_raw_b48 _ h)
  · have h := h
    rcases oif_or h with ⟨c11, h⟩ | ⟨c11, h⟩
    · have h := h
      exact QF.tr p0 (sq_X5_raw_b48 _ h)
    · have h := h
      obtain ⟨g12, h⟩ := oif_some h
      obtain ⟨n13, en13, h⟩ := obind_some h
      obtain ⟨g14, h⟩ := oif_some h
      obtain ⟨g15, h⟩ := oif_some h
      obtain ⟨n16, en16, h⟩ := obind_some h
      obtain ⟨g17, h⟩ := oif_some h
      obtain ⟨v18, -, h⟩ := elet_some h
      obtain ⟨g19, h⟩ := oif_some h
      obtain ⟨n20, en20, h⟩ := obind_some h
      obtain ⟨g21, h⟩ := oif_some h
      obtain ⟨g22, h⟩ := oif_some h
      obtain ⟨n23, en23, h⟩ := obind_some h
      obtain ⟨g24, h⟩ := oif_some h
      obtain ⟨g25, h⟩ := oif_some h
      obtain ⟨v26, -, h⟩ := elet_some h
      obtain ⟨v27, -, h⟩ := elet_some h
      exact QF.tr p0 (sq_X5_raw_b49 _ _ h)
set_option maxHeartbeats 4000000 in
set_option maxRecDepth 100000 in
theorem sq_X5_filtered_b6 {r1 : Int32} {T1 : AT} : ∀ n : Nat, ∀ (T : AT) (l0 : Nat) (l1 : Nat) (l2 : Int32) (l3 : Int32) (l4 : Int32) (l5 : Int32), g_X5_filtered_b6 n T l0 l1 l2 l3 l4 l5 = some (r1, T1) → QF T T1 := by
  intro n
  induction n with
  | zero =>
    intro T l0 l1 l2 l3 l4 l5 h
    have h : (none : Option (Int32 × AT)) = some (r1, T1) := h
    cases h
  | succ n ih =>
    intro T l0 l1 l2 l3 l4 l5 h
    have p0 := QF.rf T
    unfold g_X5_filtered_b6 at h
    obtain ⟨g2, h⟩ := oif_some h
    obtain ⟨v3, -, h⟩ := elet_some h
    rcases oif_or h with ⟨c4, h⟩ | ⟨c4, h⟩
    · have h := h
      rw [← (osome2 h).2]
      exact p0
    · have h := h
      obtain ⟨g5, h⟩ := oif_some h
      obtain ⟨n6, en6, h⟩ := obind_some h
      obtain ⟨g7, h⟩ := oif_some h
      obtain ⟨g8, h⟩ := oif_some h
      obtain ⟨v9, -, h⟩ := elet_some h
      obtain ⟨v10, -, h⟩ := elet_some h
      obtain ⟨g11, h⟩ := oif_some h
      obtain ⟨r13, T12, eT12, h⟩ := obind2_some h
      have p1 : QF T T12 := QF.tr p0 (sq_X5_raw eT12)
      obtain ⟨v14, -, h⟩ := elet_some h
      obtain ⟨v15, -, h⟩ := elet_some h
      obtain ⟨v16, ev16, h⟩ := elet_some h
      exact QF.tr p1 (ih _ _ _ _ _ _ _ h)
set_option maxHeartbeats 4000000 in
set_option maxRecDepth 100000 in
theorem sq_X5_filtered {T : AT} {o : Nat} {a0 : Nat} {a1 : Int32} {a2 : Int32} {r1 : Int32} {T1 : AT} (h : g_X5_filtered T o a0 a1 a2 = some (r1, T1)) : QF T T1 := by
  have p0 := QF.rf T
  unfold g_X5_filtered at h
  exact QF.tr p0 (sq_X5_filtered_b6 _ _ _ _ _ _ _ _ h)

set_option maxHeartbeats 4000000 in
set_option maxRecDepth 100000 in
theorem sq_X10_put_b20 {T1 : AT} : ∀ (T : AT), g_X10_put_b20 T = some T1 → QF T T1 := by
  intro T h
  have p0 := QF.rf T
  unfold g_X10_put_b20 at h
  rw [← osome1 h]
  exact p0
set_option maxHeartbeats 4000000 in
set_option maxRecDepth 100000 in
theorem sq_X10_put {T : AT} {o : Nat} {a0 : Int32} {a1 : Int32} {T1 : AT} (h : g_X10_put T o a0 a1 = some T1) : QF T T1 := by
  have p0 := QF.rf T
  unfold g_X10_put at h
  obtain ⟨g2, h⟩ := oif_some h
  obtain ⟨T3, eT3, h⟩ := obind_some h
  have p1 : QF T T3 := QF.tr p0 ((sq_X10_clear eT3))
  obtain ⟨g5, h⟩ := oif_some h
  obtain ⟨n6, en6, h⟩ := obind_some h
  obtain ⟨g7, h⟩ := oif_some h
  obtain ⟨g8, h⟩ := oif_some h
  obtain ⟨n9, en9, h⟩ := obind_some h
  obtain ⟨v10, -, h⟩ := elet_some h
  obtain ⟨g11, h⟩ := oif_some h
  obtain ⟨g12, h⟩ := oif_some h
  obtain ⟨T13, eT13, h⟩ := elet_some h
  have p2 : QF T T13 := QF.tr p1 (by rw [eT13]; exact qf_uJ)
  obtain ⟨g14, h⟩ := oif_some h
  obtain ⟨T15, eT15, h⟩ := obind_some h
  have p3 : QF T T15 := QF.tr p2 (sq_X10_settle eT15)
  exact QF.tr p3 (sq_X10_put_b20 _ h)
set_option maxHeartbeats 4000000 in
set_option maxRecDepth 100000 in
theorem sq_X5_finish_b87 {T1 : AT} {k9 : AT → Nat → Nat → Nat → Int32 → Option (AT)} {k20 : AT → Nat → Nat → Nat → Int32 → Int32 → Option (AT)} (hk9 : ∀ (T : AT) (l0 : Nat) (l1 : Nat) (l2 : Nat) (l3 : Int32), k9 T l0 l1 l2 l3 = some T1 → QF T T1) (hk20 : ∀ (T : AT) (l0 : Nat) (l1 : Nat) (l2 : Nat) (l3 : Int32) (l4 : Int32), k20 T l0 l1 l2 l3 l4 = some T1 → QF T T1) : ∀ (T : AT) (l0 : Nat) (l1 : Nat) (l2 : Nat) (l3 : Int32) (l4 : Int32), g_X5_finish_b87 k9 k20 T l0 l1 l2 l3 l4 = some T1 → QF T T1 := by
  intro T l0 l1 l2 l3 l4 h
  have p0 := QF.rf T
  unfold g_X5_finish_b87 at h
  obtain ⟨v2, ev2, h⟩ := elet_some h
  exact QF.tr p0 (hk20 _ _ _ _ _ _ h)
set_option maxHeartbeats 4000000 in
set_option maxRecDepth 100000 in
theorem sq_X5_finish_b55 {T1 : AT} {k9 : AT → Nat → Nat → Nat → Int32 → Option (AT)} {k20 : AT → Nat → Nat → Nat → Int32 → Int32 → Option (AT)} (hk9 : ∀ (T : AT) (l0 : Nat) (l1 : Nat) (l2 : Nat) (l3 : Int32), k9 T l0 l1 l2 l3 = some T1 → QF T T1) (hk20 : ∀ (T : AT) (l0 : Nat) (l1 : Nat) (l2 : Nat) (l3 : Int32) (l4 : Int32), k20 T l0 l1 l2 l3 l4 = some T1 → QF T T1) : ∀ (T : AT) (s0 : Int32) (l0 : Nat) (l1 : Nat) (l2 : Nat) (l3 : Int32) (l4 : Int32), g_X5_finish_b55 k9 k20 T s0 l0 l1 l2 l3 l4 = some T1 → QF T T1 := by
  intro T s0 l0 l1 l2 l3 l4 h
  have p0 := QF.rf T
  unfold g_X5_finish_b55 at h
  obtain ⟨g2, h⟩ := oif_some h
  obtain ⟨n3, en3, h⟩ := obind_some h
  obtain ⟨r4, -, h⟩ := obind_some h
  obtain ⟨g5, h⟩ := oif_some h
  obtain ⟨v6, -, h⟩ := elet_some h
  obtain ⟨v7, -, h⟩ := elet_some h
  obtain ⟨g8, h⟩ := oif_some h
  obtain ⟨v9, -, h⟩ := elet_some h
  obtain ⟨v10, -, h⟩ := elet_some h
  obtain ⟨v11, -, h⟩ := elet_some h
  obtain ⟨g12, h⟩ := oif_some h
  obtain ⟨T13, eT13, h⟩ := obind_some h
  have p1 : QF T T13 := QF.tr p0 (sq_X10_put eT13)
  exact QF.tr p1 (sq_X5_finish_b87 hk9 hk20 _ _ _ _ _ _ h)
set_option maxHeartbeats 4000000 in
set_option maxRecDepth 100000 in
theorem sq_X5_finish_b20 {T1 : AT} {k9 : AT → Nat → Nat → Nat → Int32 → Option (AT)} (hk9 : ∀ (T : AT) (l0 : Nat) (l1 : Nat) (l2 : Nat) (l3 : Int32), k9 T l0 l1 l2 l3 = some T1 → QF T T1) : ∀ n : Nat, ∀ (T : AT) (l0 : Nat) (l1 : Nat) (l2 : Nat) (l3 : Int32) (l4 : Int32), g_X5_finish_b20 k9 n T l0 l1 l2 l3 l4 = some T1 → QF T T1 := by
  intro n
  induction n with
  | zero =>
    intro T l0 l1 l2 l3 l4 h
    have h : (none : Option (AT)) = some T1 := h
    cases h
  | succ n ih =>
    intro T l0 l1 l2 l3 l4 h
    have p0 := QF.rf T
    unfold g_X5_finish_b20 at h
    obtain ⟨g2, h⟩ := oif_some h
    obtain ⟨v3, -, h⟩ := elet_some h
    rcases oif_or h with ⟨c4, h⟩ | ⟨c4, h⟩
    · have h := h
      obtain ⟨v5, ev5, h⟩ := elet_some h
      exact QF.tr p0 (hk9 _ _ _ _ _ h)
    · have h := h
      obtain ⟨g6, h⟩ := oif_some h
      obtain ⟨v7, -, h⟩ := elet_some h
      rcases oif_or h with ⟨c8, h⟩ | ⟨c8, h⟩
      · have h := h
        obtain ⟨g9, h⟩ := oif_some h
        obtain ⟨r11, T10, eT10, h⟩ := obind2_some h
        have p1 : QF T T10 := QF.tr p0 ((sq_X5_raw eT10))
        exact QF.tr p1 (sq_X5_finish_b55 hk9 ih _ _ _ _ _ _ _ h)
      · have h := h
        obtain ⟨g12, h⟩ := oif_some h
        obtain ⟨r14, T13, eT13, h⟩ := obind2_some h
        have p1 : QF T T13 := QF.tr p0 ((sq_X5_filtered eT13))
        exact QF.tr p1 (sq_X5_finish_b55 hk9 ih _ _ _ _ _ _ _ h)
set_option maxHeartbeats 4000000 in
set_option maxRecDepth 100000 in
theorem sq_X5_finish_b9 {T1 : AT} : ∀ n : Nat, ∀ (T : AT) (l0 : Nat) (l1 : Nat) (l2 : Nat) (l3 : Int32), g_X5_finish_b9 n T l0 l1 l2 l3 = some T1 → QF T T1 := by
  intro n
  induction n with
  | zero =>
    intro T l0 l1 l2 l3 h
    have h : (none : Option (AT)) = some T1 := h
    cases h
  | succ n ih =>
    intro T l0 l1 l2 l3 h
    have p0 := QF.rf T
    unfold g_X5_finish_b9 at h
    obtain ⟨g2, h⟩ := oif_some h
    obtain ⟨v3, -, h⟩ := elet_some h
    rcases oif_or h with ⟨c4, h⟩ | ⟨c4, h⟩
    · have h := h
      obtain ⟨g5, h⟩ := oif_some h
      obtain ⟨T6, eT6, h⟩ := elet_some h
      have p1 : QF T T6 := QF.tr p0 (by rw [eT6]; first | exact qf_uO (oO_k g5).2 (by decide) | exact qf_uA (aA_k g2).2.1 (by decide))
      rw [← osome1 h]
      exact p1
    · have h := h
      exact QF.tr p0 (sq_X5_finish_b20 ih _ _ _ _ _ _ _ h)
set_option maxHeartbeats 4000000 in
set_option maxRecDepth 100000 in
theorem sq_X5_finish {T : AT} {o : Nat} {a0 : Nat} {a1 : Nat} {T1 : AT} (h : g_X5_finish T o a0 a1 = some T1) : QF T T1 := by
  have p0 := QF.rf T
  unfold g_X5_finish at h
  obtain ⟨g2, h⟩ := oif_some h
  obtain ⟨n3, en3, h⟩ := obind_some h
  obtain ⟨g4, h⟩ := oif_some h
  obtain ⟨T5, eT5, h⟩ := obind_some h
  have p1 : QF T T5 := QF.tr p0 ((sq_X10_narrow eT5))
  exact QF.tr p1 (sq_X5_finish_b9 _ _ _ _ _ _ h)
set_option maxHeartbeats 4000000 in
set_option maxRecDepth 100000 in
theorem sq_X6_delayFrom {T : AT} {o : Nat} {a0 : Nat} {a1 : Int32} {a2 : Int32} {r1 : Int32} {T1 : AT} (h : g_X6_delayFrom T o a0 a1 a2 = some (r1, T1)) : QF T T1 := by
  have p0 := QF.rf T
  unfold g_X6_delayFrom at h
  obtain ⟨g2, h⟩ := oif_some h
  obtain ⟨v3, -, h⟩ := elet_some h
  obtain ⟨v4, -, h⟩ := elet_some h
  obtain ⟨g5, h⟩ := oif_some h
  obtain ⟨v6, -, h⟩ := elet_some h
  obtain ⟨v7, -, h⟩ := elet_some h
  obtain ⟨v8, -, h⟩ := elet_some h
  obtain ⟨v9, -, h⟩ := elet_some h
  obtain ⟨v10, -, h⟩ := elet_some h
  obtain ⟨g11, h⟩ := oif_some h
  obtain ⟨v12, -, h⟩ := elet_some h
  obtain ⟨g13, h⟩ := oif_some h
  obtain ⟨v14, -, h⟩ := elet_some h
  obtain ⟨v15, -, h⟩ := elet_some h
  obtain ⟨v16, -, h⟩ := elet_some h
  obtain ⟨r17, -, h⟩ := obind_some h
  obtain ⟨v18, -, h⟩ := elet_some h
  obtain ⟨g19, h⟩ := oif_some h
  obtain ⟨v20, -, h⟩ := elet_some h
  obtain ⟨v21, -, h⟩ := elet_some h
  obtain ⟨r22, -, h⟩ := obind_some h
  obtain ⟨g23, h⟩ := oif_some h
  obtain ⟨v24, -, h⟩ := elet_some h
  obtain ⟨v25, -, h⟩ := elet_some h
  obtain ⟨g26, h⟩ := oif_some h
  obtain ⟨v27, -, h⟩ := elet_some h
  obtain ⟨v28, -, h⟩ := elet_some h
  obtain ⟨r29, -, h⟩ := obind_some h
  obtain ⟨v30, -, h⟩ := elet_some h
  obtain ⟨v31, -, h⟩ := elet_some h
  rw [← (osome2 h).2]
  exact p0
set_option maxHeartbeats 4000000 in
set_option maxRecDepth 100000 in
theorem sq_X7_valueAt_b78 {r1 : Int32} {T1 : AT} : ∀ (T : AT) (s0 : Int32), g_X7_valueAt_b78 T s0 = some (r1, T1) → QF T T1 := by
  intro T s0 h
  have p0 := QF.rf T
  unfold g_X7_valueAt_b78 at h
  rw [← (osome2 h).2]
  exact p0
set_option maxHeartbeats 4000000 in
set_option maxRecDepth 100000 in
theorem sq_X7_valueAt_b125 {r1 : Int32} {T1 : AT} : ∀ (T : AT) (s0 : Int32), g_X7_valueAt_b125 T s0 = some (r1, T1) → QF T T1 := by
  intro T s0 h
  have p0 := QF.rf T
  unfold g_X7_valueAt_b125 at h
  rw [← (osome2 h).2]
  exact p0
set_option maxHeartbeats 4000000 in
set_option maxRecDepth 100000 in
theorem sq_X7_valueAt {T : AT} {o : Nat} {a0 : Int32} {r1 : Int32} {T1 : AT} (h : g_X7_valueAt T o a0 = some (r1, T1)) : QF T T1 := by
  have p0 := QF.rf T
  unfold g_X7_valueAt at h
  obtain ⟨g2, h⟩ := oif_some h
  obtain ⟨v3, -, h⟩ := elet_some h
  rcases oif_or h with ⟨c4, h⟩ | ⟨c4, h⟩
  · have h := h
    obtain ⟨g5, h⟩ := oif_some h
    obtain ⟨v6, -, h⟩ := elet_some h
    obtain ⟨v7, -, h⟩ := elet_some h
    obtain ⟨g8, h⟩ := oif_some h
    obtain ⟨v9, -, h⟩ := elet_some h
    obtain ⟨r10, -, h⟩ := obind_some h
    obtain ⟨g11, h⟩ := oif_some h
    obtain ⟨v12, -, h⟩ := elet_some h
    by_cases c13 : v12 = 0
    · have h := oif_pos c13 h
      obtain ⟨g14, h⟩ := oif_some h
      obtain ⟨v15, -, h⟩ := elet_some h
      obtain ⟨v16, -, h⟩ := elet_some h
      rcases oif_or h with ⟨c17, h⟩ | ⟨c17, h⟩
      · have h := h
        obtain ⟨g18, h⟩ := oif_some h
        obtain ⟨v19, -, h⟩ := elet_some h
        obtain ⟨v20, -, h⟩ := elet_some h
        exact QF.tr p0 (sq_X7_valueAt_b78 _ _ h)
      · have h := h
        obtain ⟨g21, h⟩ := oif_some h
        obtain ⟨v22, -, h⟩ := elet_some h
        exact QF.tr p0 (sq_X7_valueAt_b78 _ _ h)
    have h := oif_neg c13 h
    by_cases c23 : v12 = 1
    · have h := oif_pos c23 h
      obtain ⟨g24, h⟩ := oif_some h
      obtain ⟨v25, -, h⟩ := elet_some h
      obtain ⟨g26, h⟩ := oif_some h
      obtain ⟨v27, -, h⟩ := elet_some h
      obtain ⟨v28, -, h⟩ := elet_some h
      obtain ⟨v29, -, h⟩ := elet_some h
      obtain ⟨v30, -, h⟩ := elet_some h
      obtain ⟨v31, -, h⟩ := elet_some h
      obtain ⟨g32, h⟩ := oif_some h
      obtain ⟨v33, -, h⟩ := elet_some h
      obtain ⟨v34, -, h⟩ := elet_some h
      obtain ⟨v35, -, h⟩ := elet_some h
      obtain ⟨v36, -, h⟩ := elet_some h
      obtain ⟨g37, h⟩ := oif_some h
      obtain ⟨v38, -, h⟩ := elet_some h
      obtain ⟨v39, -, h⟩ := elet_some h
      obtain ⟨r40, -, h⟩ := obind_some h
      obtain ⟨v41, -, h⟩ := elet_some h
      rw [← (osome2 h).2]
      exact p0
    have h := oif_neg c23 h
    by_cases c42 : v12 = 2
    · have h := oif_pos c42 h
      rcases oif_or h with ⟨c43, h⟩ | ⟨c43, h⟩
      · have h := h
        obtain ⟨g44, h⟩ := oif_some h
        obtain ⟨v45, -, h⟩ := elet_some h
        exact QF.tr p0 (sq_X7_valueAt_b125 _ _ h)
      · have h := h
        exact QF.tr p0 (sq_X7_valueAt_b125 _ _ h)
    have h := oif_neg c42 h
    obtain ⟨v46, -, h⟩ := elet_some h
    obtain ⟨v47, -, h⟩ := elet_some h
    obtain ⟨v48, -, h⟩ := elet_some h
    obtain ⟨v49, -, h⟩ := elet_some h
    obtain ⟨g50, h⟩ := oif_some h
    obtain ⟨v51, -, h⟩ := elet_some h
    obtain ⟨v52, -, h⟩ := elet_some h
    obtain ⟨v53, -, h⟩ := elet_some h
    obtain ⟨g54, h⟩ := oif_some h
    obtain ⟨v55, -, h⟩ := elet_some h
    obtain ⟨v56, -, h⟩ := elet_some h
    obtain ⟨v57, -, h⟩ := elet_some h
    obtain ⟨r58, -, h⟩ := obind_some h
    obtain ⟨g59, h⟩ := oif_some h
    obtain ⟨v60, -, h⟩ := elet_some h
    obtain ⟨v61, -, h⟩ := elet_some h
    rw [← (osome2 h).2]
    exact p0
  · have h := h
    rw [← (osome2 h).2]
    exact p0
set_option maxHeartbeats 4000000 in
set_option maxRecDepth 100000 in
theorem sq_X5_arriving_b47 {r1 : Int32} {T1 : AT} : ∀ (T : AT) (s0 : Int32), g_X5_arriving_b47 T s0 = some (r1, T1) → QF T T1 := by
  intro T s0 h
  have p0 := QF.rf T
  unfold g_X5_arriving_b47 at h
  rw [← (osome2 h).2]
  exact p0
set_option maxHeartbeats 4000000 in
set_option maxRecDepth 100000 in
theorem sq_X5_arriving {T : AT} {a0 : Nat} {a1 : Nat} {a2 : Int32} {a3 : Int32} {r1 : Int32} {T1 : AT} (h : g_X5_arriving T a0 a1 a2 a3 = some (r1, T1)) : QF T T1 := by
  have p0 := QF.rf T
  unfold g_X5_arriving at h
  rcases oif_or h with ⟨c2, h⟩ | ⟨c2, h⟩
  · have h := h
    obtain ⟨v3, -, h⟩ := elet_some h
    obtain ⟨g4, h⟩ := oif_some h
    obtain ⟨r6, T5, eT5, h⟩ := obind2_some h
    have p1 : QF T T5 := QF.tr p0 (sq_X7_valueAt eT5)
    obtain ⟨g7, h⟩ := oif_some h
    obtain ⟨v8, -, h⟩ := elet_some h
    rcases oif_or h with ⟨c9, h⟩ | ⟨c9, h⟩
    · have h := h
      exact QF.tr p1 (sq_X5_arriving_b47 _ _ h)
    · have h := h
      obtain ⟨g10, h⟩ := oif_some h
      obtain ⟨v11, -, h⟩ := elet_some h
      obtain ⟨v12, -, h⟩ := elet_some h
      obtain ⟨v13, -, h⟩ := elet_some h
      obtain ⟨g14, h⟩ := oif_some h
      obtain ⟨v15, -, h⟩ := elet_some h
      obtain ⟨v16, -, h⟩ := elet_some h
      obtain ⟨v17, -, h⟩ := elet_some h
      obtain ⟨r18, -, h⟩ := obind_some h
      obtain ⟨v19, -, h⟩ := elet_some h
      exact QF.tr p1 (sq_X5_arriving_b47 _ _ h)
  · have h := h
    rw [← (osome2 h).2]
    exact p0
set_option maxHeartbeats 4000000 in
set_option maxRecDepth 100000 in
theorem sq_X5_hear_b42 {T1 : AT} {k3 : AT → Nat → Nat → Nat → Int32 → Int32 → Int32 → Int32 → Option (AT)} (hk3 : ∀ (T : AT) (l0 : Nat) (l1 : Nat) (l2 : Nat) (l3 : Int32) (l4 : Int32) (l5 : Int32) (l6 : Int32), k3 T l0 l1 l2 l3 l4 l5 l6 = some T1 → QF T T1) : ∀ n : Nat, ∀ (T : AT) (l0 : Nat) (l1 : Nat) (l2 : Nat) (l3 : Int32) (l4 : Int32) (l5 : Int32) (l6 : Int32) (l7 : Nat) (l8 : Int32) (l9 : Int32), g_X5_hear_b42 k3 n T l0 l1 l2 l3 l4 l5 l6 l7 l8 l9 = some T1 → QF T T1 := by
  intro n
  induction n with
  | zero =>
    intro T l0 l1 l2 l3 l4 l5 l6 l7 l8 l9 h
    have h : (none : Option (AT)) = some T1 := h
    cases h
  | succ n ih =>
    intro T l0 l1 l2 l3 l4 l5 l6 l7 l8 l9 h
    have p0 := QF.rf T
    unfold g_X5_hear_b42 at h
    obtain ⟨g2, h⟩ := oif_some h
    obtain ⟨v3, -, h⟩ := elet_some h
    rcases oif_or h with ⟨c4, h⟩ | ⟨c4, h⟩
    · have h := h
      obtain ⟨g5, h⟩ := oif_some h
      obtain ⟨n6, en6, h⟩ := obind_some h
      obtain ⟨g7, h⟩ := oif_some h
      obtain ⟨g8, h⟩ := oif_some h
      obtain ⟨n9, en9, h⟩ := obind_some h
      obtain ⟨g10, h⟩ := oif_some h
      obtain ⟨g11, h⟩ := oif_some h
      obtain ⟨v12, -, h⟩ := elet_some h
      obtain ⟨v13, -, h⟩ := elet_some h
      obtain ⟨g14, h⟩ := oif_some h
      obtain ⟨g15, h⟩ := oif_some h
      obtain ⟨T16, eT16, h⟩ := elet_some h
      have p1 : QF T T16 := QF.tr p0 (by rw [eT16]; first | exact qf_uO (oO_k g15).2 (by decide) | exact qf_uA (aA_k g14).2.1 (by decide))
      obtain ⟨v17, ev17, h⟩ := elet_some h
      exact QF.tr p1 (hk3 _ _ _ _ _ _ _ _ h)
    · have h := h
      obtain ⟨g18, h⟩ := oif_some h
      obtain ⟨n19, en19, h⟩ := obind_some h
      obtain ⟨g20, h⟩ := oif_some h
      obtain ⟨g21, h⟩ := oif_some h
      obtain ⟨v22, -, h⟩ := elet_some h
      obtain ⟨v23, -, h⟩ := elet_some h
      obtain ⟨v24, -, h⟩ := elet_some h
      obtain ⟨g25, h⟩ := oif_some h
      obtain ⟨r27, T26, eT26, h⟩ := obind2_some h
      have p1 : QF T T26 := QF.tr p0 (sq_X6_delayFrom eT26)
      obtain ⟨r29, T28, eT28, h⟩ := obind2_some h
      have p2 : QF T T28 := QF.tr p1 (sq_X5_arriving eT28)
      obtain ⟨g30, h⟩ := oif_some h
      obtain ⟨n31, en31, h⟩ := obind_some h
      obtain ⟨g32, h⟩ := oif_some h
      obtain ⟨g33, h⟩ := oif_some h
      obtain ⟨v34, -, h⟩ := elet_some h
      obtain ⟨v35, -, h⟩ := elet_some h
      obtain ⟨v36, -, h⟩ := elet_some h
      obtain ⟨v37, -, h⟩ := elet_some h
      obtain ⟨v38, ev38, h⟩ := elet_some h
      exact QF.tr p2 (ih _ _ _ _ _ _ _ _ _ _ _ h)
set_option maxHeartbeats 4000000 in
set_option maxRecDepth 100000 in
theorem sq_X5_hear_b3 {T1 : AT} : ∀ n : Nat, ∀ (T : AT) (l0 : Nat) (l1 : Nat) (l2 : Nat) (l3 : Int32) (l4 : Int32) (l5 : Int32) (l6 : Int32), g_X5_hear_b3 n T l0 l1 l2 l3 l4 l5 l6 = some T1 → QF T T1 := by
  intro n
  induction n with
  | zero =>
    intro T l0 l1 l2 l3 l4 l5 l6 h
    have h : (none : Option (AT)) = some T1 := h
    cases h
  | succ n ih =>
    intro T l0 l1 l2 l3 l4 l5 l6 h
    have p0 := QF.rf T
    unfold g_X5_hear_b3 at h
    obtain ⟨g2, h⟩ := oif_some h
    obtain ⟨v3, -, h⟩ := elet_some h
    rcases oif_or h with ⟨c4, h⟩ | ⟨c4, h⟩
    · have h := h
      rw [← osome1 h]
      exact p0
    · have h := h
      obtain ⟨g5, h⟩ := oif_some h
      obtain ⟨n6, en6, h⟩ := obind_some h
      obtain ⟨g7, h⟩ := oif_some h
      obtain ⟨g8, h⟩ := oif_some h
      obtain ⟨n9, en9, h⟩ := obind_some h
      obtain ⟨g10, h⟩ := oif_some h
      obtain ⟨r12, T11, eT11, h⟩ := obind2_some h
      have p1 : QF T T11 := QF.tr p0 (sq_X6_delayFrom eT11)
      obtain ⟨r14, T13, eT13, h⟩ := obind2_some h
      have p2 : QF T T13 := QF.tr p1 (sq_X5_arriving eT13)
      exact QF.tr p2 (sq_X5_hear_b42 ih _ _ _ _ _ _ _ _ _ _ _ _ h)
set_option maxHeartbeats 4000000 in
set_option maxRecDepth 100000 in
theorem sq_X5_hear {T : AT} {o : Nat} {a0 : Nat} {a1 : Nat} {a2 : Int32} {a3 : Int32} {a4 : Int32} {T1 : AT} (h : g_X5_hear T o a0 a1 a2 a3 a4 = some T1) : QF T T1 := by
  have p0 := QF.rf T
  unfold g_X5_hear at h
  exact QF.tr p0 (sq_X5_hear_b3 _ _ _ _ _ _ _ _ _ h)
set_option maxHeartbeats 4000000 in
set_option maxRecDepth 100000 in
theorem sq_X5_record_b104 {T1 : AT} : ∀ (T : AT), g_X5_record_b104 T = some T1 → QF T T1 := by
  intro T h
  have p0 := QF.rf T
  unfold g_X5_record_b104 at h
  rw [← osome1 h]
  exact p0
set_option maxHeartbeats 4000000 in
set_option maxRecDepth 100000 in
theorem sq_X5_record_b92 {T1 : AT} {k6 : AT → Nat → Nat → Nat → Int32 → Option (AT)} (hk6 : ∀ (T : AT) (l0 : Nat) (l1 : Nat) (l2 : Nat) (l3 : Int32), k6 T l0 l1 l2 l3 = some T1 → QF T T1) : ∀ (T : AT) (l0 : Nat) (l1 : Nat) (l2 : Nat) (l3 : Int32), g_X5_record_b92 k6 T l0 l1 l2 l3 = some T1 → QF T T1 := by
  intro T l0 l1 l2 l3 h
  have p0 := QF.rf T
  unfold g_X5_record_b92 at h
  obtain ⟨v2, ev2, h⟩ := elet_some h
  exact QF.tr p0 (hk6 _ _ _ _ _ h)
set_option maxHeartbeats 4000000 in
set_option maxRecDepth 100000 in
theorem sq_X5_record_b34 {T1 : AT} {k6 : AT → Nat → Nat → Nat → Int32 → Option (AT)} (hk6 : ∀ (T : AT) (l0 : Nat) (l1 : Nat) (l2 : Nat) (l3 : Int32), k6 T l0 l1 l2 l3 = some T1 → QF T T1) : ∀ n : Nat, ∀ (T : AT) (l0 : Nat) (l1 : Nat) (l2 : Nat) (l3 : Int32) (l4 : Nat) (l5 : Int32), g_X5_record_b34 k6 n T l0 l1 l2 l3 l4 l5 = some T1 → QF T T1 := by
  intro n
  induction n with
  | zero =>
    intro T l0 l1 l2 l3 l4 l5 h
    have h : (none : Option (AT)) = some T1 := h
    cases h
  | succ n ih =>
    intro T l0 l1 l2 l3 l4 l5 h
    have p0 := QF.rf T
    unfold g_X5_record_b34 at h
    obtain ⟨g2, h⟩ := oif_some h
    obtain ⟨v3, -, h⟩ := elet_some h
    rcases oif_or h with ⟨c4, h⟩ | ⟨c4, h⟩
    · have h := h
      exact QF.tr p0 (sq_X5_record_b92 hk6 _ _ _ _ _ h)
    · have h := h
      obtain ⟨g5, h⟩ := oif_some h
      obtain ⟨n6, en6, h⟩ := obind_some h
      obtain ⟨g7, h⟩ := oif_some h
      obtain ⟨g8, h⟩ := oif_some h
      obtain ⟨v9, -, h⟩ := elet_some h
      obtain ⟨g10, h⟩ := oif_some h
      obtain ⟨n11, en11, h⟩ := obind_some h
      obtain ⟨g12, h⟩ := oif_some h
      obtain ⟨g13, h⟩ := oif_some h
      obtain ⟨v14, -, h⟩ := elet_some h
      obtain ⟨r15, -, h⟩ := obind_some h
      obtain ⟨g16, h⟩ := oif_some h
      obtain ⟨n17, en17, h⟩ := obind_some h
      obtain ⟨g18, h⟩ := oif_some h
      obtain ⟨g19, h⟩ := oif_some h
      obtain ⟨v20, -, h⟩ := elet_some h
      obtain ⟨g21, h⟩ := oif_some h
      obtain ⟨n22, en22, h⟩ := obind_some h
      obtain ⟨g23, h⟩ := oif_some h
      obtain ⟨g24, h⟩ := oif_some h
      obtain ⟨v25, -, h⟩ := elet_some h
      obtain ⟨r26, -, h⟩ := obind_some h
      obtain ⟨g27, h⟩ := oif_some h
      obtain ⟨T28, eT28, h⟩ := obind_some h
      have p1 : QF T T28 := QF.tr p0 ((sq_X5_hear eT28))
      obtain ⟨v30, ev30, h⟩ := elet_some h
      exact QF.tr p1 (ih _ _ _ _ _ _ _ h)
set_option maxHeartbeats 4000000 in
set_option maxRecDepth 100000 in
theorem sq_X5_record_b6 {T1 : AT} : ∀ n : Nat, ∀ (T : AT) (l0 : Nat) (l1 : Nat) (l2 : Nat) (l3 : Int32), g_X5_record_b6 n T l0 l1 l2 l3 = some T1 → QF T T1 := by
  intro n
  induction n with
  | zero =>
    intro T l0 l1 l2 l3 h
    have h : (none : Option (AT)) = some T1 := h
    cases h
  | succ n ih =>
    intro T l0 l1 l2 l3 h
    have p0 := QF.rf T
    unfold g_X5_record_b6 at h
    obtain ⟨g2, h⟩ := oif_some h
    obtain ⟨v3, -, h⟩ := elet_some h
    rcases oif_or h with ⟨c4, h⟩ | ⟨c4, h⟩
    · have h := h
      obtain ⟨g5, h⟩ := oif_some h
      obtain ⟨T6, eT6, h⟩ := obind_some h
      have p1 : QF T T6 := QF.tr p0 (sq_X5_finish eT6)
      exact QF.tr p1 (sq_X5_record_b104 _ h)
    · have h := h
      obtain ⟨g8, h⟩ := oif_some h
      obtain ⟨n9, en9, h⟩ := obind_some h
      obtain ⟨g10, h⟩ := oif_some h
      obtain ⟨g11, h⟩ := oif_some h
      obtain ⟨v12, -, h⟩ := elet_some h
      rcases oif_or h with ⟨c13, h⟩ | ⟨c13, h⟩
      · have h := h
        exact QF.tr p0 (sq_X5_record_b92 ih _ _ _ _ _ h)
      · have h := h
        obtain ⟨g14, h⟩ := oif_some h
        obtain ⟨n15, en15, h⟩ := obind_some h
        obtain ⟨g16, h⟩ := oif_some h
        obtain ⟨g17, h⟩ := oif_some h
        obtain ⟨n18, en18, h⟩ := obind_some h
        exact QF.tr p0 (sq_X5_record_b34 ih _ _ _ _ _ _ _ _ h)
set_option maxHeartbeats 4000000 in
set_option maxRecDepth 100000 in
theorem sq_X5_record {T : AT} {o : Nat} {a0 : Nat} {a1 : Nat} {T1 : AT} (h : g_X5_record T o a0 a1 = some T1) : QF T T1 := by
  have p0 := QF.rf T
  unfold g_X5_record at h
  obtain ⟨g2, h⟩ := oif_some h
  obtain ⟨T3, eT3, h⟩ := obind_some h
  have p1 : QF T T3 := QF.tr p0 ((sq_X5_silence eT3))
  exact QF.tr p1 (sq_X5_record_b6 _ _ _ _ _ _ h)
set_option maxHeartbeats 4000000 in
set_option maxRecDepth 100000 in
theorem sq_X5_recordPoint_b89 {T1 : AT} : ∀ (T : AT), g_X5_recordPoint_b89 T = some T1 → QF T T1 := by
  intro T h
  have p0 := QF.rf T
  unfold g_X5_recordPoint_b89 at h
  rw [← osome1 h]
  exact p0
set_option maxHeartbeats 4000000 in
set_option maxRecDepth 100000 in
theorem sq_X5_recordPoint_b53 {T1 : AT} : ∀ n : Nat, ∀ (T : AT) (l0 : Nat) (l1 : Nat) (l2 : Nat) (l5 : Int32) (l6 : Int32) (l7 : Int32), g_X5_recordPoint_b53 n T l0 l1 l2 l5 l6 l7 = some T1 → QF T T1 := by
  intro n
  induction n with
  | zero =>
    intro T l0 l1 l2 l5 l6 l7 h
    have h : (none : Option (AT)) = some T1 := h
    cases h
  | succ n ih =>
    intro T l0 l1 l2 l5 l6 l7 h
    have p0 := QF.rf T
    unfold g_X5_recordPoint_b53 at h
    obtain ⟨g2, h⟩ := oif_some h
    obtain ⟨v3, -, h⟩ := elet_some h
    rcases oif_or h with ⟨c4, h⟩ | ⟨c4, h⟩
    · have h := h
      obtain ⟨g5, h⟩ := oif_some h
      obtain ⟨T6, eT6, h⟩ := obind_some h
      have p1 : QF T T6 := QF.tr p0 (sq_X5_finish eT6)
      exact QF.tr p1 (sq_X5_recordPoint_b89 _ h)
    · have h := h
      obtain ⟨g8, h⟩ := oif_some h
      obtain ⟨n9, en9, h⟩ := obind_some h
      obtain ⟨g10, h⟩ := oif_some h
      obtain ⟨T11, eT11, h⟩ := obind_some h
      have p1 : QF T T11 := QF.tr p0 ((sq_X5_hear eT11))
      obtain ⟨v13, ev13, h⟩ := elet_some h
      exact QF.tr p1 (ih _ _ _ _ _ _ _ h)
set_option maxHeartbeats 4000000 in
set_option maxRecDepth 100000 in
theorem sq_X6_delaysFrom_b3 {T1 : AT} : ∀ n : Nat, ∀ (T : AT) (l0 : Nat) (l1 : Int32) (l2 : Int32) (l3 : Nat) (l4 : Int32), g_X6_delaysFrom_b3 n T l0 l1 l2 l3 l4 = some T1 → QF T T1 := by
  intro n
  induction n with
  | zero =>
    intro T l0 l1 l2 l3 l4 h
    have h : (none : Option (AT)) = some T1 := h
    cases h
  | succ n ih =>
    intro T l0 l1 l2 l3 l4 h
    have p0 := QF.rf T
    unfold g_X6_delaysFrom_b3 at h
    obtain ⟨g2, h⟩ := oif_some h
    obtain ⟨v3, -, h⟩ := elet_some h
    rcases oif_or h with ⟨c4, h⟩ | ⟨c4, h⟩
    · have h := h
      rw [← osome1 h]
      exact p0
    · have h := h
      obtain ⟨g5, h⟩ := oif_some h
      obtain ⟨n6, en6, h⟩ := obind_some h
      obtain ⟨g7, h⟩ := oif_some h
      obtain ⟨g8, h⟩ := oif_some h
      obtain ⟨n9, en9, h⟩ := obind_some h
      obtain ⟨g10, h⟩ := oif_some h
      obtain ⟨r12, T11, eT11, h⟩ := obind2_some h
      have p1 : QF T T11 := QF.tr p0 (sq_X6_delayFrom eT11)
      obtain ⟨g13, h⟩ := oif_some h
      obtain ⟨g14, h⟩ := oif_some h
      obtain ⟨T15, eT15, h⟩ := elet_some h
      have p2 : QF T T15 := QF.tr p1 (by rw [eT15]; first | exact qf_uO (oO_k g14).2 (by decide) | exact qf_uA (aA_k g13).2.1 (by decide))
      obtain ⟨v16, ev16, h⟩ := elet_some h
      exact QF.tr p2 (ih _ _ _ _ _ _ h)
set_option maxHeartbeats 4000000 in
set_option maxRecDepth 100000 in
theorem sq_X6_delaysFrom {T : AT} {o : Nat} {a0 : Int32} {a1 : Int32} {a2 : Nat} {T1 : AT} (h : g_X6_delaysFrom T o a0 a1 a2 = some T1) : QF T T1 := by
  have p0 := QF.rf T
  unfold g_X6_delaysFrom at h
  exact QF.tr p0 (sq_X6_delaysFrom_b3 _ _ _ _ _ _ _ h)
set_option maxHeartbeats 4000000 in
set_option maxRecDepth 100000 in
theorem sq_X6_measureDelays_b2 {T1 : AT} : ∀ n : Nat, ∀ (T : AT) (l0 : Nat) (l1 : Int32), g_X6_measureDelays_b2 n T l0 l1 = some T1 → QF T T1 := by
  intro n
  induction n with
  | zero =>
    intro T l0 l1 h
    have h : (none : Option (AT)) = some T1 := h
    cases h
  | succ n ih =>
    intro T l0 l1 h
    have p0 := QF.rf T
    unfold g_X6_measureDelays_b2 at h
    obtain ⟨g2, h⟩ := oif_some h
    obtain ⟨n3, en3, h⟩ := obind_some h
    obtain ⟨g4, h⟩ := oif_some h
    obtain ⟨r6, T5, eT5, h⟩ := obind2_some h
    have p1 : QF T T5 := QF.tr p0 (sq_X1_cells eT5)
    rcases oif_or h with ⟨c7, h⟩ | ⟨c7, h⟩
    · have h := h
      rw [← osome1 h]
      exact p1
    · have h := h
      obtain ⟨g8, h⟩ := oif_some h
      obtain ⟨n9, en9, h⟩ := obind_some h
      obtain ⟨g10, h⟩ := oif_some h
      obtain ⟨r12, T11, eT11, h⟩ := obind2_some h
      have p2 : QF T T11 := QF.tr p1 (sq_X1_centreX eT11)
      obtain ⟨g13, h⟩ := oif_some h
      obtain ⟨n14, en14, h⟩ := obind_some h
      obtain ⟨g15, h⟩ := oif_some h
      obtain ⟨r17, T16, eT16, h⟩ := obind2_some h
      have p3 : QF T T16 := QF.tr p2 (sq_X1_centreY eT16)
      obtain ⟨g18, h⟩ := oif_some h
      obtain ⟨n19, en19, h⟩ := obind_some h
      obtain ⟨g20, h⟩ := oif_some h
      obtain ⟨g21, h⟩ := oif_some h
      obtain ⟨n22, en22, h⟩ := obind_some h
      obtain ⟨g23, h⟩ := oif_some h
      obtain ⟨T24, eT24, h⟩ := obind_some h
      have p4 : QF T T24 := QF.tr p3 (sq_X6_delaysFrom eT24)
      obtain ⟨v26, ev26, h⟩ := elet_some h
      exact QF.tr p4 (ih _ _ _ h)
set_option maxHeartbeats 4000000 in
set_option maxRecDepth 100000 in
theorem sq_X6_measureDelays {T : AT} {o : Nat} {T1 : AT} (h : g_X6_measureDelays T o = some T1) : QF T T1 := by
  have p0 := QF.rf T
  unfold g_X6_measureDelays at h
  exact QF.tr p0 (sq_X6_measureDelays_b2 _ _ _ _ h)

set_option maxHeartbeats 4000000 in
set_option maxRecDepth 100000 in
theorem sq_X8_begin_b93 {T1 : AT} {k63 : AT → Nat → Nat → Int32 → Option (AT)} (hk63 : ∀ (T : AT) (l0 : Nat) (l1 : Nat) (l2 : Int32), k63 T l0 l1 l2 = some T1 → QF T T1) : ∀ (T : AT) (s0 : Int32) (s1 : Int32) (s2 : Nat) (l0 : Nat) (l1 : Nat) (l2 : Int32) (l3 : Nat), g_X8_begin_b93 k63 T s0 s1 s2 l0 l1 l2 l3 = some T1 → QF T T1 := by
  intro T s0 s1 s2 l0 l1 l2 l3 h
  have p0 := QF.rf T
  unfold g_X8_begin_b93 at h
  obtain ⟨g2, h⟩ := oif_some h
  obtain ⟨g3, h⟩ := oif_some h
  obtain ⟨gz, h⟩ := oif_some h
  obtain ⟨T4, eT4, h⟩ := elet_some h
  have p1 : QF T T4 := QF.tr p0 (by rw [eT4]; first | exact qf_uO (oO_k g3).2 (by decide) | exact qf_uA (aA_k g2).2.1 (by decide))
  obtain ⟨g5, h⟩ := oif_some h
  obtain ⟨n6, en6, h⟩ := obind_some h
  obtain ⟨g7, h⟩ := oif_some h
  obtain ⟨v8, -, h⟩ := elet_some h
  obtain ⟨g9, h⟩ := oif_some h
  obtain ⟨g10, h⟩ := oif_some h
  obtain ⟨T11, eT11, h⟩ := elet_some h
  have p2 : QF T T11 := QF.tr p1 (by rw [eT11]; first | exact qf_uO (oO_k g10).2 (by decide) | exact qf_uA (aA_k g9).2.1 (by decide))
  obtain ⟨g12, h⟩ := oif_some h
  obtain ⟨n13, en13, h⟩ := obind_some h
  obtain ⟨g14, h⟩ := oif_some h
  obtain ⟨v15, -, h⟩ := elet_some h
  obtain ⟨g16, h⟩ := oif_some h
  obtain ⟨g17, h⟩ := oif_some h
  obtain ⟨T18, eT18, h⟩ := elet_some h
  have p3 : QF T T18 := QF.tr p2 (by rw [eT18]; first | exact qf_uO (oO_k g17).2 (by decide) | exact qf_uA (aA_k g16).2.1 (by decide))
  obtain ⟨g19, h⟩ := oif_some h
  obtain ⟨n20, en20, h⟩ := obind_some h
  obtain ⟨g21, h⟩ := oif_some h
  obtain ⟨v22, -, h⟩ := elet_some h
  obtain ⟨g23, h⟩ := oif_some h
  obtain ⟨g24, h⟩ := oif_some h
  obtain ⟨T25, eT25, h⟩ := elet_some h
  have p4 : QF T T25 := QF.tr p3 (by rw [eT25]; first | exact qf_uO (oO_k g24).2 (by decide) | exact qf_uA (aA_k g23).2.1 (by decide))
  obtain ⟨g26, h⟩ := oif_some h
  obtain ⟨n27, en27, h⟩ := obind_some h
  obtain ⟨g28, h⟩ := oif_some h
  obtain ⟨v29, -, h⟩ := elet_some h
  obtain ⟨g30, h⟩ := oif_some h
  obtain ⟨g31, h⟩ := oif_some h
  obtain ⟨T32, eT32, h⟩ := elet_some h
  have p5 : QF T T32 := QF.tr p4 (by rw [eT32]; first | exact qf_uO (oO_k g31).2 (by decide) | exact qf_uA (aA_k g30).2.1 (by decide))
  obtain ⟨v33, ev33, h⟩ := elet_some h
  exact QF.tr p5 (hk63 _ _ _ _ h)
set_option maxHeartbeats 4000000 in
set_option maxRecDepth 100000 in
theorem sq_X8_begin_b63 {T1 : AT} : ∀ n : Nat, ∀ (T : AT) (l0 : Nat) (l1 : Nat) (l2 : Int32), g_X8_begin_b63 n T l0 l1 l2 = some T1 → QF T T1 := by
  intro n
  induction n with
  | zero =>
    intro T l0 l1 l2 h
    have h : (none : Option (AT)) = some T1 := h
    cases h
  | succ n ih =>
    intro T l0 l1 l2 h
    have p0 := QF.rf T
    unfold g_X8_begin_b63 at h
    rcases oif_or h with ⟨c2, h⟩ | ⟨c2, h⟩
    · have h := h
      rw [← osome1 h]
      exact p0
    · have h := h
      obtain ⟨g3, h⟩ := oif_some h
      obtain ⟨n4, en4, h⟩ := obind_some h
      obtain ⟨g5, h⟩ := oif_some h
      obtain ⟨g6, h⟩ := oif_some h
      obtain ⟨n7, en7, h⟩ := obind_some h
      obtain ⟨g8, h⟩ := oif_some h
      obtain ⟨n9, en9, h⟩ := obind_some h
      obtain ⟨g10, h⟩ := oif_some h
      obtain ⟨v11, -, h⟩ := elet_some h
      rcases oif_or h with ⟨c12, h⟩ | ⟨c12, h⟩
      · have h := h
        exact QF.tr p0 (sq_X8_begin_b93 ih _ _ _ _ _ _ _ _ h)
      · have h := h
        exact QF.tr p0 (sq_X8_begin_b93 ih _ _ _ _ _ _ _ _ h)
set_option maxHeartbeats 4000000 in
set_option maxRecDepth 100000 in
theorem sq_X8_begin_b54 {T1 : AT} {k18 : AT → Nat → Nat → Int32 → Option (AT)} (hk18 : ∀ (T : AT) (l0 : Nat) (l1 : Nat) (l2 : Int32), k18 T l0 l1 l2 = some T1 → QF T T1) : ∀ (T : AT) (s0 : Int32) (s1 : Int32) (s2 : Nat) (l0 : Nat) (l1 : Nat) (l2 : Int32), g_X8_begin_b54 k18 T s0 s1 s2 l0 l1 l2 = some T1 → QF T T1 := by
  intro T s0 s1 s2 l0 l1 l2 h
  have p0 := QF.rf T
  unfold g_X8_begin_b54 at h
  obtain ⟨g2, h⟩ := oif_some h
  obtain ⟨g3, h⟩ := oif_some h
  obtain ⟨T4, eT4, h⟩ := elet_some h
  have p1 : QF T T4 := QF.tr p0 (by rw [eT4]; first | exact qf_uO (oO_k g3).2 (by decide) | exact qf_uA (aA_k g2).2.1 (by decide))
  obtain ⟨v5, ev5, h⟩ := elet_some h
  exact QF.tr p1 (hk18 _ _ _ _ h)
set_option maxHeartbeats 4000000 in
set_option maxRecDepth 100000 in
theorem sq_X8_begin_b18 {T1 : AT} : ∀ n : Nat, ∀ (T : AT) (l0 : Nat) (l1 : Nat) (l2 : Int32), g_X8_begin_b18 n T l0 l1 l2 = some T1 → QF T T1 := by
  intro n
  induction n with
  | zero =>
    intro T l0 l1 l2 h
    have h : (none : Option (AT)) = some T1 := h
    cases h
  | succ n ih =>
    intro T l0 l1 l2 h
    have p0 := QF.rf T
    unfold g_X8_begin_b18 at h
    rcases oif_or h with ⟨c2, h⟩ | ⟨c2, h⟩
    · have h := h
      exact QF.tr p0 (sq_X8_begin_b63 _ _ _ _ _ h)
    · have h := h
      obtain ⟨g3, h⟩ := oif_some h
      obtain ⟨n4, en4, h⟩ := obind_some h
      obtain ⟨g5, h⟩ := oif_some h
      obtain ⟨g6, h⟩ := oif_some h
      obtain ⟨T7, eT7, h⟩ := elet_some h
      have p1 : QF T T7 := QF.tr p0 (by rw [eT7]; first | exact qf_uO (oO_k g6).2 (by decide) | exact qf_uA (aA_k g5).2.1 (by decide))
      obtain ⟨g8, h⟩ := oif_some h
      obtain ⟨n9, en9, h⟩ := obind_some h
      obtain ⟨g10, h⟩ := oif_some h
      obtain ⟨v11, -, h⟩ := elet_some h
      rcases oif_or h with ⟨c12, h⟩ | ⟨c12, h⟩
      · have h := h
        exact QF.tr p1 (sq_X8_begin_b54 ih _ _ _ _ _ _ _ h)
      · have h := h
        obtain ⟨g13, h⟩ := oif_some h
        obtain ⟨n14, en14, h⟩ := obind_some h
        obtain ⟨g15, h⟩ := oif_some h
        obtain ⟨g16, h⟩ := oif_some h
        obtain ⟨v17, -, h⟩ := elet_some h
        exact QF.tr p1 (sq_X8_begin_b54 ih _ _ _ _ _ _ _ h)
set_option maxHeartbeats 4000000 in
set_option maxRecDepth 100000 in
theorem sq_X8_begin {T : AT} {o : Nat} {a0 : Nat} {T1 : AT} (h : g_X8_begin T o a0 = some T1) : QF T T1 := by
  have p0 := QF.rf T
  unfold g_X8_begin at h
  obtain ⟨g2, h⟩ := oif_some h
  obtain ⟨v3, -, h⟩ := elet_some h
  obtain ⟨g4, h⟩ := oif_some h
  obtain ⟨T5, eT5, h⟩ := elet_some h
  have p1 : QF T T5 := QF.tr p0 (by rw [eT5]; first | exact qf_uO (oO_k g4).2 (by decide) | exact qf_uA (aA_k g2).2.1 (by decide))
  obtain ⟨g6, h⟩ := oif_some h
  obtain ⟨v7, -, h⟩ := elet_some h
  obtain ⟨g8, h⟩ := oif_some h
  obtain ⟨T9, eT9, h⟩ := elet_some h
  have p2 : QF T T9 := QF.tr p1 (by rw [eT9]; first | exact qf_uO (oO_k g8).2 (by decide) | exact qf_uA (aA_k g6).2.1 (by decide))
  exact QF.tr p2 (sq_X8_begin_b18 _ _ _ _ _ h)
set_option maxHeartbeats 4000000 in
set_option maxRecDepth 100000 in
theorem sq_X10_copyFrom_b18 {T1 : AT} : ∀ n : Nat, ∀ (T : AT) (l0 : Nat) (l1 : Nat) (l2 : Int32), g_X10_copyFrom_b18 n T l0 l1 l2 = some T1 → QF T T1 := by
  intro n
  induction n with
  | zero =>
    intro T l0 l1 l2 h
    have h : (none : Option (AT)) = some T1 := h
    cases h
  | succ n ih =>
    intro T l0 l1 l2 h
    have p0 := QF.rf T
    unfold g_X10_copyFrom_b18 at h
    obtain ⟨g2, h⟩ := oif_some h
    obtain ⟨v3, -, h⟩ := elet_some h
    rcases oif_or h with ⟨c4, h⟩ | ⟨c4, h⟩
    · have h := h
      rw [← osome1 h]
      exact p0
    · have h := h
      obtain ⟨g5, h⟩ := oif_some h
      obtain ⟨n6, en6, h⟩ := obind_some h
      obtain ⟨g7, h⟩ := oif_some h
      obtain ⟨g8, h⟩ := oif_some h
      obtain ⟨n9, en9, h⟩ := obind_some h
      obtain ⟨g10, h⟩ := oif_some h
      obtain ⟨n11, en11, h⟩ := obind_some h
      obtain ⟨g12, h⟩ := oif_some h
      obtain ⟨g13, h⟩ := oif_some h
      obtain ⟨n14, en14, h⟩ := obind_some h
      obtain ⟨g15, h⟩ := oif_some h
      obtain ⟨v16, -, h⟩ := elet_some h
      obtain ⟨g17, h⟩ := oif_some h
      obtain ⟨v18, -, h⟩ := elet_some h
      obtain ⟨v19, -, h⟩ := elet_some h
      obtain ⟨g20, h⟩ := oif_some h
      obtain ⟨g21, h⟩ := oif_some h
      obtain ⟨g22, h⟩ := oif_some h
      obtain ⟨T23, eT23, h⟩ := elet_some h
      have p1 : QF T T23 := QF.tr p0 (by rw [eT23]; exact qf_uC)
      obtain ⟨v24, ev24, h⟩ := elet_some h
      exact QF.tr p1 (ih _ _ _ _ h)
set_option maxHeartbeats 4000000 in
set_option maxRecDepth 100000 in
theorem sq_X10_copyFrom_b8 {T1 : AT} : ∀ (T : AT) (l0 : Nat) (l1 : Nat), g_X10_copyFrom_b8 T l0 l1 = some T1 → QF T T1 := by
  intro T l0 l1 h
  have p0 := QF.rf T
  unfold g_X10_copyFrom_b8 at h
  obtain ⟨g2, h⟩ := oif_some h
  obtain ⟨v3, -, h⟩ := elet_some h
  obtain ⟨g4, h⟩ := oif_some h
  obtain ⟨T5, eT5, h⟩ := elet_some h
  have p1 : QF T T5 := QF.tr p0 (by rw [eT5]; first | exact qf_uO (oO_k g4).2 (by decide) | exact qf_uA (aA_k g2).2.1 (by decide))
  exact QF.tr p1 (sq_X10_copyFrom_b18 _ _ _ _ _ h)
set_option maxHeartbeats 4000000 in
set_option maxRecDepth 100000 in
theorem sq_X10_copyFrom {T : AT} {o : Nat} {a0 : Nat} {T1 : AT} (h : g_X10_copyFrom T o a0 = some T1) : QF T T1 := by
  have p0 := QF.rf T
  unfold g_X10_copyFrom at h
  obtain ⟨g2, h⟩ := oif_some h
  obtain ⟨v3, -, h⟩ := elet_some h
  obtain ⟨g4, h⟩ := oif_some h
  obtain ⟨T5, eT5, h⟩ := obind_some h
  have p1 : QF T T5 := QF.tr p0 (sq_X10_widenTo eT5)
  exact QF.tr p1 (sq_X10_copyFrom_b8 _ _ _ h)
set_option maxHeartbeats 4000000 in
set_option maxRecDepth 100000 in
theorem sq_X8_copyFrom_b147 {T1 : AT} : ∀ (T : AT), g_X8_copyFrom_b147 T = some T1 → QF T T1 := by
  intro T h
  have p0 := QF.rf T
  unfold g_X8_copyFrom_b147 at h
  rw [← osome1 h]
  exact p0
set_option maxHeartbeats 4000000 in
set_option maxRecDepth 100000 in
theorem sq_X8_copyFrom_b64 {T1 : AT} : ∀ n : Nat, ∀ (T : AT) (l0 : Nat) (l1 : Nat) (l2 : Int32), g_X8_copyFrom_b64 n T l0 l1 l2 = some T1 → QF T T1 := by
  intro n
  induction n with
  | zero =>
    intro T l0 l1 l2 h
    have h : (none : Option (AT)) = some T1 := h
    cases h
  | succ n ih =>
    intro T l0 l1 l2 h
    have p0 := QF.rf T
    unfold g_X8_copyFrom_b64 at h
    rcases oif_or h with ⟨c2, h⟩ | ⟨c2, h⟩
    · have h := h
      obtain ⟨g3, h⟩ := oif_some h
      obtain ⟨n4, en4, h⟩ := obind_some h
      obtain ⟨g5, h⟩ := oif_some h
      obtain ⟨n6, en6, h⟩ := obind_some h
      obtain ⟨g7, h⟩ := oif_some h
      obtain ⟨T8, eT8, h⟩ := obind_some h
      have p1 : QF T T8 := QF.tr p0 (sq_X10_copyFrom eT8)
      exact QF.tr p1 (sq_X8_copyFrom_b147 _ h)
    · have h := h
      obtain ⟨g10, h⟩ := oif_some h
      obtain ⟨n11, en11, h⟩ := obind_some h
      obtain ⟨g12, h⟩ := oif_some h
      obtain ⟨n13, en13, h⟩ := obind_some h
      obtain ⟨g14, h⟩ := oif_some h
      obtain ⟨g15, h⟩ := oif_some h
      obtain ⟨v16, -, h⟩ := elet_some h
      obtain ⟨g17, h⟩ := oif_some h
      obtain ⟨g18, h⟩ := oif_some h
      obtain ⟨gz, h⟩ := oif_some h
      obtain ⟨T19, eT19, h⟩ := elet_some h
      have p1 : QF T T19 := QF.tr p0 (by rw [eT19]; first | exact qf_uO (oO_k g18).2 (by decide) | exact qf_uA (aA_k g17).2.1 (by decide))
      obtain ⟨g20, h⟩ := oif_some h
      obtain ⟨n21, en21, h⟩ := obind_some h
      obtain ⟨g22, h⟩ := oif_some h
      obtain ⟨n23, en23, h⟩ := obind_some h
      obtain ⟨g24, h⟩ := oif_some h
      obtain ⟨g25, h⟩ := oif_some h
      obtain ⟨v26, -, h⟩ := elet_some h
      obtain ⟨g27, h⟩ := oif_some h
      obtain ⟨g28, h⟩ := oif_some h
      obtain ⟨T29, eT29, h⟩ := elet_some h
      have p2 : QF T T29 := QF.tr p1 (by rw [eT29]; first | exact qf_uO (oO_k g28).2 (by decide) | exact qf_uA (aA_k g27).2.1 (by decide))
      obtain ⟨g30, h⟩ := oif_some h
      obtain ⟨n31, en31, h⟩ := obind_some h
      obtain ⟨g32, h⟩ := oif_some h
      obtain ⟨n33, en33, h⟩ := obind_some h
      obtain ⟨g34, h⟩ := oif_some h
      obtain ⟨g35, h⟩ := oif_some h
      obtain ⟨v36, -, h⟩ := elet_some h
      obtain ⟨g37, h⟩ := oif_some h
      obtain ⟨g38, h⟩ := oif_some h
      obtain ⟨T39, eT39, h⟩ := elet_some h
      have p3 : QF T T39 := QF.tr p2 (by rw [eT39]; first | exact qf_uO (oO_k g38).2 (by decide) | exact qf_uA (aA_k g37).2.1 (by decide))
      obtain ⟨g40, h⟩ := oif_some h
      obtain ⟨n41, en41, h⟩ := obind_some h
      obtain ⟨g42, h⟩ := oif_some h
      obtain ⟨n43, en43, h⟩ := obind_some h
      obtain ⟨g44, h⟩ := oif_some h
      obtain ⟨g45, h⟩ := oif_some h
      obtain ⟨v46, -, h⟩ := elet_some h
      obtain ⟨g47, h⟩ := oif_some h
      obtain ⟨g48, h⟩ := oif_some h
      obtain ⟨T49, eT49, h⟩ := elet_some h
      have p4 : QF T T49 := QF.tr p3 (by rw [eT49]; first | exact qf_uO (oO_k g48).2 (by decide) | exact qf_uA (aA_k g47).2.1 (by decide))
      obtain ⟨g50, h⟩ := oif_some h
      obtain ⟨n51, en51, h⟩ := obind_some h
      obtain ⟨g52, h⟩ := oif_some h
      obtain ⟨n53, en53, h⟩ := obind_some h
      obtain ⟨g54, h⟩ := oif_some h
      obtain ⟨g55, h⟩ := oif_some h
      obtain ⟨v56, -, h⟩ := elet_some h
      obtain ⟨g57, h⟩ := oif_some h
      obtain ⟨g58, h⟩ := oif_some h
      obtain ⟨T59, eT59, h⟩ := elet_some h
      have p5 : QF T T59 := QF.tr p4 (by rw [eT59]; first | exact qf_uO (oO_k g58).2 (by decide) | exact qf_uA (aA_k g57).2.1 (by decide))
      obtain ⟨v60, ev60, h⟩ := elet_some h
      exact QF.tr p5 (ih _ _ _ _ h)
set_option maxHeartbeats 4000000 in
set_option maxRecDepth 100000 in
theorem sq_X8_copyFrom_b26 {T1 : AT} : ∀ n : Nat, ∀ (T : AT) (l0 : Nat) (l1 : Nat) (l2 : Int32), g_X8_copyFrom_b26 n T l0 l1 l2 = some T1 → QF T T1 := by
  intro n
  induction n with
  | zero =>
    intro T l0 l1 l2 h
    have h : (none : Option (AT)) = some T1 := h
    cases h
  | succ n ih =>
    intro T l0 l1 l2 h
    have p0 := QF.rf T
    unfold g_X8_copyFrom_b26 at h
    rcases oif_or h with ⟨c2, h⟩ | ⟨c2, h⟩
    · have h := h
      exact QF.tr p0 (sq_X8_copyFrom_b64 _ _ _ _ _ h)
    · have h := h
      obtain ⟨g3, h⟩ := oif_some h
      obtain ⟨n4, en4, h⟩ := obind_some h
      obtain ⟨g5, h⟩ := oif_some h
      obtain ⟨n6, en6, h⟩ := obind_some h
      obtain ⟨g7, h⟩ := oif_some h
      obtain ⟨g8, h⟩ := oif_some h
      obtain ⟨v9, -, h⟩ := elet_some h
      obtain ⟨g10, h⟩ := oif_some h
      obtain ⟨g11, h⟩ := oif_some h
      obtain ⟨gz, h⟩ := oif_some h
      obtain ⟨T12, eT12, h⟩ := elet_some h
      have p1 : QF T T12 := QF.tr p0 (by rw [eT12]; first | exact qf_uO (oO_k g11).2 (by decide) | exact qf_uA (aA_k g10).2.1 (by decide))
      obtain ⟨g13, h⟩ := oif_some h
      obtain ⟨n14, en14, h⟩ := obind_some h
      obtain ⟨g15, h⟩ := oif_some h
      obtain ⟨n16, en16, h⟩ := obind_some h
      obtain ⟨g17, h⟩ := oif_some h
      obtain ⟨g18, h⟩ := oif_some h
      obtain ⟨v19, -, h⟩ := elet_some h
      obtain ⟨g20, h⟩ := oif_some h
      obtain ⟨g21, h⟩ := oif_some h
      obtain ⟨T22, eT22, h⟩ := elet_some h
      have p2 : QF T T22 := QF.tr p1 (by rw [eT22]; first | exact qf_uO (oO_k g21).2 (by decide) | exact qf_uA (aA_k g20).2.1 (by decide))
      obtain ⟨v23, ev23, h⟩ := elet_some h
      exact QF.tr p2 (ih _ _ _ _ h)
set_option maxHeartbeats 4000000 in
set_option maxRecDepth 100000 in
theorem sq_X8_copyFrom {T : AT} {o : Nat} {a0 : Nat} {T1 : AT} (h : g_X8_copyFrom T o a0 = some T1) : QF T T1 := by
  have p0 := QF.rf T
  unfold g_X8_copyFrom at h
  obtain ⟨g2, h⟩ := oif_some h
  obtain ⟨v3, -, h⟩ := elet_some h
  obtain ⟨g4, h⟩ := oif_some h
  obtain ⟨T5, eT5, h⟩ := elet_some h
  have p1 : QF T T5 := QF.tr p0 (by rw [eT5]; first | exact qf_uO (oO_k g4).2 (by decide) | exact qf_uA (aA_k g2).2.1 (by decide))
  obtain ⟨g6, h⟩ := oif_some h
  obtain ⟨v7, -, h⟩ := elet_some h
  obtain ⟨g8, h⟩ := oif_some h
  obtain ⟨T9, eT9, h⟩ := elet_some h
  have p2 : QF T T9 := QF.tr p1 (by rw [eT9]; first | exact qf_uO (oO_k g8).2 (by decide) | exact qf_uA (aA_k g6).2.1 (by decide))
  obtain ⟨g10, h⟩ := oif_some h
  obtain ⟨v11, -, h⟩ := elet_some h
  obtain ⟨g12, h⟩ := oif_some h
  obtain ⟨T13, eT13, h⟩ := elet_some h
  have p3 : QF T T13 := QF.tr p2 (by rw [eT13]; first | exact qf_uO (oO_k g12).2 (by decide) | exact qf_uA (aA_k g10).2.1 (by decide))
  exact QF.tr p3 (sq_X8_copyFrom_b26 _ _ _ _ _ h)
set_option maxHeartbeats 4000000 in
set_option maxRecDepth 100000 in
theorem sq_X8_activeMics_b27 {r1 : Int32} {T1 : AT} {k4 : AT → Nat → Int32 → Int32 → Option (Int32 × AT)} (hk4 : ∀ (T : AT) (l0 : Nat) (l1 : Int32) (l2 : Int32), k4 T l0 l1 l2 = some (r1, T1) → QF T T1) : ∀ (T : AT) (s0 : Int32) (s1 : Int32) (l0 : Nat) (l2 : Int32), g_X8_activeMics_b27 k4 T s0 s1 l0 l2 = some (r1, T1) → QF T T1 := by
  intro T s0 s1 l0 l2 h
  have p0 := QF.rf T
  unfold g_X8_activeMics_b27 at h
  obtain ⟨v2, -, h⟩ := elet_some h
  obtain ⟨v3, ev3, h⟩ := elet_some h
  exact QF.tr p0 (hk4 _ _ _ _ h)
set_option maxHeartbeats 4000000 in
set_option maxRecDepth 100000 in
theorem sq_X8_activeMics_b4 {r1 : Int32} {T1 : AT} : ∀ n : Nat, ∀ (T : AT) (l0 : Nat) (l1 : Int32) (l2 : Int32), g_X8_activeMics_b4 n T l0 l1 l2 = some (r1, T1) → QF T T1 := by
  intro n
  induction n with
  | zero =>
    intro T l0 l1 l2 h
    have h : (none : Option (Int32 × AT)) = some (r1, T1) := h
    cases h
  | succ n ih =>
    intro T l0 l1 l2 h
    have p0 := QF.rf T
    unfold g_X8_activeMics_b4 at h
    obtain ⟨g2, h⟩ := oif_some h
    obtain ⟨v3, -, h⟩ := elet_some h
    rcases oif_or h with ⟨c4, h⟩ | ⟨c4, h⟩
    · have h := h
      rw [← (osome2 h).2]
      exact p0
    · have h := h
      obtain ⟨g5, h⟩ := oif_some h
      obtain ⟨n6, en6, h⟩ := obind_some h
      obtain ⟨g7, h⟩ := oif_some h
      obtain ⟨g8, h⟩ := oif_some h
      obtain ⟨v9, -, h⟩ := elet_some h
      rcases oif_or h with ⟨c10, h⟩ | ⟨c10, h⟩
      · have h := h
        exact QF.tr p0 (sq_X8_activeMics_b27 ih _ _ _ _ _ h)
      · have h := h
        exact QF.tr p0 (sq_X8_activeMics_b27 ih _ _ _ _ _ h)
set_option maxHeartbeats 4000000 in
set_option maxRecDepth 100000 in
theorem sq_X8_activeMics {T : AT} {o : Nat} {r1 : Int32} {T1 : AT} (h : g_X8_activeMics T o = some (r1, T1)) : QF T T1 := by
  have p0 := QF.rf T
  unfold g_X8_activeMics at h
  exact QF.tr p0 (sq_X8_activeMics_b4 _ _ _ _ _ h)
set_option maxHeartbeats 4000000 in
set_option maxRecDepth 100000 in
theorem sq_X8_activeWeight_b32 {r1 : Int32} {T1 : AT} {k4 : AT → Nat → Int32 → Int32 → Option (Int32 × AT)} (hk4 : ∀ (T : AT) (l0 : Nat) (l1 : Int32) (l2 : Int32), k4 T l0 l1 l2 = some (r1, T1) → QF T T1) : ∀ (T : AT) (s0 : Int32) (s1 : Int32) (l0 : Nat) (l2 : Int32), g_X8_activeWeight_b32 k4 T s0 s1 l0 l2 = some (r1, T1) → QF T T1 := by
  intro T s0 s1 l0 l2 h
  have p0 := QF.rf T
  unfold g_X8_activeWeight_b32 at h
  obtain ⟨v2, -, h⟩ := elet_some h
  obtain ⟨v3, ev3, h⟩ := elet_some h
  exact QF.tr p0 (hk4 _ _ _ _ h)
set_option maxHeartbeats 4000000 in
set_option maxRecDepth 100000 in
theorem sq_X8_activeWeight_b4 {r1 : Int32} {T1 : AT} : ∀ n : Nat, ∀ (T : AT) (l0 : Nat) (l1 : Int32) (l2 : Int32), g_X8_activeWeight_b4 n T l0 l1 l2 = some (r1, T1) → QF T T1 := by
  intro n
  induction n with
  | zero =>
    intro T l0 l1 l2 h
    have h : (none : Option (Int32 × AT)) = some (r1, T1) := h
    cases h
  | succ n ih =>
    intro T l0 l1 l2 h
    have p0 := QF.rf T
    unfold g_X8_activeWeight_b4 at h
    obtain ⟨g2, h⟩ := oif_some h
    obtain ⟨v3, -, h⟩ := elet_some h
    rcases oif_or h with ⟨c4, h⟩ | ⟨c4, h⟩
    · have h := h
      rw [← (osome2 h).2]
      exact p0
    · have h := h
      obtain ⟨g5, h⟩ := oif_some h
      obtain ⟨n6, en6, h⟩ := obind_some h
      obtain ⟨g7, h⟩ := oif_some h
      obtain ⟨g8, h⟩ := oif_some h
      obtain ⟨v9, -, h⟩ := elet_some h
      rcases oif_or h with ⟨c10, h⟩ | ⟨c10, h⟩
      · have h := h
        obtain ⟨g11, h⟩ := oif_some h
        obtain ⟨n12, en12, h⟩ := obind_some h
        obtain ⟨g13, h⟩ := oif_some h
        obtain ⟨g14, h⟩ := oif_some h
        obtain ⟨v15, -, h⟩ := elet_some h
        exact QF.tr p0 (sq_X8_activeWeight_b32 ih _ _ _ _ _ h)
      · have h := h
        exact QF.tr p0 (sq_X8_activeWeight_b32 ih _ _ _ _ _ h)
set_option maxHeartbeats 4000000 in
set_option maxRecDepth 100000 in
theorem sq_X8_activeWeight {T : AT} {o : Nat} {r1 : Int32} {T1 : AT} (h : g_X8_activeWeight T o = some (r1, T1)) : QF T T1 := by
  have p0 := QF.rf T
  unfold g_X8_activeWeight at h
  exact QF.tr p0 (sq_X8_activeWeight_b4 _ _ _ _ _ h)
set_option maxHeartbeats 4000000 in
set_option maxRecDepth 100000 in
theorem sq_X8_smallestDelay_b33 {r1 : Int32} {T1 : AT} {k8 : AT → Nat → Nat → Int32 → Int32 → Option (Int32 × AT)} (hk8 : ∀ (T : AT) (l0 : Nat) (l1 : Nat) (l2 : Int32) (l3 : Int32), k8 T l0 l1 l2 l3 = some (r1, T1) → QF T T1) : ∀ (T : AT) (l0 : Nat) (l1 : Nat) (l2 : Int32) (l3 : Int32), g_X8_smallestDelay_b33 k8 T l0 l1 l2 l3 = some (r1, T1) → QF T T1 := by
  intro T l0 l1 l2 l3 h
  have p0 := QF.rf T
  unfold g_X8_smallestDelay_b33 at h
  obtain ⟨v2, ev2, h⟩ := elet_some h
  exact QF.tr p0 (hk8 _ _ _ _ _ h)
set_option maxHeartbeats 4000000 in
set_option maxRecDepth 100000 in
theorem sq_X8_smallestDelay_b8 {r1 : Int32} {T1 : AT} : ∀ n : Nat, ∀ (T : AT) (l0 : Nat) (l1 : Nat) (l2 : Int32) (l3 : Int32), g_X8_smallestDelay_b8 n T l0 l1 l2 l3 = some (r1, T1) → QF T T1 := by
  intro n
  induction n with
  | zero =>
    intro T l0 l1 l2 l3 h
    have h : (none : Option (Int32 × AT)) = some (r1, T1) := h
    cases h
  | succ n ih =>
    intro T l0 l1 l2 l3 h
    have p0 := QF.rf T
    unfold g_X8_smallestDelay_b8 at h
    obtain ⟨g2, h⟩ := oif_some h
    obtain ⟨v3, -, h⟩ := elet_some h
    rcases oif_or h with ⟨c4, h⟩ | ⟨c4, h⟩
    · have h := h
      rw [← (osome2 h).2]
      exact p0
    · have h := h
      obtain ⟨g5, h⟩ := oif_some h
      obtain ⟨n6, en6, h⟩ := obind_some h
      obtain ⟨g7, h⟩ := oif_some h
      obtain ⟨g8, h⟩ := oif_some h
      obtain ⟨v9, -, h⟩ := elet_some h
      rcases oif_or h with ⟨c10, h⟩ | ⟨c10, h⟩
      · have h := h
        obtain ⟨g11, h⟩ := oif_some h
        obtain ⟨g12, h⟩ := oif_some h
        obtain ⟨v13, -, h⟩ := elet_some h
        obtain ⟨v14, -, h⟩ := elet_some h
        exact QF.tr p0 (sq_X8_smallestDelay_b33 ih _ _ _ _ _ h)
      · have h := h
        exact QF.tr p0 (sq_X8_smallestDelay_b33 ih _ _ _ _ _ h)
set_option maxHeartbeats 4000000 in
set_option maxRecDepth 100000 in
theorem sq_X8_smallestDelay {T : AT} {o : Nat} {a0 : Nat} {r1 : Int32} {T1 : AT} (h : g_X8_smallestDelay T o a0 = some (r1, T1)) : QF T T1 := by
  have p0 := QF.rf T
  unfold g_X8_smallestDelay at h
  obtain ⟨g2, h⟩ := oif_some h
  obtain ⟨r4, T3, eT3, h⟩ := obind2_some h
  have p1 : QF T T3 := QF.tr p0 (sq_X8_greatestDelay eT3)
  exact QF.tr p1 (sq_X8_smallestDelay_b8 _ _ _ _ _ _ h)
set_option maxHeartbeats 4000000 in
set_option maxRecDepth 100000 in
theorem sq_X8_powerOf_b13 {T1 : AT} : ∀ (T : AT), g_X8_powerOf_b13 T = some T1 → QF T T1 := by
  intro T h
  have p0 := QF.rf T
  unfold g_X8_powerOf_b13 at h
  rw [← osome1 h]
  exact p0
set_option maxHeartbeats 4000000 in
set_option maxRecDepth 100000 in
theorem sq_X8_powerOf {T : AT} {o : Nat} {a0 : Nat} {a1 : Nat} {a2 : Int32} {T1 : AT} (h : g_X8_powerOf T o a0 a1 a2 = some T1) : QF T T1 := by
  have p0 := QF.rf T
  unfold g_X8_powerOf at h
  obtain ⟨g2, h⟩ := oif_some h
  obtain ⟨r4, T3, eT3, h⟩ := obind2_some h
  have p1 : QF T T3 := QF.tr p0 ((sq_X8_windowOf eT3))
  obtain ⟨g5, h⟩ := oif_some h
  obtain ⟨T6, eT6, h⟩ := obind_some h
  have p2 : QF T T6 := QF.tr p1 (sq_X8_blockPowerOf eT6)
  exact QF.tr p2 (sq_X8_powerOf_b13 _ h)
set_option maxHeartbeats 4000000 in
set_option maxRecDepth 100000 in
theorem sq_X8_productSum_b50 {T1 : AT} {k10 : AT → Nat → Int32 → Int32 → Int32 → Nat → Int32 → Int32 → Option (AT)} (hk10 : ∀ (T : AT) (l0 : Nat) (l1 : Int32) (l2 : Int32) (l3 : Int32) (l4 : Nat) (l5 : Int32) (l6 : Int32), k10 T l0 l1 l2 l3 l4 l5 l6 = some T1 → QF T T1) : ∀ (T : AT) (l0 : Nat) (l1 : Int32) (l2 : Int32) (l3 : Int32) (l4 : Nat) (l5 : Int32) (l6 : Int32), g_X8_productSum_b50 k10 T l0 l1 l2 l3 l4 l5 l6 = some T1 → QF T T1 := by
  intro T l0 l1 l2 l3 l4 l5 l6 h
  have p0 := QF.rf T
  unfold g_X8_productSum_b50 at h
  obtain ⟨v2, ev2, h⟩ := elet_some h
  exact QF.tr p0 (hk10 _ _ _ _ _ _ _ _ h)
set_option maxHeartbeats 4000000 in
set_option maxRecDepth 100000 in
theorem sq_X8_productSum_b10 {T1 : AT} : ∀ n : Nat, ∀ (T : AT) (l0 : Nat) (l1 : Int32) (l2 : Int32) (l3 : Int32) (l4 : Nat) (l5 : Int32) (l6 : Int32), g_X8_productSum_b10 n T l0 l1 l2 l3 l4 l5 l6 = some T1 → QF T T1 := by
  intro n
  induction n with
  | zero =>
    intro T l0 l1 l2 l3 l4 l5 l6 h
    have h : (none : Option (AT)) = some T1 := h
    cases h
  | succ n ih =>
    intro T l0 l1 l2 l3 l4 l5 l6 h
    have p0 := QF.rf T
    unfold g_X8_productSum_b10 at h
    obtain ⟨v2, -, h⟩ := elet_some h
    obtain ⟨g3, h⟩ := oif_some h
    obtain ⟨v4, -, h⟩ := elet_some h
    rcases oif_or h with ⟨c5, h⟩ | ⟨c5, h⟩
    · have h := h
      rw [← osome1 h]
      exact p0
    · have h := h
      obtain ⟨g6, h⟩ := oif_some h
      obtain ⟨n7, en7, h⟩ := obind_some h
      obtain ⟨r8, -, h⟩ := obind_some h
      obtain ⟨g9, h⟩ := oif_some h
      obtain ⟨n10, en10, h⟩ := obind_some h
      obtain ⟨v11, -, h⟩ := elet_some h
      obtain ⟨r12, -, h⟩ := obind_some h
      obtain ⟨g13, h⟩ := oif_some h
      obtain ⟨T14, eT14, h⟩ := obind_some h
      have p1 : QF T T14 := QF.tr p0 (sq_X10_addProduct eT14)
      exact QF.tr p1 (sq_X8_productSum_b50 ih _ _ _ _ _ _ _ _ h)
set_option maxHeartbeats 4000000 in
set_option maxRecDepth 100000 in
theorem sq_X8_productSum {T : AT} {o : Nat} {a0 : Int32} {a1 : Int32} {a2 : Int32} {a3 : Nat} {a4 : Int32} {T1 : AT} (h : g_X8_productSum T o a0 a1 a2 a3 a4 = some T1) : QF T T1 := by
  have p0 := QF.rf T
  unfold g_X8_productSum at h
  obtain ⟨g2, h⟩ := oif_some h
  obtain ⟨T3, eT3, h⟩ := obind_some h
  have p1 : QF T T3 := QF.tr p0 ((sq_X10_clear eT3))
  exact QF.tr p1 (sq_X8_productSum_b10 _ _ _ _ _ _ _ _ _ h)
set_option maxHeartbeats 4000000 in
set_option maxRecDepth 100000 in
theorem sq_X10_multiply_b34 {T1 : AT} : ∀ (T : AT), g_X10_multiply_b34 T = some T1 → QF T T1 := by
  intro T h
  have p0 := QF.rf T
  unfold g_X10_multiply_b34 at h
  rw [← osome1 h]
  exact p0
set_option maxHeartbeats 4000000 in
set_option maxRecDepth 100000 in
theorem sq_X10_multiply_b2 {T1 : AT} : ∀ n : Nat, ∀ (T : AT) (l0 : Nat) (l1 : Int32) (l2 : Int32) (l3 : Int32), g_X10_multiply_b2 n T l0 l1 l2 l3 = some T1 → QF T T1 := by
  intro n
  induction n with
  | zero =>
    intro T l0 l1 l2 l3 h
    have h : (none : Option (AT)) = some T1 := h
    cases h
  | succ n ih =>
    intro T l0 l1 l2 l3 h
    have p0 := QF.rf T
    unfold g_X10_multiply_b2 at h
    obtain ⟨g2, h⟩ := oif_some h
    obtain ⟨v3, -, h⟩ := elet_some h
    rcases oif_or h with ⟨c4, h⟩ | ⟨c4, h⟩
    · have h := h
      obtain ⟨g5, h⟩ := oif_some h
      obtain ⟨T6, eT6, h⟩ := obind_some h
      have p1 : QF T T6 := QF.tr p0 (sq_X10_settle eT6)
      exact QF.tr p1 (sq_X10_multiply_b34 _ h)
    · have h := h
      obtain ⟨g8, h⟩ := oif_some h
      obtain ⟨n9, en9, h⟩ := obind_some h
      obtain ⟨g10, h⟩ := oif_some h
      obtain ⟨g11, h⟩ := oif_some h
      obtain ⟨n12, en12, h⟩ := obind_some h
      obtain ⟨g13, h⟩ := oif_some h
      obtain ⟨g14, h⟩ := oif_some h
      obtain ⟨v15, -, h⟩ := elet_some h
      obtain ⟨v16, -, h⟩ := elet_some h
      obtain ⟨v17, -, h⟩ := elet_some h
      obtain ⟨g18, h⟩ := oif_some h
      obtain ⟨g19, h⟩ := oif_some h
      obtain ⟨T20, eT20, h⟩ := elet_some h
      have p1 : QF T T20 := QF.tr p0 (by rw [eT20]; exact qf_uJ)
      obtain ⟨v21, ev21, h⟩ := elet_some h
      exact QF.tr p1 (ih _ _ _ _ _ h)
set_option maxHeartbeats 4000000 in
set_option maxRecDepth 100000 in
theorem sq_X10_multiply {T : AT} {o : Nat} {a0 : Int32} {a1 : Int32} {T1 : AT} (h : g_X10_multiply T o a0 a1 = some T1) : QF T T1 := by
  have p0 := QF.rf T
  unfold g_X10_multiply at h
  exact QF.tr p0 (sq_X10_multiply_b2 _ _ _ _ _ _ h)
set_option maxHeartbeats 4000000 in
set_option maxRecDepth 100000 in
theorem sq_X8_subtractBeam_b115 {T1 : AT} {k18 : AT → Nat → Nat → Int32 → Int32 → Int32 → Int32 → Option (AT)} {k53 : AT → Nat → Nat → Int32 → Int32 → Int32 → Int32 → Int32 → Option (AT)} (hk18 : ∀ (T : AT) (l0 : Nat) (l1 : Nat) (l2 : Int32) (l3 : Int32) (l4 : Int32) (l5 : Int32), k18 T l0 l1 l2 l3 l4 l5 = some T1 → QF T T1) (hk53 : ∀ (T : AT) (l0 : Nat) (l1 : Nat) (l2 : Int32) (l3 : Int32) (l4 : Int32) (l5 : Int32) (l6 : Int32), k53 T l0 l1 l2 l3 l4 l5 l6 = some T1 → QF T T1) : ∀ (T : AT) (l0 : Nat) (l1 : Nat) (l2 : Int32) (l3 : Int32) (l4 : Int32) (l5 : Int32) (l6 : Int32), g_X8_subtractBeam_b115 k18 k53 T l0 l1 l2 l3 l4 l5 l6 = some T1 → QF T T1 := by
  intro T l0 l1 l2 l3 l4 l5 l6 h
  have p0 := QF.rf T
  unfold g_X8_subtractBeam_b115 at h
  obtain ⟨v2, ev2, h⟩ := elet_some h
  exact QF.tr p0 (hk53 _ _ _ _ _ _ _ _ h)
set_option maxHeartbeats 4000000 in
set_option maxRecDepth 100000 in
theorem sq_X8_subtractBeam_b53 {T1 : AT} {k18 : AT → Nat → Nat → Int32 → Int32 → Int32 → Int32 → Option (AT)} (hk18 : ∀ (T : AT) (l0 : Nat) (l1 : Nat) (l2 : Int32) (l3 : Int32) (l4 : Int32) (l5 : Int32), k18 T l0 l1 l2 l3 l4 l5 = some T1 → QF T T1) : ∀ n : Nat, ∀ (T : AT) (l0 : Nat) (l1 : Nat) (l2 : Int32) (l3 : Int32) (l4 : Int32) (l5 : Int32) (l6 : Int32), g_X8_subtractBeam_b53 k18 n T l0 l1 l2 l3 l4 l5 l6 = some T1 → QF T T1 := by
  intro n
  induction n with
  | zero =>
    intro T l0 l1 l2 l3 l4 l5 l6 h
    have h : (none : Option (AT)) = some T1 := h
    cases h
  | succ n ih =>
    intro T l0 l1 l2 l3 l4 l5 l6 h
    have p0 := QF.rf T
    unfold g_X8_subtractBeam_b53 at h
    obtain ⟨g2, h⟩ := oif_some h
    obtain ⟨v3, -, h⟩ := elet_some h
    rcases oif_or h with ⟨c4, h⟩ | ⟨c4, h⟩
    · have h := h
      obtain ⟨v5, ev5, h⟩ := elet_some h
      exact QF.tr p0 (hk18 _ _ _ _ _ _ _ h)
    · have h := h
      obtain ⟨g6, h⟩ := oif_some h
      obtain ⟨g7, h⟩ := oif_some h
      obtain ⟨v8, -, h⟩ := elet_some h
      obtain ⟨v9, -, h⟩ := elet_some h
      obtain ⟨g10, h⟩ := oif_some h
      obtain ⟨n11, en11, h⟩ := obind_some h
      obtain ⟨g12, h⟩ := oif_some h
      obtain ⟨g13, h⟩ := oif_some h
      obtain ⟨v14, -, h⟩ := elet_some h
      rcases oif_or h with ⟨c15, h⟩ | ⟨c15, h⟩
      · have h := h
        rcases oif_or h with ⟨c16, h⟩ | ⟨c16, h⟩
        · have h := h
          exact QF.tr p0 (sq_X8_subtractBeam_b115 hk18 ih _ _ _ _ _ _ _ _ h)
        · have h := h
          obtain ⟨g17, h⟩ := oif_some h
          obtain ⟨v18, -, h⟩ := elet_some h
          rcases oif_or h with ⟨c19, h⟩ | ⟨c19, h⟩
          · have h := h
            exact QF.tr p0 (sq_X8_subtractBeam_b115 hk18 ih _ _ _ _ _ _ _ _ h)
          · have h := h
            obtain ⟨g20, h⟩ := oif_some h
            obtain ⟨n21, en21, h⟩ := obind_some h
            obtain ⟨r22, -, h⟩ := obind_some h
            obtain ⟨g23, h⟩ := oif_some h
            obtain ⟨n24, en24, h⟩ := obind_some h
            obtain ⟨g25, h⟩ := oif_some h
            obtain ⟨T26, eT26, h⟩ := obind_some h
            have p1 : QF T T26 := QF.tr p0 (sq_X10_add eT26)
            exact QF.tr p1 (sq_X8_subtractBeam_b115 hk18 ih _ _ _ _ _ _ _ _ h)
      · have h := h
        exact QF.tr p0 (sq_X8_subtractBeam_b115 hk18 ih _ _ _ _ _ _ _ _ h)
set_option maxHeartbeats 4000000 in
set_option maxRecDepth 100000 in
theorem sq_X8_subtractBeam_b50 {T1 : AT} {k18 : AT → Nat → Nat → Int32 → Int32 → Int32 → Int32 → Option (AT)} (hk18 : ∀ (T : AT) (l0 : Nat) (l1 : Nat) (l2 : Int32) (l3 : Int32) (l4 : Int32) (l5 : Int32), k18 T l0 l1 l2 l3 l4 l5 = some T1 → QF T T1) : ∀ (T : AT) (l0 : Nat) (l1 : Nat) (l2 : Int32) (l3 : Int32) (l4 : Int32) (l5 : Int32), g_X8_subtractBeam_b50 k18 T l0 l1 l2 l3 l4 l5 = some T1 → QF T T1 := by
  intro T l0 l1 l2 l3 l4 l5 h
  have p0 := QF.rf T
  unfold g_X8_subtractBeam_b50 at h
  exact QF.tr p0 (sq_X8_subtractBeam_b53 hk18 _ _ _ _ _ _ _ _ _ h)
set_option maxHeartbeats 4000000 in
set_option maxRecDepth 100000 in
theorem sq_X8_subtractBeam_b41 {T1 : AT} {k18 : AT → Nat → Nat → Int32 → Int32 → Int32 → Int32 → Option (AT)} (hk18 : ∀ (T : AT) (l0 : Nat) (l1 : Nat) (l2 : Int32) (l3 : Int32) (l4 : Int32) (l5 : Int32), k18 T l0 l1 l2 l3 l4 l5 = some T1 → QF T T1) : ∀ (T : AT) (l0 : Nat) (l1 : Nat) (l2 : Int32) (l3 : Int32) (l4 : Int32) (l5 : Int32), g_X8_subtractBeam_b41 k18 T l0 l1 l2 l3 l4 l5 = some T1 → QF T T1 := by
  intro T l0 l1 l2 l3 l4 l5 h
  have p0 := QF.rf T
  unfold g_X8_subtractBeam_b41 at h
  obtain ⟨g2, h⟩ := oif_some h
  obtain ⟨n3, en3, h⟩ := obind_some h
  obtain ⟨g4, h⟩ := oif_some h
  obtain ⟨T5, eT5, h⟩ := obind_some h
  have p1 : QF T T5 := QF.tr p0 (sq_X10_divide eT5)
  exact QF.tr p1 (sq_X8_subtractBeam_b50 hk18 _ _ _ _ _ _ _ h)
set_option maxHeartbeats 4000000 in
set_option maxRecDepth 100000 in
theorem sq_X8_subtractBeam_b32 {T1 : AT} {k18 : AT → Nat → Nat → Int32 → Int32 → Int32 → Int32 → Option (AT)} (hk18 : ∀ (T : AT) (l0 : Nat) (l1 : Nat) (l2 : Int32) (l3 : Int32) (l4 : Int32) (l5 : Int32), k18 T l0 l1 l2 l3 l4 l5 = some T1 → QF T T1) : ∀ (T : AT) (l0 : Nat) (l1 : Nat) (l2 : Int32) (l3 : Int32) (l4 : Int32) (l5 : Int32), g_X8_subtractBeam_b32 k18 T l0 l1 l2 l3 l4 l5 = some T1 → QF T T1 := by
  intro T l0 l1 l2 l3 l4 l5 h
  have p0 := QF.rf T
  unfold g_X8_subtractBeam_b32 at h
  obtain ⟨g2, h⟩ := oif_some h
  obtain ⟨n3, en3, h⟩ := obind_some h
  obtain ⟨g4, h⟩ := oif_some h
  obtain ⟨T5, eT5, h⟩ := obind_some h
  have p1 : QF T T5 := QF.tr p0 (sq_X10_multiply eT5)
  exact QF.tr p1 (sq_X8_subtractBeam_b41 hk18 _ _ _ _ _ _ _ h)
set_option maxHeartbeats 4000000 in
set_option maxRecDepth 100000 in
theorem sq_X8_subtractBeam_b18 {T1 : AT} : ∀ n : Nat, ∀ (T : AT) (l0 : Nat) (l1 : Nat) (l2 : Int32) (l3 : Int32) (l4 : Int32) (l5 : Int32), g_X8_subtractBeam_b18 n T l0 l1 l2 l3 l4 l5 = some T1 → QF T T1 := by
  intro n
  induction n with
  | zero =>
    intro T l0 l1 l2 l3 l4 l5 h
    have h : (none : Option (AT)) = some T1 := h
    cases h
  | succ n ih =>
    intro T l0 l1 l2 l3 l4 l5 h
    have p0 := QF.rf T
    unfold g_X8_subtractBeam_b18 at h
    rcases oif_or h with ⟨c2, h⟩ | ⟨c2, h⟩
    · have h := h
      obtain ⟨g3, h⟩ := oif_some h
      obtain ⟨v4, -, h⟩ := elet_some h
      obtain ⟨v5, -, h⟩ := elet_some h
      obtain ⟨g6, h⟩ := oif_some h
      obtain ⟨T7, eT7, h⟩ := elet_some h
      have p1 : QF T T7 := QF.tr p0 (by rw [eT7]; first | exact qf_uO (oO_k g6).2 (by decide) | exact qf_uA (aA_k g3).2.1 (by decide))
      rw [← osome1 h]
      exact p1
    · have h := h
      obtain ⟨g8, h⟩ := oif_some h
      obtain ⟨T9, eT9, h⟩ := obind_some h
      have p1 : QF T T9 := QF.tr p0 (sq_X8_focus eT9)
      exact QF.tr p1 (sq_X8_subtractBeam_b32 ih _ _ _ _ _ _ _ h)
set_option maxHeartbeats 4000000 in
set_option maxRecDepth 100000 in
theorem sq_X8_subtractBeam {T : AT} {o : Nat} {a0 : Nat} {a1 : Int32} {T1 : AT} (h : g_X8_subtractBeam T o a0 a1 = some T1) : QF T T1 := by
  have p0 := QF.rf T
  unfold g_X8_subtractBeam at h
  obtain ⟨g2, h⟩ := oif_some h
  obtain ⟨r4, T3, eT3, h⟩ := obind2_some h
  have p1 : QF T T3 := QF.tr p0 ((sq_X8_activeWeight eT3))
  obtain ⟨v5, -, h⟩ := elet_some h
  obtain ⟨g6, h⟩ := oif_some h
  obtain ⟨r8, T7, eT7, h⟩ := obind2_some h
  have p2 : QF T T7 := QF.tr p1 ((sq_X8_windowOf eT7))
  exact QF.tr p2 (sq_X8_subtractBeam_b18 _ _ _ _ _ _ _ _ h)
set_option maxHeartbeats 4000000 in
set_option maxRecDepth 100000 in
theorem sq_X9_addWord_b43 {T1 : AT} {k3 : AT → Nat → Int32 → Int32 → Option (AT)} (hk3 : ∀ (T : AT) (l0 : Nat) (l1 : Int32) (l2 : Int32), k3 T l0 l1 l2 = some T1 → QF T T1) : ∀ (T : AT) (l0 : Nat) (l1 : Int32) (l2 : Int32), g_X9_addWord_b43 k3 T l0 l1 l2 = some T1 → QF T T1 := by
  intro T l0 l1 l2 h
  have p0 := QF.rf T
  unfold g_X9_addWord_b43 at h
  obtain ⟨v2, ev2, h⟩ := elet_some h
  exact QF.tr p0 (hk3 _ _ _ _ h)
set_option maxHeartbeats 4000000 in
set_option maxRecDepth 100000 in
theorem sq_X9_addWord_b3 {T1 : AT} : ∀ n : Nat, ∀ (T : AT) (l0 : Nat) (l1 : Int32) (l2 : Int32), g_X9_addWord_b3 n T l0 l1 l2 = some T1 → QF T T1 := by
  intro n
  induction n with
  | zero =>
    intro T l0 l1 l2 h
    have h : (none : Option (AT)) = some T1 := h
    cases h
  | succ n ih =>
    intro T l0 l1 l2 h
    have p0 := QF.rf T
    unfold g_X9_addWord_b3 at h
    rcases oif_or h with ⟨c2, h⟩ | ⟨c2, h⟩
    · have h := h
      rw [← osome1 h]
      exact p0
    · have h := h
      obtain ⟨g3, h⟩ := oif_some h
      obtain ⟨v4, -, h⟩ := elet_some h
      rcases oif_or h with ⟨c5, h⟩ | ⟨c5, h⟩
      · have h := h
        exact QF.tr p0 (sq_X9_addWord_b43 ih _ _ _ _ h)
      · have h := h
        obtain ⟨g6, h⟩ := oif_some h
        obtain ⟨n7, en7, h⟩ := obind_some h
        obtain ⟨g8, h⟩ := oif_some h
        obtain ⟨v9, -, h⟩ := elet_some h
        obtain ⟨v10, -, h⟩ := elet_some h
        obtain ⟨v11, -, h⟩ := elet_some h
        obtain ⟨g12, h⟩ := oif_some h
        obtain ⟨g13, h⟩ := oif_some h
        obtain ⟨T14, eT14, h⟩ := elet_some h
        have p1 : QF T T14 := QF.tr p0 (by rw [eT14]; first | exact qf_uO (oO_k g13).2 (by decide) | exact qf_uA (aA_k g12).2.1 (by decide))
        obtain ⟨g15, h⟩ := oif_some h
        obtain ⟨v16, -, h⟩ := elet_some h
        obtain ⟨v17, -, h⟩ := elet_some h
        obtain ⟨g18, h⟩ := oif_some h
        obtain ⟨T19, eT19, h⟩ := elet_some h
        have p2 : QF T T19 := QF.tr p1 (by rw [eT19]; first | exact qf_uO (oO_k g18).2 (by decide) | exact qf_uA (aA_k g15).2.1 (by decide))
        exact QF.tr p2 (sq_X9_addWord_b43 ih _ _ _ _ h)
set_option maxHeartbeats 4000000 in
set_option maxRecDepth 100000 in
theorem sq_X9_addWord {T : AT} {o : Nat} {a0 : Int32} {T1 : AT} (h : g_X9_addWord T o a0 = some T1) : QF T T1 := by
  have p0 := QF.rf T
  unfold g_X9_addWord at h
  exact QF.tr p0 (sq_X9_addWord_b3 _ _ _ _ _ h)
set_option maxHeartbeats 4000000 in
set_option maxRecDepth 100000 in
theorem sq_X10_value_b10 {r1 : Int64} {T1 : AT} : ∀ n : Nat, ∀ (T : AT) (l0 : Nat) (l1 : Int32) (l2 : Int64) (l4 : Int32), g_X10_value_b10 n T l0 l1 l2 l4 = some (r1, T1) → QF T T1 := by
  intro n
  induction n with
  | zero =>
    intro T l0 l1 l2 l4 h
    have h : (none : Option (Int64 × AT)) = some (r1, T1) := h
    cases h
  | succ n ih =>
    intro T l0 l1 l2 l4 h
    have p0 := QF.rf T
    unfold g_X10_value_b10 at h
    rcases oif_or h with ⟨c2, h⟩ | ⟨c2, h⟩
    · have h := h
      rw [← (osome2 h).2]
      exact p0
    · have h := h
      obtain ⟨v3, -, h⟩ := elet_some h
      obtain ⟨g4, h⟩ := oif_some h
      obtain ⟨n5, en5, h⟩ := obind_some h
      obtain ⟨g6, h⟩ := oif_some h
      obtain ⟨g7, h⟩ := oif_some h
      obtain ⟨n8, en8, h⟩ := obind_some h
      obtain ⟨g9, h⟩ := oif_some h
      obtain ⟨g10, h⟩ := oif_some h
      obtain ⟨v11, -, h⟩ := elet_some h
      obtain ⟨v12, -, h⟩ := elet_some h
      obtain ⟨v13, ev13, h⟩ := elet_some h
      exact QF.tr p0 (ih _ _ _ _ _ h)
set_option maxHeartbeats 4000000 in
set_option maxRecDepth 100000 in
theorem sq_X10_value {T : AT} {o : Nat} {a0 : Int32} {r1 : Int64} {T1 : AT} (h : g_X10_value T o a0 = some (r1, T1)) : QF T T1 := by
  have p0 := QF.rf T
  unfold g_X10_value at h
  obtain ⟨g2, h⟩ := oif_some h
  obtain ⟨v3, -, h⟩ := elet_some h
  obtain ⟨v4, -, h⟩ := elet_some h
  exact QF.tr p0 (sq_X10_value_b10 _ _ _ _ _ _ h)
set_option maxHeartbeats 4000000 in
set_option maxRecDepth 100000 in
theorem sq_X10_partsBelow_b7 {r1 : Int32} {T1 : AT} : ∀ n : Nat, ∀ (T : AT) (l0 : Nat) (l1 : Int32) (l2 : Int32), g_X10_partsBelow_b7 n T l0 l1 l2 = some (r1, T1) → QF T T1 := by
  intro n
  induction n with
  | zero =>
    intro T l0 l1 l2 h
    have h : (none : Option (Int32 × AT)) = some (r1, T1) := h
    cases h
  | succ n ih =>
    intro T l0 l1 l2 h
    have p0 := QF.rf T
    unfold g_X10_partsBelow_b7 at h
    rcases oif_or h with ⟨c2, h⟩ | ⟨c2, h⟩
    · have h := h
      rw [← (osome2 h).2]
      exact p0
    · have h := h
      obtain ⟨g3, h⟩ := oif_some h
      obtain ⟨n4, en4, h⟩ := obind_some h
      obtain ⟨g5, h⟩ := oif_some h
      obtain ⟨g6, h⟩ := oif_some h
      obtain ⟨n7, en7, h⟩ := obind_some h
      obtain ⟨g8, h⟩ := oif_some h
      obtain ⟨g9, h⟩ := oif_some h
      obtain ⟨v10, -, h⟩ := elet_some h
      obtain ⟨v11, -, h⟩ := elet_some h
      rcases oif_or h with ⟨c12, h⟩ | ⟨c12, h⟩
      · have h := h
        obtain ⟨v13, ev13, h⟩ := elet_some h
        exact QF.tr p0 (ih _ _ _ _ h)
      · have h := h
        obtain ⟨v14, -, h⟩ := elet_some h
        rw [← (osome2 h).2]
        exact p0
set_option maxHeartbeats 4000000 in
set_option maxRecDepth 100000 in
theorem sq_X10_partsBelow {T : AT} {o : Nat} {a0 : Int32} {r1 : Int32} {T1 : AT} (h : g_X10_partsBelow T o a0 = some (r1, T1)) : QF T T1 := by
  have p0 := QF.rf T
  unfold g_X10_partsBelow at h
  obtain ⟨g2, h⟩ := oif_some h
  obtain ⟨v3, -, h⟩ := elet_some h
  obtain ⟨v4, -, h⟩ := elet_some h
  exact QF.tr p0 (sq_X10_partsBelow_b7 _ _ _ _ _ h)
set_option maxHeartbeats 4000000 in
set_option maxRecDepth 100000 in
theorem sq_X10_leading_b88 {r1 : UInt32} {T1 : AT} : ∀ (T : AT) (s0 : Int64), g_X10_leading_b88 T s0 = some (r1, T1) → QF T T1 := by
  intro T s0 h
  have p0 := QF.rf T
  unfold g_X10_leading_b88 at h
  obtain ⟨v2, -, h⟩ := elet_some h
  rw [← (osome2 h).2]
  exact p0
set_option maxHeartbeats 4000000 in
set_option maxRecDepth 100000 in
theorem sq_X10_leading_b73 {r1 : UInt32} {T1 : AT} : ∀ (T : AT) (l3 : Int64) (l5 : Int64), g_X10_leading_b73 T l3 l5 = some (r1, T1) → QF T T1 := by
  intro T l3 l5 h
  have p0 := QF.rf T
  unfold g_X10_leading_b73 at h
  obtain ⟨v2, -, h⟩ := elet_some h
  rcases oif_or h with ⟨c3, h⟩ | ⟨c3, h⟩
  · have h := h
    exact QF.tr p0 (sq_X10_leading_b88 _ _ h)
  · have h := h
    obtain ⟨v4, -, h⟩ := elet_some h
    exact QF.tr p0 (sq_X10_leading_b88 _ _ h)
set_option maxHeartbeats 4000000 in
set_option maxRecDepth 100000 in
theorem sq_X10_leading_b11 {r1 : UInt32} {T1 : AT} : ∀ n : Nat, ∀ (T : AT) (l0 : Nat) (l1 : Int32) (l2 : Int32) (l3 : Int64) (l5 : Int32), g_X10_leading_b11 n T l0 l1 l2 l3 l5 = some (r1, T1) → QF T T1 := by
  intro n
  induction n with
  | zero =>
    intro T l0 l1 l2 l3 l5 h
    have h : (none : Option (UInt32 × AT)) = some (r1, T1) := h
    cases h
  | succ n ih =>
    intro T l0 l1 l2 l3 l5 h
    have p0 := QF.rf T
    unfold g_X10_leading_b11 at h
    rcases oif_or h with ⟨c2, h⟩ | ⟨c2, h⟩
    · have h := h
      obtain ⟨g3, h⟩ := oif_some h
      obtain ⟨n4, en4, h⟩ := obind_some h
      obtain ⟨g5, h⟩ := oif_some h
      obtain ⟨g6, h⟩ := oif_some h
      obtain ⟨n7, en7, h⟩ := obind_some h
      obtain ⟨g8, h⟩ := oif_some h
      obtain ⟨g9, h⟩ := oif_some h
      obtain ⟨v10, -, h⟩ := elet_some h
      obtain ⟨v11, -, h⟩ := elet_some h
      obtain ⟨g12, h⟩ := oif_some h
      obtain ⟨v13, -, h⟩ := elet_some h
      rcases oif_or h with ⟨c14, h⟩ | ⟨c14, h⟩
      · have h := h
        exact QF.tr p0 (sq_X10_leading_b73 _ _ _ h)
      · have h := h
        obtain ⟨g15, h⟩ := oif_some h
        obtain ⟨n16, en16, h⟩ := obind_some h
        obtain ⟨v17, -, h⟩ := elet_some h
        obtain ⟨g18, h⟩ := oif_some h
        obtain ⟨g19, h⟩ := oif_some h
        obtain ⟨n20, en20, h⟩ := obind_some h
        obtain ⟨g21, h⟩ := oif_some h
        obtain ⟨g22, h⟩ := oif_some h
        obtain ⟨v23, -, h⟩ := elet_some h
        obtain ⟨v24, -, h⟩ := elet_some h
        obtain ⟨v25, -, h⟩ := elet_some h
        exact QF.tr p0 (sq_X10_leading_b73 _ _ _ h)
    · have h := h
      obtain ⟨g26, h⟩ := oif_some h
      obtain ⟨n27, en27, h⟩ := obind_some h
      obtain ⟨g28, h⟩ := oif_some h
      obtain ⟨g29, h⟩ := oif_some h
      obtain ⟨n30, en30, h⟩ := obind_some h
      obtain ⟨g31, h⟩ := oif_some h
      obtain ⟨g32, h⟩ := oif_some h
      obtain ⟨v33, -, h⟩ := elet_some h
      obtain ⟨v34, -, h⟩ := elet_some h
      obtain ⟨v35, ev35, h⟩ := elet_some h
      exact QF.tr p0 (ih _ _ _ _ _ _ h)
set_option maxHeartbeats 4000000 in
set_option maxRecDepth 100000 in
theorem sq_X10_leading {T : AT} {o : Nat} {a0 : Int32} {r1 : UInt32} {T1 : AT} (h : g_X10_leading T o a0 = some (r1, T1)) : QF T T1 := by
  have p0 := QF.rf T
  unfold g_X10_leading at h
  obtain ⟨g2, h⟩ := oif_some h
  obtain ⟨r4, T3, eT3, h⟩ := obind2_some h
  have p1 : QF T T3 := QF.tr p0 (sq_X10_partsBelow eT3)
  exact QF.tr p1 (sq_X10_leading_b11 _ _ _ _ _ _ _ h)
set_option maxHeartbeats 4000000 in
set_option maxRecDepth 100000 in
theorem sq_X10_ratio_b30 {r1 : UInt32} {T1 : AT} : ∀ n : Nat, ∀ (T : AT) (l0 : Nat) (l1 : Int32) (l4 : UInt32) (l5 : Int32), g_X10_ratio_b30 n T l0 l1 l4 l5 = some (r1, T1) → QF T T1 := by
  intro n
  induction n with
  | zero =>
    intro T l0 l1 l4 l5 h
    have h : (none : Option (UInt32 × AT)) = some (r1, T1) := h
    cases h
  | succ n ih =>
    intro T l0 l1 l4 l5 h
    have p0 := QF.rf T
    unfold g_X10_ratio_b30 at h
    obtain ⟨g2, h⟩ := oif_some h
    obtain ⟨r4, T3, eT3, h⟩ := obind2_some h
    have p1 : QF T T3 := QF.tr p0 (sq_X10_partsBelow eT3)
    rcases oif_or h with ⟨c5, h⟩ | ⟨c5, h⟩
    · have h := h
      rw [← (osome2 h).2]
      exact p1
    · have h := h
      obtain ⟨g6, h⟩ := oif_some h
      obtain ⟨v7, -, h⟩ := elet_some h
      obtain ⟨v8, ev8, h⟩ := elet_some h
      exact QF.tr p1 (ih _ _ _ _ _ h)
set_option maxHeartbeats 4000000 in
set_option maxRecDepth 100000 in
theorem sq_X10_ratio {T : AT} {o : Nat} {a0 : Int32} {a1 : Int32} {r1 : UInt32} {T1 : AT} (h : g_X10_ratio T o a0 a1 = some (r1, T1)) : QF T T1 := by
  have p0 := QF.rf T
  unfold g_X10_ratio at h
  obtain ⟨g2, h⟩ := oif_some h
  obtain ⟨r4, T3, eT3, h⟩ := obind2_some h
  have p1 : QF T T3 := QF.tr p0 (sq_X10_leading eT3)
  obtain ⟨v5, -, h⟩ := elet_some h
  rcases oif_or h with ⟨c6, h⟩ | ⟨c6, h⟩
  · have h := h
    rw [← (osome2 h).2]
    exact p1
  · have h := h
    obtain ⟨g7, h⟩ := oif_some h
    obtain ⟨r9, T8, eT8, h⟩ := obind2_some h
    have p2 : QF T T8 := QF.tr p1 (sq_X10_leading eT8)
    obtain ⟨g10, h⟩ := oif_some h
    obtain ⟨v11, -, h⟩ := elet_some h
    obtain ⟨g12, h⟩ := oif_some h
    obtain ⟨r14, T13, eT13, h⟩ := obind2_some h
    have p3 : QF T T13 := QF.tr p2 (sq_X10_partsBelow eT13)
    exact QF.tr p3 (sq_X10_ratio_b30 _ _ _ _ _ _ h)
set_option maxHeartbeats 4000000 in
set_option maxRecDepth 100000 in
theorem sq_X11_append {T : AT} {o : Nat} {a0 : Int32} {a1 : Int32} {a2 : Int32} {a3 : Int32} {a4 : Int32} {r1 : Int32} {T1 : AT} (h : g_X11_append T o a0 a1 a2 a3 a4 = some (r1, T1)) : QF T T1 := by
  have p0 := QF.rf T
  unfold g_X11_append at h
  obtain ⟨g2, h⟩ := oif_some h
  obtain ⟨n3, en3, h⟩ := obind_some h
  obtain ⟨g4, h⟩ := oif_some h
  obtain ⟨v5, -, h⟩ := elet_some h
  obtain ⟨v6, -, h⟩ := elet_some h
  rcases oif_or h with ⟨c7, h⟩ | ⟨c7, h⟩
  · have h := h
    obtain ⟨g8, h⟩ := oif_some h
    obtain ⟨n9, en9, h⟩ := obind_some h
    obtain ⟨g10, h⟩ := oif_some h
    obtain ⟨T11, eT11, h⟩ := obind_some h
    have p1 : QF T T11 := QF.tr p0 (sq_X9_addWord eT11)
    obtain ⟨g13, h⟩ := oif_some h
    obtain ⟨n14, en14, h⟩ := obind_some h
    obtain ⟨g15, h⟩ := oif_some h
    obtain ⟨T16, eT16, h⟩ := obind_some h
    have p2 : QF T T16 := QF.tr p1 (sq_X9_addWord eT16)
    obtain ⟨g18, h⟩ := oif_some h
    obtain ⟨n19, en19, h⟩ := obind_some h
    obtain ⟨g20, h⟩ := oif_some h
    obtain ⟨T21, eT21, h⟩ := obind_some h
    have p3 : QF T T21 := QF.tr p2 (sq_X9_addWord eT21)
    obtain ⟨g23, h⟩ := oif_some h
    obtain ⟨n24, en24, h⟩ := obind_some h
    obtain ⟨g25, h⟩ := oif_some h
    obtain ⟨T26, eT26, h⟩ := obind_some h
    have p4 : QF T T26 := QF.tr p3 (sq_X9_addWord eT26)
    obtain ⟨g28, h⟩ := oif_some h
    obtain ⟨n29, en29, h⟩ := obind_some h
    obtain ⟨g30, h⟩ := oif_some h
    obtain ⟨T31, eT31, h⟩ := obind_some h
    have p5 : QF T T31 := QF.tr p4 (sq_X9_addWord eT31)
    obtain ⟨g33, h⟩ := oif_some h
    obtain ⟨n34, en34, h⟩ := obind_some h
    obtain ⟨g35, h⟩ := oif_some h
    obtain ⟨v36, -, h⟩ := elet_some h
    rw [← (osome2 h).2]
    exact p5
  · have h := h
    rw [← (osome2 h).2]
    exact p0
set_option maxHeartbeats 4000000 in
set_option maxRecDepth 100000 in
theorem sq_X11_begin_b48 {T1 : AT} : ∀ n : Nat, ∀ (T : AT) (l0 : Nat) (l1 : Int32), g_X11_begin_b48 n T l0 l1 = some T1 → QF T T1 := by
  intro n
  induction n with
  | zero =>
    intro T l0 l1 h
    have h : (none : Option (AT)) = some T1 := h
    cases h
  | succ n ih =>
    intro T l0 l1 h
    have p0 := QF.rf T
    unfold g_X11_begin_b48 at h
    rcases oif_or h with ⟨c2, h⟩ | ⟨c2, h⟩
    · have h := h
      rw [← osome1 h]
      exact p0
    · have h := h
      obtain ⟨g3, h⟩ := oif_some h
      obtain ⟨n4, en4, h⟩ := obind_some h
      obtain ⟨g5, h⟩ := oif_some h
      obtain ⟨g6, h⟩ := oif_some h
      obtain ⟨T7, eT7, h⟩ := elet_some h
      have p1 : QF T T7 := QF.tr p0 (by rw [eT7]; first | exact qf_uO (oO_k g6).2 (by decide) | exact qf_uA (aA_k g5).2.1 (by decide))
      obtain ⟨v8, ev8, h⟩ := elet_some h
      exact QF.tr p1 (ih _ _ _ h)
set_option maxHeartbeats 4000000 in
set_option maxRecDepth 100000 in
theorem sq_X11_begin_b33 {T1 : AT} : ∀ (T : AT) (l0 : Nat), g_X11_begin_b33 T l0 = some T1 → QF T T1 := by
  intro T l0 h
  have p0 := QF.rf T
  unfold g_X11_begin_b33 at h
  obtain ⟨g2, h⟩ := oif_some h
  obtain ⟨T3, eT3, h⟩ := elet_some h
  have p1 : QF T T3 := QF.tr p0 (by rw [eT3]; first | exact qf_uO (oO_k g2).2 (by decide) | exact qf_uA (aA_k g2).2.1 (by decide))
  obtain ⟨g4, h⟩ := oif_some h
  obtain ⟨n5, en5, h⟩ := obind_some h
  obtain ⟨g6, h⟩ := oif_some h
  obtain ⟨T7, eT7, h⟩ := elet_some h
  have p2 : QF T T7 := QF.tr p1 (by rw [eT7]; first | exact qf_uO (oO_k g6).2 (by decide) | exact qf_uA (aA_k g4).2.1 (by decide))
  exact QF.tr p2 (sq_X11_begin_b48 _ _ _ _ h)
set_option maxHeartbeats 4000000 in
set_option maxRecDepth 100000 in
theorem sq_X11_begin {T : AT} {o : Nat} {T1 : AT} (h : g_X11_begin T o = some T1) : QF T T1 := by
  have p0 := QF.rf T
  unfold g_X11_begin at h
  obtain ⟨g2, h⟩ := oif_some h
  obtain ⟨n3, en3, h⟩ := obind_some h
  obtain ⟨g4, h⟩ := oif_some h
  obtain ⟨T5, eT5, h⟩ := obind_some h
  have p1 : QF T T5 := QF.tr p0 ((sq_X6_measureDelays eT5))
  obtain ⟨g7, h⟩ := oif_some h
  obtain ⟨n8, en8, h⟩ := obind_some h
  obtain ⟨g9, h⟩ := oif_some h
  obtain ⟨n10, en10, h⟩ := obind_some h
  obtain ⟨g11, h⟩ := oif_some h
  obtain ⟨T12, eT12, h⟩ := obind_some h
  have p2 : QF T T12 := QF.tr p1 ((sq_X8_begin eT12))
  obtain ⟨g14, h⟩ := oif_some h
  obtain ⟨n15, en15, h⟩ := obind_some h
  obtain ⟨g16, h⟩ := oif_some h
  obtain ⟨n17, en17, h⟩ := obind_some h
  obtain ⟨g18, h⟩ := oif_some h
  obtain ⟨n19, en19, h⟩ := obind_some h
  obtain ⟨g20, h⟩ := oif_some h
  obtain ⟨T21, eT21, h⟩ := obind_some h
  have p3 : QF T T21 := QF.tr p2 (sq_X5_record eT21)
  exact QF.tr p3 (sq_X11_begin_b33 _ _ h)
set_option maxHeartbeats 4000000 in
set_option maxRecDepth 100000 in
theorem sq_X11_parseError {T : AT} {o : Nat} {r1 : Int32} {T1 : AT} (h : g_X11_parseError T o = some (r1, T1)) : QF T T1 := by
  have p0 := QF.rf T
  unfold g_X11_parseError at h
  obtain ⟨g2, h⟩ := oif_some h
  obtain ⟨n3, en3, h⟩ := obind_some h
  obtain ⟨g4, h⟩ := oif_some h
  obtain ⟨v5, -, h⟩ := elet_some h
  rw [← (osome2 h).2]
  exact p0
set_option maxHeartbeats 4000000 in
set_option maxRecDepth 100000 in
theorem sq_X11_errorPosition {T : AT} {o : Nat} {r1 : Int32} {T1 : AT} (h : g_X11_errorPosition T o = some (r1, T1)) : QF T T1 := by
  have p0 := QF.rf T
  unfold g_X11_errorPosition at h
  obtain ⟨g2, h⟩ := oif_some h
  obtain ⟨n3, en3, h⟩ := obind_some h
  obtain ⟨g4, h⟩ := oif_some h
  obtain ⟨v5, -, h⟩ := elet_some h
  rw [← (osome2 h).2]
  exact p0
set_option maxHeartbeats 4000000 in
set_option maxRecDepth 100000 in
theorem sq_X11_buffered {T : AT} {o : Nat} {r1 : Int32} {T1 : AT} (h : g_X11_buffered T o = some (r1, T1)) : QF T T1 := by
  have p0 := QF.rf T
  unfold g_X11_buffered at h
  obtain ⟨g2, h⟩ := oif_some h
  obtain ⟨n3, en3, h⟩ := obind_some h
  obtain ⟨g4, h⟩ := oif_some h
  obtain ⟨v5, -, h⟩ := elet_some h
  rw [← (osome2 h).2]
  exact p0
set_option maxHeartbeats 4000000 in
set_option maxRecDepth 100000 in
theorem sq_X11_mics {T : AT} {o : Nat} {r1 : Int32} {T1 : AT} (h : g_X11_mics T o = some (r1, T1)) : QF T T1 := by
  have p0 := QF.rf T
  unfold g_X11_mics at h
  obtain ⟨g2, h⟩ := oif_some h
  obtain ⟨n3, en3, h⟩ := obind_some h
  obtain ⟨g4, h⟩ := oif_some h
  obtain ⟨v5, -, h⟩ := elet_some h
  rw [← (osome2 h).2]
  exact p0
set_option maxHeartbeats 4000000 in
set_option maxRecDepth 100000 in
theorem sq_X11_needCamera {T : AT} {o : Nat} {e1 : Nat} {r1 : Int32} {T1 : AT} (h : g_X11_needCamera T o = some (e1, r1, T1)) : QF T T1 := by
  have p0 := QF.rf T
  unfold g_X11_needCamera at h
  obtain ⟨g2, h⟩ := oif_some h
  obtain ⟨n3, en3, h⟩ := obind_some h
  obtain ⟨g4, h⟩ := oif_some h
  obtain ⟨v5, -, h⟩ := elet_some h
  rcases oif_or h with ⟨c6, h⟩ | ⟨c6, h⟩
  · have h := h
    rw [← (osome3 h).2.2]
    exact p0
  · have h := h
    rw [← (osome3 h).2.2]
    exact p0
set_option maxHeartbeats 4000000 in
set_option maxRecDepth 100000 in
theorem sq_X11_needIndex_b9 {e1 : Nat} {r1 : Int32} {T1 : AT} : ∀ (T : AT), g_X11_needIndex_b9 T = some (e1, r1, T1) → QF T T1 := by
  intro T h
  have p0 := QF.rf T
  unfold g_X11_needIndex_b9 at h
  rw [← (osome3 h).2.2]
  exact p0
set_option maxHeartbeats 4000000 in
set_option maxRecDepth 100000 in
theorem sq_X11_needIndex {T : AT} {a0 : Int32} {a1 : Int32} {e1 : Nat} {r1 : Int32} {T1 : AT} (h : g_X11_needIndex T a0 a1 = some (e1, r1, T1)) : QF T T1 := by
  have p0 := QF.rf T
  unfold g_X11_needIndex at h
  rcases oif_or h with ⟨c2, h⟩ | ⟨c2, h⟩
  · have h := h
    exact QF.tr p0 (sq_X11_needIndex_b9 _ h)
  · have h := h
    rcases oif_or h with ⟨c3, h⟩ | ⟨c3, h⟩
    · have h := h
      rw [← (osome3 h).2.2]
      exact p0
    · have h := h
      exact QF.tr p0 (sq_X11_needIndex_b9 _ h)
set_option maxHeartbeats 4000000 in
set_option maxRecDepth 100000 in
theorem sq_X11_needMic {T : AT} {o : Nat} {a0 : Int32} {e1 : Nat} {r1 : Int32} {T1 : AT} (h : g_X11_needMic T o a0 = some (e1, r1, T1)) : QF T T1 := by
  have p0 := QF.rf T
  unfold g_X11_needMic at h
  obtain ⟨g2, h⟩ := oif_some h
  obtain ⟨n3, en3, h⟩ := obind_some h
  obtain ⟨g4, h⟩ := oif_some h
  obtain ⟨v5, -, h⟩ := elet_some h
  rcases othr_s h with ⟨k9, r9, e9, -⟩ | ⟨r7, T6, eT6, h⟩
  · exact QF.tr p0 (sq_X11_needIndex e9)
  have p1 : QF T T6 := QF.tr p0 (sq_X11_needIndex eT6)
  rw [← (osome3 h).2.2]
  exact p1
set_option maxHeartbeats 4000000 in
set_option maxRecDepth 100000 in
theorem sq_X11_needRange_b10 {e1 : Nat} {r1 : Int32} {T1 : AT} : ∀ (T : AT), g_X11_needRange_b10 T = some (e1, r1, T1) → QF T T1 := by
  intro T h
  have p0 := QF.rf T
  unfold g_X11_needRange_b10 at h
  rw [← (osome3 h).2.2]
  exact p0
set_option maxHeartbeats 4000000 in
set_option maxRecDepth 100000 in
theorem sq_X11_needRange {T : AT} {a0 : Int32} {a1 : Int32} {a2 : Int32} {e1 : Nat} {r1 : Int32} {T1 : AT} (h : g_X11_needRange T a0 a1 a2 = some (e1, r1, T1)) : QF T T1 := by
  have p0 := QF.rf T
  unfold g_X11_needRange at h
  rcases oif_or h with ⟨c2, h⟩ | ⟨c2, h⟩
  · have h := h
    exact QF.tr p0 (sq_X11_needRange_b10 _ h)
  · have h := h
    rcases oif_or h with ⟨c3, h⟩ | ⟨c3, h⟩
    · have h := h
      rw [← (osome3 h).2.2]
      exact p0
    · have h := h
      exact QF.tr p0 (sq_X11_needRange_b10 _ h)
set_option maxHeartbeats 4000000 in
set_option maxRecDepth 100000 in
theorem sq_X11_micAt {T : AT} {o : Nat} {a0 : Int32} {a1 : Int32} {e1 : Nat} {r1 : Int32} {T1 : AT} (h : g_X11_micAt T o a0 a1 = some (e1, r1, T1)) : QF T T1 := by
  have p0 := QF.rf T
  unfold g_X11_micAt at h
  obtain ⟨g2, h⟩ := oif_some h
  rcases othr_s h with ⟨k9, r9, e9, -⟩ | ⟨r4, T3, eT3, h⟩
  · exact QF.tr p0 (sq_X11_needCamera e9)
  have p1 : QF T T3 := QF.tr p0 (sq_X11_needCamera eT3)
  obtain ⟨g5, h⟩ := oif_some h
  rcases othr_s h with ⟨k9, r9, e9, -⟩ | ⟨r7, T6, eT6, h⟩
  · exact QF.tr p1 (sq_X11_needMic e9)
  have p2 : QF T T6 := QF.tr p1 (sq_X11_needMic eT6)
  rcases othr_s h with ⟨k9, r9, e9, -⟩ | ⟨r9, T8, eT8, h⟩
  · exact QF.tr p2 (sq_X11_needRange e9)
  have p3 : QF T T8 := QF.tr p2 (sq_X11_needRange eT8)
  by_cases c10 : a1 = 0
  · have h := oif_pos c10 h
    obtain ⟨g11, h⟩ := oif_some h
    obtain ⟨n12, en12, h⟩ := obind_some h
    obtain ⟨g13, h⟩ := oif_some h
    obtain ⟨n14, en14, h⟩ := obind_some h
    obtain ⟨g15, h⟩ := oif_some h
    obtain ⟨g16, h⟩ := oif_some h
    obtain ⟨n17, en17, h⟩ := obind_some h
    obtain ⟨g18, h⟩ := oif_some h
    obtain ⟨v19, -, h⟩ := elet_some h
    rw [← (osome3 h).2.2]
    exact p3
  have h := oif_neg c10 h
  by_cases c20 : a1 = 1
  · have h := oif_pos c20 h
    obtain ⟨g21, h⟩ := oif_some h
    obtain ⟨n22, en22, h⟩ := obind_some h
    obtain ⟨g23, h⟩ := oif_some h
    obtain ⟨n24, en24, h⟩ := obind_some h
    obtain ⟨g25, h⟩ := oif_some h
    obtain ⟨g26, h⟩ := oif_some h
    obtain ⟨n27, en27, h⟩ := obind_some h
    obtain ⟨g28, h⟩ := oif_some h
    obtain ⟨v29, -, h⟩ := elet_some h
    rw [← (osome3 h).2.2]
    exact p3
  have h := oif_neg c20 h
  by_cases c30 : a1 = 2
  · have h := oif_pos c30 h
    obtain ⟨g31, h⟩ := oif_some h
    obtain ⟨n32, en32, h⟩ := obind_some h
    obtain ⟨g33, h⟩ := oif_some h
    obtain ⟨n34, en34, h⟩ := obind_some h
    obtain ⟨g35, h⟩ := oif_some h
    obtain ⟨g36, h⟩ := oif_some h
    obtain ⟨n37, en37, h⟩ := obind_some h
    obtain ⟨g38, h⟩ := oif_some h
    obtain ⟨v39, -, h⟩ := elet_some h
    rw [← (osome3 h).2.2]
    exact p3
  have h := oif_neg c30 h
  obtain ⟨g40, h⟩ := oif_some h
  obtain ⟨n41, en41, h⟩ := obind_some h
  obtain ⟨g42, h⟩ := oif_some h
  obtain ⟨n43, en43, h⟩ := obind_some h
  obtain ⟨g44, h⟩ := oif_some h
  obtain ⟨g45, h⟩ := oif_some h
  obtain ⟨v46, -, h⟩ := elet_some h
  rw [← (osome3 h).2.2]
  exact p3
set_option maxHeartbeats 4000000 in
set_option maxRecDepth 100000 in
theorem sq_X11_isMuted {T : AT} {o : Nat} {a0 : Int32} {e1 : Nat} {r1 : Int32} {T1 : AT} (h : g_X11_isMuted T o a0 = some (e1, r1, T1)) : QF T T1 := by
  have p0 := QF.rf T
  unfold g_X11_isMuted at h
  obtain ⟨g2, h⟩ := oif_some h
  rcases othr_s h with ⟨k9, r9, e9, -⟩ | ⟨r4, T3, eT3, h⟩
  · exact QF.tr p0 (sq_X11_needCamera e9)
  have p1 : QF T T3 := QF.tr p0 (sq_X11_needCamera eT3)
  obtain ⟨g5, h⟩ := oif_some h
  rcases othr_s h with ⟨k9, r9, e9, -⟩ | ⟨r7, T6, eT6, h⟩
  · exact QF.tr p1 (sq_X11_needMic e9)
  have p2 : QF T T6 := QF.tr p1 (sq_X11_needMic eT6)
  obtain ⟨g8, h⟩ := oif_some h
  obtain ⟨n9, en9, h⟩ := obind_some h
  obtain ⟨g10, h⟩ := oif_some h
  obtain ⟨n11, en11, h⟩ := obind_some h
  obtain ⟨g12, h⟩ := oif_some h
  obtain ⟨g13, h⟩ := oif_some h
  obtain ⟨v14, -, h⟩ := elet_some h
  obtain ⟨gz, h⟩ := oif_some h
  rw [← (osome3 h).2.2]
  exact p2
set_option maxHeartbeats 4000000 in
set_option maxRecDepth 100000 in
theorem sq_X11_columns {T : AT} {o : Nat} {r1 : Int32} {T1 : AT} (h : g_X11_columns T o = some (r1, T1)) : QF T T1 := by
  have p0 := QF.rf T
  unfold g_X11_columns at h
  obtain ⟨g2, h⟩ := oif_some h
  obtain ⟨n3, en3, h⟩ := obind_some h
  obtain ⟨g4, h⟩ := oif_some h
  obtain ⟨n5, en5, h⟩ := obind_some h
  obtain ⟨g6, h⟩ := oif_some h
  obtain ⟨v7, -, h⟩ := elet_some h
  rw [← (osome2 h).2]
  exact p0
set_option maxHeartbeats 4000000 in
set_option maxRecDepth 100000 in
theorem sq_X11_rows {T : AT} {o : Nat} {r1 : Int32} {T1 : AT} (h : g_X11_rows T o = some (r1, T1)) : QF T T1 := by
  have p0 := QF.rf T
  unfold g_X11_rows at h
  obtain ⟨g2, h⟩ := oif_some h
  obtain ⟨n3, en3, h⟩ := obind_some h
  obtain ⟨g4, h⟩ := oif_some h
  obtain ⟨n5, en5, h⟩ := obind_some h
  obtain ⟨g6, h⟩ := oif_some h
  obtain ⟨v7, -, h⟩ := elet_some h
  rw [← (osome2 h).2]
  exact p0
set_option maxHeartbeats 4000000 in
set_option maxRecDepth 100000 in
theorem sq_X11_needCell {T : AT} {o : Nat} {a0 : Int32} {e1 : Nat} {r1 : Int32} {T1 : AT} (h : g_X11_needCell T o a0 = some (e1, r1, T1)) : QF T T1 := by
  have p0 := QF.rf T
  unfold g_X11_needCell at h
  obtain ⟨g2, h⟩ := oif_some h
  obtain ⟨n3, en3, h⟩ := obind_some h
  obtain ⟨g4, h⟩ := oif_some h
  obtain ⟨n5, en5, h⟩ := obind_some h
  obtain ⟨g6, h⟩ := oif_some h
  obtain ⟨r8, T7, eT7, h⟩ := obind2_some h
  have p1 : QF T T7 := QF.tr p0 (sq_X1_cells eT7)
  rcases othr_s h with ⟨k9, r9, e9, -⟩ | ⟨r10, T9, eT9, h⟩
  · exact QF.tr p1 (sq_X11_needIndex e9)
  have p2 : QF T T9 := QF.tr p1 (sq_X11_needIndex eT9)
  rw [← (osome3 h).2.2]
  exact p2
set_option maxHeartbeats 4000000 in
set_option maxRecDepth 100000 in
theorem sq_X11_cellAt_b44 {e1 : Nat} {r1 : Int32} {T1 : AT} : ∀ (T : AT) (s0 : Int32), g_X11_cellAt_b44 T s0 = some (e1, r1, T1) → QF T T1 := by
  intro T s0 h
  have p0 := QF.rf T
  unfold g_X11_cellAt_b44 at h
  rw [← (osome3 h).2.2]
  exact p0
set_option maxHeartbeats 4000000 in
set_option maxRecDepth 100000 in
theorem sq_X11_cellAt {T : AT} {o : Nat} {a0 : Int32} {a1 : Int32} {e1 : Nat} {r1 : Int32} {T1 : AT} (h : g_X11_cellAt T o a0 a1 = some (e1, r1, T1)) : QF T T1 := by
  have p0 := QF.rf T
  unfold g_X11_cellAt at h
  obtain ⟨g2, h⟩ := oif_some h
  rcases othr_s h with ⟨k9, r9, e9, -⟩ | ⟨r4, T3, eT3, h⟩
  · exact QF.tr p0 (sq_X11_needCamera e9)
  have p1 : QF T T3 := QF.tr p0 (sq_X11_needCamera eT3)
  obtain ⟨g5, h⟩ := oif_some h
  rcases othr_s h with ⟨k9, r9, e9, -⟩ | ⟨r7, T6, eT6, h⟩
  · exact QF.tr p1 (sq_X11_needCell e9)
  have p2 : QF T T6 := QF.tr p1 (sq_X11_needCell eT6)
  rcases othr_s h with ⟨k9, r9, e9, -⟩ | ⟨r9, T8, eT8, h⟩
  · exact QF.tr p2 (sq_X11_needRange e9)
  have p3 : QF T T8 := QF.tr p2 (sq_X11_needRange eT8)
  rcases oif_or h with ⟨c10, h⟩ | ⟨c10, h⟩
  · have h := h
    obtain ⟨g11, h⟩ := oif_some h
    obtain ⟨n12, en12, h⟩ := obind_some h
    obtain ⟨g13, h⟩ := oif_some h
    obtain ⟨n14, en14, h⟩ := obind_some h
    obtain ⟨g15, h⟩ := oif_some h
    obtain ⟨r17, T16, eT16, h⟩ := obind2_some h
    have p4 : QF T T16 := QF.tr p3 (sq_X1_centreX eT16)
    exact QF.tr p4 (sq_X11_cellAt_b44 _ _ h)
  · have h := h
    obtain ⟨g18, h⟩ := oif_some h
    obtain ⟨n19, en19, h⟩ := obind_some h
    obtain ⟨g20, h⟩ := oif_some h
    obtain ⟨n21, en21, h⟩ := obind_some h
    obtain ⟨g22, h⟩ := oif_some h
    obtain ⟨r24, T23, eT23, h⟩ := obind2_some h
    have p4 : QF T T23 := QF.tr p3 (sq_X1_centreY eT23)
    exact QF.tr p4 (sq_X11_cellAt_b44 _ _ h)
set_option maxHeartbeats 4000000 in
set_option maxRecDepth 100000 in
theorem sq_X11_sources {T : AT} {o : Nat} {r1 : Int32} {T1 : AT} (h : g_X11_sources T o = some (r1, T1)) : QF T T1 := by
  have p0 := QF.rf T
  unfold g_X11_sources at h
  obtain ⟨g2, h⟩ := oif_some h
  obtain ⟨n3, en3, h⟩ := obind_some h
  obtain ⟨g4, h⟩ := oif_some h
  obtain ⟨v5, -, h⟩ := elet_some h
  rw [← (osome2 h).2]
  exact p0
set_option maxHeartbeats 4000000 in
set_option maxRecDepth 100000 in
theorem sq_X11_needSource {T : AT} {o : Nat} {a0 : Int32} {e1 : Nat} {r1 : Int32} {T1 : AT} (h : g_X11_needSource T o a0 = some (e1, r1, T1)) : QF T T1 := by
  have p0 := QF.rf T
  unfold g_X11_needSource at h
  obtain ⟨g2, h⟩ := oif_some h
  obtain ⟨n3, en3, h⟩ := obind_some h
  obtain ⟨g4, h⟩ := oif_some h
  obtain ⟨v5, -, h⟩ := elet_some h
  rcases othr_s h with ⟨k9, r9, e9, -⟩ | ⟨r7, T6, eT6, h⟩
  · exact QF.tr p0 (sq_X11_needIndex e9)
  have p1 : QF T T6 := QF.tr p0 (sq_X11_needIndex eT6)
  rw [← (osome3 h).2.2]
  exact p1
set_option maxHeartbeats 4000000 in
set_option maxRecDepth 100000 in
theorem sq_X11_sourceAt_b80 {e1 : Nat} {r1 : Int32} {T1 : AT} : ∀ (T : AT) (s0 : Int32), g_X11_sourceAt_b80 T s0 = some (e1, r1, T1) → QF T T1 := by
  intro T s0 h
  have p0 := QF.rf T
  unfold g_X11_sourceAt_b80 at h
  rw [← (osome3 h).2.2]
  exact p0
set_option maxHeartbeats 4000000 in
set_option maxRecDepth 100000 in
theorem sq_X11_sourceAt {T : AT} {o : Nat} {a0 : Int32} {a1 : Int32} {a2 : Int32} {e1 : Nat} {r1 : Int32} {T1 : AT} (h : g_X11_sourceAt T o a0 a1 a2 = some (e1, r1, T1)) : QF T T1 := by
  have p0 := QF.rf T
  unfold g_X11_sourceAt at h
  obtain ⟨g2, h⟩ := oif_some h
  rcases othr_s h with ⟨k9, r9, e9, -⟩ | ⟨r4, T3, eT3, h⟩
  · exact QF.tr p0 (sq_X11_needCamera e9)
  have p1 : QF T T3 := QF.tr p0 (sq_X11_needCamera eT3)
  obtain ⟨g5, h⟩ := oif_some h
  rcases othr_s h with ⟨k9, r9, e9, -⟩ | ⟨r7, T6, eT6, h⟩
  · exact QF.tr p1 (sq_X11_needSource e9)
  have p2 : QF T T6 := QF.tr p1 (sq_X11_needSource eT6)
  rcases othr_s h with ⟨k9, r9, e9, -⟩ | ⟨r9, T8, eT8, h⟩
  · exact QF.tr p2 (sq_X11_needRange e9)
  have p3 : QF T T8 := QF.tr p2 (sq_X11_needRange eT8)
  obtain ⟨g10, h⟩ := oif_some h
  obtain ⟨n11, en11, h⟩ := obind_some h
  obtain ⟨g12, h⟩ := oif_some h
  obtain ⟨v13, -, h⟩ := elet_some h
  obtain ⟨v14, -, h⟩ := elet_some h
  rcases othr_s h with ⟨k9, r9, e9, -⟩ | ⟨r16, T15, eT15, h⟩
  · exact QF.tr p3 (sq_X11_needRange e9)
  have p4 : QF T T15 := QF.tr p3 (sq_X11_needRange eT15)
  rcases oif_or h with ⟨c17, h⟩ | ⟨c17, h⟩
  · have h := h
    obtain ⟨g18, h⟩ := oif_some h
    obtain ⟨n19, en19, h⟩ := obind_some h
    obtain ⟨g20, h⟩ := oif_some h
    obtain ⟨n21, en21, h⟩ := obind_some h
    obtain ⟨g22, h⟩ := oif_some h
    obtain ⟨g23, h⟩ := oif_some h
    obtain ⟨v24, -, h⟩ := elet_some h
    obtain ⟨g25, h⟩ := oif_some h
    obtain ⟨n26, en26, h⟩ := obind_some h
    obtain ⟨g27, h⟩ := oif_some h
    obtain ⟨n28, en28, h⟩ := obind_some h
    obtain ⟨g29, h⟩ := oif_some h
    obtain ⟨g30, h⟩ := oif_some h
    obtain ⟨v31, -, h⟩ := elet_some h
    obtain ⟨r32, -, h⟩ := obind_some h
    exact QF.tr p4 (sq_X11_sourceAt_b80 _ _ h)
  · have h := h
    obtain ⟨g33, h⟩ := oif_some h
    obtain ⟨n34, en34, h⟩ := obind_some h
    obtain ⟨g35, h⟩ := oif_some h
    obtain ⟨n36, en36, h⟩ := obind_some h
    obtain ⟨g37, h⟩ := oif_some h
    obtain ⟨g38, h⟩ := oif_some h
    obtain ⟨v39, -, h⟩ := elet_some h
    obtain ⟨g40, h⟩ := oif_some h
    obtain ⟨n41, en41, h⟩ := obind_some h
    obtain ⟨g42, h⟩ := oif_some h
    obtain ⟨n43, en43, h⟩ := obind_some h
    obtain ⟨g44, h⟩ := oif_some h
    obtain ⟨g45, h⟩ := oif_some h
    obtain ⟨v46, -, h⟩ := elet_some h
    obtain ⟨r47, -, h⟩ := obind_some h
    exact QF.tr p4 (sq_X11_sourceAt_b80 _ _ h)
set_option maxHeartbeats 4000000 in
set_option maxRecDepth 100000 in
theorem sq_X11_isOn {T : AT} {o : Nat} {a0 : Int32} {e1 : Nat} {r1 : Int32} {T1 : AT} (h : g_X11_isOn T o a0 = some (e1, r1, T1)) : QF T T1 := by
  have p0 := QF.rf T
  unfold g_X11_isOn at h
  obtain ⟨g2, h⟩ := oif_some h
  rcases othr_s h with ⟨k9, r9, e9, -⟩ | ⟨r4, T3, eT3, h⟩
  · exact QF.tr p0 (sq_X11_needCamera e9)
  have p1 : QF T T3 := QF.tr p0 (sq_X11_needCamera eT3)
  obtain ⟨g5, h⟩ := oif_some h
  rcases othr_s h with ⟨k9, r9, e9, -⟩ | ⟨r7, T6, eT6, h⟩
  · exact QF.tr p1 (sq_X11_needSource e9)
  have p2 : QF T T6 := QF.tr p1 (sq_X11_needSource eT6)
  obtain ⟨g8, h⟩ := oif_some h
  obtain ⟨n9, en9, h⟩ := obind_some h
  obtain ⟨g10, h⟩ := oif_some h
  obtain ⟨n11, en11, h⟩ := obind_some h
  obtain ⟨g12, h⟩ := oif_some h
  obtain ⟨g13, h⟩ := oif_some h
  obtain ⟨v14, -, h⟩ := elet_some h
  obtain ⟨gz, h⟩ := oif_some h
  rw [← (osome3 h).2.2]
  exact p2
set_option maxHeartbeats 4000000 in
set_option maxRecDepth 100000 in
theorem sq_X11_waveAt {T : AT} {o : Nat} {a0 : Int32} {a1 : Int32} {e1 : Nat} {r1 : Int32} {T1 : AT} (h : g_X11_waveAt T o a0 a1 = some (e1, r1, T1)) : QF T T1 := by
  have p0 := QF.rf T
  unfold g_X11_waveAt at h
  obtain ⟨g2, h⟩ := oif_some h
  rcases othr_s h with ⟨k9, r9, e9, -⟩ | ⟨r4, T3, eT3, h⟩
  · exact QF.tr p0 (sq_X11_needCamera e9)
  have p1 : QF T T3 := QF.tr p0 (sq_X11_needCamera eT3)
  obtain ⟨g5, h⟩ := oif_some h
  rcases othr_s h with ⟨k9, r9, e9, -⟩ | ⟨r7, T6, eT6, h⟩
  · exact QF.tr p1 (sq_X11_needSource e9)
  have p2 : QF T T6 := QF.tr p1 (sq_X11_needSource eT6)
  obtain ⟨g8, h⟩ := oif_some h
  obtain ⟨n9, en9, h⟩ := obind_some h
  obtain ⟨g10, h⟩ := oif_some h
  obtain ⟨v11, -, h⟩ := elet_some h
  obtain ⟨v12, -, h⟩ := elet_some h
  rcases othr_s h with ⟨k9, r9, e9, -⟩ | ⟨r14, T13, eT13, h⟩
  · exact QF.tr p2 (sq_X11_needRange e9)
  have p3 : QF T T13 := QF.tr p2 (sq_X11_needRange eT13)
  obtain ⟨g15, h⟩ := oif_some h
  obtain ⟨n16, en16, h⟩ := obind_some h
  obtain ⟨g17, h⟩ := oif_some h
  obtain ⟨n18, en18, h⟩ := obind_some h
  obtain ⟨g19, h⟩ := oif_some h
  obtain ⟨g20, h⟩ := oif_some h
  obtain ⟨n21, en21, h⟩ := obind_some h
  obtain ⟨g22, h⟩ := oif_some h
  obtain ⟨r24, T23, eT23, h⟩ := obind2_some h
  have p4 : QF T T23 := QF.tr p3 (sq_X7_valueAt eT23)
  rw [← (osome3 h).2.2]
  exact p4
set_option maxHeartbeats 4000000 in
set_option maxRecDepth 100000 in
theorem sq_X11_samples {T : AT} {o : Nat} {r1 : Int32} {T1 : AT} (h : g_X11_samples T o = some (r1, T1)) : QF T T1 := by
  have p0 := QF.rf T
  unfold g_X11_samples at h
  obtain ⟨g2, h⟩ := oif_some h
  obtain ⟨n3, en3, h⟩ := obind_some h
  obtain ⟨g4, h⟩ := oif_some h
  obtain ⟨v5, -, h⟩ := elet_some h
  rw [← (osome2 h).2]
  exact p0
set_option maxHeartbeats 4000000 in
set_option maxRecDepth 100000 in
theorem sq_X11_delay {T : AT} {o : Nat} {a0 : Int32} {a1 : Int32} {e1 : Nat} {r1 : Int32} {T1 : AT} (h : g_X11_delay T o a0 a1 = some (e1, r1, T1)) : QF T T1 := by
  have p0 := QF.rf T
  unfold g_X11_delay at h
  obtain ⟨g2, h⟩ := oif_some h
  rcases othr_s h with ⟨k9, r9, e9, -⟩ | ⟨r4, T3, eT3, h⟩
  · exact QF.tr p0 (sq_X11_needCamera e9)
  have p1 : QF T T3 := QF.tr p0 (sq_X11_needCamera eT3)
  obtain ⟨g5, h⟩ := oif_some h
  rcases othr_s h with ⟨k9, r9, e9, -⟩ | ⟨r7, T6, eT6, h⟩
  · exact QF.tr p1 (sq_X11_needMic e9)
  have p2 : QF T T6 := QF.tr p1 (sq_X11_needMic eT6)
  obtain ⟨g8, h⟩ := oif_some h
  rcases othr_s h with ⟨k9, r9, e9, -⟩ | ⟨r10, T9, eT9, h⟩
  · exact QF.tr p2 (sq_X11_needCell e9)
  have p3 : QF T T9 := QF.tr p2 (sq_X11_needCell eT9)
  obtain ⟨g11, h⟩ := oif_some h
  obtain ⟨n12, en12, h⟩ := obind_some h
  obtain ⟨g13, h⟩ := oif_some h
  obtain ⟨n14, en14, h⟩ := obind_some h
  obtain ⟨g15, h⟩ := oif_some h
  obtain ⟨g16, h⟩ := oif_some h
  obtain ⟨n17, en17, h⟩ := obind_some h
  obtain ⟨g18, h⟩ := oif_some h
  obtain ⟨g19, h⟩ := oif_some h
  obtain ⟨v20, -, h⟩ := elet_some h
  rw [← (osome3 h).2.2]
  exact p3
set_option maxHeartbeats 4000000 in
set_option maxRecDepth 100000 in
theorem sq_X11_delayTo {T : AT} {o : Nat} {a0 : Int32} {a1 : Int32} {a2 : Int32} {e1 : Nat} {r1 : Int32} {T1 : AT} (h : g_X11_delayTo T o a0 a1 a2 = some (e1, r1, T1)) : QF T T1 := by
  have p0 := QF.rf T
  unfold g_X11_delayTo at h
  obtain ⟨g2, h⟩ := oif_some h
  rcases othr_s h with ⟨k9, r9, e9, -⟩ | ⟨r4, T3, eT3, h⟩
  · exact QF.tr p0 (sq_X11_needCamera e9)
  have p1 : QF T T3 := QF.tr p0 (sq_X11_needCamera eT3)
  obtain ⟨g5, h⟩ := oif_some h
  rcases othr_s h with ⟨k9, r9, e9, -⟩ | ⟨r7, T6, eT6, h⟩
  · exact QF.tr p1 (sq_X11_needMic e9)
  have p2 : QF T T6 := QF.tr p1 (sq_X11_needMic eT6)
  rcases othr_s h with ⟨k9, r9, e9, -⟩ | ⟨r9, T8, eT8, h⟩
  · exact QF.tr p2 (sq_X11_needRange e9)
  have p3 : QF T T8 := QF.tr p2 (sq_X11_needRange eT8)
  rcases othr_s h with ⟨k9, r9, e9, -⟩ | ⟨r11, T10, eT10, h⟩
  · exact QF.tr p3 (sq_X11_needRange e9)
  have p4 : QF T T10 := QF.tr p3 (sq_X11_needRange eT10)
  obtain ⟨g12, h⟩ := oif_some h
  obtain ⟨n13, en13, h⟩ := obind_some h
  obtain ⟨g14, h⟩ := oif_some h
  obtain ⟨n15, en15, h⟩ := obind_some h
  obtain ⟨g16, h⟩ := oif_some h
  obtain ⟨n17, en17, h⟩ := obind_some h
  obtain ⟨g18, h⟩ := oif_some h
  obtain ⟨g19, h⟩ := oif_some h
  obtain ⟨n20, en20, h⟩ := obind_some h
  obtain ⟨g21, h⟩ := oif_some h
  obtain ⟨r23, T22, eT22, h⟩ := obind2_some h
  have p5 : QF T T22 := QF.tr p4 (sq_X6_delayFrom eT22)
  rw [← (osome3 h).2.2]
  exact p5
set_option maxHeartbeats 4000000 in
set_option maxRecDepth 100000 in
theorem sq_X11_spread {T : AT} {o : Nat} {a0 : Int32} {e1 : Nat} {r1 : Int32} {T1 : AT} (h : g_X11_spread T o a0 = some (e1, r1, T1)) : QF T T1 := by
  have p0 := QF.rf T
  unfold g_X11_spread at h
  obtain ⟨g2, h⟩ := oif_some h
  rcases othr_s h with ⟨k9, r9, e9, -⟩ | ⟨r4, T3, eT3, h⟩
  · exact QF.tr p0 (sq_X11_needCamera e9)
  have p1 : QF T T3 := QF.tr p0 (sq_X11_needCamera eT3)
  obtain ⟨g5, h⟩ := oif_some h
  rcases othr_s h with ⟨k9, r9, e9, -⟩ | ⟨r7, T6, eT6, h⟩
  · exact QF.tr p1 (sq_X11_needCell e9)
  have p2 : QF T T6 := QF.tr p1 (sq_X11_needCell eT6)
  obtain ⟨g8, h⟩ := oif_some h
  obtain ⟨n9, en9, h⟩ := obind_some h
  obtain ⟨g10, h⟩ := oif_some h
  obtain ⟨n11, en11, h⟩ := obind_some h
  obtain ⟨g12, h⟩ := oif_some h
  obtain ⟨g13, h⟩ := oif_some h
  obtain ⟨n14, en14, h⟩ := obind_some h
  obtain ⟨g15, h⟩ := oif_some h
  obtain ⟨n16, en16, h⟩ := obind_some h
  obtain ⟨g17, h⟩ := oif_some h
  obtain ⟨r19, T18, eT18, h⟩ := obind2_some h
  have p3 : QF T T18 := QF.tr p2 (sq_X8_greatestDelay eT18)
  obtain ⟨g20, h⟩ := oif_some h
  obtain ⟨n21, en21, h⟩ := obind_some h
  obtain ⟨g22, h⟩ := oif_some h
  obtain ⟨r24, T23, eT23, h⟩ := obind2_some h
  have p4 : QF T T23 := QF.tr p3 (sq_X8_smallestDelay eT23)
  obtain ⟨v25, -, h⟩ := elet_some h
  rw [← (osome3 h).2.2]
  exact p4
set_option maxHeartbeats 4000000 in
set_option maxRecDepth 100000 in
theorem sq_X11_window {T : AT} {o : Nat} {a0 : Int32} {e1 : Nat} {r1 : Int32} {T1 : AT} (h : g_X11_window T o a0 = some (e1, r1, T1)) : QF T T1 := by
  have p0 := QF.rf T
  unfold g_X11_window at h
  obtain ⟨g2, h⟩ := oif_some h
  rcases othr_s h with ⟨k9, r9, e9, -⟩ | ⟨r4, T3, eT3, h⟩
  · exact QF.tr p0 (sq_X11_needCamera e9)
  have p1 : QF T T3 := QF.tr p0 (sq_X11_needCamera eT3)
  obtain ⟨g5, h⟩ := oif_some h
  rcases othr_s h with ⟨k9, r9, e9, -⟩ | ⟨r7, T6, eT6, h⟩
  · exact QF.tr p1 (sq_X11_needCell e9)
  have p2 : QF T T6 := QF.tr p1 (sq_X11_needCell eT6)
  obtain ⟨g8, h⟩ := oif_some h
  obtain ⟨n9, en9, h⟩ := obind_some h
  obtain ⟨g10, h⟩ := oif_some h
  obtain ⟨n11, en11, h⟩ := obind_some h
  obtain ⟨g12, h⟩ := oif_some h
  obtain ⟨n13, en13, h⟩ := obind_some h
  obtain ⟨g14, h⟩ := oif_some h
  obtain ⟨g15, h⟩ := oif_some h
  obtain ⟨n16, en16, h⟩ := obind_some h
  obtain ⟨g17, h⟩ := oif_some h
  obtain ⟨r19, T18, eT18, h⟩ := obind2_some h
  have p3 : QF T T18 := QF.tr p2 (sq_X8_windowOf eT18)
  rw [← (osome3 h).2.2]
  exact p3
set_option maxHeartbeats 4000000 in
set_option maxRecDepth 100000 in
theorem sq_X11_sample {T : AT} {o : Nat} {a0 : Int32} {a1 : Int32} {e1 : Nat} {r1 : Int32} {T1 : AT} (h : g_X11_sample T o a0 a1 = some (e1, r1, T1)) : QF T T1 := by
  have p0 := QF.rf T
  unfold g_X11_sample at h
  obtain ⟨g2, h⟩ := oif_some h
  rcases othr_s h with ⟨k9, r9, e9, -⟩ | ⟨r4, T3, eT3, h⟩
  · exact QF.tr p0 (sq_X11_needCamera e9)
  have p1 : QF T T3 := QF.tr p0 (sq_X11_needCamera eT3)
  obtain ⟨g5, h⟩ := oif_some h
  rcases othr_s h with ⟨k9, r9, e9, -⟩ | ⟨r7, T6, eT6, h⟩
  · exact QF.tr p1 (sq_X11_needMic e9)
  have p2 : QF T T6 := QF.tr p1 (sq_X11_needMic eT6)
  obtain ⟨g8, h⟩ := oif_some h
  obtain ⟨n9, en9, h⟩ := obind_some h
  obtain ⟨g10, h⟩ := oif_some h
  obtain ⟨v11, -, h⟩ := elet_some h
  obtain ⟨v12, -, h⟩ := elet_some h
  rcases othr_s h with ⟨k9, r9, e9, -⟩ | ⟨r14, T13, eT13, h⟩
  · exact QF.tr p2 (sq_X11_needRange e9)
  have p3 : QF T T13 := QF.tr p2 (sq_X11_needRange eT13)
  obtain ⟨g15, h⟩ := oif_some h
  obtain ⟨n16, en16, h⟩ := obind_some h
  obtain ⟨g17, h⟩ := oif_some h
  obtain ⟨n18, en18, h⟩ := obind_some h
  obtain ⟨r19, -, h⟩ := obind_some h
  obtain ⟨g20, h⟩ := oif_some h
  obtain ⟨r22, T21, eT21, h⟩ := obind2_some h
  have p4 : QF T T21 := QF.tr p3 (sq_X10_value eT21)
  obtain ⟨v23, -, h⟩ := elet_some h
  rw [← (osome3 h).2.2]
  exact p4
set_option maxHeartbeats 4000000 in
set_option maxRecDepth 100000 in
theorem sq_X11_beam_b49 {e1 : Nat} {r1 : Int32} {T1 : AT} : ∀ (T : AT) (l0 : Nat), g_X11_beam_b49 T l0 = some (e1, r1, T1) → QF T T1 := by
  intro T l0 h
  have p0 := QF.rf T
  unfold g_X11_beam_b49 at h
  obtain ⟨g2, h⟩ := oif_some h
  obtain ⟨n3, en3, h⟩ := obind_some h
  obtain ⟨g4, h⟩ := oif_some h
  obtain ⟨n5, en5, h⟩ := obind_some h
  obtain ⟨g6, h⟩ := oif_some h
  obtain ⟨r8, T7, eT7, h⟩ := obind2_some h
  have p1 : QF T T7 := QF.tr p0 ((sq_X10_value eT7))
  obtain ⟨v9, -, h⟩ := elet_some h
  rw [← (osome3 h).2.2]
  exact p1
set_option maxHeartbeats 4000000 in
set_option maxRecDepth 100000 in
theorem sq_X11_beam {T : AT} {o : Nat} {a0 : Int32} {a1 : Int32} {e1 : Nat} {r1 : Int32} {T1 : AT} (h : g_X11_beam T o a0 a1 = some (e1, r1, T1)) : QF T T1 := by
  have p0 := QF.rf T
  unfold g_X11_beam at h
  obtain ⟨g2, h⟩ := oif_some h
  rcases othr_s h with ⟨k9, r9, e9, -⟩ | ⟨r4, T3, eT3, h⟩
  · exact QF.tr p0 ((sq_X11_needCamera e9))
  have p1 : QF T T3 := QF.tr p0 ((sq_X11_needCamera eT3))
  obtain ⟨g5, h⟩ := oif_some h
  rcases othr_s h with ⟨k9, r9, e9, -⟩ | ⟨r7, T6, eT6, h⟩
  · exact QF.tr p1 ((sq_X11_needCell e9))
  have p2 : QF T T6 := QF.tr p1 ((sq_X11_needCell eT6))
  obtain ⟨g8, h⟩ := oif_some h
  obtain ⟨n9, en9, h⟩ := obind_some h
  obtain ⟨g10, h⟩ := oif_some h
  obtain ⟨n11, en11, h⟩ := obind_some h
  obtain ⟨g12, h⟩ := oif_some h
  obtain ⟨n13, en13, h⟩ := obind_some h
  obtain ⟨g14, h⟩ := oif_some h
  obtain ⟨g15, h⟩ := oif_some h
  obtain ⟨n16, en16, h⟩ := obind_some h
  obtain ⟨g17, h⟩ := oif_some h
  obtain ⟨r19, T18, eT18, h⟩ := obind2_some h
  have p3 : QF T T18 := QF.tr p2 ((sq_X8_windowOf eT18))
  obtain ⟨v20, -, h⟩ := elet_some h
  rcases othr_s h with ⟨k9, r9, e9, -⟩ | ⟨r22, T21, eT21, h⟩
  · exact QF.tr p3 ((sq_X11_needRange e9))
  have p4 : QF T T21 := QF.tr p3 ((sq_X11_needRange eT21))
  obtain ⟨g23, h⟩ := oif_some h
  obtain ⟨n24, en24, h⟩ := obind_some h
  obtain ⟨g25, h⟩ := oif_some h
  obtain ⟨n26, en26, h⟩ := obind_some h
  obtain ⟨g27, h⟩ := oif_some h
  obtain ⟨n28, en28, h⟩ := obind_some h
  obtain ⟨g29, h⟩ := oif_some h
  obtain ⟨g30, h⟩ := oif_some h
  obtain ⟨n31, en31, h⟩ := obind_some h
  obtain ⟨g32, h⟩ := oif_some h
  obtain ⟨T33, eT33, h⟩ := obind_some h
  have p5 : QF T T33 := QF.tr p4 (sq_X8_focus eT33)
  exact QF.tr p5 (sq_X11_beam_b49 _ _ h)
set_option maxHeartbeats 4000000 in
set_option maxRecDepth 100000 in
theorem sq_X11_powersNow_b33 {r1 : Nat} {T1 : AT} : ∀ (T : AT) (l0 : Nat), g_X11_powersNow_b33 T l0 = some (r1, T1) → QF T T1 := by
  intro T l0 h
  have p0 := QF.rf T
  unfold g_X11_powersNow_b33 at h
  obtain ⟨g2, h⟩ := oif_some h
  obtain ⟨n3, en3, h⟩ := obind_some h
  rw [← (osome2 h).2]
  exact p0
set_option maxHeartbeats 4000000 in
set_option maxRecDepth 100000 in
theorem sq_X11_powersNow_b25 {r1 : Nat} {T1 : AT} : ∀ (T : AT) (l0 : Nat), g_X11_powersNow_b25 T l0 = some (r1, T1) → QF T T1 := by
  intro T l0 h
  have p0 := QF.rf T
  unfold g_X11_powersNow_b25 at h
  obtain ⟨g2, h⟩ := oif_some h
  obtain ⟨n3, en3, h⟩ := obind_some h
  obtain ⟨g4, h⟩ := oif_some h
  obtain ⟨T5, eT5, h⟩ := elet_some h
  have p1 : QF T T5 := QF.tr p0 (by rw [eT5]; first | exact qf_uO (oO_k g4).2 (by decide) | exact qf_uA (aA_k g2).2.1 (by decide))
  exact QF.tr p1 (sq_X11_powersNow_b33 _ _ h)
set_option maxHeartbeats 4000000 in
set_option maxRecDepth 100000 in
theorem sq_X11_powersNow {T : AT} {o : Nat} {r1 : Nat} {T1 : AT} (h : g_X11_powersNow T o = some (r1, T1)) : QF T T1 := by
  have p0 := QF.rf T
  unfold g_X11_powersNow at h
  obtain ⟨g2, h⟩ := oif_some h
  obtain ⟨n3, en3, h⟩ := obind_some h
  obtain ⟨g4, h⟩ := oif_some h
  obtain ⟨v5, -, h⟩ := elet_some h
  rcases oif_or h with ⟨c6, h⟩ | ⟨c6, h⟩
  · have h := h
    obtain ⟨g7, h⟩ := oif_some h
    obtain ⟨n8, en8, h⟩ := obind_some h
    obtain ⟨g9, h⟩ := oif_some h
    obtain ⟨n10, en10, h⟩ := obind_some h
    obtain ⟨g11, h⟩ := oif_some h
    obtain ⟨n12, en12, h⟩ := obind_some h
    obtain ⟨g13, h⟩ := oif_some h
    obtain ⟨T14, eT14, h⟩ := obind_some h
    have p1 : QF T T14 := QF.tr p0 (sq_X4_measure eT14)
    exact QF.tr p1 (sq_X11_powersNow_b25 _ _ h)
  · have h := h
    exact QF.tr p0 (sq_X11_powersNow_b33 _ _ h)
set_option maxHeartbeats 4000000 in
set_option maxRecDepth 100000 in
theorem sq_X11_power_b13 {e1 : Nat} {r1 : Int64} {T1 : AT} : ∀ (T : AT) (s0 : Nat) (l1 : Int32), g_X11_power_b13 T s0 l1 = some (e1, r1, T1) → QF T T1 := by
  intro T s0 l1 h
  have p0 := QF.rf T
  unfold g_X11_power_b13 at h
  obtain ⟨g2, h⟩ := oif_some h
  obtain ⟨n3, en3, h⟩ := obind_some h
  obtain ⟨g4, h⟩ := oif_some h
  obtain ⟨r6, T5, eT5, h⟩ := obind2_some h
  have p1 : QF T T5 := QF.tr p0 ((sq_X10_value eT5))
  rw [← (osome3 h).2.2]
  exact p1
set_option maxHeartbeats 4000000 in
set_option maxRecDepth 100000 in
theorem sq_X11_power {T : AT} {o : Nat} {a0 : Int32} {e1 : Nat} {r1 : Int64} {T1 : AT} (h : g_X11_power T o a0 = some (e1, r1, T1)) : QF T T1 := by
  have p0 := QF.rf T
  unfold g_X11_power at h
  obtain ⟨g2, h⟩ := oif_some h
  rcases othr_s h with ⟨k9, r9, e9, -⟩ | ⟨r4, T3, eT3, h⟩
  · exact QF.tr p0 ((sq_X11_needCamera e9))
  have p1 : QF T T3 := QF.tr p0 ((sq_X11_needCamera eT3))
  obtain ⟨g5, h⟩ := oif_some h
  rcases othr_s h with ⟨k9, r9, e9, -⟩ | ⟨r7, T6, eT6, h⟩
  · exact QF.tr p1 ((sq_X11_needCell e9))
  have p2 : QF T T6 := QF.tr p1 ((sq_X11_needCell eT6))
  obtain ⟨g8, h⟩ := oif_some h
  obtain ⟨r10, T9, eT9, h⟩ := obind2_some h
  obtain ⟨g11, h⟩ := oif_some h
  have p3 : QF T T9 := QF.tr p2 (sq_X11_powersNow eT9)
  exact QF.tr p3 (sq_X11_power_b13 _ _ _ h)
set_option maxHeartbeats 4000000 in
set_option maxRecDepth 100000 in
theorem sq_X11_powerAt_b53 {e1 : Nat} {r1 : Int64} {T1 : AT} : ∀ (T : AT) (l0 : Nat), g_X11_powerAt_b53 T l0 = some (e1, r1, T1) → QF T T1 := by
  intro T l0 h
  have p0 := QF.rf T
  unfold g_X11_powerAt_b53 at h
  obtain ⟨g2, h⟩ := oif_some h
  obtain ⟨n3, en3, h⟩ := obind_some h
  obtain ⟨g4, h⟩ := oif_some h
  obtain ⟨r6, T5, eT5, h⟩ := obind2_some h
  have p1 : QF T T5 := QF.tr p0 ((sq_X10_value eT5))
  rw [← (osome3 h).2.2]
  exact p1
set_option maxHeartbeats 4000000 in
set_option maxRecDepth 100000 in
theorem sq_X11_powerAt {T : AT} {o : Nat} {a0 : Int32} {a1 : Int32} {e1 : Nat} {r1 : Int64} {T1 : AT} (h : g_X11_powerAt T o a0 a1 = some (e1, r1, T1)) : QF T T1 := by
  have p0 := QF.rf T
  unfold g_X11_powerAt at h
  obtain ⟨g2, h⟩ := oif_some h
  rcases othr_s h with ⟨k9, r9, e9, -⟩ | ⟨r4, T3, eT3, h⟩
  · exact QF.tr p0 ((sq_X11_needCamera e9))
  have p1 : QF T T3 := QF.tr p0 ((sq_X11_needCamera eT3))
  rcases othr_s h with ⟨k9, r9, e9, -⟩ | ⟨r6, T5, eT5, h⟩
  · exact QF.tr p1 ((sq_X11_needRange e9))
  have p2 : QF T T5 := QF.tr p1 ((sq_X11_needRange eT5))
  rcases othr_s h with ⟨k9, r9, e9, -⟩ | ⟨r8, T7, eT7, h⟩
  · exact QF.tr p2 ((sq_X11_needRange e9))
  have p3 : QF T T7 := QF.tr p2 ((sq_X11_needRange eT7))
  obtain ⟨g9, h⟩ := oif_some h
  obtain ⟨n10, en10, h⟩ := obind_some h
  obtain ⟨g11, h⟩ := oif_some h
  obtain ⟨n12, en12, h⟩ := obind_some h
  obtain ⟨g13, h⟩ := oif_some h
  obtain ⟨T14, eT14, h⟩ := obind_some h
  have p4 : QF T T14 := QF.tr p3 ((sq_X6_delaysFrom eT14))
  obtain ⟨g16, h⟩ := oif_some h
  obtain ⟨n17, en17, h⟩ := obind_some h
  obtain ⟨g18, h⟩ := oif_some h
  obtain ⟨n19, en19, h⟩ := obind_some h
  obtain ⟨g20, h⟩ := oif_some h
  obtain ⟨n21, en21, h⟩ := obind_some h
  obtain ⟨g22, h⟩ := oif_some h
  obtain ⟨T23, eT23, h⟩ := obind_some h
  have p5 : QF T T23 := QF.tr p4 (sq_X8_powerOf eT23)
  exact QF.tr p5 (sq_X11_powerAt_b53 _ _ h)
set_option maxHeartbeats 4000000 in
set_option maxRecDepth 100000 in
theorem sq_X11_best_b8 {e1 : Nat} {r1 : Int32} {T1 : AT} : ∀ (T : AT) (s0 : Nat), g_X11_best_b8 T s0 = some (e1, r1, T1) → QF T T1 := by
  intro T s0 h
  have p0 := QF.rf T
  unfold g_X11_best_b8 at h
  obtain ⟨g2, h⟩ := oif_some h
  obtain ⟨v3, -, h⟩ := elet_some h
  rw [← (osome3 h).2.2]
  exact p0
set_option maxHeartbeats 4000000 in
set_option maxRecDepth 100000 in
theorem sq_X11_best {T : AT} {o : Nat} {e1 : Nat} {r1 : Int32} {T1 : AT} (h : g_X11_best T o = some (e1, r1, T1)) : QF T T1 := by
  have p0 := QF.rf T
  unfold g_X11_best at h
  obtain ⟨g2, h⟩ := oif_some h
  rcases othr_s h with ⟨k9, r9, e9, -⟩ | ⟨r4, T3, eT3, h⟩
  · exact QF.tr p0 ((sq_X11_needCamera e9))
  have p1 : QF T T3 := QF.tr p0 ((sq_X11_needCamera eT3))
  obtain ⟨g5, h⟩ := oif_some h
  obtain ⟨r7, T6, eT6, h⟩ := obind2_some h
  obtain ⟨g8, h⟩ := oif_some h
  have p2 : QF T T6 := QF.tr p1 (sq_X11_powersNow eT6)
  exact QF.tr p2 (sq_X11_best_b8 _ _ h)
set_option maxHeartbeats 4000000 in
set_option maxRecDepth 100000 in
theorem sq_X11_bestPower_b8 {e1 : Nat} {r1 : Int64} {T1 : AT} : ∀ (T : AT) (s0 : Nat), g_X11_bestPower_b8 T s0 = some (e1, r1, T1) → QF T T1 := by
  intro T s0 h
  have p0 := QF.rf T
  unfold g_X11_bestPower_b8 at h
  obtain ⟨g2, h⟩ := oif_some h
  obtain ⟨n3, en3, h⟩ := obind_some h
  obtain ⟨g4, h⟩ := oif_some h
  obtain ⟨v5, -, h⟩ := elet_some h
  obtain ⟨g6, h⟩ := oif_some h
  obtain ⟨r8, T7, eT7, h⟩ := obind2_some h
  have p1 : QF T T7 := QF.tr p0 ((sq_X10_value eT7))
  rw [← (osome3 h).2.2]
  exact p1
set_option maxHeartbeats 4000000 in
set_option maxRecDepth 100000 in
theorem sq_X11_bestPower {T : AT} {o : Nat} {e1 : Nat} {r1 : Int64} {T1 : AT} (h : g_X11_bestPower T o = some (e1, r1, T1)) : QF T T1 := by
  have p0 := QF.rf T
  unfold g_X11_bestPower at h
  obtain ⟨g2, h⟩ := oif_some h
  rcases othr_s h with ⟨k9, r9, e9, -⟩ | ⟨r4, T3, eT3, h⟩
  · exact QF.tr p0 ((sq_X11_needCamera e9))
  have p1 : QF T T3 := QF.tr p0 ((sq_X11_needCamera eT3))
  obtain ⟨g5, h⟩ := oif_some h
  obtain ⟨r7, T6, eT6, h⟩ := obind2_some h
  obtain ⟨g8, h⟩ := oif_some h
  have p2 : QF T T6 := QF.tr p1 (sq_X11_powersNow eT6)
  exact QF.tr p2 (sq_X11_bestPower_b8 _ _ h)
set_option maxHeartbeats 4000000 in
set_option maxRecDepth 100000 in
theorem sq_X11_meanPower_b51 {e1 : Nat} {r1 : Int64} {T1 : AT} : ∀ (T : AT) (l0 : Nat), g_X11_meanPower_b51 T l0 = some (e1, r1, T1) → QF T T1 := by
  intro T l0 h
  have p0 := QF.rf T
  unfold g_X11_meanPower_b51 at h
  obtain ⟨g2, h⟩ := oif_some h
  obtain ⟨n3, en3, h⟩ := obind_some h
  obtain ⟨g4, h⟩ := oif_some h
  obtain ⟨r6, T5, eT5, h⟩ := obind2_some h
  have p1 : QF T T5 := QF.tr p0 ((sq_X10_value eT5))
  rw [← (osome3 h).2.2]
  exact p1
set_option maxHeartbeats 4000000 in
set_option maxRecDepth 100000 in
theorem sq_X11_meanPower_b33 {e1 : Nat} {r1 : Int64} {T1 : AT} : ∀ (T : AT) (l0 : Nat), g_X11_meanPower_b33 T l0 = some (e1, r1, T1) → QF T T1 := by
  intro T l0 h
  have p0 := QF.rf T
  unfold g_X11_meanPower_b33 at h
  obtain ⟨g2, h⟩ := oif_some h
  obtain ⟨n3, en3, h⟩ := obind_some h
  obtain ⟨g4, h⟩ := oif_some h
  obtain ⟨n5, en5, h⟩ := obind_some h
  obtain ⟨g6, h⟩ := oif_some h
  obtain ⟨n7, en7, h⟩ := obind_some h
  obtain ⟨g8, h⟩ := oif_some h
  obtain ⟨r10, T9, eT9, h⟩ := obind2_some h
  have p1 : QF T T9 := QF.tr p0 ((sq_X1_cells eT9))
  obtain ⟨g11, h⟩ := oif_some h
  obtain ⟨T12, eT12, h⟩ := obind_some h
  have p2 : QF T T12 := QF.tr p1 (sq_X10_divide eT12)
  exact QF.tr p2 (sq_X11_meanPower_b51 _ _ h)
set_option maxHeartbeats 4000000 in
set_option maxRecDepth 100000 in
theorem sq_X11_meanPower_b8 {e1 : Nat} {r1 : Int64} {T1 : AT} : ∀ (T : AT) (s0 : Nat) (l0 : Nat), g_X11_meanPower_b8 T s0 l0 = some (e1, r1, T1) → QF T T1 := by
  intro T s0 l0 h
  have p0 := QF.rf T
  unfold g_X11_meanPower_b8 at h
  obtain ⟨g2, h⟩ := oif_some h
  obtain ⟨n3, en3, h⟩ := obind_some h
  obtain ⟨g4, h⟩ := oif_some h
  obtain ⟨n5, en5, h⟩ := obind_some h
  obtain ⟨g6, h⟩ := oif_some h
  obtain ⟨n7, en7, h⟩ := obind_some h
  obtain ⟨g8, h⟩ := oif_some h
  obtain ⟨n9, en9, h⟩ := obind_some h
  obtain ⟨g10, h⟩ := oif_some h
  obtain ⟨n11, en11, h⟩ := obind_some h
  obtain ⟨g12, h⟩ := oif_some h
  obtain ⟨n13, en13, h⟩ := obind_some h
  obtain ⟨g14, h⟩ := oif_some h
  obtain ⟨T15, eT15, h⟩ := obind_some h
  have p1 : QF T T15 := QF.tr p0 (sq_X4_sumIn eT15)
  exact QF.tr p1 (sq_X11_meanPower_b33 _ _ h)
set_option maxHeartbeats 4000000 in
set_option maxRecDepth 100000 in
theorem sq_X11_meanPower {T : AT} {o : Nat} {e1 : Nat} {r1 : Int64} {T1 : AT} (h : g_X11_meanPower T o = some (e1, r1, T1)) : QF T T1 := by
  have p0 := QF.rf T
  unfold g_X11_meanPower at h
  obtain ⟨g2, h⟩ := oif_some h
  rcases othr_s h with ⟨k9, r9, e9, -⟩ | ⟨r4, T3, eT3, h⟩
  · exact QF.tr p0 ((sq_X11_needCamera e9))
  have p1 : QF T T3 := QF.tr p0 ((sq_X11_needCamera eT3))
  obtain ⟨g5, h⟩ := oif_some h
  obtain ⟨r7, T6, eT6, h⟩ := obind2_some h
  obtain ⟨g8, h⟩ := oif_some h
  have p2 : QF T T6 := QF.tr p1 (sq_X11_powersNow eT6)
  exact QF.tr p2 (sq_X11_meanPower_b8 _ _ _ h)
set_option maxHeartbeats 4000000 in
set_option maxRecDepth 100000 in
theorem sq_X11_peaks_b8 {e1 : Nat} {r1 : Int32} {T1 : AT} : ∀ (T : AT) (s0 : Nat), g_X11_peaks_b8 T s0 = some (e1, r1, T1) → QF T T1 := by
  intro T s0 h
  have p0 := QF.rf T
  unfold g_X11_peaks_b8 at h
  obtain ⟨g2, h⟩ := oif_some h
  obtain ⟨v3, -, h⟩ := elet_some h
  rw [← (osome3 h).2.2]
  exact p0
set_option maxHeartbeats 4000000 in
set_option maxRecDepth 100000 in
theorem sq_X11_peaks {T : AT} {o : Nat} {e1 : Nat} {r1 : Int32} {T1 : AT} (h : g_X11_peaks T o = some (e1, r1, T1)) : QF T T1 := by
  have p0 := QF.rf T
  unfold g_X11_peaks at h
  obtain ⟨g2, h⟩ := oif_some h
  rcases othr_s h with ⟨k9, r9, e9, -⟩ | ⟨r4, T3, eT3, h⟩
  · exact QF.tr p0 ((sq_X11_needCamera e9))
  have p1 : QF T T3 := QF.tr p0 ((sq_X11_needCamera eT3))
  obtain ⟨g5, h⟩ := oif_some h
  obtain ⟨r7, T6, eT6, h⟩ := obind2_some h
  obtain ⟨g8, h⟩ := oif_some h
  have p2 : QF T T6 := QF.tr p1 (sq_X11_powersNow eT6)
  exact QF.tr p2 (sq_X11_peaks_b8 _ _ h)
set_option maxHeartbeats 4000000 in
set_option maxRecDepth 100000 in
theorem sq_X11_peakAt_b8 {e1 : Nat} {r1 : Int32} {T1 : AT} : ∀ (T : AT) (s0 : Nat) (l1 : Int32), g_X11_peakAt_b8 T s0 l1 = some (e1, r1, T1) → QF T T1 := by
  intro T s0 l1 h
  have p0 := QF.rf T
  unfold g_X11_peakAt_b8 at h
  obtain ⟨g2, h⟩ := oif_some h
  obtain ⟨v3, -, h⟩ := elet_some h
  rcases othr_s h with ⟨k9, r9, e9, -⟩ | ⟨r5, T4, eT4, h⟩
  · exact QF.tr p0 ((sq_X11_needIndex e9))
  have p1 : QF T T4 := QF.tr p0 ((sq_X11_needIndex eT4))
  obtain ⟨g6, h⟩ := oif_some h
  obtain ⟨r8, T7, eT7, h⟩ := obind2_some h
  have p2 : QF T T7 := QF.tr p1 ((sq_X4_peakRanked eT7))
  rw [← (osome3 h).2.2]
  exact p2
set_option maxHeartbeats 4000000 in
set_option maxRecDepth 100000 in
theorem sq_X11_peakAt {T : AT} {o : Nat} {a0 : Int32} {e1 : Nat} {r1 : Int32} {T1 : AT} (h : g_X11_peakAt T o a0 = some (e1, r1, T1)) : QF T T1 := by
  have p0 := QF.rf T
  unfold g_X11_peakAt at h
  obtain ⟨g2, h⟩ := oif_some h
  rcases othr_s h with ⟨k9, r9, e9, -⟩ | ⟨r4, T3, eT3, h⟩
  · exact QF.tr p0 ((sq_X11_needCamera e9))
  have p1 : QF T T3 := QF.tr p0 ((sq_X11_needCamera eT3))
  obtain ⟨g5, h⟩ := oif_some h
  obtain ⟨r7, T6, eT6, h⟩ := obind2_some h
  obtain ⟨g8, h⟩ := oif_some h
  have p2 : QF T T6 := QF.tr p1 (sq_X11_powersNow eT6)
  exact QF.tr p2 (sq_X11_peakAt_b8 _ _ _ h)
set_option maxHeartbeats 4000000 in
set_option maxRecDepth 100000 in
theorem sq_X11_isPeak_b13 {e1 : Nat} {r1 : Int32} {T1 : AT} : ∀ (T : AT) (s0 : Nat) (l0 : Nat) (l1 : Int32), g_X11_isPeak_b13 T s0 l0 l1 = some (e1, r1, T1) → QF T T1 := by
  intro T s0 l0 l1 h
  have p0 := QF.rf T
  unfold g_X11_isPeak_b13 at h
  obtain ⟨g2, h⟩ := oif_some h
  obtain ⟨n3, en3, h⟩ := obind_some h
  obtain ⟨g4, h⟩ := oif_some h
  obtain ⟨n5, en5, h⟩ := obind_some h
  obtain ⟨g6, h⟩ := oif_some h
  obtain ⟨r8, T7, eT7, h⟩ := obind2_some h
  have p1 : QF T T7 := QF.tr p0 ((sq_X4_standsOut eT7))
  obtain ⟨gz, h⟩ := oif_some h
  rw [← (osome3 h).2.2]
  exact p1
set_option maxHeartbeats 4000000 in
set_option maxRecDepth 100000 in
theorem sq_X11_isPeak {T : AT} {o : Nat} {a0 : Int32} {e1 : Nat} {r1 : Int32} {T1 : AT} (h : g_X11_isPeak T o a0 = some (e1, r1, T1)) : QF T T1 := by
  have p0 := QF.rf T
  unfold g_X11_isPeak at h
  obtain ⟨g2, h⟩ := oif_some h
  rcases othr_s h with ⟨k9, r9, e9, -⟩ | ⟨r4, T3, eT3, h⟩
  · exact QF.tr p0 ((sq_X11_needCamera e9))
  have p1 : QF T T3 := QF.tr p0 ((sq_X11_needCamera eT3))
  obtain ⟨g5, h⟩ := oif_some h
  rcases othr_s h with ⟨k9, r9, e9, -⟩ | ⟨r7, T6, eT6, h⟩
  · exact QF.tr p1 ((sq_X11_needCell e9))
  have p2 : QF T T6 := QF.tr p1 ((sq_X11_needCell eT6))
  obtain ⟨g8, h⟩ := oif_some h
  obtain ⟨r10, T9, eT9, h⟩ := obind2_some h
  obtain ⟨g11, h⟩ := oif_some h
  have p3 : QF T T9 := QF.tr p2 (sq_X11_powersNow eT9)
  exact QF.tr p3 (sq_X11_isPeak_b13 _ _ _ _ h)
set_option maxHeartbeats 4000000 in
set_option maxRecDepth 100000 in
theorem sq_X11_zonePower_b49 {e1 : Nat} {r1 : Int64} {T1 : AT} : ∀ (T : AT) (l0 : Nat), g_X11_zonePower_b49 T l0 = some (e1, r1, T1) → QF T T1 := by
  intro T l0 h
  have p0 := QF.rf T
  unfold g_X11_zonePower_b49 at h
  obtain ⟨g2, h⟩ := oif_some h
  obtain ⟨n3, en3, h⟩ := obind_some h
  obtain ⟨g4, h⟩ := oif_some h
  obtain ⟨r6, T5, eT5, h⟩ := obind2_some h
  have p1 : QF T T5 := QF.tr p0 ((sq_X10_value eT5))
  rw [← (osome3 h).2.2]
  exact p1
set_option maxHeartbeats 4000000 in
set_option maxRecDepth 100000 in
theorem sq_X11_zonePower_b22 {e1 : Nat} {r1 : Int64} {T1 : AT} : ∀ (T : AT) (s0 : Nat) (l0 : Nat) (l1 : Int32), g_X11_zonePower_b22 T s0 l0 l1 = some (e1, r1, T1) → QF T T1 := by
  intro T s0 l0 l1 h
  have p0 := QF.rf T
  unfold g_X11_zonePower_b22 at h
  obtain ⟨g2, h⟩ := oif_some h
  obtain ⟨n3, en3, h⟩ := obind_some h
  obtain ⟨g4, h⟩ := oif_some h
  obtain ⟨n5, en5, h⟩ := obind_some h
  obtain ⟨g6, h⟩ := oif_some h
  obtain ⟨n7, en7, h⟩ := obind_some h
  obtain ⟨g8, h⟩ := oif_some h
  obtain ⟨g9, h⟩ := oif_some h
  obtain ⟨n10, en10, h⟩ := obind_some h
  obtain ⟨g11, h⟩ := oif_some h
  obtain ⟨n12, en12, h⟩ := obind_some h
  obtain ⟨g13, h⟩ := oif_some h
  obtain ⟨n14, en14, h⟩ := obind_some h
  obtain ⟨g15, h⟩ := oif_some h
  obtain ⟨n16, en16, h⟩ := obind_some h
  obtain ⟨g17, h⟩ := oif_some h
  obtain ⟨T18, eT18, h⟩ := obind_some h
  have p1 : QF T T18 := QF.tr p0 (sq_X4_sumIn eT18)
  exact QF.tr p1 (sq_X11_zonePower_b49 _ _ h)
set_option maxHeartbeats 4000000 in
set_option maxRecDepth 100000 in
theorem sq_X11_zonePower {T : AT} {o : Nat} {a0 : Int32} {e1 : Nat} {r1 : Int64} {T1 : AT} (h : g_X11_zonePower T o a0 = some (e1, r1, T1)) : QF T T1 := by
  have p0 := QF.rf T
  unfold g_X11_zonePower at h
  obtain ⟨g2, h⟩ := oif_some h
  rcases othr_s h with ⟨k9, r9, e9, -⟩ | ⟨r4, T3, eT3, h⟩
  · exact QF.tr p0 ((sq_X11_needCamera e9))
  have p1 : QF T T3 := QF.tr p0 ((sq_X11_needCamera eT3))
  obtain ⟨g5, h⟩ := oif_some h
  obtain ⟨n6, en6, h⟩ := obind_some h
  obtain ⟨g7, h⟩ := oif_some h
  obtain ⟨n8, en8, h⟩ := obind_some h
  obtain ⟨g9, h⟩ := oif_some h
  obtain ⟨v10, -, h⟩ := elet_some h
  rcases othr_s h with ⟨k9, r9, e9, -⟩ | ⟨r12, T11, eT11, h⟩
  · exact QF.tr p1 ((sq_X11_needIndex e9))
  have p2 : QF T T11 := QF.tr p1 ((sq_X11_needIndex eT11))
  obtain ⟨g13, h⟩ := oif_some h
  obtain ⟨r15, T14, eT14, h⟩ := obind2_some h
  obtain ⟨g16, h⟩ := oif_some h
  have p3 : QF T T14 := QF.tr p2 (sq_X11_powersNow eT14)
  exact QF.tr p3 (sq_X11_zonePower_b22 _ _ _ _ h)
set_option maxHeartbeats 4000000 in
set_option maxRecDepth 100000 in
theorem sq_X11_zoneBest_b41 {e1 : Nat} {r1 : Int32} {T1 : AT} : ∀ (T : AT) (s0 : Nat) (s1 : Nat) (s2 : Nat), g_X11_zoneBest_b41 T s0 s1 s2 = some (e1, r1, T1) → QF T T1 := by
  intro T s0 s1 s2 h
  have p0 := QF.rf T
  unfold g_X11_zoneBest_b41 at h
  obtain ⟨g2, h⟩ := oif_some h
  obtain ⟨n3, en3, h⟩ := obind_some h
  obtain ⟨g4, h⟩ := oif_some h
  obtain ⟨r6, T5, eT5, h⟩ := obind2_some h
  have p1 : QF T T5 := QF.tr p0 ((sq_X1_bestIn eT5))
  rw [← (osome3 h).2.2]
  exact p1
set_option maxHeartbeats 4000000 in
set_option maxRecDepth 100000 in
theorem sq_X11_zoneBest {T : AT} {o : Nat} {a0 : Int32} {e1 : Nat} {r1 : Int32} {T1 : AT} (h : g_X11_zoneBest T o a0 = some (e1, r1, T1)) : QF T T1 := by
  have p0 := QF.rf T
  unfold g_X11_zoneBest at h
  obtain ⟨g2, h⟩ := oif_some h
  rcases othr_s h with ⟨k9, r9, e9, -⟩ | ⟨r4, T3, eT3, h⟩
  · exact QF.tr p0 ((sq_X11_needCamera e9))
  have p1 : QF T T3 := QF.tr p0 ((sq_X11_needCamera eT3))
  obtain ⟨g5, h⟩ := oif_some h
  obtain ⟨n6, en6, h⟩ := obind_some h
  obtain ⟨g7, h⟩ := oif_some h
  obtain ⟨n8, en8, h⟩ := obind_some h
  obtain ⟨g9, h⟩ := oif_some h
  obtain ⟨v10, -, h⟩ := elet_some h
  rcases othr_s h with ⟨k9, r9, e9, -⟩ | ⟨r12, T11, eT11, h⟩
  · exact QF.tr p1 ((sq_X11_needIndex e9))
  have p2 : QF T T11 := QF.tr p1 ((sq_X11_needIndex eT11))
  obtain ⟨g13, h⟩ := oif_some h
  obtain ⟨n14, en14, h⟩ := obind_some h
  obtain ⟨g15, h⟩ := oif_some h
  obtain ⟨n16, en16, h⟩ := obind_some h
  obtain ⟨g17, h⟩ := oif_some h
  obtain ⟨n18, en18, h⟩ := obind_some h
  obtain ⟨g19, h⟩ := oif_some h
  obtain ⟨n20, en20, h⟩ := obind_some h
  obtain ⟨g21, h⟩ := oif_some h
  obtain ⟨n22, en22, h⟩ := obind_some h
  obtain ⟨g23, h⟩ := oif_some h
  obtain ⟨g24, h⟩ := oif_some h
  obtain ⟨n25, en25, h⟩ := obind_some h
  obtain ⟨g26, h⟩ := oif_some h
  obtain ⟨r28, T27, eT27, h⟩ := obind2_some h
  obtain ⟨g29, h⟩ := oif_some h
  have p3 : QF T T27 := QF.tr p2 (sq_X11_powersNow eT27)
  exact QF.tr p3 (sq_X11_zoneBest_b41 _ _ _ _ h)
set_option maxHeartbeats 4000000 in
set_option maxRecDepth 100000 in
theorem sq_X11_contrast_b45 {e1 : Nat} {r1 : UInt32} {T1 : AT} : ∀ (T : AT) (s0 : UInt32), g_X11_contrast_b45 T s0 = some (e1, r1, T1) → QF T T1 := by
  intro T s0 h
  have p0 := QF.rf T
  unfold g_X11_contrast_b45 at h
  rw [← (osome3 h).2.2]
  exact p0
set_option maxHeartbeats 4000000 in
set_option maxRecDepth 100000 in
theorem sq_X11_contrast_b8 {e1 : Nat} {r1 : UInt32} {T1 : AT} : ∀ (T : AT) (s0 : Nat) (l0 : Nat), g_X11_contrast_b8 T s0 l0 = some (e1, r1, T1) → QF T T1 := by
  intro T s0 l0 h
  have p0 := QF.rf T
  unfold g_X11_contrast_b8 at h
  obtain ⟨g2, h⟩ := oif_some h
  obtain ⟨n3, en3, h⟩ := obind_some h
  obtain ⟨g4, h⟩ := oif_some h
  obtain ⟨n5, en5, h⟩ := obind_some h
  obtain ⟨g6, h⟩ := oif_some h
  obtain ⟨r8, T7, eT7, h⟩ := obind2_some h
  have p1 : QF T T7 := QF.tr p0 ((sq_X1_cells eT7))
  obtain ⟨g9, h⟩ := oif_some h
  obtain ⟨r11, T10, eT10, h⟩ := obind2_some h
  have p2 : QF T T10 := QF.tr p1 ((sq_X4_second eT10))
  rcases oif_or h with ⟨c12, h⟩ | ⟨c12, h⟩
  · have h := h
    exact QF.tr p2 (sq_X11_contrast_b45 _ _ h)
  · have h := h
    obtain ⟨g13, h⟩ := oif_some h
    obtain ⟨n14, en14, h⟩ := obind_some h
    obtain ⟨g15, h⟩ := oif_some h
    obtain ⟨v16, -, h⟩ := elet_some h
    obtain ⟨g17, h⟩ := oif_some h
    obtain ⟨r19, T18, eT18, h⟩ := obind2_some h
    have p3 : QF T T18 := QF.tr p2 ((sq_X10_ratio eT18))
    exact QF.tr p3 (sq_X11_contrast_b45 _ _ h)
set_option maxHeartbeats 4000000 in
set_option maxRecDepth 100000 in
theorem sq_X11_contrast {T : AT} {o : Nat} {e1 : Nat} {r1 : UInt32} {T1 : AT} (h : g_X11_contrast T o = some (e1, r1, T1)) : QF T T1 := by
  have p0 := QF.rf T
  unfold g_X11_contrast at h
  obtain ⟨g2, h⟩ := oif_some h
  rcases othr_s h with ⟨k9, r9, e9, -⟩ | ⟨r4, T3, eT3, h⟩
  · exact QF.tr p0 ((sq_X11_needCamera e9))
  have p1 : QF T T3 := QF.tr p0 ((sq_X11_needCamera eT3))
  obtain ⟨g5, h⟩ := oif_some h
  obtain ⟨r7, T6, eT6, h⟩ := obind2_some h
  obtain ⟨g8, h⟩ := oif_some h
  have p2 : QF T T6 := QF.tr p1 (sq_X11_powersNow eT6)
  exact QF.tr p2 (sq_X11_contrast_b8 _ _ _ h)
set_option maxHeartbeats 4000000 in
set_option maxRecDepth 100000 in
theorem sq_X11_confusion_b121 {r1 : Int32} {T1 : AT} {k28 : AT → Nat → Int32 → Nat → Nat → Int32 → Int32 → Option (Int32 × AT)} {k46 : AT → Nat → Int32 → Nat → Nat → Int32 → Int32 → Int32 → Int32 → Option (Int32 × AT)} (hk28 : ∀ (T : AT) (l0 : Nat) (l3 : Int32) (l4 : Nat) (l5 : Nat) (l6 : Int32) (l7 : Int32), k28 T l0 l3 l4 l5 l6 l7 = some (r1, T1) → QF T T1) (hk46 : ∀ (T : AT) (l0 : Nat) (l3 : Int32) (l4 : Nat) (l5 : Nat) (l6 : Int32) (l7 : Int32) (l8 : Int32) (l9 : Int32), k46 T l0 l3 l4 l5 l6 l7 l8 l9 = some (r1, T1) → QF T T1) : ∀ (T : AT) (l0 : Nat) (l3 : Int32) (l4 : Nat) (l5 : Nat) (l6 : Int32) (l7 : Int32) (l8 : Int32) (l9 : Int32), g_X11_confusion_b121 k28 k46 T l0 l3 l4 l5 l6 l7 l8 l9 = some (r1, T1) → QF T T1 := by
  intro T l0 l3 l4 l5 l6 l7 l8 l9 h
  have p0 := QF.rf T
  unfold g_X11_confusion_b121 at h
  obtain ⟨v2, ev2, h⟩ := elet_some h
  exact QF.tr p0 (hk46 _ _ _ _ _ _ _ _ _ h)
set_option maxHeartbeats 4000000 in
set_option maxRecDepth 100000 in
theorem sq_X11_confusion_b46 {r1 : Int32} {T1 : AT} {k28 : AT → Nat → Int32 → Nat → Nat → Int32 → Int32 → Option (Int32 × AT)} (hk28 : ∀ (T : AT) (l0 : Nat) (l3 : Int32) (l4 : Nat) (l5 : Nat) (l6 : Int32) (l7 : Int32), k28 T l0 l3 l4 l5 l6 l7 = some (r1, T1) → QF T T1) : ∀ n : Nat, ∀ (T : AT) (l0 : Nat) (l3 : Int32) (l4 : Nat) (l5 : Nat) (l6 : Int32) (l7 : Int32) (l8 : Int32) (l9 : Int32), g_X11_confusion_b46 k28 n T l0 l3 l4 l5 l6 l7 l8 l9 = some (r1, T1) → QF T T1 := by
  intro n
  induction n with
  | zero =>
    intro T l0 l3 l4 l5 l6 l7 l8 l9 h
    have h : (none : Option (Int32 × AT)) = some (r1, T1) := h
    cases h
  | succ n ih =>
    intro T l0 l3 l4 l5 l6 l7 l8 l9 h
    have p0 := QF.rf T
    unfold g_X11_confusion_b46 at h
    obtain ⟨g2, h⟩ := oif_some h
    obtain ⟨n3, en3, h⟩ := obind_some h
    obtain ⟨g4, h⟩ := oif_some h
    obtain ⟨v5, -, h⟩ := elet_some h
    rcases oif_or h with ⟨c6, h⟩ | ⟨c6, h⟩
    · have h := h
      obtain ⟨v7, -, h⟩ := elet_some h
      obtain ⟨v8, ev8, h⟩ := elet_some h
      exact QF.tr p0 (hk28 _ _ _ _ _ _ _ h)
    · have h := h
      obtain ⟨g9, h⟩ := oif_some h
      obtain ⟨g10, h⟩ := oif_some h
      obtain ⟨v11, -, h⟩ := elet_some h
      obtain ⟨g12, h⟩ := oif_some h
      obtain ⟨g13, h⟩ := oif_some h
      obtain ⟨v14, -, h⟩ := elet_some h
      obtain ⟨v15, -, h⟩ := elet_some h
      obtain ⟨g16, h⟩ := oif_some h
      obtain ⟨g17, h⟩ := oif_some h
      obtain ⟨v18, -, h⟩ := elet_some h
      obtain ⟨g19, h⟩ := oif_some h
      obtain ⟨g20, h⟩ := oif_some h
      obtain ⟨v21, -, h⟩ := elet_some h
      obtain ⟨v22, -, h⟩ := elet_some h
      obtain ⟨v23, -, h⟩ := elet_some h
      obtain ⟨g24, h⟩ := oif_some h
      obtain ⟨n25, en25, h⟩ := obind_some h
      obtain ⟨g26, h⟩ := oif_some h
      obtain ⟨n27, en27, h⟩ := obind_some h
      obtain ⟨g28, h⟩ := oif_some h
      obtain ⟨g29, h⟩ := oif_some h
      obtain ⟨v30, -, h⟩ := elet_some h
      rcases oif_or h with ⟨c31, h⟩ | ⟨c31, h⟩
      · have h := h
        obtain ⟨g32, h⟩ := oif_some h
        obtain ⟨n33, en33, h⟩ := obind_some h
        obtain ⟨g34, h⟩ := oif_some h
        obtain ⟨n35, en35, h⟩ := obind_some h
        obtain ⟨g36, h⟩ := oif_some h
        obtain ⟨g37, h⟩ := oif_some h
        obtain ⟨v38, -, h⟩ := elet_some h
        rcases oif_or h with ⟨c39, h⟩ | ⟨c39, h⟩
        · have h := h
          obtain ⟨r40, -, h⟩ := obind_some h
          rcases oif_or h with ⟨c41, h⟩ | ⟨c41, h⟩
          · have h := h
            obtain ⟨v42, ev42, h⟩ := elet_some h
            exact QF.tr p0 (sq_X11_confusion_b121 hk28 ih _ _ _ _ _ _ _ _ _ h)
          · have h := h
            exact QF.tr p0 (sq_X11_confusion_b121 hk28 ih _ _ _ _ _ _ _ _ _ h)
        · have h := h
          exact QF.tr p0 (sq_X11_confusion_b121 hk28 ih _ _ _ _ _ _ _ _ _ h)
      · have h := h
        exact QF.tr p0 (sq_X11_confusion_b121 hk28 ih _ _ _ _ _ _ _ _ _ h)
set_option maxHeartbeats 4000000 in
set_option maxRecDepth 100000 in
theorem sq_X11_confusion_b28 {r1 : Int32} {T1 : AT} : ∀ n : Nat, ∀ (T : AT) (l0 : Nat) (l3 : Int32) (l4 : Nat) (l5 : Nat) (l6 : Int32) (l7 : Int32), g_X11_confusion_b28 n T l0 l3 l4 l5 l6 l7 = some (r1, T1) → QF T T1 := by
  intro n
  induction n with
  | zero =>
    intro T l0 l3 l4 l5 l6 l7 h
    have h : (none : Option (Int32 × AT)) = some (r1, T1) := h
    cases h
  | succ n ih =>
    intro T l0 l3 l4 l5 l6 l7 h
    have p0 := QF.rf T
    unfold g_X11_confusion_b28 at h
    obtain ⟨g2, h⟩ := oif_some h
    obtain ⟨n3, en3, h⟩ := obind_some h
    obtain ⟨g4, h⟩ := oif_some h
    obtain ⟨v5, -, h⟩ := elet_some h
    rcases oif_or h with ⟨c6, h⟩ | ⟨c6, h⟩
    · have h := h
      rw [← (osome2 h).2]
      exact p0
    · have h := h
      exact QF.tr p0 (sq_X11_confusion_b46 ih _ _ _ _ _ _ _ _ _ _ h)
set_option maxHeartbeats 4000000 in
set_option maxRecDepth 100000 in
theorem sq_X11_confusion {T : AT} {o : Nat} {a0 : Int32} {a1 : Int32} {a2 : Int32} {r1 : Int32} {T1 : AT} (h : g_X11_confusion T o a0 a1 a2 = some (r1, T1)) : QF T T1 := by
  have p0 := QF.rf T
  unfold g_X11_confusion at h
  obtain ⟨g2, h⟩ := oif_some h
  obtain ⟨n3, en3, h⟩ := obind_some h
  obtain ⟨g4, h⟩ := oif_some h
  obtain ⟨n5, en5, h⟩ := obind_some h
  obtain ⟨g6, h⟩ := oif_some h
  obtain ⟨g7, h⟩ := oif_some h
  obtain ⟨n8, en8, h⟩ := obind_some h
  obtain ⟨g9, h⟩ := oif_some h
  obtain ⟨n10, en10, h⟩ := obind_some h
  obtain ⟨g11, h⟩ := oif_some h
  obtain ⟨n12, en12, h⟩ := obind_some h
  obtain ⟨g13, h⟩ := oif_some h
  obtain ⟨g14, h⟩ := oif_some h
  obtain ⟨n15, en15, h⟩ := obind_some h
  exact QF.tr p0 (sq_X11_confusion_b28 _ _ _ _ _ _ _ _ h)
set_option maxHeartbeats 4000000 in
set_option maxRecDepth 100000 in
theorem sq_X11_alias {T : AT} {o : Nat} {a0 : Int32} {a1 : Int32} {a2 : Int32} {e1 : Nat} {r1 : Int32} {T1 : AT} (h : g_X11_alias T o a0 a1 a2 = some (e1, r1, T1)) : QF T T1 := by
  have p0 := QF.rf T
  unfold g_X11_alias at h
  obtain ⟨g2, h⟩ := oif_some h
  rcases othr_s h with ⟨k9, r9, e9, -⟩ | ⟨r4, T3, eT3, h⟩
  · exact QF.tr p0 (sq_X11_needCamera e9)
  have p1 : QF T T3 := QF.tr p0 (sq_X11_needCamera eT3)
  obtain ⟨g5, h⟩ := oif_some h
  rcases othr_s h with ⟨k9, r9, e9, -⟩ | ⟨r7, T6, eT6, h⟩
  · exact QF.tr p1 (sq_X11_needCell e9)
  have p2 : QF T T6 := QF.tr p1 (sq_X11_needCell eT6)
  obtain ⟨g8, h⟩ := oif_some h
  rcases othr_s h with ⟨k9, r9, e9, -⟩ | ⟨r10, T9, eT9, h⟩
  · exact QF.tr p2 (sq_X11_needCell e9)
  have p3 : QF T T9 := QF.tr p2 (sq_X11_needCell eT9)
  rcases othr_s h with ⟨k9, r9, e9, -⟩ | ⟨r12, T11, eT11, h⟩
  · exact QF.tr p3 (sq_X11_needRange e9)
  have p4 : QF T T11 := QF.tr p3 (sq_X11_needRange eT11)
  obtain ⟨g13, h⟩ := oif_some h
  obtain ⟨r15, T14, eT14, h⟩ := obind2_some h
  have p5 : QF T T14 := QF.tr p4 (sq_X11_confusion eT14)
  rw [← (osome3 h).2.2]
  exact p5
set_option maxHeartbeats 4000000 in
set_option maxRecDepth 100000 in
theorem sq_X11_marksAlias_b63 {r1 : Int32} {T1 : AT} : ∀ (T : AT) (s0 : Int32), g_X11_marksAlias_b63 T s0 = some (r1, T1) → QF T T1 := by
  intro T s0 h
  have p0 := QF.rf T
  unfold g_X11_marksAlias_b63 at h
  obtain ⟨gz, h⟩ := oif_some h
  rw [← (osome2 h).2]
  exact p0
set_option maxHeartbeats 4000000 in
set_option maxRecDepth 100000 in
theorem sq_X11_marksAlias_b62 {r1 : Int32} {T1 : AT} : ∀ (T : AT), g_X11_marksAlias_b62 T = some (r1, T1) → QF T T1 := by
  intro T h
  have p0 := QF.rf T
  unfold g_X11_marksAlias_b62 at h
  exact QF.tr p0 (sq_X11_marksAlias_b63 _ _ h)
set_option maxHeartbeats 4000000 in
set_option maxRecDepth 100000 in
theorem sq_X11_marksAlias {T : AT} {o : Nat} {a0 : Nat} {a1 : Int32} {a2 : Int32} {a3 : Int32} {r1 : Int32} {T1 : AT} (h : g_X11_marksAlias T o a0 a1 a2 a3 = some (r1, T1)) : QF T T1 := by
  have p0 := QF.rf T
  unfold g_X11_marksAlias at h
  obtain ⟨g2, h⟩ := oif_some h
  obtain ⟨n3, en3, h⟩ := obind_some h
  obtain ⟨g4, h⟩ := oif_some h
  obtain ⟨r6, T5, eT5, h⟩ := obind2_some h
  have p1 : QF T T5 := QF.tr p0 (sq_X8_activeMics eT5)
  obtain ⟨g7, h⟩ := oif_some h
  obtain ⟨v8, -, h⟩ := elet_some h
  rcases oif_or h with ⟨c9, h⟩ | ⟨c9, h⟩
  · have h := h
    exact QF.tr p1 (sq_X11_marksAlias_b62 _ h)
  · have h := h
    rcases oif_or h with ⟨c10, h⟩ | ⟨c10, h⟩
    · have h := h
      exact QF.tr p1 (sq_X11_marksAlias_b62 _ h)
    · have h := h
      obtain ⟨g11, h⟩ := oif_some h
      obtain ⟨n12, en12, h⟩ := obind_some h
      obtain ⟨g13, h⟩ := oif_some h
      obtain ⟨n14, en14, h⟩ := obind_some h
      obtain ⟨g15, h⟩ := oif_some h
      obtain ⟨r17, T16, eT16, h⟩ := obind2_some h
      have p2 : QF T T16 := QF.tr p1 (sq_X4_standsOut eT16)
      rcases oif_or h with ⟨c18, h⟩ | ⟨c18, h⟩
      · have h := h
        exact QF.tr p2 (sq_X11_marksAlias_b62 _ h)
      · have h := h
        obtain ⟨g19, h⟩ := oif_some h
        obtain ⟨v20, -, h⟩ := elet_some h
        obtain ⟨g21, h⟩ := oif_some h
        obtain ⟨r23, T22, eT22, h⟩ := obind2_some h
        have p3 : QF T T22 := QF.tr p2 (sq_X11_confusion eT22)
        obtain ⟨v24, -, h⟩ := elet_some h
        obtain ⟨v25, -, h⟩ := elet_some h
        rcases oif_or h with ⟨c26, h⟩ | ⟨c26, h⟩
        · have h := h
          exact QF.tr p3 (sq_X11_marksAlias_b62 _ h)
        · have h := h
          exact QF.tr p3 (sq_X11_marksAlias_b63 _ _ h)
set_option maxHeartbeats 4000000 in
set_option maxRecDepth 100000 in
theorem sq_X11_isAlias_b28 {e1 : Nat} {r1 : Int32} {T1 : AT} : ∀ (T : AT) (s0 : Nat) (s1 : Nat) (l1 : Int32) (l2 : Int32) (l3 : Int32), g_X11_isAlias_b28 T s0 s1 l1 l2 l3 = some (e1, r1, T1) → QF T T1 := by
  intro T s0 s1 l1 l2 l3 h
  have p0 := QF.rf T
  unfold g_X11_isAlias_b28 at h
  obtain ⟨g2, h⟩ := oif_some h
  obtain ⟨r4, T3, eT3, h⟩ := obind2_some h
  have p1 : QF T T3 := QF.tr p0 ((sq_X11_marksAlias eT3))
  obtain ⟨gz, h⟩ := oif_some h
  rw [← (osome3 h).2.2]
  exact p1
set_option maxHeartbeats 4000000 in
set_option maxRecDepth 100000 in
theorem sq_X11_isAlias {T : AT} {o : Nat} {a0 : Int32} {a1 : Int32} {a2 : Int32} {e1 : Nat} {r1 : Int32} {T1 : AT} (h : g_X11_isAlias T o a0 a1 a2 = some (e1, r1, T1)) : QF T T1 := by
  have p0 := QF.rf T
  unfold g_X11_isAlias at h
  obtain ⟨g2, h⟩ := oif_some h
  rcases othr_s h with ⟨k9, r9, e9, -⟩ | ⟨r4, T3, eT3, h⟩
  · exact QF.tr p0 ((sq_X11_needCamera e9))
  have p1 : QF T T3 := QF.tr p0 ((sq_X11_needCamera eT3))
  obtain ⟨g5, h⟩ := oif_some h
  rcases othr_s h with ⟨k9, r9, e9, -⟩ | ⟨r7, T6, eT6, h⟩
  · exact QF.tr p1 ((sq_X11_needCell e9))
  have p2 : QF T T6 := QF.tr p1 ((sq_X11_needCell eT6))
  rcases othr_s h with ⟨k9, r9, e9, -⟩ | ⟨r9, T8, eT8, h⟩
  · exact QF.tr p2 ((sq_X11_needRange e9))
  have p3 : QF T T8 := QF.tr p2 ((sq_X11_needRange eT8))
  rcases othr_s h with ⟨k9, r9, e9, -⟩ | ⟨r11, T10, eT10, h⟩
  · exact QF.tr p3 ((sq_X11_needRange e9))
  have p4 : QF T T10 := QF.tr p3 ((sq_X11_needRange eT10))
  obtain ⟨g12, h⟩ := oif_some h
  obtain ⟨r14, T13, eT13, h⟩ := obind2_some h
  obtain ⟨g15, h⟩ := oif_some h
  have p5 : QF T T13 := QF.tr p4 (sq_X11_powersNow eT13)
  exact QF.tr p5 (sq_X11_isAlias_b28 _ _ _ _ _ _ h)
set_option maxHeartbeats 4000000 in
set_option maxRecDepth 100000 in
theorem sq_X11_aliases_b59 {e1 : Nat} {r1 : Int32} {T1 : AT} {k29 : AT → Nat → Int32 → Int32 → Nat → Int32 → Int32 → Option (Nat × Int32 × AT)} (hk29 : ∀ (T : AT) (l0 : Nat) (l1 : Int32) (l2 : Int32) (l3 : Nat) (l4 : Int32) (l5 : Int32), k29 T l0 l1 l2 l3 l4 l5 = some (e1, r1, T1) → QF T T1) : ∀ (T : AT) (l0 : Nat) (l1 : Int32) (l2 : Int32) (l3 : Nat) (l4 : Int32) (l5 : Int32), g_X11_aliases_b59 k29 T l0 l1 l2 l3 l4 l5 = some (e1, r1, T1) → QF T T1 := by
  intro T l0 l1 l2 l3 l4 l5 h
  have p0 := QF.rf T
  unfold g_X11_aliases_b59 at h
  obtain ⟨v2, ev2, h⟩ := elet_some h
  exact QF.tr p0 (hk29 _ _ _ _ _ _ _ h)
set_option maxHeartbeats 4000000 in
set_option maxRecDepth 100000 in
theorem sq_X11_aliases_b29 {e1 : Nat} {r1 : Int32} {T1 : AT} : ∀ n : Nat, ∀ (T : AT) (l0 : Nat) (l1 : Int32) (l2 : Int32) (l3 : Nat) (l4 : Int32) (l5 : Int32), g_X11_aliases_b29 n T l0 l1 l2 l3 l4 l5 = some (e1, r1, T1) → QF T T1 := by
  intro n
  induction n with
  | zero =>
    intro T l0 l1 l2 l3 l4 l5 h
    have h : (none : Option (Nat × Int32 × AT)) = some (e1, r1, T1) := h
    cases h
  | succ n ih =>
    intro T l0 l1 l2 l3 l4 l5 h
    have p0 := QF.rf T
    unfold g_X11_aliases_b29 at h
    obtain ⟨g2, h⟩ := oif_some h
    obtain ⟨n3, en3, h⟩ := obind_some h
    obtain ⟨g4, h⟩ := oif_some h
    obtain ⟨n5, en5, h⟩ := obind_some h
    obtain ⟨g6, h⟩ := oif_some h
    obtain ⟨r8, T7, eT7, h⟩ := obind2_some h
    have p1 : QF T T7 := QF.tr p0 ((sq_X1_cells eT7))
    rcases oif_or h with ⟨c9, h⟩ | ⟨c9, h⟩
    · have h := h
      rw [← (osome3 h).2.2]
      exact p1
    · have h := h
      obtain ⟨g10, h⟩ := oif_some h
      obtain ⟨r12, T11, eT11, h⟩ := obind2_some h
      have p2 : QF T T11 := QF.tr p1 ((sq_X11_marksAlias eT11))
      rcases oif_or h with ⟨c13, h⟩ | ⟨c13, h⟩
      · have h := h
        exact QF.tr p2 (sq_X11_aliases_b59 ih _ _ _ _ _ _ _ h)
      · have h := h
        obtain ⟨v14, ev14, h⟩ := elet_some h
        exact QF.tr p2 (sq_X11_aliases_b59 ih _ _ _ _ _ _ _ h)
set_option maxHeartbeats 4000000 in
set_option maxRecDepth 100000 in
theorem sq_X11_aliases_b22 {e1 : Nat} {r1 : Int32} {T1 : AT} : ∀ (T : AT) (s0 : Nat) (l0 : Nat) (l1 : Int32) (l2 : Int32), g_X11_aliases_b22 T s0 l0 l1 l2 = some (e1, r1, T1) → QF T T1 := by
  intro T s0 l0 l1 l2 h
  have p0 := QF.rf T
  unfold g_X11_aliases_b22 at h
  exact QF.tr p0 (sq_X11_aliases_b29 _ _ _ _ _ _ _ _ h)
set_option maxHeartbeats 4000000 in
set_option maxRecDepth 100000 in
theorem sq_X11_aliases {T : AT} {o : Nat} {a0 : Int32} {a1 : Int32} {e1 : Nat} {r1 : Int32} {T1 : AT} (h : g_X11_aliases T o a0 a1 = some (e1, r1, T1)) : QF T T1 := by
  have p0 := QF.rf T
  unfold g_X11_aliases at h
  obtain ⟨g2, h⟩ := oif_some h
  rcases othr_s h with ⟨k9, r9, e9, -⟩ | ⟨r4, T3, eT3, h⟩
  · exact QF.tr p0 ((sq_X11_needCamera e9))
  have p1 : QF T T3 := QF.tr p0 ((sq_X11_needCamera eT3))
  rcases othr_s h with ⟨k9, r9, e9, -⟩ | ⟨r6, T5, eT5, h⟩
  · exact QF.tr p1 ((sq_X11_needRange e9))
  have p2 : QF T T5 := QF.tr p1 ((sq_X11_needRange eT5))
  rcases othr_s h with ⟨k9, r9, e9, -⟩ | ⟨r8, T7, eT7, h⟩
  · exact QF.tr p2 ((sq_X11_needRange e9))
  have p3 : QF T T7 := QF.tr p2 ((sq_X11_needRange eT7))
  obtain ⟨g9, h⟩ := oif_some h
  obtain ⟨r11, T10, eT10, h⟩ := obind2_some h
  obtain ⟨g12, h⟩ := oif_some h
  have p4 : QF T T10 := QF.tr p3 (sq_X11_powersNow eT10)
  exact QF.tr p4 (sq_X11_aliases_b22 _ _ _ _ _ h)
set_option maxHeartbeats 4000000 in
set_option maxRecDepth 100000 in
theorem sq_X11_blockPower_b58 {e1 : Nat} {r1 : Int64} {T1 : AT} : ∀ (T : AT) (l0 : Nat), g_X11_blockPower_b58 T l0 = some (e1, r1, T1) → QF T T1 := by
  intro T l0 h
  have p0 := QF.rf T
  unfold g_X11_blockPower_b58 at h
  obtain ⟨g2, h⟩ := oif_some h
  obtain ⟨n3, en3, h⟩ := obind_some h
  obtain ⟨g4, h⟩ := oif_some h
  obtain ⟨r6, T5, eT5, h⟩ := obind2_some h
  have p1 : QF T T5 := QF.tr p0 ((sq_X10_value eT5))
  rw [← (osome3 h).2.2]
  exact p1
set_option maxHeartbeats 4000000 in
set_option maxRecDepth 100000 in
theorem sq_X11_blockPower {T : AT} {o : Nat} {a0 : Int32} {a1 : Int32} {a2 : Int32} {e1 : Nat} {r1 : Int64} {T1 : AT} (h : g_X11_blockPower T o a0 a1 a2 = some (e1, r1, T1)) : QF T T1 := by
  have p0 := QF.rf T
  unfold g_X11_blockPower at h
  obtain ⟨g2, h⟩ := oif_some h
  rcases othr_s h with ⟨k9, r9, e9, -⟩ | ⟨r4, T3, eT3, h⟩
  · exact QF.tr p0 ((sq_X11_needCamera e9))
  have p1 : QF T T3 := QF.tr p0 ((sq_X11_needCamera eT3))
  obtain ⟨g5, h⟩ := oif_some h
  rcases othr_s h with ⟨k9, r9, e9, -⟩ | ⟨r7, T6, eT6, h⟩
  · exact QF.tr p1 ((sq_X11_needCell e9))
  have p2 : QF T T6 := QF.tr p1 ((sq_X11_needCell eT6))
  obtain ⟨g8, h⟩ := oif_some h
  obtain ⟨n9, en9, h⟩ := obind_some h
  obtain ⟨g10, h⟩ := oif_some h
  obtain ⟨v11, -, h⟩ := elet_some h
  obtain ⟨v12, -, h⟩ := elet_some h
  rcases othr_s h with ⟨k9, r9, e9, -⟩ | ⟨r14, T13, eT13, h⟩
  · exact QF.tr p2 ((sq_X11_needRange e9))
  have p3 : QF T T13 := QF.tr p2 ((sq_X11_needRange eT13))
  obtain ⟨g15, h⟩ := oif_some h
  obtain ⟨n16, en16, h⟩ := obind_some h
  obtain ⟨g17, h⟩ := oif_some h
  obtain ⟨v18, -, h⟩ := elet_some h
  rcases othr_s h with ⟨k9, r9, e9, -⟩ | ⟨r20, T19, eT19, h⟩
  · exact QF.tr p3 ((sq_X11_needRange e9))
  have p4 : QF T T19 := QF.tr p3 ((sq_X11_needRange eT19))
  obtain ⟨g21, h⟩ := oif_some h
  obtain ⟨n22, en22, h⟩ := obind_some h
  obtain ⟨g23, h⟩ := oif_some h
  obtain ⟨n24, en24, h⟩ := obind_some h
  obtain ⟨g25, h⟩ := oif_some h
  obtain ⟨n26, en26, h⟩ := obind_some h
  obtain ⟨g27, h⟩ := oif_some h
  obtain ⟨g28, h⟩ := oif_some h
  obtain ⟨n29, en29, h⟩ := obind_some h
  obtain ⟨g30, h⟩ := oif_some h
  obtain ⟨n31, en31, h⟩ := obind_some h
  obtain ⟨g32, h⟩ := oif_some h
  obtain ⟨T33, eT33, h⟩ := obind_some h
  have p5 : QF T T33 := QF.tr p4 (sq_X8_blockPowerOf eT33)
  exact QF.tr p5 (sq_X11_blockPower_b58 _ _ h)
set_option maxHeartbeats 4000000 in
set_option maxRecDepth 100000 in
theorem sq_X11_blockBest_b47 {e1 : Nat} {r1 : Int32} {T1 : AT} : ∀ (T : AT) (s0 : Int32), g_X11_blockBest_b47 T s0 = some (e1, r1, T1) → QF T T1 := by
  intro T s0 h
  have p0 := QF.rf T
  unfold g_X11_blockBest_b47 at h
  rw [← (osome3 h).2.2]
  exact p0
set_option maxHeartbeats 4000000 in
set_option maxRecDepth 100000 in
theorem sq_X11_blockBest {T : AT} {o : Nat} {a0 : Int32} {a1 : Int32} {e1 : Nat} {r1 : Int32} {T1 : AT} (h : g_X11_blockBest T o a0 a1 = some (e1, r1, T1)) : QF T T1 := by
  have p0 := QF.rf T
  unfold g_X11_blockBest at h
  obtain ⟨g2, h⟩ := oif_some h
  rcases othr_s h with ⟨k9, r9, e9, -⟩ | ⟨r4, T3, eT3, h⟩
  · exact QF.tr p0 ((sq_X11_needCamera e9))
  have p1 : QF T T3 := QF.tr p0 ((sq_X11_needCamera eT3))
  obtain ⟨g5, h⟩ := oif_some h
  obtain ⟨n6, en6, h⟩ := obind_some h
  obtain ⟨g7, h⟩ := oif_some h
  obtain ⟨v8, -, h⟩ := elet_some h
  obtain ⟨v9, -, h⟩ := elet_some h
  rcases othr_s h with ⟨k9, r9, e9, -⟩ | ⟨r11, T10, eT10, h⟩
  · exact QF.tr p1 ((sq_X11_needRange e9))
  have p2 : QF T T10 := QF.tr p1 ((sq_X11_needRange eT10))
  obtain ⟨g12, h⟩ := oif_some h
  obtain ⟨n13, en13, h⟩ := obind_some h
  obtain ⟨g14, h⟩ := oif_some h
  obtain ⟨v15, -, h⟩ := elet_some h
  rcases othr_s h with ⟨k9, r9, e9, -⟩ | ⟨r17, T16, eT16, h⟩
  · exact QF.tr p2 ((sq_X11_needRange e9))
  have p3 : QF T T16 := QF.tr p2 ((sq_X11_needRange eT16))
  obtain ⟨g18, h⟩ := oif_some h
  obtain ⟨n19, en19, h⟩ := obind_some h
  obtain ⟨g20, h⟩ := oif_some h
  obtain ⟨n21, en21, h⟩ := obind_some h
  obtain ⟨g22, h⟩ := oif_some h
  obtain ⟨n23, en23, h⟩ := obind_some h
  obtain ⟨g24, h⟩ := oif_some h
  obtain ⟨r26, T25, eT25, h⟩ := obind2_some h
  have p4 : QF T T25 := QF.tr p3 (sq_X0_bestOf eT25)
  exact QF.tr p4 (sq_X11_blockBest_b47 _ _ h)
set_option maxHeartbeats 4000000 in
set_option maxRecDepth 100000 in
theorem sq_X11_path_b85 {e1 : Nat} {r1 : Int32} {T1 : AT} {k39 : AT → Nat → Int32 → Int32 → Int32 → Int32 → Option (Nat × Int32 × AT)} (hk39 : ∀ (T : AT) (l0 : Nat) (l1 : Int32) (l2 : Int32) (l3 : Int32) (l4 : Int32), k39 T l0 l1 l2 l3 l4 = some (e1, r1, T1) → QF T T1) : ∀ (T : AT) (s0 : Int32) (s1 : Int32) (l0 : Nat) (l1 : Int32) (l4 : Int32) (l5 : Int32), g_X11_path_b85 k39 T s0 s1 l0 l1 l4 l5 = some (e1, r1, T1) → QF T T1 := by
  intro T s0 s1 l0 l1 l4 l5 h
  have p0 := QF.rf T
  unfold g_X11_path_b85 at h
  obtain ⟨v2, -, h⟩ := elet_some h
  obtain ⟨v3, -, h⟩ := elet_some h
  obtain ⟨v4, -, h⟩ := elet_some h
  exact QF.tr p0 (hk39 _ _ _ _ _ _ h)
set_option maxHeartbeats 4000000 in
set_option maxRecDepth 100000 in
theorem sq_X11_path_b71 {e1 : Nat} {r1 : Int32} {T1 : AT} {k39 : AT → Nat → Int32 → Int32 → Int32 → Int32 → Option (Nat × Int32 × AT)} (hk39 : ∀ (T : AT) (l0 : Nat) (l1 : Int32) (l2 : Int32) (l3 : Int32) (l4 : Int32), k39 T l0 l1 l2 l3 l4 = some (e1, r1, T1) → QF T T1) : ∀ (T : AT) (s0 : Int32) (l0 : Nat) (l1 : Int32) (l2 : Int32) (l3 : Int32) (l4 : Int32), g_X11_path_b71 k39 T s0 l0 l1 l2 l3 l4 = some (e1, r1, T1) → QF T T1 := by
  intro T s0 l0 l1 l2 l3 l4 h
  have p0 := QF.rf T
  unfold g_X11_path_b71 at h
  rcases oif_or h with ⟨c2, h⟩ | ⟨c2, h⟩
  · have h := h
    exact QF.tr p0 (sq_X11_path_b85 hk39 _ _ _ _ _ _ _ h)
  · have h := h
    exact QF.tr p0 (sq_X11_path_b85 hk39 _ _ _ _ _ _ _ h)
set_option maxHeartbeats 4000000 in
set_option maxRecDepth 100000 in
theorem sq_X11_path_b39 {e1 : Nat} {r1 : Int32} {T1 : AT} : ∀ n : Nat, ∀ (T : AT) (l0 : Nat) (l1 : Int32) (l2 : Int32) (l3 : Int32) (l4 : Int32), g_X11_path_b39 n T l0 l1 l2 l3 l4 = some (e1, r1, T1) → QF T T1 := by
  intro n
  induction n with
  | zero =>
    intro T l0 l1 l2 l3 l4 h
    have h : (none : Option (Nat × Int32 × AT)) = some (e1, r1, T1) := h
    cases h
  | succ n ih =>
    intro T l0 l1 l2 l3 l4 h
    have p0 := QF.rf T
    unfold g_X11_path_b39 at h
    obtain ⟨v2, -, h⟩ := elet_some h
    obtain ⟨g3, h⟩ := oif_some h
    obtain ⟨n4, en4, h⟩ := obind_some h
    obtain ⟨g5, h⟩ := oif_some h
    obtain ⟨v6, -, h⟩ := elet_some h
    rcases oif_or h with ⟨c7, h⟩ | ⟨c7, h⟩
    · have h := h
      rw [← (osome3 h).2.2]
      exact p0
    · have h := h
      obtain ⟨g8, h⟩ := oif_some h
      obtain ⟨n9, en9, h⟩ := obind_some h
      obtain ⟨g10, h⟩ := oif_some h
      obtain ⟨n11, en11, h⟩ := obind_some h
      obtain ⟨g12, h⟩ := oif_some h
      obtain ⟨n13, en13, h⟩ := obind_some h
      obtain ⟨g14, h⟩ := oif_some h
      obtain ⟨r16, T15, eT15, h⟩ := obind2_some h
      have p1 : QF T T15 := QF.tr p0 (sq_X0_bestOf eT15)
      exact QF.tr p1 (sq_X11_path_b71 ih _ _ _ _ _ _ _ h)
set_option maxHeartbeats 4000000 in
set_option maxRecDepth 100000 in
theorem sq_X11_path_b35 {e1 : Nat} {r1 : Int32} {T1 : AT} : ∀ (T : AT) (s0 : Int32) (l0 : Nat) (l1 : Int32) (l2 : Int32), g_X11_path_b35 T s0 l0 l1 l2 = some (e1, r1, T1) → QF T T1 := by
  intro T s0 l0 l1 l2 h
  have p0 := QF.rf T
  unfold g_X11_path_b35 at h
  exact QF.tr p0 (sq_X11_path_b39 _ _ _ _ _ _ _ h)
set_option maxHeartbeats 4000000 in
set_option maxRecDepth 100000 in
theorem sq_X11_path {T : AT} {o : Nat} {a0 : Int32} {e1 : Nat} {r1 : Int32} {T1 : AT} (h : g_X11_path T o a0 = some (e1, r1, T1)) : QF T T1 := by
  have p0 := QF.rf T
  unfold g_X11_path at h
  obtain ⟨g2, h⟩ := oif_some h
  rcases othr_s h with ⟨k9, r9, e9, -⟩ | ⟨r4, T3, eT3, h⟩
  · exact QF.tr p0 ((sq_X11_needCamera e9))
  have p1 : QF T T3 := QF.tr p0 ((sq_X11_needCamera eT3))
  obtain ⟨g5, h⟩ := oif_some h
  obtain ⟨n6, en6, h⟩ := obind_some h
  obtain ⟨g7, h⟩ := oif_some h
  obtain ⟨v8, -, h⟩ := elet_some h
  rcases othr_s h with ⟨k9, r9, e9, -⟩ | ⟨r10, T9, eT9, h⟩
  · exact QF.tr p1 ((sq_X11_needRange e9))
  have p2 : QF T T9 := QF.tr p1 ((sq_X11_needRange eT9))
  obtain ⟨g11, h⟩ := oif_some h
  obtain ⟨n12, en12, h⟩ := obind_some h
  obtain ⟨g13, h⟩ := oif_some h
  obtain ⟨n14, en14, h⟩ := obind_some h
  obtain ⟨g15, h⟩ := oif_some h
  obtain ⟨n16, en16, h⟩ := obind_some h
  obtain ⟨g17, h⟩ := oif_some h
  obtain ⟨r19, T18, eT18, h⟩ := obind2_some h
  have p3 : QF T T18 := QF.tr p2 (sq_X0_bestOf eT18)
  exact QF.tr p3 (sq_X11_path_b35 _ _ _ _ _ h)
set_option maxHeartbeats 4000000 in
set_option maxRecDepth 100000 in
theorem sq_X11_trackScore_b32 {e1 : Nat} {r1 : Int64} {T1 : AT} : ∀ (T : AT) (l0 : Nat), g_X11_trackScore_b32 T l0 = some (e1, r1, T1) → QF T T1 := by
  intro T l0 h
  have p0 := QF.rf T
  unfold g_X11_trackScore_b32 at h
  obtain ⟨g2, h⟩ := oif_some h
  obtain ⟨n3, en3, h⟩ := obind_some h
  obtain ⟨g4, h⟩ := oif_some h
  obtain ⟨n5, en5, h⟩ := obind_some h
  obtain ⟨g6, h⟩ := oif_some h
  obtain ⟨n7, en7, h⟩ := obind_some h
  obtain ⟨g8, h⟩ := oif_some h
  obtain ⟨n9, en9, h⟩ := obind_some h
  obtain ⟨g10, h⟩ := oif_some h
  obtain ⟨n11, en11, h⟩ := obind_some h
  obtain ⟨g12, h⟩ := oif_some h
  obtain ⟨r14, T13, eT13, h⟩ := obind2_some h
  have p1 : QF T T13 := QF.tr p0 ((sq_X0_trackCellIn eT13))
  obtain ⟨g15, h⟩ := oif_some h
  obtain ⟨r17, T16, eT16, h⟩ := obind2_some h
  have p2 : QF T T16 := QF.tr p1 ((sq_X10_value eT16))
  rw [← (osome3 h).2.2]
  exact p2
set_option maxHeartbeats 4000000 in
set_option maxRecDepth 100000 in
theorem sq_X11_trackScore {T : AT} {o : Nat} {a0 : Int32} {e1 : Nat} {r1 : Int64} {T1 : AT} (h : g_X11_trackScore T o a0 = some (e1, r1, T1)) : QF T T1 := by
  have p0 := QF.rf T
  unfold g_X11_trackScore at h
  obtain ⟨g2, h⟩ := oif_some h
  rcases othr_s h with ⟨k9, r9, e9, -⟩ | ⟨r4, T3, eT3, h⟩
  · exact QF.tr p0 ((sq_X11_needCamera e9))
  have p1 : QF T T3 := QF.tr p0 ((sq_X11_needCamera eT3))
  obtain ⟨g5, h⟩ := oif_some h
  obtain ⟨n6, en6, h⟩ := obind_some h
  obtain ⟨g7, h⟩ := oif_some h
  obtain ⟨v8, -, h⟩ := elet_some h
  rcases othr_s h with ⟨k9, r9, e9, -⟩ | ⟨r10, T9, eT9, h⟩
  · exact QF.tr p1 ((sq_X11_needRange e9))
  have p2 : QF T T9 := QF.tr p1 ((sq_X11_needRange eT9))
  obtain ⟨g11, h⟩ := oif_some h
  obtain ⟨n12, en12, h⟩ := obind_some h
  obtain ⟨g13, h⟩ := oif_some h
  obtain ⟨n14, en14, h⟩ := obind_some h
  obtain ⟨g15, h⟩ := oif_some h
  obtain ⟨n16, en16, h⟩ := obind_some h
  obtain ⟨g17, h⟩ := oif_some h
  obtain ⟨T18, eT18, h⟩ := obind_some h
  have p3 : QF T T18 := QF.tr p2 (sq_X0_score eT18)
  exact QF.tr p3 (sq_X11_trackScore_b32 _ _ h)
set_option maxHeartbeats 4000000 in
set_option maxRecDepth 100000 in
theorem sq_X11_trackCell_b76 {e1 : Nat} {r1 : Int32} {T1 : AT} : ∀ (T : AT) (l0 : Nat) (l2 : Int32), g_X11_trackCell_b76 T l0 l2 = some (e1, r1, T1) → QF T T1 := by
  intro T l0 l2 h
  have p0 := QF.rf T
  unfold g_X11_trackCell_b76 at h
  obtain ⟨g2, h⟩ := oif_some h
  obtain ⟨n3, en3, h⟩ := obind_some h
  obtain ⟨g4, h⟩ := oif_some h
  obtain ⟨n5, en5, h⟩ := obind_some h
  obtain ⟨g6, h⟩ := oif_some h
  obtain ⟨n7, en7, h⟩ := obind_some h
  obtain ⟨g8, h⟩ := oif_some h
  obtain ⟨r10, T9, eT9, h⟩ := obind2_some h
  have p1 : QF T T9 := QF.tr p0 ((sq_X0_trackCellIn eT9))
  rw [← (osome3 h).2.2]
  exact p1
set_option maxHeartbeats 4000000 in
set_option maxRecDepth 100000 in
theorem sq_X11_trackCell_b48 {e1 : Nat} {r1 : Int32} {T1 : AT} : ∀ (T : AT) (l0 : Nat) (l1 : Int32) (l2 : Int32), g_X11_trackCell_b48 T l0 l1 l2 = some (e1, r1, T1) → QF T T1 := by
  intro T l0 l1 l2 h
  have p0 := QF.rf T
  unfold g_X11_trackCell_b48 at h
  obtain ⟨g2, h⟩ := oif_some h
  obtain ⟨n3, en3, h⟩ := obind_some h
  obtain ⟨g4, h⟩ := oif_some h
  obtain ⟨v5, -, h⟩ := elet_some h
  rcases othr_s h with ⟨k9, r9, e9, -⟩ | ⟨r7, T6, eT6, h⟩
  · exact QF.tr p0 ((sq_X11_needRange e9))
  have p1 : QF T T6 := QF.tr p0 ((sq_X11_needRange eT6))
  obtain ⟨g8, h⟩ := oif_some h
  obtain ⟨n9, en9, h⟩ := obind_some h
  obtain ⟨g10, h⟩ := oif_some h
  obtain ⟨n11, en11, h⟩ := obind_some h
  obtain ⟨g12, h⟩ := oif_some h
  obtain ⟨n13, en13, h⟩ := obind_some h
  obtain ⟨g14, h⟩ := oif_some h
  obtain ⟨T15, eT15, h⟩ := obind_some h
  have p2 : QF T T15 := QF.tr p1 (sq_X0_score eT15)
  exact QF.tr p2 (sq_X11_trackCell_b76 _ _ _ h)
set_option maxHeartbeats 4000000 in
set_option maxRecDepth 100000 in
theorem sq_X11_trackCell_b25 {e1 : Nat} {r1 : Int32} {T1 : AT} : ∀ (T : AT) (s0 : Int32) (l0 : Nat) (l1 : Int32) (l2 : Int32), g_X11_trackCell_b25 T s0 l0 l1 l2 = some (e1, r1, T1) → QF T T1 := by
  intro T s0 l0 l1 l2 h
  have p0 := QF.rf T
  unfold g_X11_trackCell_b25 at h
  rcases oif_or h with ⟨c2, h⟩ | ⟨c2, h⟩
  · have h := h
    exact QF.tr p0 (sq_X11_trackCell_b48 _ _ _ _ h)
  · have h := h
    obtain ⟨g3, h⟩ := oif_some h
    obtain ⟨n4, en4, h⟩ := obind_some h
    obtain ⟨g5, h⟩ := oif_some h
    obtain ⟨v6, -, h⟩ := elet_some h
    obtain ⟨v7, -, h⟩ := elet_some h
    obtain ⟨v8, -, h⟩ := elet_some h
    obtain ⟨r9, -, h⟩ := obind_some h
    obtain ⟨v10, -, h⟩ := elet_some h
    rcases othr_s h with ⟨k9, r9, e9, -⟩ | ⟨r12, T11, eT11, h⟩
    · exact QF.tr p0 ((sq_X11_needIndex e9))
    have p1 : QF T T11 := QF.tr p0 ((sq_X11_needIndex eT11))
    exact QF.tr p1 (sq_X11_trackCell_b48 _ _ _ _ h)
set_option maxHeartbeats 4000000 in
set_option maxRecDepth 100000 in
theorem sq_X11_trackCell_b24 {e1 : Nat} {r1 : Int32} {T1 : AT} : ∀ (T : AT) (l0 : Nat) (l1 : Int32) (l2 : Int32), g_X11_trackCell_b24 T l0 l1 l2 = some (e1, r1, T1) → QF T T1 := by
  intro T l0 l1 l2 h
  have p0 := QF.rf T
  unfold g_X11_trackCell_b24 at h
  exact QF.tr p0 (sq_X11_trackCell_b25 _ _ _ _ _ h)
set_option maxHeartbeats 4000000 in
set_option maxRecDepth 100000 in
theorem sq_X11_trackCell {T : AT} {o : Nat} {a0 : Int32} {a1 : Int32} {e1 : Nat} {r1 : Int32} {T1 : AT} (h : g_X11_trackCell T o a0 a1 = some (e1, r1, T1)) : QF T T1 := by
  have p0 := QF.rf T
  unfold g_X11_trackCell at h
  obtain ⟨g2, h⟩ := oif_some h
  rcases othr_s h with ⟨k9, r9, e9, -⟩ | ⟨r4, T3, eT3, h⟩
  · exact QF.tr p0 ((sq_X11_needCamera e9))
  have p1 : QF T T3 := QF.tr p0 ((sq_X11_needCamera eT3))
  rcases oif_or h with ⟨c5, h⟩ | ⟨c5, h⟩
  · have h := h
    exact QF.tr p1 (sq_X11_trackCell_b24 _ _ _ _ h)
  · have h := h
    obtain ⟨g6, h⟩ := oif_some h
    obtain ⟨n7, en7, h⟩ := obind_some h
    obtain ⟨g8, h⟩ := oif_some h
    obtain ⟨v9, -, h⟩ := elet_some h
    rcases oif_or h with ⟨c10, h⟩ | ⟨c10, h⟩
    · have h := h
      exact QF.tr p1 (sq_X11_trackCell_b24 _ _ _ _ h)
    · have h := h
      exact QF.tr p1 (sq_X11_trackCell_b25 _ _ _ _ _ h)
set_option maxHeartbeats 4000000 in
set_option maxRecDepth 100000 in
theorem sq_X11_powerOnTheMove_b137 {T1 : AT} : ∀ (T : AT), g_X11_powerOnTheMove_b137 T = some T1 → QF T T1 := by
  intro T h
  have p0 := QF.rf T
  unfold g_X11_powerOnTheMove_b137 at h
  rw [← osome1 h]
  exact p0
set_option maxHeartbeats 4000000 in
set_option maxRecDepth 100000 in
theorem sq_X11_powerOnTheMove_b115 {T1 : AT} {k38 : AT → Nat → Int32 → Int32 → Int32 → Int32 → Int32 → Int32 → Option (AT)} (hk38 : ∀ (T : AT) (l0 : Nat) (l2 : Int32) (l3 : Int32) (l4 : Int32) (l5 : Int32) (l6 : Int32) (l7 : Int32), k38 T l0 l2 l3 l4 l5 l6 l7 = some T1 → QF T T1) : ∀ (T : AT) (l0 : Nat) (l2 : Int32) (l3 : Int32) (l4 : Int32) (l5 : Int32) (l6 : Int32) (l7 : Int32), g_X11_powerOnTheMove_b115 k38 T l0 l2 l3 l4 l5 l6 l7 = some T1 → QF T T1 := by
  intro T l0 l2 l3 l4 l5 l6 l7 h
  have p0 := QF.rf T
  unfold g_X11_powerOnTheMove_b115 at h
  obtain ⟨v2, ev2, h⟩ := elet_some h
  exact QF.tr p0 (hk38 _ _ _ _ _ _ _ _ h)
set_option maxHeartbeats 4000000 in
set_option maxRecDepth 100000 in
theorem sq_X11_powerOnTheMove_b90 {T1 : AT} {k38 : AT → Nat → Int32 → Int32 → Int32 → Int32 → Int32 → Int32 → Option (AT)} (hk38 : ∀ (T : AT) (l0 : Nat) (l2 : Int32) (l3 : Int32) (l4 : Int32) (l5 : Int32) (l6 : Int32) (l7 : Int32), k38 T l0 l2 l3 l4 l5 l6 l7 = some T1 → QF T T1) : ∀ (T : AT) (l0 : Nat) (l2 : Int32) (l3 : Int32) (l4 : Int32) (l5 : Int32) (l6 : Int32) (l7 : Int32), g_X11_powerOnTheMove_b90 k38 T l0 l2 l3 l4 l5 l6 l7 = some T1 → QF T T1 := by
  intro T l0 l2 l3 l4 l5 l6 l7 h
  have p0 := QF.rf T
  unfold g_X11_powerOnTheMove_b90 at h
  obtain ⟨g2, h⟩ := oif_some h
  obtain ⟨n3, en3, h⟩ := obind_some h
  obtain ⟨g4, h⟩ := oif_some h
  obtain ⟨n5, en5, h⟩ := obind_some h
  obtain ⟨g6, h⟩ := oif_some h
  obtain ⟨n7, en7, h⟩ := obind_some h
  obtain ⟨g8, h⟩ := oif_some h
  obtain ⟨n9, en9, h⟩ := obind_some h
  obtain ⟨g10, h⟩ := oif_some h
  obtain ⟨n11, en11, h⟩ := obind_some h
  obtain ⟨g12, h⟩ := oif_some h
  obtain ⟨T13, eT13, h⟩ := obind_some h
  have p1 : QF T T13 := QF.tr p0 (sq_X10_addProduct eT13)
  exact QF.tr p1 (sq_X11_powerOnTheMove_b115 hk38 _ _ _ _ _ _ _ _ h)
set_option maxHeartbeats 4000000 in
set_option maxRecDepth 100000 in
theorem sq_X11_powerOnTheMove_b38 {T1 : AT} : ∀ n : Nat, ∀ (T : AT) (l0 : Nat) (l2 : Int32) (l3 : Int32) (l4 : Int32) (l5 : Int32) (l6 : Int32) (l7 : Int32), g_X11_powerOnTheMove_b38 n T l0 l2 l3 l4 l5 l6 l7 = some T1 → QF T T1 := by
  intro n
  induction n with
  | zero =>
    intro T l0 l2 l3 l4 l5 l6 l7 h
    have h : (none : Option (AT)) = some T1 := h
    cases h
  | succ n ih =>
    intro T l0 l2 l3 l4 l5 l6 l7 h
    have p0 := QF.rf T
    unfold g_X11_powerOnTheMove_b38 at h
    obtain ⟨g2, h⟩ := oif_some h
    obtain ⟨n3, en3, h⟩ := obind_some h
    obtain ⟨g4, h⟩ := oif_some h
    obtain ⟨v5, -, h⟩ := elet_some h
    rcases oif_or h with ⟨c6, h⟩ | ⟨c6, h⟩
    · have h := h
      obtain ⟨g7, h⟩ := oif_some h
      obtain ⟨n8, en8, h⟩ := obind_some h
      obtain ⟨g9, h⟩ := oif_some h
      obtain ⟨n10, en10, h⟩ := obind_some h
      obtain ⟨g11, h⟩ := oif_some h
      obtain ⟨v12, -, h⟩ := elet_some h
      obtain ⟨g13, h⟩ := oif_some h
      obtain ⟨T14, eT14, h⟩ := obind_some h
      have p1 : QF T T14 := QF.tr p0 (sq_X10_divide eT14)
      exact QF.tr p1 (sq_X11_powerOnTheMove_b137 _ h)
    · have h := h
      obtain ⟨g16, h⟩ := oif_some h
      obtain ⟨n17, en17, h⟩ := obind_some h
      obtain ⟨r18, -, h⟩ := obind_some h
      obtain ⟨r19, -, h⟩ := obind_some h
      obtain ⟨g20, h⟩ := oif_some h
      obtain ⟨n21, en21, h⟩ := obind_some h
      obtain ⟨g22, h⟩ := oif_some h
      obtain ⟨T23, eT23, h⟩ := obind_some h
      have p1 : QF T T23 := QF.tr p0 ((sq_X6_delaysFrom eT23))
      obtain ⟨g25, h⟩ := oif_some h
      obtain ⟨n26, en26, h⟩ := obind_some h
      obtain ⟨g27, h⟩ := oif_some h
      obtain ⟨n28, en28, h⟩ := obind_some h
      obtain ⟨g29, h⟩ := oif_some h
      obtain ⟨T30, eT30, h⟩ := obind_some h
      have p2 : QF T T30 := QF.tr p1 (sq_X8_focus eT30)
      exact QF.tr p2 (sq_X11_powerOnTheMove_b90 ih _ _ _ _ _ _ _ _ h)
set_option maxHeartbeats 4000000 in
set_option maxRecDepth 100000 in
theorem sq_X11_powerOnTheMove {T : AT} {o : Nat} {a0 : Int32} {a1 : Int32} {a2 : Int32} {a3 : Int32} {T1 : AT} (h : g_X11_powerOnTheMove T o a0 a1 a2 a3 = some T1) : QF T T1 := by
  have p0 := QF.rf T
  unfold g_X11_powerOnTheMove at h
  obtain ⟨g2, h⟩ := oif_some h
  obtain ⟨n3, en3, h⟩ := obind_some h
  obtain ⟨g4, h⟩ := oif_some h
  obtain ⟨n5, en5, h⟩ := obind_some h
  obtain ⟨g6, h⟩ := oif_some h
  obtain ⟨r8, T7, eT7, h⟩ := obind2_some h
  have p1 : QF T T7 := QF.tr p0 ((sq_X1_centreX eT7))
  obtain ⟨g9, h⟩ := oif_some h
  obtain ⟨n10, en10, h⟩ := obind_some h
  obtain ⟨g11, h⟩ := oif_some h
  obtain ⟨n12, en12, h⟩ := obind_some h
  obtain ⟨g13, h⟩ := oif_some h
  obtain ⟨r15, T14, eT14, h⟩ := obind2_some h
  have p2 : QF T T14 := QF.tr p1 ((sq_X1_centreY eT14))
  obtain ⟨g16, h⟩ := oif_some h
  obtain ⟨n17, en17, h⟩ := obind_some h
  obtain ⟨g18, h⟩ := oif_some h
  obtain ⟨T19, eT19, h⟩ := obind_some h
  have p3 : QF T T19 := QF.tr p2 ((sq_X10_clear eT19))
  exact QF.tr p3 (sq_X11_powerOnTheMove_b38 _ _ _ _ _ _ _ _ _ h)
set_option maxHeartbeats 4000000 in
set_option maxRecDepth 100000 in
theorem sq_X11_movingPower_b37 {e1 : Nat} {r1 : Int64} {T1 : AT} : ∀ (T : AT) (l0 : Nat), g_X11_movingPower_b37 T l0 = some (e1, r1, T1) → QF T T1 := by
  intro T l0 h
  have p0 := QF.rf T
  unfold g_X11_movingPower_b37 at h
  obtain ⟨g2, h⟩ := oif_some h
  obtain ⟨n3, en3, h⟩ := obind_some h
  obtain ⟨g4, h⟩ := oif_some h
  obtain ⟨r6, T5, eT5, h⟩ := obind2_some h
  have p1 : QF T T5 := QF.tr p0 ((sq_X10_value eT5))
  rw [← (osome3 h).2.2]
  exact p1
set_option maxHeartbeats 4000000 in
set_option maxRecDepth 100000 in
theorem sq_X11_movingPower {T : AT} {o : Nat} {a0 : Int32} {a1 : Int32} {a2 : Int32} {e1 : Nat} {r1 : Int64} {T1 : AT} (h : g_X11_movingPower T o a0 a1 a2 = some (e1, r1, T1)) : QF T T1 := by
  have p0 := QF.rf T
  unfold g_X11_movingPower at h
  obtain ⟨g2, h⟩ := oif_some h
  rcases othr_s h with ⟨k9, r9, e9, -⟩ | ⟨r4, T3, eT3, h⟩
  · exact QF.tr p0 ((sq_X11_needCamera e9))
  have p1 : QF T T3 := QF.tr p0 ((sq_X11_needCamera eT3))
  obtain ⟨g5, h⟩ := oif_some h
  rcases othr_s h with ⟨k9, r9, e9, -⟩ | ⟨r7, T6, eT6, h⟩
  · exact QF.tr p1 ((sq_X11_needCell e9))
  have p2 : QF T T6 := QF.tr p1 ((sq_X11_needCell eT6))
  rcases othr_s h with ⟨k9, r9, e9, -⟩ | ⟨r9, T8, eT8, h⟩
  · exact QF.tr p2 ((sq_X11_needRange e9))
  have p3 : QF T T8 := QF.tr p2 ((sq_X11_needRange eT8))
  rcases othr_s h with ⟨k9, r9, e9, -⟩ | ⟨r11, T10, eT10, h⟩
  · exact QF.tr p3 ((sq_X11_needRange e9))
  have p4 : QF T T10 := QF.tr p3 ((sq_X11_needRange eT10))
  obtain ⟨g12, h⟩ := oif_some h
  obtain ⟨T13, eT13, h⟩ := obind_some h
  have p5 : QF T T13 := QF.tr p4 (sq_X11_powerOnTheMove eT13)
  exact QF.tr p5 (sq_X11_movingPower_b37 _ _ h)
set_option maxHeartbeats 4000000 in
set_option maxRecDepth 100000 in
theorem sq_X11_bestVelocity_b104 {e1 : Nat} {r1 : Int32} {T1 : AT} {k29 : AT → Nat → Int32 → Int32 → Int32 → Int32 → Int32 → Option (Nat × Int32 × AT)} {k39 : AT → Nat → Int32 → Int32 → Int32 → Int32 → Int32 → Int32 → Option (Nat × Int32 × AT)} (hk29 : ∀ (T : AT) (l0 : Nat) (l1 : Int32) (l2 : Int32) (l3 : Int32) (l4 : Int32) (l5 : Int32), k29 T l0 l1 l2 l3 l4 l5 = some (e1, r1, T1) → QF T T1) (hk39 : ∀ (T : AT) (l0 : Nat) (l1 : Int32) (l2 : Int32) (l3 : Int32) (l4 : Int32) (l5 : Int32) (l6 : Int32), k39 T l0 l1 l2 l3 l4 l5 l6 = some (e1, r1, T1) → QF T T1) : ∀ (T : AT) (l0 : Nat) (l1 : Int32) (l2 : Int32) (l3 : Int32) (l4 : Int32) (l5 : Int32) (l6 : Int32), g_X11_bestVelocity_b104 k29 k39 T l0 l1 l2 l3 l4 l5 l6 = some (e1, r1, T1) → QF T T1 := by
  intro T l0 l1 l2 l3 l4 l5 l6 h
  have p0 := QF.rf T
  unfold g_X11_bestVelocity_b104 at h
  obtain ⟨v2, ev2, h⟩ := elet_some h
  exact QF.tr p0 (hk39 _ _ _ _ _ _ _ _ h)
set_option maxHeartbeats 4000000 in
set_option maxRecDepth 100000 in
theorem sq_X11_bestVelocity_b90 {e1 : Nat} {r1 : Int32} {T1 : AT} {k29 : AT → Nat → Int32 → Int32 → Int32 → Int32 → Int32 → Option (Nat × Int32 × AT)} {k39 : AT → Nat → Int32 → Int32 → Int32 → Int32 → Int32 → Int32 → Option (Nat × Int32 × AT)} (hk29 : ∀ (T : AT) (l0 : Nat) (l1 : Int32) (l2 : Int32) (l3 : Int32) (l4 : Int32) (l5 : Int32), k29 T l0 l1 l2 l3 l4 l5 = some (e1, r1, T1) → QF T T1) (hk39 : ∀ (T : AT) (l0 : Nat) (l1 : Int32) (l2 : Int32) (l3 : Int32) (l4 : Int32) (l5 : Int32) (l6 : Int32), k39 T l0 l1 l2 l3 l4 l5 l6 = some (e1, r1, T1) → QF T T1) : ∀ (T : AT) (l0 : Nat) (l1 : Int32) (l2 : Int32) (l3 : Int32) (l5 : Int32) (l6 : Int32), g_X11_bestVelocity_b90 k29 k39 T l0 l1 l2 l3 l5 l6 = some (e1, r1, T1) → QF T T1 := by
  intro T l0 l1 l2 l3 l5 l6 h
  have p0 := QF.rf T
  unfold g_X11_bestVelocity_b90 at h
  obtain ⟨v2, -, h⟩ := elet_some h
  obtain ⟨v3, -, h⟩ := elet_some h
  obtain ⟨v4, -, h⟩ := elet_some h
  obtain ⟨v5, -, h⟩ := elet_some h
  exact QF.tr p0 (sq_X11_bestVelocity_b104 hk29 hk39 _ _ _ _ _ _ _ _ h)
set_option maxHeartbeats 4000000 in
set_option maxRecDepth 100000 in
theorem sq_X11_bestVelocity_b77 {e1 : Nat} {r1 : Int32} {T1 : AT} {k29 : AT → Nat → Int32 → Int32 → Int32 → Int32 → Int32 → Option (Nat × Int32 × AT)} {k39 : AT → Nat → Int32 → Int32 → Int32 → Int32 → Int32 → Int32 → Option (Nat × Int32 × AT)} (hk29 : ∀ (T : AT) (l0 : Nat) (l1 : Int32) (l2 : Int32) (l3 : Int32) (l4 : Int32) (l5 : Int32), k29 T l0 l1 l2 l3 l4 l5 = some (e1, r1, T1) → QF T T1) (hk39 : ∀ (T : AT) (l0 : Nat) (l1 : Int32) (l2 : Int32) (l3 : Int32) (l4 : Int32) (l5 : Int32) (l6 : Int32), k39 T l0 l1 l2 l3 l4 l5 l6 = some (e1, r1, T1) → QF T T1) : ∀ (T : AT) (l0 : Nat) (l1 : Int32) (l2 : Int32) (l3 : Int32) (l5 : Int32) (l6 : Int32), g_X11_bestVelocity_b77 k29 k39 T l0 l1 l2 l3 l5 l6 = some (e1, r1, T1) → QF T T1 := by
  intro T l0 l1 l2 l3 l5 l6 h
  have p0 := QF.rf T
  unfold g_X11_bestVelocity_b77 at h
  obtain ⟨g2, h⟩ := oif_some h
  obtain ⟨n3, en3, h⟩ := obind_some h
  obtain ⟨g4, h⟩ := oif_some h
  obtain ⟨n5, en5, h⟩ := obind_some h
  obtain ⟨g6, h⟩ := oif_some h
  obtain ⟨T7, eT7, h⟩ := obind_some h
  have p1 : QF T T7 := QF.tr p0 (sq_X10_set eT7)
  exact QF.tr p1 (sq_X11_bestVelocity_b90 hk29 hk39 _ _ _ _ _ _ _ h)
set_option maxHeartbeats 4000000 in
set_option maxRecDepth 100000 in
theorem sq_X11_bestVelocity_b59 {e1 : Nat} {r1 : Int32} {T1 : AT} {k29 : AT → Nat → Int32 → Int32 → Int32 → Int32 → Int32 → Option (Nat × Int32 × AT)} {k39 : AT → Nat → Int32 → Int32 → Int32 → Int32 → Int32 → Int32 → Option (Nat × Int32 × AT)} (hk29 : ∀ (T : AT) (l0 : Nat) (l1 : Int32) (l2 : Int32) (l3 : Int32) (l4 : Int32) (l5 : Int32), k29 T l0 l1 l2 l3 l4 l5 = some (e1, r1, T1) → QF T T1) (hk39 : ∀ (T : AT) (l0 : Nat) (l1 : Int32) (l2 : Int32) (l3 : Int32) (l4 : Int32) (l5 : Int32) (l6 : Int32), k39 T l0 l1 l2 l3 l4 l5 l6 = some (e1, r1, T1) → QF T T1) : ∀ (T : AT) (l0 : Nat) (l1 : Int32) (l2 : Int32) (l3 : Int32) (l4 : Int32) (l5 : Int32) (l6 : Int32), g_X11_bestVelocity_b59 k29 k39 T l0 l1 l2 l3 l4 l5 l6 = some (e1, r1, T1) → QF T T1 := by
  intro T l0 l1 l2 l3 l4 l5 l6 h
  have p0 := QF.rf T
  unfold g_X11_bestVelocity_b59 at h
  rcases oif_or h with ⟨c2, h⟩ | ⟨c2, h⟩
  · have h := h
    exact QF.tr p0 (sq_X11_bestVelocity_b77 hk29 hk39 _ _ _ _ _ _ _ h)
  · have h := h
    obtain ⟨g3, h⟩ := oif_some h
    obtain ⟨n4, en4, h⟩ := obind_some h
    obtain ⟨g5, h⟩ := oif_some h
    obtain ⟨r7, T6, eT6, h⟩ := obind2_some h
    have p1 : QF T T6 := QF.tr p0 ((sq_X10_compare eT6))
    rcases oif_or h with ⟨c8, h⟩ | ⟨c8, h⟩
    · have h := h
      exact QF.tr p1 (sq_X11_bestVelocity_b104 hk29 hk39 _ _ _ _ _ _ _ _ h)
    · have h := h
      exact QF.tr p1 (sq_X11_bestVelocity_b77 hk29 hk39 _ _ _ _ _ _ _ h)
set_option maxHeartbeats 4000000 in
set_option maxRecDepth 100000 in
theorem sq_X11_bestVelocity_b39 {e1 : Nat} {r1 : Int32} {T1 : AT} {k29 : AT → Nat → Int32 → Int32 → Int32 → Int32 → Int32 → Option (Nat × Int32 × AT)} (hk29 : ∀ (T : AT) (l0 : Nat) (l1 : Int32) (l2 : Int32) (l3 : Int32) (l4 : Int32) (l5 : Int32), k29 T l0 l1 l2 l3 l4 l5 = some (e1, r1, T1) → QF T T1) : ∀ n : Nat, ∀ (T : AT) (l0 : Nat) (l1 : Int32) (l2 : Int32) (l3 : Int32) (l4 : Int32) (l5 : Int32) (l6 : Int32), g_X11_bestVelocity_b39 k29 n T l0 l1 l2 l3 l4 l5 l6 = some (e1, r1, T1) → QF T T1 := by
  intro n
  induction n with
  | zero =>
    intro T l0 l1 l2 l3 l4 l5 l6 h
    have h : (none : Option (Nat × Int32 × AT)) = some (e1, r1, T1) := h
    cases h
  | succ n ih =>
    intro T l0 l1 l2 l3 l4 l5 l6 h
    have p0 := QF.rf T
    unfold g_X11_bestVelocity_b39 at h
    rcases oif_or h with ⟨c2, h⟩ | ⟨c2, h⟩
    · have h := h
      obtain ⟨v3, ev3, h⟩ := elet_some h
      exact QF.tr p0 (hk29 _ _ _ _ _ _ _ h)
    · have h := h
      obtain ⟨v4, -, h⟩ := elet_some h
      obtain ⟨v5, -, h⟩ := elet_some h
      obtain ⟨g6, h⟩ := oif_some h
      obtain ⟨T7, eT7, h⟩ := obind_some h
      have p1 : QF T T7 := QF.tr p0 (sq_X11_powerOnTheMove eT7)
      exact QF.tr p1 (sq_X11_bestVelocity_b59 hk29 ih _ _ _ _ _ _ _ _ h)
set_option maxHeartbeats 4000000 in
set_option maxRecDepth 100000 in
theorem sq_X11_bestVelocity_b29 {e1 : Nat} {r1 : Int32} {T1 : AT} : ∀ n : Nat, ∀ (T : AT) (l0 : Nat) (l1 : Int32) (l2 : Int32) (l3 : Int32) (l4 : Int32) (l5 : Int32), g_X11_bestVelocity_b29 n T l0 l1 l2 l3 l4 l5 = some (e1, r1, T1) → QF T T1 := by
  intro n
  induction n with
  | zero =>
    intro T l0 l1 l2 l3 l4 l5 h
    have h : (none : Option (Nat × Int32 × AT)) = some (e1, r1, T1) := h
    cases h
  | succ n ih =>
    intro T l0 l1 l2 l3 l4 l5 h
    have p0 := QF.rf T
    unfold g_X11_bestVelocity_b29 at h
    rcases oif_or h with ⟨c2, h⟩ | ⟨c2, h⟩
    · have h := h
      rw [← (osome3 h).2.2]
      exact p0
    · have h := h
      obtain ⟨v3, -, h⟩ := elet_some h
      exact QF.tr p0 (sq_X11_bestVelocity_b39 ih _ _ _ _ _ _ _ _ _ h)
set_option maxHeartbeats 4000000 in
set_option maxRecDepth 100000 in
theorem sq_X11_bestVelocity {T : AT} {o : Nat} {a0 : Int32} {a1 : Int32} {a2 : Int32} {e1 : Nat} {r1 : Int32} {T1 : AT} (h : g_X11_bestVelocity T o a0 a1 a2 = some (e1, r1, T1)) : QF T T1 := by
  have p0 := QF.rf T
  unfold g_X11_bestVelocity at h
  obtain ⟨g2, h⟩ := oif_some h
  rcases othr_s h with ⟨k9, r9, e9, -⟩ | ⟨r4, T3, eT3, h⟩
  · exact QF.tr p0 ((sq_X11_needCamera e9))
  have p1 : QF T T3 := QF.tr p0 ((sq_X11_needCamera eT3))
  obtain ⟨g5, h⟩ := oif_some h
  rcases othr_s h with ⟨k9, r9, e9, -⟩ | ⟨r7, T6, eT6, h⟩
  · exact QF.tr p1 ((sq_X11_needCell e9))
  have p2 : QF T T6 := QF.tr p1 ((sq_X11_needCell eT6))
  rcases othr_s h with ⟨k9, r9, e9, -⟩ | ⟨r9, T8, eT8, h⟩
  · exact QF.tr p2 ((sq_X11_needRange e9))
  have p3 : QF T T8 := QF.tr p2 ((sq_X11_needRange eT8))
  rcases othr_s h with ⟨k9, r9, e9, -⟩ | ⟨r11, T10, eT10, h⟩
  · exact QF.tr p3 ((sq_X11_needRange e9))
  have p4 : QF T T10 := QF.tr p3 ((sq_X11_needRange eT10))
  obtain ⟨v12, -, h⟩ := elet_some h
  exact QF.tr p4 (sq_X11_bestVelocity_b29 _ _ _ _ _ _ _ _ h)
set_option maxHeartbeats 4000000 in
set_option maxRecDepth 100000 in
theorem sq_X11_correlation_b43 {e1 : Nat} {r1 : Int64} {T1 : AT} : ∀ (T : AT) (l0 : Nat), g_X11_correlation_b43 T l0 = some (e1, r1, T1) → QF T T1 := by
  intro T l0 h
  have p0 := QF.rf T
  unfold g_X11_correlation_b43 at h
  obtain ⟨g2, h⟩ := oif_some h
  obtain ⟨n3, en3, h⟩ := obind_some h
  obtain ⟨g4, h⟩ := oif_some h
  obtain ⟨r6, T5, eT5, h⟩ := obind2_some h
  have p1 : QF T T5 := QF.tr p0 ((sq_X10_value eT5))
  rw [← (osome3 h).2.2]
  exact p1
set_option maxHeartbeats 4000000 in
set_option maxRecDepth 100000 in
theorem sq_X11_correlation {T : AT} {o : Nat} {a0 : Int32} {a1 : Int32} {a2 : Int32} {e1 : Nat} {r1 : Int64} {T1 : AT} (h : g_X11_correlation T o a0 a1 a2 = some (e1, r1, T1)) : QF T T1 := by
  have p0 := QF.rf T
  unfold g_X11_correlation at h
  obtain ⟨g2, h⟩ := oif_some h
  rcases othr_s h with ⟨k9, r9, e9, -⟩ | ⟨r4, T3, eT3, h⟩
  · exact QF.tr p0 ((sq_X11_needCamera e9))
  have p1 : QF T T3 := QF.tr p0 ((sq_X11_needCamera eT3))
  obtain ⟨g5, h⟩ := oif_some h
  rcases othr_s h with ⟨k9, r9, e9, -⟩ | ⟨r7, T6, eT6, h⟩
  · exact QF.tr p1 ((sq_X11_needMic e9))
  have p2 : QF T T6 := QF.tr p1 ((sq_X11_needMic eT6))
  obtain ⟨g8, h⟩ := oif_some h
  rcases othr_s h with ⟨k9, r9, e9, -⟩ | ⟨r10, T9, eT9, h⟩
  · exact QF.tr p2 ((sq_X11_needMic e9))
  have p3 : QF T T9 := QF.tr p2 ((sq_X11_needMic eT9))
  obtain ⟨g11, h⟩ := oif_some h
  obtain ⟨n12, en12, h⟩ := obind_some h
  obtain ⟨g13, h⟩ := oif_some h
  obtain ⟨v14, -, h⟩ := elet_some h
  obtain ⟨v15, -, h⟩ := elet_some h
  rcases othr_s h with ⟨k9, r9, e9, -⟩ | ⟨r17, T16, eT16, h⟩
  · exact QF.tr p3 ((sq_X11_needRange e9))
  have p4 : QF T T16 := QF.tr p3 ((sq_X11_needRange eT16))
  obtain ⟨g18, h⟩ := oif_some h
  obtain ⟨n19, en19, h⟩ := obind_some h
  obtain ⟨g20, h⟩ := oif_some h
  obtain ⟨n21, en21, h⟩ := obind_some h
  obtain ⟨g22, h⟩ := oif_some h
  obtain ⟨T23, eT23, h⟩ := obind_some h
  have p5 : QF T T23 := QF.tr p4 (sq_X8_productSum eT23)
  exact QF.tr p5 (sq_X11_correlation_b43 _ _ h)
set_option maxHeartbeats 4000000 in
set_option maxRecDepth 100000 in
theorem sq_X11_bestLag_b100 {e1 : Nat} {r1 : Int32} {T1 : AT} {k49 : AT → Nat → Int32 → Int32 → Int32 → Int32 → Int32 → Option (Nat × Int32 × AT)} (hk49 : ∀ (T : AT) (l0 : Nat) (l1 : Int32) (l2 : Int32) (l3 : Int32) (l4 : Int32) (l5 : Int32), k49 T l0 l1 l2 l3 l4 l5 = some (e1, r1, T1) → QF T T1) : ∀ (T : AT) (l0 : Nat) (l1 : Int32) (l2 : Int32) (l3 : Int32) (l4 : Int32) (l5 : Int32), g_X11_bestLag_b100 k49 T l0 l1 l2 l3 l4 l5 = some (e1, r1, T1) → QF T T1 := by
  intro T l0 l1 l2 l3 l4 l5 h
  have p0 := QF.rf T
  unfold g_X11_bestLag_b100 at h
  obtain ⟨v2, ev2, h⟩ := elet_some h
  exact QF.tr p0 (hk49 _ _ _ _ _ _ _ h)
set_option maxHeartbeats 4000000 in
set_option maxRecDepth 100000 in
theorem sq_X11_bestLag_b96 {e1 : Nat} {r1 : Int32} {T1 : AT} {k49 : AT → Nat → Int32 → Int32 → Int32 → Int32 → Int32 → Option (Nat × Int32 × AT)} (hk49 : ∀ (T : AT) (l0 : Nat) (l1 : Int32) (l2 : Int32) (l3 : Int32) (l4 : Int32) (l5 : Int32), k49 T l0 l1 l2 l3 l4 l5 = some (e1, r1, T1) → QF T T1) : ∀ (T : AT) (l0 : Nat) (l1 : Int32) (l2 : Int32) (l3 : Int32) (l5 : Int32), g_X11_bestLag_b96 k49 T l0 l1 l2 l3 l5 = some (e1, r1, T1) → QF T T1 := by
  intro T l0 l1 l2 l3 l5 h
  have p0 := QF.rf T
  unfold g_X11_bestLag_b96 at h
  exact QF.tr p0 (sq_X11_bestLag_b100 hk49 _ _ _ _ _ _ _ h)
set_option maxHeartbeats 4000000 in
set_option maxRecDepth 100000 in
theorem sq_X11_bestLag_b71 {e1 : Nat} {r1 : Int32} {T1 : AT} {k49 : AT → Nat → Int32 → Int32 → Int32 → Int32 → Int32 → Option (Nat × Int32 × AT)} (hk49 : ∀ (T : AT) (l0 : Nat) (l1 : Int32) (l2 : Int32) (l3 : Int32) (l4 : Int32) (l5 : Int32), k49 T l0 l1 l2 l3 l4 l5 = some (e1, r1, T1) → QF T T1) : ∀ (T : AT) (l0 : Nat) (l1 : Int32) (l2 : Int32) (l3 : Int32) (l4 : Int32) (l5 : Int32), g_X11_bestLag_b71 k49 T l0 l1 l2 l3 l4 l5 = some (e1, r1, T1) → QF T T1 := by
  intro T l0 l1 l2 l3 l4 l5 h
  have p0 := QF.rf T
  unfold g_X11_bestLag_b71 at h
  obtain ⟨g2, h⟩ := oif_some h
  obtain ⟨n3, en3, h⟩ := obind_some h
  obtain ⟨g4, h⟩ := oif_some h
  obtain ⟨r6, T5, eT5, h⟩ := obind2_some h
  have p1 : QF T T5 := QF.tr p0 ((sq_X10_compare eT5))
  rcases oif_or h with ⟨c7, h⟩ | ⟨c7, h⟩
  · have h := h
    exact QF.tr p1 (sq_X11_bestLag_b100 hk49 _ _ _ _ _ _ _ h)
  · have h := h
    obtain ⟨g8, h⟩ := oif_some h
    obtain ⟨n9, en9, h⟩ := obind_some h
    obtain ⟨g10, h⟩ := oif_some h
    obtain ⟨n11, en11, h⟩ := obind_some h
    obtain ⟨g12, h⟩ := oif_some h
    obtain ⟨T13, eT13, h⟩ := obind_some h
    have p2 : QF T T13 := QF.tr p1 (sq_X10_set eT13)
    exact QF.tr p2 (sq_X11_bestLag_b96 hk49 _ _ _ _ _ _ h)
set_option maxHeartbeats 4000000 in
set_option maxRecDepth 100000 in
theorem sq_X11_bestLag_b49 {e1 : Nat} {r1 : Int32} {T1 : AT} : ∀ n : Nat, ∀ (T : AT) (l0 : Nat) (l1 : Int32) (l2 : Int32) (l3 : Int32) (l4 : Int32) (l5 : Int32), g_X11_bestLag_b49 n T l0 l1 l2 l3 l4 l5 = some (e1, r1, T1) → QF T T1 := by
  intro n
  induction n with
  | zero =>
    intro T l0 l1 l2 l3 l4 l5 h
    have h : (none : Option (Nat × Int32 × AT)) = some (e1, r1, T1) := h
    cases h
  | succ n ih =>
    intro T l0 l1 l2 l3 l4 l5 h
    have p0 := QF.rf T
    unfold g_X11_bestLag_b49 at h
    rcases oif_or h with ⟨c2, h⟩ | ⟨c2, h⟩
    · have h := h
      rw [← (osome3 h).2.2]
      exact p0
    · have h := h
      obtain ⟨g3, h⟩ := oif_some h
      obtain ⟨n4, en4, h⟩ := obind_some h
      obtain ⟨g5, h⟩ := oif_some h
      obtain ⟨n6, en6, h⟩ := obind_some h
      obtain ⟨g7, h⟩ := oif_some h
      obtain ⟨T8, eT8, h⟩ := obind_some h
      have p1 : QF T T8 := QF.tr p0 (sq_X8_productSum eT8)
      exact QF.tr p1 (sq_X11_bestLag_b71 ih _ _ _ _ _ _ _ h)
set_option maxHeartbeats 4000000 in
set_option maxRecDepth 100000 in
theorem sq_X11_bestLag_b46 {e1 : Nat} {r1 : Int32} {T1 : AT} : ∀ (T : AT) (l0 : Nat) (l1 : Int32) (l2 : Int32) (l3 : Int32) (l4 : Int32), g_X11_bestLag_b46 T l0 l1 l2 l3 l4 = some (e1, r1, T1) → QF T T1 := by
  intro T l0 l1 l2 l3 l4 h
  have p0 := QF.rf T
  unfold g_X11_bestLag_b46 at h
  exact QF.tr p0 (sq_X11_bestLag_b49 _ _ _ _ _ _ _ _ h)
set_option maxHeartbeats 4000000 in
set_option maxRecDepth 100000 in
theorem sq_X11_bestLag {T : AT} {o : Nat} {a0 : Int32} {a1 : Int32} {a2 : Int32} {e1 : Nat} {r1 : Int32} {T1 : AT} (h : g_X11_bestLag T o a0 a1 a2 = some (e1, r1, T1)) : QF T T1 := by
  have p0 := QF.rf T
  unfold g_X11_bestLag at h
  obtain ⟨g2, h⟩ := oif_some h
  rcases othr_s h with ⟨k9, r9, e9, -⟩ | ⟨r4, T3, eT3, h⟩
  · exact QF.tr p0 ((sq_X11_needCamera e9))
  have p1 : QF T T3 := QF.tr p0 ((sq_X11_needCamera eT3))
  obtain ⟨g5, h⟩ := oif_some h
  rcases othr_s h with ⟨k9, r9, e9, -⟩ | ⟨r7, T6, eT6, h⟩
  · exact QF.tr p1 ((sq_X11_needMic e9))
  have p2 : QF T T6 := QF.tr p1 ((sq_X11_needMic eT6))
  obtain ⟨g8, h⟩ := oif_some h
  rcases othr_s h with ⟨k9, r9, e9, -⟩ | ⟨r10, T9, eT9, h⟩
  · exact QF.tr p2 ((sq_X11_needMic e9))
  have p3 : QF T T9 := QF.tr p2 ((sq_X11_needMic eT9))
  obtain ⟨g11, h⟩ := oif_some h
  obtain ⟨n12, en12, h⟩ := obind_some h
  obtain ⟨g13, h⟩ := oif_some h
  obtain ⟨v14, -, h⟩ := elet_some h
  obtain ⟨v15, -, h⟩ := elet_some h
  rcases othr_s h with ⟨k9, r9, e9, -⟩ | ⟨r17, T16, eT16, h⟩
  · exact QF.tr p3 ((sq_X11_needRange e9))
  have p4 : QF T T16 := QF.tr p3 ((sq_X11_needRange eT16))
  obtain ⟨g18, h⟩ := oif_some h
  obtain ⟨n19, en19, h⟩ := obind_some h
  obtain ⟨g20, h⟩ := oif_some h
  obtain ⟨n21, en21, h⟩ := obind_some h
  obtain ⟨g22, h⟩ := oif_some h
  obtain ⟨T23, eT23, h⟩ := obind_some h
  have p5 : QF T T23 := QF.tr p4 (sq_X8_productSum eT23)
  exact QF.tr p5 (sq_X11_bestLag_b46 _ _ _ _ _ _ h)
set_option maxHeartbeats 4000000 in
set_option maxRecDepth 100000 in
theorem sq_X11_measureLevel_b30 {T1 : AT} : ∀ (T : AT), g_X11_measureLevel_b30 T = some T1 → QF T T1 := by
  intro T h
  have p0 := QF.rf T
  unfold g_X11_measureLevel_b30 at h
  rw [← osome1 h]
  exact p0
set_option maxHeartbeats 4000000 in
set_option maxRecDepth 100000 in
theorem sq_X11_measureLevel_b15 {T1 : AT} : ∀ (T : AT) (l0 : Nat) (l1 : Int32), g_X11_measureLevel_b15 T l0 l1 = some T1 → QF T T1 := by
  intro T l0 l1 h
  have p0 := QF.rf T
  unfold g_X11_measureLevel_b15 at h
  obtain ⟨g2, h⟩ := oif_some h
  obtain ⟨n3, en3, h⟩ := obind_some h
  obtain ⟨g4, h⟩ := oif_some h
  obtain ⟨n5, en5, h⟩ := obind_some h
  obtain ⟨g6, h⟩ := oif_some h
  obtain ⟨v7, -, h⟩ := elet_some h
  obtain ⟨g8, h⟩ := oif_some h
  obtain ⟨T9, eT9, h⟩ := obind_some h
  have p1 : QF T T9 := QF.tr p0 (sq_X10_divide eT9)
  exact QF.tr p1 (sq_X11_measureLevel_b30 _ h)
set_option maxHeartbeats 4000000 in
set_option maxRecDepth 100000 in
theorem sq_X11_measureLevel {T : AT} {o : Nat} {a0 : Int32} {T1 : AT} (h : g_X11_measureLevel T o a0 = some T1) : QF T T1 := by
  have p0 := QF.rf T
  unfold g_X11_measureLevel at h
  obtain ⟨g2, h⟩ := oif_some h
  obtain ⟨n3, en3, h⟩ := obind_some h
  obtain ⟨g4, h⟩ := oif_some h
  obtain ⟨n5, en5, h⟩ := obind_some h
  obtain ⟨g6, h⟩ := oif_some h
  obtain ⟨T7, eT7, h⟩ := obind_some h
  have p1 : QF T T7 := QF.tr p0 (sq_X8_productSum eT7)
  exact QF.tr p1 (sq_X11_measureLevel_b15 _ _ _ h)
set_option maxHeartbeats 4000000 in
set_option maxRecDepth 100000 in
theorem sq_X11_level_b14 {e1 : Nat} {r1 : Int64} {T1 : AT} : ∀ (T : AT) (l0 : Nat) (l1 : Int32), g_X11_level_b14 T l0 l1 = some (e1, r1, T1) → QF T T1 := by
  intro T l0 l1 h
  have p0 := QF.rf T
  unfold g_X11_level_b14 at h
  obtain ⟨g2, h⟩ := oif_some h
  obtain ⟨n3, en3, h⟩ := obind_some h
  obtain ⟨g4, h⟩ := oif_some h
  obtain ⟨r6, T5, eT5, h⟩ := obind2_some h
  have p1 : QF T T5 := QF.tr p0 ((sq_X10_value eT5))
  rw [← (osome3 h).2.2]
  exact p1
set_option maxHeartbeats 4000000 in
set_option maxRecDepth 100000 in
theorem sq_X11_level {T : AT} {o : Nat} {a0 : Int32} {e1 : Nat} {r1 : Int64} {T1 : AT} (h : g_X11_level T o a0 = some (e1, r1, T1)) : QF T T1 := by
  have p0 := QF.rf T
  unfold g_X11_level at h
  obtain ⟨g2, h⟩ := oif_some h
  rcases othr_s h with ⟨k9, r9, e9, -⟩ | ⟨r4, T3, eT3, h⟩
  · exact QF.tr p0 ((sq_X11_needCamera e9))
  have p1 : QF T T3 := QF.tr p0 ((sq_X11_needCamera eT3))
  obtain ⟨g5, h⟩ := oif_some h
  rcases othr_s h with ⟨k9, r9, e9, -⟩ | ⟨r7, T6, eT6, h⟩
  · exact QF.tr p1 ((sq_X11_needMic e9))
  have p2 : QF T T6 := QF.tr p1 ((sq_X11_needMic eT6))
  obtain ⟨g8, h⟩ := oif_some h
  obtain ⟨T9, eT9, h⟩ := obind_some h
  have p3 : QF T T9 := QF.tr p2 (sq_X11_measureLevel eT9)
  exact QF.tr p3 (sq_X11_level_b14 _ _ _ h)
set_option maxHeartbeats 4000000 in
set_option maxRecDepth 100000 in
theorem sq_X11_loudest_b33 {e1 : Nat} {r1 : Int32} {T1 : AT} {k17 : AT → Nat → Int32 → Int32 → Option (Nat × Int32 × AT)} (hk17 : ∀ (T : AT) (l0 : Nat) (l1 : Int32) (l2 : Int32), k17 T l0 l1 l2 = some (e1, r1, T1) → QF T T1) : ∀ (T : AT) (l0 : Nat) (l1 : Int32) (l2 : Int32), g_X11_loudest_b33 k17 T l0 l1 l2 = some (e1, r1, T1) → QF T T1 := by
  intro T l0 l1 l2 h
  have p0 := QF.rf T
  unfold g_X11_loudest_b33 at h
  obtain ⟨v2, ev2, h⟩ := elet_some h
  exact QF.tr p0 (hk17 _ _ _ _ h)
set_option maxHeartbeats 4000000 in
set_option maxRecDepth 100000 in
theorem sq_X11_loudest_b17 {e1 : Nat} {r1 : Int32} {T1 : AT} : ∀ n : Nat, ∀ (T : AT) (l0 : Nat) (l1 : Int32) (l2 : Int32), g_X11_loudest_b17 n T l0 l1 l2 = some (e1, r1, T1) → QF T T1 := by
  intro n
  induction n with
  | zero =>
    intro T l0 l1 l2 h
    have h : (none : Option (Nat × Int32 × AT)) = some (e1, r1, T1) := h
    cases h
  | succ n ih =>
    intro T l0 l1 l2 h
    have p0 := QF.rf T
    unfold g_X11_loudest_b17 at h
    obtain ⟨g2, h⟩ := oif_some h
    obtain ⟨n3, en3, h⟩ := obind_some h
    obtain ⟨g4, h⟩ := oif_some h
    obtain ⟨v5, -, h⟩ := elet_some h
    rcases oif_or h with ⟨c6, h⟩ | ⟨c6, h⟩
    · have h := h
      obtain ⟨g7, h⟩ := oif_some h
      obtain ⟨n8, en8, h⟩ := obind_some h
      obtain ⟨g9, h⟩ := oif_some h
      obtain ⟨n10, en10, h⟩ := obind_some h
      obtain ⟨g11, h⟩ := oif_some h
      obtain ⟨v12, -, h⟩ := elet_some h
      obtain ⟨g13, h⟩ := oif_some h
      obtain ⟨r15, T14, eT14, h⟩ := obind2_some h
      have p1 : QF T T14 := QF.tr p0 ((sq_X10_ranked eT14))
      rw [← (osome3 h).2.2]
      exact p1
    · have h := h
      obtain ⟨g16, h⟩ := oif_some h
      obtain ⟨T17, eT17, h⟩ := obind_some h
      have p1 : QF T T17 := QF.tr p0 (sq_X11_measureLevel eT17)
      exact QF.tr p1 (sq_X11_loudest_b33 ih _ _ _ _ h)
set_option maxHeartbeats 4000000 in
set_option maxRecDepth 100000 in
theorem sq_X11_loudest {T : AT} {o : Nat} {a0 : Int32} {e1 : Nat} {r1 : Int32} {T1 : AT} (h : g_X11_loudest T o a0 = some (e1, r1, T1)) : QF T T1 := by
  have p0 := QF.rf T
  unfold g_X11_loudest at h
  obtain ⟨g2, h⟩ := oif_some h
  rcases othr_s h with ⟨k9, r9, e9, -⟩ | ⟨r4, T3, eT3, h⟩
  · exact QF.tr p0 ((sq_X11_needCamera e9))
  have p1 : QF T T3 := QF.tr p0 ((sq_X11_needCamera eT3))
  obtain ⟨g5, h⟩ := oif_some h
  obtain ⟨n6, en6, h⟩ := obind_some h
  obtain ⟨g7, h⟩ := oif_some h
  obtain ⟨v8, -, h⟩ := elet_some h
  rcases othr_s h with ⟨k9, r9, e9, -⟩ | ⟨r10, T9, eT9, h⟩
  · exact QF.tr p1 ((sq_X11_needIndex e9))
  have p2 : QF T T9 := QF.tr p1 ((sq_X11_needIndex eT9))
  exact QF.tr p2 (sq_X11_loudest_b17 _ _ _ _ _ h)
set_option maxHeartbeats 4000000 in
set_option maxRecDepth 100000 in
theorem sq_X11_addMapByte_b32 {T1 : AT} : ∀ (T : AT), g_X11_addMapByte_b32 T = some T1 → QF T T1 := by
  intro T h
  have p0 := QF.rf T
  unfold g_X11_addMapByte_b32 at h
  rw [← osome1 h]
  exact p0
set_option maxHeartbeats 4000000 in
set_option maxRecDepth 100000 in
theorem sq_X11_addMapByte {T : AT} {o : Nat} {a0 : Int32} {T1 : AT} (h : g_X11_addMapByte T o a0 = some T1) : QF T T1 := by
  have p0 := QF.rf T
  unfold g_X11_addMapByte at h
  obtain ⟨g2, h⟩ := oif_some h
  obtain ⟨v3, -, h⟩ := elet_some h
  obtain ⟨g4, h⟩ := oif_some h
  obtain ⟨n5, en5, h⟩ := obind_some h
  obtain ⟨g6, h⟩ := oif_some h
  obtain ⟨v7, -, h⟩ := elet_some h
  rcases oif_or h with ⟨c8, h⟩ | ⟨c8, h⟩
  · have h := h
    exact QF.tr p0 (sq_X11_addMapByte_b32 _ h)
  · have h := h
    obtain ⟨g9, h⟩ := oif_some h
    obtain ⟨n10, en10, h⟩ := obind_some h
    obtain ⟨g11, h⟩ := oif_some h
    obtain ⟨v12, -, h⟩ := elet_some h
    obtain ⟨g13, h⟩ := oif_some h
    obtain ⟨g14, h⟩ := oif_some h
    obtain ⟨T15, eT15, h⟩ := elet_some h
    have p1 : QF T T15 := QF.tr p0 (by rw [eT15]; first | exact qf_uO (oO_k g14).2 (by decide) | exact qf_uA (aA_k g13).2.1 (by decide))
    obtain ⟨g16, h⟩ := oif_some h
    obtain ⟨v17, -, h⟩ := elet_some h
    obtain ⟨v18, -, h⟩ := elet_some h
    obtain ⟨g19, h⟩ := oif_some h
    obtain ⟨T20, eT20, h⟩ := elet_some h
    have p2 : QF T T20 := QF.tr p1 (by rw [eT20]; first | exact qf_uO (oO_k g19).2 (by decide) | exact qf_uA (aA_k g16).2.1 (by decide))
    exact QF.tr p2 (sq_X11_addMapByte_b32 _ h)
set_option maxHeartbeats 4000000 in
set_option maxRecDepth 100000 in
theorem sq_X11_writeMap_b66 {e1 : Nat} {r1 : Int32} {T1 : AT} {k16 : AT → Nat → Nat → Int32 → Option (Nat × Int32 × AT)} (hk16 : ∀ (T : AT) (l0 : Nat) (l1 : Nat) (l2 : Int32), k16 T l0 l1 l2 = some (e1, r1, T1) → QF T T1) : ∀ (T : AT) (s0 : Int32) (s1 : Int32) (s2 : Nat) (l0 : Nat) (l1 : Nat) (l2 : Int32), g_X11_writeMap_b66 k16 T s0 s1 s2 l0 l1 l2 = some (e1, r1, T1) → QF T T1 := by
  intro T s0 s1 s2 l0 l1 l2 h
  have p0 := QF.rf T
  unfold g_X11_writeMap_b66 at h
  obtain ⟨v2, -, h⟩ := elet_some h
  obtain ⟨g3, h⟩ := oif_some h
  obtain ⟨T4, eT4, h⟩ := obind_some h
  have p1 : QF T T4 := QF.tr p0 ((sq_X11_addMapByte eT4))
  obtain ⟨v6, ev6, h⟩ := elet_some h
  exact QF.tr p1 (hk16 _ _ _ _ h)
set_option maxHeartbeats 4000000 in
set_option maxRecDepth 100000 in
theorem sq_X11_writeMap_b54 {e1 : Nat} {r1 : Int32} {T1 : AT} {k16 : AT → Nat → Nat → Int32 → Option (Nat × Int32 × AT)} (hk16 : ∀ (T : AT) (l0 : Nat) (l1 : Nat) (l2 : Int32), k16 T l0 l1 l2 = some (e1, r1, T1) → QF T T1) : ∀ (T : AT) (l0 : Nat) (l1 : Nat) (l2 : Int32), g_X11_writeMap_b54 k16 T l0 l1 l2 = some (e1, r1, T1) → QF T T1 := by
  intro T l0 l1 l2 h
  have p0 := QF.rf T
  unfold g_X11_writeMap_b54 at h
  obtain ⟨g2, h⟩ := oif_some h
  obtain ⟨n3, en3, h⟩ := obind_some h
  obtain ⟨g4, h⟩ := oif_some h
  obtain ⟨r6, T5, eT5, h⟩ := obind2_some h
  have p1 : QF T T5 := QF.tr p0 (sq_X4_digit eT5)
  exact QF.tr p1 (sq_X11_writeMap_b66 hk16 _ _ _ _ _ _ _ h)
set_option maxHeartbeats 4000000 in
set_option maxRecDepth 100000 in
theorem sq_X11_writeMap_b16 {e1 : Nat} {r1 : Int32} {T1 : AT} : ∀ n : Nat, ∀ (T : AT) (l0 : Nat) (l1 : Nat) (l2 : Int32), g_X11_writeMap_b16 n T l0 l1 l2 = some (e1, r1, T1) → QF T T1 := by
  intro n
  induction n with
  | zero =>
    intro T l0 l1 l2 h
    have h : (none : Option (Nat × Int32 × AT)) = some (e1, r1, T1) := h
    cases h
  | succ n ih =>
    intro T l0 l1 l2 h
    have p0 := QF.rf T
    unfold g_X11_writeMap_b16 at h
    obtain ⟨g2, h⟩ := oif_some h
    obtain ⟨n3, en3, h⟩ := obind_some h
    obtain ⟨g4, h⟩ := oif_some h
    obtain ⟨n5, en5, h⟩ := obind_some h
    obtain ⟨g6, h⟩ := oif_some h
    obtain ⟨r8, T7, eT7, h⟩ := obind2_some h
    have p1 : QF T T7 := QF.tr p0 ((sq_X1_cells eT7))
    rcases oif_or h with ⟨c9, h⟩ | ⟨c9, h⟩
    · have h := h
      obtain ⟨g10, h⟩ := oif_some h
      obtain ⟨v11, -, h⟩ := elet_some h
      rw [← (osome3 h).2.2]
      exact p1
    · have h := h
      rcases oif_or h with ⟨c12, h⟩ | ⟨c12, h⟩
      · have h := h
        exact QF.tr p1 (sq_X11_writeMap_b54 ih _ _ _ _ h)
      · have h := h
        obtain ⟨g13, h⟩ := oif_some h
        obtain ⟨n14, en14, h⟩ := obind_some h
        obtain ⟨g15, h⟩ := oif_some h
        obtain ⟨n16, en16, h⟩ := obind_some h
        obtain ⟨g17, h⟩ := oif_some h
        obtain ⟨r19, T18, eT18, h⟩ := obind2_some h
        have p2 : QF T T18 := QF.tr p1 ((sq_X1_columnOf eT18))
        rcases oif_or h with ⟨c20, h⟩ | ⟨c20, h⟩
        · have h := h
          obtain ⟨g21, h⟩ := oif_some h
          obtain ⟨T22, eT22, h⟩ := obind_some h
          have p3 : QF T T22 := QF.tr p2 ((sq_X11_addMapByte eT22))
          exact QF.tr p3 (sq_X11_writeMap_b54 ih _ _ _ _ h)
        · have h := h
          exact QF.tr p2 (sq_X11_writeMap_b54 ih _ _ _ _ h)
set_option maxHeartbeats 4000000 in
set_option maxRecDepth 100000 in
theorem sq_X11_writeMap_b8 {e1 : Nat} {r1 : Int32} {T1 : AT} : ∀ (T : AT) (s0 : Nat) (l0 : Nat), g_X11_writeMap_b8 T s0 l0 = some (e1, r1, T1) → QF T T1 := by
  intro T s0 l0 h
  have p0 := QF.rf T
  unfold g_X11_writeMap_b8 at h
  obtain ⟨g2, h⟩ := oif_some h
  obtain ⟨T3, eT3, h⟩ := elet_some h
  have p1 : QF T T3 := QF.tr p0 (by rw [eT3]; first | exact qf_uO (oO_k g2).2 (by decide) | exact qf_uA (aA_k g2).2.1 (by decide))
  exact QF.tr p1 (sq_X11_writeMap_b16 _ _ _ _ _ h)
set_option maxHeartbeats 4000000 in
set_option maxRecDepth 100000 in
theorem sq_X11_writeMap {T : AT} {o : Nat} {e1 : Nat} {r1 : Int32} {T1 : AT} (h : g_X11_writeMap T o = some (e1, r1, T1)) : QF T T1 := by
  have p0 := QF.rf T
  unfold g_X11_writeMap at h
  obtain ⟨g2, h⟩ := oif_some h
  rcases othr_s h with ⟨k9, r9, e9, -⟩ | ⟨r4, T3, eT3, h⟩
  · exact QF.tr p0 ((sq_X11_needCamera e9))
  have p1 : QF T T3 := QF.tr p0 ((sq_X11_needCamera eT3))
  obtain ⟨g5, h⟩ := oif_some h
  obtain ⟨r7, T6, eT6, h⟩ := obind2_some h
  obtain ⟨g8, h⟩ := oif_some h
  have p2 : QF T T6 := QF.tr p1 (sq_X11_powersNow eT6)
  exact QF.tr p2 (sq_X11_writeMap_b8 _ _ _ h)
set_option maxHeartbeats 4000000 in
set_option maxRecDepth 100000 in
theorem sq_X11_mapByte {T : AT} {o : Nat} {a0 : Int32} {e1 : Nat} {r1 : Int32} {T1 : AT} (h : g_X11_mapByte T o a0 = some (e1, r1, T1)) : QF T T1 := by
  have p0 := QF.rf T
  unfold g_X11_mapByte at h
  obtain ⟨g2, h⟩ := oif_some h
  obtain ⟨v3, -, h⟩ := elet_some h
  rcases othr_s h with ⟨k9, r9, e9, -⟩ | ⟨r5, T4, eT4, h⟩
  · exact QF.tr p0 (sq_X11_needIndex e9)
  have p1 : QF T T4 := QF.tr p0 (sq_X11_needIndex eT4)
  obtain ⟨g6, h⟩ := oif_some h
  obtain ⟨n7, en7, h⟩ := obind_some h
  obtain ⟨g8, h⟩ := oif_some h
  obtain ⟨g9, h⟩ := oif_some h
  obtain ⟨v10, -, h⟩ := elet_some h
  rw [← (osome3 h).2.2]
  exact p1
set_option maxHeartbeats 4000000 in
set_option maxRecDepth 100000 in
theorem sq_X11_trialBest_b15 {r1 : Int32} {T1 : AT} : ∀ (T : AT) (l0 : Nat), g_X11_trialBest_b15 T l0 = some (r1, T1) → QF T T1 := by
  intro T l0 h
  have p0 := QF.rf T
  unfold g_X11_trialBest_b15 at h
  obtain ⟨g2, h⟩ := oif_some h
  obtain ⟨n3, en3, h⟩ := obind_some h
  obtain ⟨g4, h⟩ := oif_some h
  obtain ⟨v5, -, h⟩ := elet_some h
  rw [← (osome2 h).2]
  exact p0
set_option maxHeartbeats 4000000 in
set_option maxRecDepth 100000 in
theorem sq_X11_trialBest {T : AT} {o : Nat} {r1 : Int32} {T1 : AT} (h : g_X11_trialBest T o = some (r1, T1)) : QF T T1 := by
  have p0 := QF.rf T
  unfold g_X11_trialBest at h
  obtain ⟨g2, h⟩ := oif_some h
  obtain ⟨n3, en3, h⟩ := obind_some h
  obtain ⟨g4, h⟩ := oif_some h
  obtain ⟨n5, en5, h⟩ := obind_some h
  obtain ⟨g6, h⟩ := oif_some h
  obtain ⟨n7, en7, h⟩ := obind_some h
  obtain ⟨g8, h⟩ := oif_some h
  obtain ⟨T9, eT9, h⟩ := obind_some h
  have p1 : QF T T9 := QF.tr p0 (sq_X4_measure eT9)
  exact QF.tr p1 (sq_X11_trialBest_b15 _ _ h)
set_option maxHeartbeats 4000000 in
set_option maxRecDepth 100000 in
theorem sq_X11_pointBest_b26 {e1 : Nat} {r1 : Int32} {T1 : AT} : ∀ (T : AT) (s0 : Int32), g_X11_pointBest_b26 T s0 = some (e1, r1, T1) → QF T T1 := by
  intro T s0 h
  have p0 := QF.rf T
  unfold g_X11_pointBest_b26 at h
  rw [← (osome3 h).2.2]
  exact p0
set_option maxHeartbeats 4000000 in
set_option maxRecDepth 100000 in
theorem sq_X11_pointBest_b22 {e1 : Nat} {r1 : Int32} {T1 : AT} : ∀ (T : AT) (l0 : Nat), g_X11_pointBest_b22 T l0 = some (e1, r1, T1) → QF T T1 := by
  intro T l0 h
  have p0 := QF.rf T
  unfold g_X11_pointBest_b22 at h
  obtain ⟨g2, h⟩ := oif_some h
  obtain ⟨r4, T3, eT3, h⟩ := obind2_some h
  have p1 : QF T T3 := QF.tr p0 (sq_X11_trialBest eT3)
  exact QF.tr p1 (sq_X11_pointBest_b26 _ _ h)
set_option maxHeartbeats 4000000 in
set_option maxRecDepth 100000 in
theorem sq_X11_pointPower_b48 {e1 : Nat} {r1 : Int64} {T1 : AT} : ∀ (T : AT) (l0 : Nat), g_X11_pointPower_b48 T l0 = some (e1, r1, T1) → QF T T1 := by
  intro T l0 h
  have p0 := QF.rf T
  unfold g_X11_pointPower_b48 at h
  obtain ⟨g2, h⟩ := oif_some h
  obtain ⟨n3, en3, h⟩ := obind_some h
  obtain ⟨g4, h⟩ := oif_some h
  obtain ⟨r6, T5, eT5, h⟩ := obind2_some h
  have p1 : QF T T5 := QF.tr p0 ((sq_X10_value eT5))
  rw [← (osome3 h).2.2]
  exact p1
set_option maxHeartbeats 4000000 in
set_option maxRecDepth 100000 in
theorem sq_X11_pointPower_b27 {e1 : Nat} {r1 : Int64} {T1 : AT} : ∀ (T : AT) (l0 : Nat) (l2 : Int32), g_X11_pointPower_b27 T l0 l2 = some (e1, r1, T1) → QF T T1 := by
  intro T l0 l2 h
  have p0 := QF.rf T
  unfold g_X11_pointPower_b27 at h
  obtain ⟨g2, h⟩ := oif_some h
  obtain ⟨n3, en3, h⟩ := obind_some h
  obtain ⟨g4, h⟩ := oif_some h
  obtain ⟨n5, en5, h⟩ := obind_some h
  obtain ⟨g6, h⟩ := oif_some h
  obtain ⟨n7, en7, h⟩ := obind_some h
  obtain ⟨g8, h⟩ := oif_some h
  obtain ⟨g9, h⟩ := oif_some h
  obtain ⟨n10, en10, h⟩ := obind_some h
  obtain ⟨g11, h⟩ := oif_some h
  obtain ⟨n12, en12, h⟩ := obind_some h
  obtain ⟨g13, h⟩ := oif_some h
  obtain ⟨T14, eT14, h⟩ := obind_some h
  have p1 : QF T T14 := QF.tr p0 (sq_X8_powerOf eT14)
  exact QF.tr p1 (sq_X11_pointPower_b48 _ _ h)
set_option maxHeartbeats 4000000 in
set_option maxRecDepth 100000 in
theorem sq_X11_bestWithout_b34 {e1 : Nat} {r1 : Int32} {T1 : AT} : ∀ (T : AT) (s0 : Int32), g_X11_bestWithout_b34 T s0 = some (e1, r1, T1) → QF T T1 := by
  intro T s0 h
  have p0 := QF.rf T
  unfold g_X11_bestWithout_b34 at h
  rw [← (osome3 h).2.2]
  exact p0
set_option maxHeartbeats 4000000 in
set_option maxRecDepth 100000 in
theorem sq_X11_bestWithout_b20 {e1 : Nat} {r1 : Int32} {T1 : AT} : ∀ (T : AT) (l0 : Nat) (l1 : Int32), g_X11_bestWithout_b20 T l0 l1 = some (e1, r1, T1) → QF T T1 := by
  intro T l0 l1 h
  have p0 := QF.rf T
  unfold g_X11_bestWithout_b20 at h
  obtain ⟨g2, h⟩ := oif_some h
  obtain ⟨n3, en3, h⟩ := obind_some h
  obtain ⟨g4, h⟩ := oif_some h
  obtain ⟨n5, en5, h⟩ := obind_some h
  obtain ⟨g6, h⟩ := oif_some h
  obtain ⟨g7, h⟩ := oif_some h
  obtain ⟨T8, eT8, h⟩ := elet_some h
  have p1 : QF T T8 := QF.tr p0 (by rw [eT8]; first | exact qf_uO (oO_k g7).2 (by decide) | exact qf_uA (aA_k g6).2.1 (by decide))
  obtain ⟨g9, h⟩ := oif_some h
  obtain ⟨r11, T10, eT10, h⟩ := obind2_some h
  have p2 : QF T T10 := QF.tr p1 (sq_X11_trialBest eT10)
  exact QF.tr p2 (sq_X11_bestWithout_b34 _ _ h)
set_option maxHeartbeats 4000000 in
set_option maxRecDepth 100000 in
theorem sq_X11_bestWithout {T : AT} {o : Nat} {a0 : Int32} {e1 : Nat} {r1 : Int32} {T1 : AT} (h : g_X11_bestWithout T o a0 = some (e1, r1, T1)) : QF T T1 := by
  have p0 := QF.rf T
  unfold g_X11_bestWithout at h
  obtain ⟨g2, h⟩ := oif_some h
  rcases othr_s h with ⟨k9, r9, e9, -⟩ | ⟨r4, T3, eT3, h⟩
  · exact QF.tr p0 ((sq_X11_needCamera e9))
  have p1 : QF T T3 := QF.tr p0 ((sq_X11_needCamera eT3))
  obtain ⟨g5, h⟩ := oif_some h
  rcases othr_s h with ⟨k9, r9, e9, -⟩ | ⟨r7, T6, eT6, h⟩
  · exact QF.tr p1 ((sq_X11_needMic e9))
  have p2 : QF T T6 := QF.tr p1 ((sq_X11_needMic eT6))
  obtain ⟨g8, h⟩ := oif_some h
  obtain ⟨n9, en9, h⟩ := obind_some h
  obtain ⟨g10, h⟩ := oif_some h
  obtain ⟨n11, en11, h⟩ := obind_some h
  obtain ⟨g12, h⟩ := oif_some h
  obtain ⟨T13, eT13, h⟩ := obind_some h
  have p3 : QF T T13 := QF.tr p2 (sq_X8_copyFrom eT13)
  exact QF.tr p3 (sq_X11_bestWithout_b20 _ _ _ h)
set_option maxHeartbeats 4000000 in
set_option maxRecDepth 100000 in
theorem sq_X11_bestIfOff_b49 {e1 : Nat} {r1 : Int32} {T1 : AT} : ∀ (T : AT) (s0 : Int32), g_X11_bestIfOff_b49 T s0 = some (e1, r1, T1) → QF T T1 := by
  intro T s0 h
  have p0 := QF.rf T
  unfold g_X11_bestIfOff_b49 at h
  rw [← (osome3 h).2.2]
  exact p0
set_option maxHeartbeats 4000000 in
set_option maxRecDepth 100000 in
theorem sq_X11_bestIfOff_b45 {e1 : Nat} {r1 : Int32} {T1 : AT} : ∀ (T : AT) (l0 : Nat), g_X11_bestIfOff_b45 T l0 = some (e1, r1, T1) → QF T T1 := by
  intro T l0 h
  have p0 := QF.rf T
  unfold g_X11_bestIfOff_b45 at h
  obtain ⟨g2, h⟩ := oif_some h
  obtain ⟨r4, T3, eT3, h⟩ := obind2_some h
  have p1 : QF T T3 := QF.tr p0 (sq_X11_trialBest eT3)
  exact QF.tr p1 (sq_X11_bestIfOff_b49 _ _ h)
set_option maxHeartbeats 4000000 in
set_option maxRecDepth 100000 in
theorem sq_X11_bestIfOff_b20 {e1 : Nat} {r1 : Int32} {T1 : AT} : ∀ (T : AT) (l0 : Nat) (l1 : Int32), g_X11_bestIfOff_b20 T l0 l1 = some (e1, r1, T1) → QF T T1 := by
  intro T l0 l1 h
  have p0 := QF.rf T
  unfold g_X11_bestIfOff_b20 at h
  obtain ⟨g2, h⟩ := oif_some h
  obtain ⟨n3, en3, h⟩ := obind_some h
  obtain ⟨g4, h⟩ := oif_some h
  obtain ⟨n5, en5, h⟩ := obind_some h
  obtain ⟨g6, h⟩ := oif_some h
  obtain ⟨g7, h⟩ := oif_some h
  obtain ⟨T8, eT8, h⟩ := elet_some h
  have p1 : QF T T8 := QF.tr p0 (by rw [eT8]; first | exact qf_uO (oO_k g7).2 (by decide) | exact qf_uA (aA_k g6).2.1 (by decide))
  obtain ⟨g9, h⟩ := oif_some h
  obtain ⟨n10, en10, h⟩ := obind_some h
  obtain ⟨g11, h⟩ := oif_some h
  obtain ⟨n12, en12, h⟩ := obind_some h
  obtain ⟨g13, h⟩ := oif_some h
  obtain ⟨n14, en14, h⟩ := obind_some h
  obtain ⟨g15, h⟩ := oif_some h
  obtain ⟨T16, eT16, h⟩ := obind_some h
  have p2 : QF T T16 := QF.tr p1 (sq_X5_record eT16)
  exact QF.tr p2 (sq_X11_bestIfOff_b45 _ _ h)
set_option maxHeartbeats 4000000 in
set_option maxRecDepth 100000 in
theorem sq_X11_bestIfOff {T : AT} {o : Nat} {a0 : Int32} {e1 : Nat} {r1 : Int32} {T1 : AT} (h : g_X11_bestIfOff T o a0 = some (e1, r1, T1)) : QF T T1 := by
  have p0 := QF.rf T
  unfold g_X11_bestIfOff at h
  obtain ⟨g2, h⟩ := oif_some h
  rcases othr_s h with ⟨k9, r9, e9, -⟩ | ⟨r4, T3, eT3, h⟩
  · exact QF.tr p0 ((sq_X11_needCamera e9))
  have p1 : QF T T3 := QF.tr p0 ((sq_X11_needCamera eT3))
  obtain ⟨g5, h⟩ := oif_some h
  rcases othr_s h with ⟨k9, r9, e9, -⟩ | ⟨r7, T6, eT6, h⟩
  · exact QF.tr p1 ((sq_X11_needSource e9))
  have p2 : QF T T6 := QF.tr p1 ((sq_X11_needSource eT6))
  obtain ⟨g8, h⟩ := oif_some h
  obtain ⟨n9, en9, h⟩ := obind_some h
  obtain ⟨g10, h⟩ := oif_some h
  obtain ⟨n11, en11, h⟩ := obind_some h
  obtain ⟨g12, h⟩ := oif_some h
  obtain ⟨T13, eT13, h⟩ := obind_some h
  have p3 : QF T T13 := QF.tr p2 (sq_X8_copyFrom eT13)
  exact QF.tr p3 (sq_X11_bestIfOff_b20 _ _ _ h)
set_option maxHeartbeats 4000000 in
set_option maxRecDepth 100000 in
theorem sq_X11_keepForUndo_b48 {T1 : AT} : ∀ (T : AT) (l0 : Nat), g_X11_keepForUndo_b48 T l0 = some T1 → QF T T1 := by
  intro T l0 h
  have p0 := QF.rf T
  unfold g_X11_keepForUndo_b48 at h
  obtain ⟨g2, h⟩ := oif_some h
  obtain ⟨n3, en3, h⟩ := obind_some h
  obtain ⟨g4, h⟩ := oif_some h
  obtain ⟨T5, eT5, h⟩ := elet_some h
  have p1 : QF T T5 := QF.tr p0 (by rw [eT5]; first | exact qf_uO (oO_k g4).2 (by decide) | exact qf_uA (aA_k g2).2.1 (by decide))
  rw [← osome1 h]
  exact p1
set_option maxHeartbeats 4000000 in
set_option maxRecDepth 100000 in
theorem sq_X11_keepForUndo_b29 {T1 : AT} : ∀ (T : AT) (l0 : Nat), g_X11_keepForUndo_b29 T l0 = some T1 → QF T T1 := by
  intro T l0 h
  have p0 := QF.rf T
  unfold g_X11_keepForUndo_b29 at h
  obtain ⟨g2, h⟩ := oif_some h
  obtain ⟨v3, -, h⟩ := elet_some h
  rcases oif_or h with ⟨c4, h⟩ | ⟨c4, h⟩
  · have h := h
    exact QF.tr p0 (sq_X11_keepForUndo_b48 _ _ h)
  · have h := h
    obtain ⟨g5, h⟩ := oif_some h
    obtain ⟨v6, -, h⟩ := elet_some h
    obtain ⟨v7, -, h⟩ := elet_some h
    obtain ⟨g8, h⟩ := oif_some h
    obtain ⟨T9, eT9, h⟩ := elet_some h
    have p1 : QF T T9 := QF.tr p0 (by rw [eT9]; first | exact qf_uO (oO_k g8).2 (by decide) | exact qf_uA (aA_k g5).2.1 (by decide))
    exact QF.tr p1 (sq_X11_keepForUndo_b48 _ _ h)
set_option maxHeartbeats 4000000 in
set_option maxRecDepth 100000 in
theorem sq_X11_keepForUndo {T : AT} {o : Nat} {T1 : AT} (h : g_X11_keepForUndo T o = some T1) : QF T T1 := by
  have p0 := QF.rf T
  unfold g_X11_keepForUndo at h
  obtain ⟨g2, h⟩ := oif_some h
  obtain ⟨v3, -, h⟩ := elet_some h
  obtain ⟨v4, -, h⟩ := elet_some h
  obtain ⟨v5, -, h⟩ := elet_some h
  obtain ⟨g6, h⟩ := oif_some h
  obtain ⟨T7, eT7, h⟩ := elet_some h
  have p1 : QF T T7 := QF.tr p0 (by rw [eT7]; first | exact qf_uO (oO_k g6).2 (by decide) | exact qf_uA (aA_k g2).2.1 (by decide))
  obtain ⟨g8, h⟩ := oif_some h
  obtain ⟨n9, en9, h⟩ := obind_some h
  obtain ⟨g10, h⟩ := oif_some h
  obtain ⟨v11, -, h⟩ := elet_some h
  obtain ⟨g12, h⟩ := oif_some h
  obtain ⟨g13, h⟩ := oif_some h
  obtain ⟨n14, en14, h⟩ := obind_some h
  obtain ⟨g15, h⟩ := oif_some h
  obtain ⟨n16, en16, h⟩ := obind_some h
  obtain ⟨g17, h⟩ := oif_some h
  obtain ⟨T18, eT18, h⟩ := obind_some h
  have p2 : QF T T18 := QF.tr p1 (sq_X8_copyFrom eT18)
  exact QF.tr p2 (sq_X11_keepForUndo_b29 _ _ h)
set_option maxHeartbeats 4000000 in
set_option maxRecDepth 100000 in
theorem sq_X11_mute_b23 {e1 : Nat} {r1 : Int32} {T1 : AT} : ∀ (T : AT) (l0 : Nat) (l1 : Int32) (l2 : Int32) (l3 : Int32), g_X11_mute_b23 T l0 l1 l2 l3 = some (e1, r1, T1) → QF T T1 := by
  intro T l0 l1 l2 l3 h
  have p0 := QF.rf T
  unfold g_X11_mute_b23 at h
  obtain ⟨g2, h⟩ := oif_some h
  obtain ⟨n3, en3, h⟩ := obind_some h
  obtain ⟨g4, h⟩ := oif_some h
  obtain ⟨n5, en5, h⟩ := obind_some h
  obtain ⟨g6, h⟩ := oif_some h
  obtain ⟨g7, h⟩ := oif_some h
  obtain ⟨gz, h⟩ := oif_some h
  obtain ⟨T8, eT8, h⟩ := elet_some h
  have p1 : QF T T8 := QF.tr p0 (by rw [eT8]; first | exact qf_uO (oO_k g7).2 (by decide) | exact qf_uA (aA_k g6).2.1 (by decide))
  obtain ⟨gz, h⟩ := oif_some h
  rw [← (osome3 h).2.2]
  exact p1
set_option maxHeartbeats 4000000 in
set_option maxRecDepth 100000 in
theorem sq_X11_mute {T : AT} {o : Nat} {a0 : Int32} {a1 : Int32} {e1 : Nat} {r1 : Int32} {T1 : AT} (h : g_X11_mute T o a0 a1 = some (e1, r1, T1)) : QF T T1 := by
  have p0 := QF.rf T
  unfold g_X11_mute at h
  obtain ⟨g2, h⟩ := oif_some h
  rcases othr_s h with ⟨k9, r9, e9, -⟩ | ⟨r4, T3, eT3, h⟩
  · exact QF.tr p0 ((sq_X11_needCamera e9))
  have p1 : QF T T3 := QF.tr p0 ((sq_X11_needCamera eT3))
  obtain ⟨g5, h⟩ := oif_some h
  rcases othr_s h with ⟨k9, r9, e9, -⟩ | ⟨r7, T6, eT6, h⟩
  · exact QF.tr p1 ((sq_X11_needMic e9))
  have p2 : QF T T6 := QF.tr p1 ((sq_X11_needMic eT6))
  obtain ⟨g8, h⟩ := oif_some h
  obtain ⟨n9, en9, h⟩ := obind_some h
  obtain ⟨g10, h⟩ := oif_some h
  obtain ⟨n11, en11, h⟩ := obind_some h
  obtain ⟨g12, h⟩ := oif_some h
  obtain ⟨g13, h⟩ := oif_some h
  obtain ⟨v14, -, h⟩ := elet_some h
  obtain ⟨g15, h⟩ := oif_some h
  obtain ⟨T16, eT16, h⟩ := obind_some h
  have p3 : QF T T16 := QF.tr p2 (sq_X11_keepForUndo eT16)
  exact QF.tr p3 (sq_X11_mute_b23 _ _ _ _ _ h)
set_option maxHeartbeats 4000000 in
set_option maxRecDepth 100000 in
theorem sq_X11_setWeight_b30 {e1 : Nat} {r1 : Int32} {T1 : AT} : ∀ (T : AT) (l0 : Nat) (l1 : Int32) (l2 : Int32) (l3 : Int32), g_X11_setWeight_b30 T l0 l1 l2 l3 = some (e1, r1, T1) → QF T T1 := by
  intro T l0 l1 l2 l3 h
  have p0 := QF.rf T
  unfold g_X11_setWeight_b30 at h
  obtain ⟨g2, h⟩ := oif_some h
  obtain ⟨n3, en3, h⟩ := obind_some h
  obtain ⟨g4, h⟩ := oif_some h
  obtain ⟨n5, en5, h⟩ := obind_some h
  obtain ⟨g6, h⟩ := oif_some h
  obtain ⟨g7, h⟩ := oif_some h
  obtain ⟨T8, eT8, h⟩ := elet_some h
  have p1 : QF T T8 := QF.tr p0 (by rw [eT8]; first | exact qf_uO (oO_k g7).2 (by decide) | exact qf_uA (aA_k g6).2.1 (by decide))
  rw [← (osome3 h).2.2]
  exact p1
set_option maxHeartbeats 4000000 in
set_option maxRecDepth 100000 in
theorem sq_X11_setWeight {T : AT} {o : Nat} {a0 : Int32} {a1 : Int32} {e1 : Nat} {r1 : Int32} {T1 : AT} (h : g_X11_setWeight T o a0 a1 = some (e1, r1, T1)) : QF T T1 := by
  have p0 := QF.rf T
  unfold g_X11_setWeight at h
  obtain ⟨g2, h⟩ := oif_some h
  rcases othr_s h with ⟨k9, r9, e9, -⟩ | ⟨r4, T3, eT3, h⟩
  · exact QF.tr p0 ((sq_X11_needCamera e9))
  have p1 : QF T T3 := QF.tr p0 ((sq_X11_needCamera eT3))
  obtain ⟨g5, h⟩ := oif_some h
  rcases othr_s h with ⟨k9, r9, e9, -⟩ | ⟨r7, T6, eT6, h⟩
  · exact QF.tr p1 ((sq_X11_needMic e9))
  have p2 : QF T T6 := QF.tr p1 ((sq_X11_needMic eT6))
  rcases othr_s h with ⟨k9, r9, e9, -⟩ | ⟨r9, T8, eT8, h⟩
  · exact QF.tr p2 ((sq_X11_needRange e9))
  have p3 : QF T T8 := QF.tr p2 ((sq_X11_needRange eT8))
  obtain ⟨g10, h⟩ := oif_some h
  obtain ⟨n11, en11, h⟩ := obind_some h
  obtain ⟨g12, h⟩ := oif_some h
  obtain ⟨n13, en13, h⟩ := obind_some h
  obtain ⟨g14, h⟩ := oif_some h
  obtain ⟨g15, h⟩ := oif_some h
  obtain ⟨v16, -, h⟩ := elet_some h
  obtain ⟨g17, h⟩ := oif_some h
  obtain ⟨T18, eT18, h⟩ := obind_some h
  have p4 : QF T T18 := QF.tr p3 (sq_X11_keepForUndo eT18)
  exact QF.tr p4 (sq_X11_setWeight_b30 _ _ _ _ _ h)
set_option maxHeartbeats 4000000 in
set_option maxRecDepth 100000 in
theorem sq_X11_setOn_b48 {e1 : Nat} {r1 : Int32} {T1 : AT} : ∀ (T : AT) (l3 : Int32), g_X11_setOn_b48 T l3 = some (e1, r1, T1) → QF T T1 := by
  intro T l3 h
  have p0 := QF.rf T
  unfold g_X11_setOn_b48 at h
  obtain ⟨gz, h⟩ := oif_some h
  rw [← (osome3 h).2.2]
  exact p0
set_option maxHeartbeats 4000000 in
set_option maxRecDepth 100000 in
theorem sq_X11_setOn_b23 {e1 : Nat} {r1 : Int32} {T1 : AT} : ∀ (T : AT) (l0 : Nat) (l1 : Int32) (l2 : Int32) (l3 : Int32), g_X11_setOn_b23 T l0 l1 l2 l3 = some (e1, r1, T1) → QF T T1 := by
  intro T l0 l1 l2 l3 h
  have p0 := QF.rf T
  unfold g_X11_setOn_b23 at h
  obtain ⟨g2, h⟩ := oif_some h
  obtain ⟨n3, en3, h⟩ := obind_some h
  obtain ⟨g4, h⟩ := oif_some h
  obtain ⟨n5, en5, h⟩ := obind_some h
  obtain ⟨g6, h⟩ := oif_some h
  obtain ⟨g7, h⟩ := oif_some h
  obtain ⟨gz, h⟩ := oif_some h
  obtain ⟨T8, eT8, h⟩ := elet_some h
  have p1 : QF T T8 := QF.tr p0 (by rw [eT8]; first | exact qf_uO (oO_k g7).2 (by decide) | exact qf_uA (aA_k g6).2.1 (by decide))
  obtain ⟨g9, h⟩ := oif_some h
  obtain ⟨n10, en10, h⟩ := obind_some h
  obtain ⟨g11, h⟩ := oif_some h
  obtain ⟨n12, en12, h⟩ := obind_some h
  obtain ⟨g13, h⟩ := oif_some h
  obtain ⟨n14, en14, h⟩ := obind_some h
  obtain ⟨g15, h⟩ := oif_some h
  obtain ⟨T16, eT16, h⟩ := obind_some h
  have p2 : QF T T16 := QF.tr p1 (sq_X5_record eT16)
  exact QF.tr p2 (sq_X11_setOn_b48 _ _ h)
set_option maxHeartbeats 4000000 in
set_option maxRecDepth 100000 in
theorem sq_X11_setOn {T : AT} {o : Nat} {a0 : Int32} {a1 : Int32} {e1 : Nat} {r1 : Int32} {T1 : AT} (h : g_X11_setOn T o a0 a1 = some (e1, r1, T1)) : QF T T1 := by
  have p0 := QF.rf T
  unfold g_X11_setOn at h
  obtain ⟨g2, h⟩ := oif_some h
  rcases othr_s h with ⟨k9, r9, e9, -⟩ | ⟨r4, T3, eT3, h⟩
  · exact QF.tr p0 ((sq_X11_needCamera e9))
  have p1 : QF T T3 := QF.tr p0 ((sq_X11_needCamera eT3))
  obtain ⟨g5, h⟩ := oif_some h
  rcases othr_s h with ⟨k9, r9, e9, -⟩ | ⟨r7, T6, eT6, h⟩
  · exact QF.tr p1 ((sq_X11_needSource e9))
  have p2 : QF T T6 := QF.tr p1 ((sq_X11_needSource eT6))
  obtain ⟨g8, h⟩ := oif_some h
  obtain ⟨n9, en9, h⟩ := obind_some h
  obtain ⟨g10, h⟩ := oif_some h
  obtain ⟨n11, en11, h⟩ := obind_some h
  obtain ⟨g12, h⟩ := oif_some h
  obtain ⟨g13, h⟩ := oif_some h
  obtain ⟨v14, -, h⟩ := elet_some h
  obtain ⟨g15, h⟩ := oif_some h
  obtain ⟨T16, eT16, h⟩ := obind_some h
  have p3 : QF T T16 := QF.tr p2 (sq_X11_keepForUndo eT16)
  exact QF.tr p3 (sq_X11_setOn_b23 _ _ _ _ _ h)
set_option maxHeartbeats 4000000 in
set_option maxRecDepth 100000 in
theorem sq_X11_moveSource_b72 {e1 : Nat} {r1 : Int32} {T1 : AT} : ∀ (T : AT) (s0 : Nat), g_X11_moveSource_b72 T s0 = some (e1, r1, T1) → QF T T1 := by
  intro T s0 h
  have p0 := QF.rf T
  unfold g_X11_moveSource_b72 at h
  obtain ⟨g2, h⟩ := oif_some h
  obtain ⟨v3, -, h⟩ := elet_some h
  rw [← (osome3 h).2.2]
  exact p0
set_option maxHeartbeats 4000000 in
set_option maxRecDepth 100000 in
theorem sq_X11_moveSource_b68 {e1 : Nat} {r1 : Int32} {T1 : AT} : ∀ (T : AT) (l0 : Nat), g_X11_moveSource_b68 T l0 = some (e1, r1, T1) → QF T T1 := by
  intro T l0 h
  have p0 := QF.rf T
  unfold g_X11_moveSource_b68 at h
  obtain ⟨g2, h⟩ := oif_some h
  obtain ⟨r4, T3, eT3, h⟩ := obind2_some h
  obtain ⟨g5, h⟩ := oif_some h
  have p1 : QF T T3 := QF.tr p0 (sq_X11_powersNow eT3)
  exact QF.tr p1 (sq_X11_moveSource_b72 _ _ h)
set_option maxHeartbeats 4000000 in
set_option maxRecDepth 100000 in
theorem sq_X11_moveSource_b33 {e1 : Nat} {r1 : Int32} {T1 : AT} : ∀ (T : AT) (l0 : Nat) (l1 : Int32) (l2 : Int32) (l3 : Int32), g_X11_moveSource_b33 T l0 l1 l2 l3 = some (e1, r1, T1) → QF T T1 := by
  intro T l0 l1 l2 l3 h
  have p0 := QF.rf T
  unfold g_X11_moveSource_b33 at h
  obtain ⟨g2, h⟩ := oif_some h
  obtain ⟨n3, en3, h⟩ := obind_some h
  obtain ⟨g4, h⟩ := oif_some h
  obtain ⟨n5, en5, h⟩ := obind_some h
  obtain ⟨g6, h⟩ := oif_some h
  obtain ⟨g7, h⟩ := oif_some h
  obtain ⟨T8, eT8, h⟩ := elet_some h
  have p1 : QF T T8 := QF.tr p0 (by rw [eT8]; first | exact qf_uO (oO_k g7).2 (by decide) | exact qf_uA (aA_k g6).2.1 (by decide))
  obtain ⟨g9, h⟩ := oif_some h
  obtain ⟨n10, en10, h⟩ := obind_some h
  obtain ⟨g11, h⟩ := oif_some h
  obtain ⟨n12, en12, h⟩ := obind_some h
  obtain ⟨g13, h⟩ := oif_some h
  obtain ⟨g14, h⟩ := oif_some h
  obtain ⟨T15, eT15, h⟩ := elet_some h
  have p2 : QF T T15 := QF.tr p1 (by rw [eT15]; first | exact qf_uO (oO_k g14).2 (by decide) | exact qf_uA (aA_k g13).2.1 (by decide))
  obtain ⟨g16, h⟩ := oif_some h
  obtain ⟨n17, en17, h⟩ := obind_some h
  obtain ⟨g18, h⟩ := oif_some h
  obtain ⟨n19, en19, h⟩ := obind_some h
  obtain ⟨g20, h⟩ := oif_some h
  obtain ⟨n21, en21, h⟩ := obind_some h
  obtain ⟨g22, h⟩ := oif_some h
  obtain ⟨T23, eT23, h⟩ := obind_some h
  have p3 : QF T T23 := QF.tr p2 (sq_X5_record eT23)
  exact QF.tr p3 (sq_X11_moveSource_b68 _ _ h)
set_option maxHeartbeats 4000000 in
set_option maxRecDepth 100000 in
theorem sq_X11_moveSource {T : AT} {o : Nat} {a0 : Int32} {a1 : Int32} {a2 : Int32} {e1 : Nat} {r1 : Int32} {T1 : AT} (h : g_X11_moveSource T o a0 a1 a2 = some (e1, r1, T1)) : QF T T1 := by
  have p0 := QF.rf T
  unfold g_X11_moveSource at h
  obtain ⟨g2, h⟩ := oif_some h
  rcases othr_s h with ⟨k9, r9, e9, -⟩ | ⟨r4, T3, eT3, h⟩
  · exact QF.tr p0 ((sq_X11_needCamera e9))
  have p1 : QF T T3 := QF.tr p0 ((sq_X11_needCamera eT3))
  obtain ⟨g5, h⟩ := oif_some h
  rcases othr_s h with ⟨k9, r9, e9, -⟩ | ⟨r7, T6, eT6, h⟩
  · exact QF.tr p1 ((sq_X11_needSource e9))
  have p2 : QF T T6 := QF.tr p1 ((sq_X11_needSource eT6))
  rcases othr_s h with ⟨k9, r9, e9, -⟩ | ⟨r9, T8, eT8, h⟩
  · exact QF.tr p2 ((sq_X11_needRange e9))
  have p3 : QF T T8 := QF.tr p2 ((sq_X11_needRange eT8))
  rcases othr_s h with ⟨k9, r9, e9, -⟩ | ⟨r11, T10, eT10, h⟩
  · exact QF.tr p3 ((sq_X11_needRange e9))
  have p4 : QF T T10 := QF.tr p3 ((sq_X11_needRange eT10))
  obtain ⟨g12, h⟩ := oif_some h
  obtain ⟨T13, eT13, h⟩ := obind_some h
  have p5 : QF T T13 := QF.tr p4 (sq_X11_keepForUndo eT13)
  exact QF.tr p5 (sq_X11_moveSource_b33 _ _ _ _ _ h)
set_option maxHeartbeats 4000000 in
set_option maxRecDepth 100000 in
theorem sq_X11_setVelocity_b72 {e1 : Nat} {r1 : Int32} {T1 : AT} : ∀ (T : AT) (s0 : Nat), g_X11_setVelocity_b72 T s0 = some (e1, r1, T1) → QF T T1 := by
  intro T s0 h
  have p0 := QF.rf T
  unfold g_X11_setVelocity_b72 at h
  obtain ⟨g2, h⟩ := oif_some h
  obtain ⟨v3, -, h⟩ := elet_some h
  rw [← (osome3 h).2.2]
  exact p0
set_option maxHeartbeats 4000000 in
set_option maxRecDepth 100000 in
theorem sq_X11_setVelocity_b68 {e1 : Nat} {r1 : Int32} {T1 : AT} : ∀ (T : AT) (l0 : Nat), g_X11_setVelocity_b68 T l0 = some (e1, r1, T1) → QF T T1 := by
  intro T l0 h
  have p0 := QF.rf T
  unfold g_X11_setVelocity_b68 at h
  obtain ⟨g2, h⟩ := oif_some h
  obtain ⟨r4, T3, eT3, h⟩ := obind2_some h
  obtain ⟨g5, h⟩ := oif_some h
  have p1 : QF T T3 := QF.tr p0 (sq_X11_powersNow eT3)
  exact QF.tr p1 (sq_X11_setVelocity_b72 _ _ h)
set_option maxHeartbeats 4000000 in
set_option maxRecDepth 100000 in
theorem sq_X11_setVelocity_b33 {e1 : Nat} {r1 : Int32} {T1 : AT} : ∀ (T : AT) (l0 : Nat) (l1 : Int32) (l2 : Int32) (l3 : Int32), g_X11_setVelocity_b33 T l0 l1 l2 l3 = some (e1, r1, T1) → QF T T1 := by
  intro T l0 l1 l2 l3 h
  have p0 := QF.rf T
  unfold g_X11_setVelocity_b33 at h
  obtain ⟨g2, h⟩ := oif_some h
  obtain ⟨n3, en3, h⟩ := obind_some h
  obtain ⟨g4, h⟩ := oif_some h
  obtain ⟨n5, en5, h⟩ := obind_some h
  obtain ⟨g6, h⟩ := oif_some h
  obtain ⟨g7, h⟩ := oif_some h
  obtain ⟨T8, eT8, h⟩ := elet_some h
  have p1 : QF T T8 := QF.tr p0 (by rw [eT8]; first | exact qf_uO (oO_k g7).2 (by decide) | exact qf_uA (aA_k g6).2.1 (by decide))
  obtain ⟨g9, h⟩ := oif_some h
  obtain ⟨n10, en10, h⟩ := obind_some h
  obtain ⟨g11, h⟩ := oif_some h
  obtain ⟨n12, en12, h⟩ := obind_some h
  obtain ⟨g13, h⟩ := oif_some h
  obtain ⟨g14, h⟩ := oif_some h
  obtain ⟨T15, eT15, h⟩ := elet_some h
  have p2 : QF T T15 := QF.tr p1 (by rw [eT15]; first | exact qf_uO (oO_k g14).2 (by decide) | exact qf_uA (aA_k g13).2.1 (by decide))
  obtain ⟨g16, h⟩ := oif_some h
  obtain ⟨n17, en17, h⟩ := obind_some h
  obtain ⟨g18, h⟩ := oif_some h
  obtain ⟨n19, en19, h⟩ := obind_some h
  obtain ⟨g20, h⟩ := oif_some h
  obtain ⟨n21, en21, h⟩ := obind_some h
  obtain ⟨g22, h⟩ := oif_some h
  obtain ⟨T23, eT23, h⟩ := obind_some h
  have p3 : QF T T23 := QF.tr p2 (sq_X5_record eT23)
  exact QF.tr p3 (sq_X11_setVelocity_b68 _ _ h)
set_option maxHeartbeats 4000000 in
set_option maxRecDepth 100000 in
theorem sq_X11_setVelocity {T : AT} {o : Nat} {a0 : Int32} {a1 : Int32} {a2 : Int32} {e1 : Nat} {r1 : Int32} {T1 : AT} (h : g_X11_setVelocity T o a0 a1 a2 = some (e1, r1, T1)) : QF T T1 := by
  have p0 := QF.rf T
  unfold g_X11_setVelocity at h
  obtain ⟨g2, h⟩ := oif_some h
  rcases othr_s h with ⟨k9, r9, e9, -⟩ | ⟨r4, T3, eT3, h⟩
  · exact QF.tr p0 ((sq_X11_needCamera e9))
  have p1 : QF T T3 := QF.tr p0 ((sq_X11_needCamera eT3))
  obtain ⟨g5, h⟩ := oif_some h
  rcases othr_s h with ⟨k9, r9, e9, -⟩ | ⟨r7, T6, eT6, h⟩
  · exact QF.tr p1 ((sq_X11_needSource e9))
  have p2 : QF T T6 := QF.tr p1 ((sq_X11_needSource eT6))
  rcases othr_s h with ⟨k9, r9, e9, -⟩ | ⟨r9, T8, eT8, h⟩
  · exact QF.tr p2 ((sq_X11_needRange e9))
  have p3 : QF T T8 := QF.tr p2 ((sq_X11_needRange eT8))
  rcases othr_s h with ⟨k9, r9, e9, -⟩ | ⟨r11, T10, eT10, h⟩
  · exact QF.tr p3 ((sq_X11_needRange e9))
  have p4 : QF T T10 := QF.tr p3 ((sq_X11_needRange eT10))
  obtain ⟨g12, h⟩ := oif_some h
  obtain ⟨T13, eT13, h⟩ := obind_some h
  have p5 : QF T T13 := QF.tr p4 (sq_X11_keepForUndo eT13)
  exact QF.tr p5 (sq_X11_setVelocity_b33 _ _ _ _ _ h)
set_option maxHeartbeats 4000000 in
set_option maxRecDepth 100000 in
theorem sq_X11_clean_b58 {e1 : Nat} {r1 : Int32} {T1 : AT} : ∀ (T : AT) (l2 : Int32), g_X11_clean_b58 T l2 = some (e1, r1, T1) → QF T T1 := by
  intro T l2 h
  have p0 := QF.rf T
  unfold g_X11_clean_b58 at h
  rw [← (osome3 h).2.2]
  exact p0
set_option maxHeartbeats 4000000 in
set_option maxRecDepth 100000 in
theorem sq_X11_clean_b41 {e1 : Nat} {r1 : Int32} {T1 : AT} : ∀ (T : AT) (l0 : Nat) (l1 : Int32) (l2 : Int32), g_X11_clean_b41 T l0 l1 l2 = some (e1, r1, T1) → QF T T1 := by
  intro T l0 l1 l2 h
  have p0 := QF.rf T
  unfold g_X11_clean_b41 at h
  obtain ⟨g2, h⟩ := oif_some h
  obtain ⟨n3, en3, h⟩ := obind_some h
  obtain ⟨g4, h⟩ := oif_some h
  obtain ⟨n5, en5, h⟩ := obind_some h
  obtain ⟨g6, h⟩ := oif_some h
  obtain ⟨n7, en7, h⟩ := obind_some h
  obtain ⟨g8, h⟩ := oif_some h
  obtain ⟨g9, h⟩ := oif_some h
  obtain ⟨n10, en10, h⟩ := obind_some h
  obtain ⟨g11, h⟩ := oif_some h
  obtain ⟨T12, eT12, h⟩ := obind_some h
  have p1 : QF T T12 := QF.tr p0 (sq_X8_subtractBeam eT12)
  exact QF.tr p1 (sq_X11_clean_b58 _ _ h)
set_option maxHeartbeats 4000000 in
set_option maxRecDepth 100000 in
theorem sq_X11_clean_b33 {e1 : Nat} {r1 : Int32} {T1 : AT} : ∀ (T : AT) (s0 : Nat) (l0 : Nat) (l1 : Int32), g_X11_clean_b33 T s0 l0 l1 = some (e1, r1, T1) → QF T T1 := by
  intro T s0 l0 l1 h
  have p0 := QF.rf T
  unfold g_X11_clean_b33 at h
  obtain ⟨g2, h⟩ := oif_some h
  obtain ⟨v3, -, h⟩ := elet_some h
  obtain ⟨g4, h⟩ := oif_some h
  obtain ⟨T5, eT5, h⟩ := obind_some h
  have p1 : QF T T5 := QF.tr p0 (sq_X11_keepForUndo eT5)
  exact QF.tr p1 (sq_X11_clean_b41 _ _ _ _ h)
set_option maxHeartbeats 4000000 in
set_option maxRecDepth 100000 in
theorem sq_X11_clean {T : AT} {o : Nat} {a0 : Int32} {e1 : Nat} {r1 : Int32} {T1 : AT} (h : g_X11_clean T o a0 = some (e1, r1, T1)) : QF T T1 := by
  have p0 := QF.rf T
  unfold g_X11_clean at h
  obtain ⟨g2, h⟩ := oif_some h
  rcases othr_s h with ⟨k9, r9, e9, -⟩ | ⟨r4, T3, eT3, h⟩
  · exact QF.tr p0 ((sq_X11_needCamera e9))
  have p1 : QF T T3 := QF.tr p0 ((sq_X11_needCamera eT3))
  obtain ⟨g5, h⟩ := oif_some h
  obtain ⟨n6, en6, h⟩ := obind_some h
  obtain ⟨g7, h⟩ := oif_some h
  obtain ⟨r9, T8, eT8, h⟩ := obind2_some h
  have p2 : QF T T8 := QF.tr p1 ((sq_X8_activeWeight eT8))
  rcases oif_or h with ⟨c10, h⟩ | ⟨c10, h⟩
  · have h := h
    rw [← (osome3 h).2.2]
    exact p2
  · have h := h
    rcases othr_s h with ⟨k9, r9, e9, -⟩ | ⟨r12, T11, eT11, h⟩
    · exact QF.tr p2 ((sq_X11_needRange e9))
    have p3 : QF T T11 := QF.tr p2 ((sq_X11_needRange eT11))
    obtain ⟨g13, h⟩ := oif_some h
    obtain ⟨r15, T14, eT14, h⟩ := obind2_some h
    obtain ⟨g16, h⟩ := oif_some h
    have p4 : QF T T14 := QF.tr p3 (sq_X11_powersNow eT14)
    exact QF.tr p4 (sq_X11_clean_b33 _ _ _ _ h)
set_option maxHeartbeats 4000000 in
set_option maxRecDepth 100000 in
theorem sq_X11_cleaned {T : AT} {o : Nat} {e1 : Nat} {r1 : Int32} {T1 : AT} (h : g_X11_cleaned T o = some (e1, r1, T1)) : QF T T1 := by
  have p0 := QF.rf T
  unfold g_X11_cleaned at h
  obtain ⟨g2, h⟩ := oif_some h
  rcases othr_s h with ⟨k9, r9, e9, -⟩ | ⟨r4, T3, eT3, h⟩
  · exact QF.tr p0 (sq_X11_needCamera e9)
  have p1 : QF T T3 := QF.tr p0 (sq_X11_needCamera eT3)
  obtain ⟨g5, h⟩ := oif_some h
  obtain ⟨n6, en6, h⟩ := obind_some h
  obtain ⟨g7, h⟩ := oif_some h
  obtain ⟨v8, -, h⟩ := elet_some h
  rw [← (osome3 h).2.2]
  exact p1
set_option maxHeartbeats 4000000 in
set_option maxRecDepth 100000 in
theorem sq_X11_undo_b31 {e1 : Nat} {r1 : Int32} {T1 : AT} : ∀ (T : AT) (l0 : Nat), g_X11_undo_b31 T l0 = some (e1, r1, T1) → QF T T1 := by
  intro T l0 h
  have p0 := QF.rf T
  unfold g_X11_undo_b31 at h
  obtain ⟨g2, h⟩ := oif_some h
  obtain ⟨v3, -, h⟩ := elet_some h
  obtain ⟨v4, -, h⟩ := elet_some h
  obtain ⟨v5, -, h⟩ := elet_some h
  obtain ⟨v6, -, h⟩ := elet_some h
  obtain ⟨g7, h⟩ := oif_some h
  obtain ⟨T8, eT8, h⟩ := elet_some h
  have p1 : QF T T8 := QF.tr p0 (by rw [eT8]; first | exact qf_uO (oO_k g7).2 (by decide) | exact qf_uA (aA_k g2).2.1 (by decide))
  obtain ⟨g9, h⟩ := oif_some h
  obtain ⟨v10, -, h⟩ := elet_some h
  obtain ⟨v11, -, h⟩ := elet_some h
  obtain ⟨g12, h⟩ := oif_some h
  obtain ⟨T13, eT13, h⟩ := elet_some h
  have p2 : QF T T13 := QF.tr p1 (by rw [eT13]; first | exact qf_uO (oO_k g12).2 (by decide) | exact qf_uA (aA_k g9).2.1 (by decide))
  obtain ⟨g14, h⟩ := oif_some h
  obtain ⟨n15, en15, h⟩ := obind_some h
  obtain ⟨g16, h⟩ := oif_some h
  obtain ⟨T17, eT17, h⟩ := elet_some h
  have p3 : QF T T17 := QF.tr p2 (by rw [eT17]; first | exact qf_uO (oO_k g16).2 (by decide) | exact qf_uA (aA_k g14).2.1 (by decide))
  obtain ⟨g18, h⟩ := oif_some h
  obtain ⟨v19, -, h⟩ := elet_some h
  rw [← (osome3 h).2.2]
  exact p3
set_option maxHeartbeats 4000000 in
set_option maxRecDepth 100000 in
theorem sq_X11_undo {T : AT} {o : Nat} {e1 : Nat} {r1 : Int32} {T1 : AT} (h : g_X11_undo T o = some (e1, r1, T1)) : QF T T1 := by
  have p0 := QF.rf T
  unfold g_X11_undo at h
  obtain ⟨g2, h⟩ := oif_some h
  obtain ⟨v3, -, h⟩ := elet_some h
  rcases oif_or h with ⟨c4, h⟩ | ⟨c4, h⟩
  · have h := h
    rw [← (osome3 h).2.2]
    exact p0
  · have h := h
    obtain ⟨g5, h⟩ := oif_some h
    obtain ⟨n6, en6, h⟩ := obind_some h
    obtain ⟨g7, h⟩ := oif_some h
    obtain ⟨n8, en8, h⟩ := obind_some h
    obtain ⟨g9, h⟩ := oif_some h
    obtain ⟨v10, -, h⟩ := elet_some h
    obtain ⟨g11, h⟩ := oif_some h
    obtain ⟨g12, h⟩ := oif_some h
    obtain ⟨n13, en13, h⟩ := obind_some h
    obtain ⟨g14, h⟩ := oif_some h
    obtain ⟨T15, eT15, h⟩ := obind_some h
    have p1 : QF T T15 := QF.tr p0 (sq_X8_copyFrom eT15)
    exact QF.tr p1 (sq_X11_undo_b31 _ _ h)
set_option maxHeartbeats 4000000 in
set_option maxRecDepth 100000 in
theorem sq_X11_undoable {T : AT} {o : Nat} {r1 : Int32} {T1 : AT} (h : g_X11_undoable T o = some (r1, T1)) : QF T T1 := by
  have p0 := QF.rf T
  unfold g_X11_undoable at h
  obtain ⟨g2, h⟩ := oif_some h
  obtain ⟨v3, -, h⟩ := elet_some h
  rw [← (osome2 h).2]
  exact p0
set_option maxHeartbeats 4000000 in
set_option maxRecDepth 100000 in
theorem sq_X11_save_b33 {e1 : Nat} {r1 : Int32} {T1 : AT} : ∀ (T : AT) (s0 : Nat), g_X11_save_b33 T s0 = some (e1, r1, T1) → QF T T1 := by
  intro T s0 h
  have p0 := QF.rf T
  unfold g_X11_save_b33 at h
  obtain ⟨g2, h⟩ := oif_some h
  obtain ⟨v3, -, h⟩ := elet_some h
  rw [← (osome3 h).2.2]
  exact p0
set_option maxHeartbeats 4000000 in
set_option maxRecDepth 100000 in
theorem sq_X11_save_b22 {e1 : Nat} {r1 : Int32} {T1 : AT} : ∀ (T : AT) (l0 : Nat) (l1 : Int32), g_X11_save_b22 T l0 l1 = some (e1, r1, T1) → QF T T1 := by
  intro T l0 l1 h
  have p0 := QF.rf T
  unfold g_X11_save_b22 at h
  obtain ⟨g2, h⟩ := oif_some h
  obtain ⟨n3, en3, h⟩ := obind_some h
  obtain ⟨g4, h⟩ := oif_some h
  obtain ⟨g5, h⟩ := oif_some h
  obtain ⟨T6, eT6, h⟩ := elet_some h
  have p1 : QF T T6 := QF.tr p0 (by rw [eT6]; first | exact qf_uO (oO_k g5).2 (by decide) | exact qf_uA (aA_k g4).2.1 (by decide))
  obtain ⟨g7, h⟩ := oif_some h
  obtain ⟨r9, T8, eT8, h⟩ := obind2_some h
  obtain ⟨g10, h⟩ := oif_some h
  have p2 : QF T T8 := QF.tr p1 (sq_X11_powersNow eT8)
  exact QF.tr p2 (sq_X11_save_b33 _ _ h)
set_option maxHeartbeats 4000000 in
set_option maxRecDepth 100000 in
theorem sq_X11_save {T : AT} {o : Nat} {a0 : Int32} {e1 : Nat} {r1 : Int32} {T1 : AT} (h : g_X11_save T o a0 = some (e1, r1, T1)) : QF T T1 := by
  have p0 := QF.rf T
  unfold g_X11_save at h
  obtain ⟨g2, h⟩ := oif_some h
  rcases othr_s h with ⟨k9, r9, e9, -⟩ | ⟨r4, T3, eT3, h⟩
  · exact QF.tr p0 ((sq_X11_needCamera e9))
  have p1 : QF T T3 := QF.tr p0 ((sq_X11_needCamera eT3))
  rcases othr_s h with ⟨k9, r9, e9, -⟩ | ⟨r6, T5, eT5, h⟩
  · exact QF.tr p1 ((sq_X11_needIndex e9))
  have p2 : QF T T5 := QF.tr p1 ((sq_X11_needIndex eT5))
  obtain ⟨g7, h⟩ := oif_some h
  obtain ⟨n8, en8, h⟩ := obind_some h
  obtain ⟨g9, h⟩ := oif_some h
  obtain ⟨g10, h⟩ := oif_some h
  obtain ⟨n11, en11, h⟩ := obind_some h
  obtain ⟨g12, h⟩ := oif_some h
  obtain ⟨n13, en13, h⟩ := obind_some h
  obtain ⟨g14, h⟩ := oif_some h
  obtain ⟨T15, eT15, h⟩ := obind_some h
  have p3 : QF T T15 := QF.tr p2 (sq_X8_copyFrom eT15)
  exact QF.tr p3 (sq_X11_save_b22 _ _ _ h)
set_option maxHeartbeats 4000000 in
set_option maxRecDepth 100000 in
theorem sq_X11_restore_b52 {e1 : Nat} {r1 : Int32} {T1 : AT} : ∀ (T : AT) (s0 : Nat), g_X11_restore_b52 T s0 = some (e1, r1, T1) → QF T T1 := by
  intro T s0 h
  have p0 := QF.rf T
  unfold g_X11_restore_b52 at h
  obtain ⟨g2, h⟩ := oif_some h
  obtain ⟨v3, -, h⟩ := elet_some h
  rw [← (osome3 h).2.2]
  exact p0
set_option maxHeartbeats 4000000 in
set_option maxRecDepth 100000 in
theorem sq_X11_restore_b35 {e1 : Nat} {r1 : Int32} {T1 : AT} : ∀ (T : AT) (l0 : Nat), g_X11_restore_b35 T l0 = some (e1, r1, T1) → QF T T1 := by
  intro T l0 h
  have p0 := QF.rf T
  unfold g_X11_restore_b35 at h
  obtain ⟨g2, h⟩ := oif_some h
  obtain ⟨T3, eT3, h⟩ := elet_some h
  have p1 : QF T T3 := QF.tr p0 (by rw [eT3]; first | exact qf_uO (oO_k g2).2 (by decide) | exact qf_uA (aA_k g2).2.1 (by decide))
  obtain ⟨g4, h⟩ := oif_some h
  obtain ⟨n5, en5, h⟩ := obind_some h
  obtain ⟨g6, h⟩ := oif_some h
  obtain ⟨T7, eT7, h⟩ := elet_some h
  have p2 : QF T T7 := QF.tr p1 (by rw [eT7]; first | exact qf_uO (oO_k g6).2 (by decide) | exact qf_uA (aA_k g4).2.1 (by decide))
  obtain ⟨g8, h⟩ := oif_some h
  obtain ⟨r10, T9, eT9, h⟩ := obind2_some h
  obtain ⟨g11, h⟩ := oif_some h
  have p3 : QF T T9 := QF.tr p2 (sq_X11_powersNow eT9)
  exact QF.tr p3 (sq_X11_restore_b52 _ _ h)
set_option maxHeartbeats 4000000 in
set_option maxRecDepth 100000 in
theorem sq_X11_restore {T : AT} {o : Nat} {a0 : Int32} {e1 : Nat} {r1 : Int32} {T1 : AT} (h : g_X11_restore T o a0 = some (e1, r1, T1)) : QF T T1 := by
  have p0 := QF.rf T
  unfold g_X11_restore at h
  rcases othr_s h with ⟨k9, r9, e9, -⟩ | ⟨r3, T2, eT2, h⟩
  · exact QF.tr p0 ((sq_X11_needIndex e9))
  have p1 : QF T T2 := QF.tr p0 ((sq_X11_needIndex eT2))
  obtain ⟨g4, h⟩ := oif_some h
  obtain ⟨n5, en5, h⟩ := obind_some h
  obtain ⟨g6, h⟩ := oif_some h
  obtain ⟨g7, h⟩ := oif_some h
  obtain ⟨v8, -, h⟩ := elet_some h
  rcases oif_or h with ⟨c9, h⟩ | ⟨c9, h⟩
  · have h := h
    rw [← (osome3 h).2.2]
    exact p1
  · have h := h
    obtain ⟨g10, h⟩ := oif_some h
    obtain ⟨n11, en11, h⟩ := obind_some h
    obtain ⟨g12, h⟩ := oif_some h
    obtain ⟨n13, en13, h⟩ := obind_some h
    obtain ⟨g14, h⟩ := oif_some h
    obtain ⟨g15, h⟩ := oif_some h
    obtain ⟨n16, en16, h⟩ := obind_some h
    obtain ⟨g17, h⟩ := oif_some h
    obtain ⟨T18, eT18, h⟩ := obind_some h
    have p2 : QF T T18 := QF.tr p1 (sq_X8_copyFrom eT18)
    exact QF.tr p2 (sq_X11_restore_b35 _ _ h)
