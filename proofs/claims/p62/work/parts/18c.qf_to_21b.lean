section
/-! 18c.qf.lean.txt -/
/-- no Source's field changes -/
def QF (T T1 : AT) : Prop := GL T T1 ∧ ∀ n k, n < T.1 → T.2.1 n = (7, 0) → T1.2.2.1 n k = T.2.2.1 n k
theorem QF.rf (T : AT) : QF T T := ⟨GL.rf T, fun _ _ _ _ => rfl⟩
theorem QF.tr {T T1 T2 : AT} (h : QF T T1) (k : QF T1 T2) : QF T T2 := ⟨h.1.tr k.1, fun n j hn a => (k.2 n j (Nat.lt_of_lt_of_le hn h.1.1) (by rw [h.1.2.1 n hn]; exact a)).trans (h.2 n j hn a)⟩
theorem qf_uO {T : AT} {n k c : Nat} {v : Int32} (h : T.2.1 n = (c, 0)) (hc : c ≠ 7) : QF T (uI T n k v) := ⟨gl_sp sp_uI, fun m j _ a => by
  show va_up T.2.2.1 n _ m j = _
  rw [va_up_ne _ _ (fun e => by rw [e, h] at a; exact hc (congrArg Prod.fst a))]⟩
theorem qf_uA {T : AT} {n k c : Nat} {v : Int32} (h : (T.2.1 n).1 = c) (hc : c ≠ 7) : QF T (uI T n k v) := ⟨gl_sp sp_uI, fun m j _ a => by
  show va_up T.2.2.1 n _ m j = _
  rw [va_up_ne _ _ (fun e => by rw [e] at a; rw [a] at h; exact hc h.symm)]⟩
theorem qf_uJ {T : AT} {n k : Nat} {v : Int64} : QF T (uJ T n k v) := ⟨gl_sp sp_uJ, fun _ _ _ _ => rfl⟩
theorem qf_uC {T : AT} {a b k : Nat} : QF T (uC T a b k) := ⟨gl_sp sp_uC, fun _ _ _ _ => rfl⟩
theorem qf_uR {T : AT} {n k x : Nat} (hx : x < T.1) : QF T (uR T n k x) := ⟨gl_uR hx, fun _ _ _ _ => rfl⟩
theorem qf_newJ {T : AT} {K : Nat} : QF T (newJ T K) := ⟨gl_newJ, fun _ _ _ _ => rfl⟩
set_option maxHeartbeats 4000000 in
set_option maxRecDepth 100000 in
theorem sq_X10_narrow {T : AT} {o : Nat} {T1 : AT} (h : g_X10_narrow T o = some T1) : QF T T1 := by
  have p0 := QF.rf T
  unfold g_X10_narrow at h
  obtain ⟨g2, h⟩ := oif_some h
  obtain ⟨T3, eT3, h⟩ := elet_some h
  have p1 : QF T T3 := QF.tr p0 (by rw [eT3]; first | exact qf_uO (oO_k g2).2 (by decide) | exact qf_uA (aA_k g2).2.1 (by decide))
  rw [← osome1 h]
  exact p1
set_option maxHeartbeats 4000000 in
set_option maxRecDepth 100000 in
theorem sq_X1_cells {T : AT} {o : Nat} {r1 : Int32} {T1 : AT} (h : g_X1_cells T o = some (r1, T1)) : QF T T1 := by
  have p0 := QF.rf T
  unfold g_X1_cells at h
  obtain ⟨g2, h⟩ := oif_some h
  obtain ⟨v3, -, h⟩ := elet_some h
  obtain ⟨g4, h⟩ := oif_some h
  obtain ⟨v5, -, h⟩ := elet_some h
  obtain ⟨v6, -, h⟩ := elet_some h
  rw [← (osome2 h).2]
  exact p0
set_option maxHeartbeats 4000000 in
set_option maxRecDepth 100000 in
theorem sq_X8_greatestDelay_b29 {r1 : Int32} {T1 : AT} {k4 : AT → Nat → Nat → Int32 → Int32 → Option (Int32 × AT)} (hk4 : ∀ (T : AT) (l0 : Nat) (l1 : Nat) (l2 : Int32) (l3 : Int32), k4 T l0 l1 l2 l3 = some (r1, T1) → QF T T1) : ∀ (T : AT) (l0 : Nat) (l1 : Nat) (l2 : Int32) (l3 : Int32), g_X8_greatestDelay_b29 k4 T l0 l1 l2 l3 = some (r1, T1) → QF T T1 := by
  intro T l0 l1 l2 l3 h
  have p0 := QF.rf T
  unfold g_X8_greatestDelay_b29 at h
  obtain ⟨v2, ev2, h⟩ := elet_some h
  exact QF.tr p0 (hk4 _ _ _ _ _ h)
set_option maxHeartbeats 4000000 in
set_option maxRecDepth 100000 in
theorem sq_X8_greatestDelay_b4 {r1 : Int32} {T1 : AT} : ∀ n : Nat, ∀ (T : AT) (l0 : Nat) (l1 : Nat) (l2 : Int32) (l3 : Int32), g_X8_greatestDelay_b4 n T l0 l1 l2 l3 = some (r1, T1) → QF T T1 := by
  intro n
  induction n with
  | zero =>
    intro T l0 l1 l2 l3 h
    have h : (none : Option (Int32 × AT)) = some (r1, T1) := h
    cases h
  | succ n ih =>
    intro T l0 l1 l2 l3 h
    have p0 := QF.rf T
    unfold g_X8_greatestDelay_b4 at h
    obtain ⟨g2, h⟩ := oif_some h
    obtain ⟨v3, -, h⟩ := elet_some h
    rcases oif_or h with ⟨c4, h⟩ | ⟨c4, h⟩
    · have h := h
      rw [← (osome2 h).2]
      exact p0
    · have h := h
      obtain ⟨g5, h⟩ := oif_some h
      obtain ⟨n6, en6, h⟩ := obind_some h
      obtain ⟨g7, h⟩ := oif_some h
      obtain ⟨g8, h⟩ := oif_some h
      obtain ⟨v9, -, h⟩ := elet_some h
      rcases oif_or h with ⟨c10, h⟩ | ⟨c10, h⟩
      · have h := h
        obtain ⟨g11, h⟩ := oif_some h
        obtain ⟨g12, h⟩ := oif_some h
        obtain ⟨v13, -, h⟩ := elet_some h
        obtain ⟨v14, -, h⟩ := elet_some h
        exact QF.tr p0 (sq_X8_greatestDelay_b29 ih _ _ _ _ _ h)
      · have h := h
        exact QF.tr p0 (sq_X8_greatestDelay_b29 ih _ _ _ _ _ h)
set_option maxHeartbeats 4000000 in
set_option maxRecDepth 100000 in
theorem sq_X8_greatestDelay {T : AT} {o : Nat} {a0 : Nat} {r1 : Int32} {T1 : AT} (h : g_X8_greatestDelay T o a0 = some (r1, T1)) : QF T T1 := by
  have p0 := QF.rf T
  unfold g_X8_greatestDelay at h
  exact QF.tr p0 (sq_X8_greatestDelay_b4 _ _ _ _ _ _ h)
set_option maxHeartbeats 4000000 in
set_option maxRecDepth 100000 in
theorem sq_X8_windowOf {T : AT} {o : Nat} {a0 : Nat} {r1 : Int32} {T1 : AT} (h : g_X8_windowOf T o a0 = some (r1, T1)) : QF T T1 := by
  have p0 := QF.rf T
  unfold g_X8_windowOf at h
  obtain ⟨g2, h⟩ := oif_some h
  obtain ⟨v3, -, h⟩ := elet_some h
  obtain ⟨g4, h⟩ := oif_some h
  obtain ⟨r6, T5, eT5, h⟩ := obind2_some h
  have p1 : QF T T5 := QF.tr p0 (sq_X8_greatestDelay eT5)
  obtain ⟨v7, -, h⟩ := elet_some h
  obtain ⟨v8, -, h⟩ := elet_some h
  rw [← (osome2 h).2]
  exact p1
set_option maxHeartbeats 4000000 in
set_option maxRecDepth 100000 in
theorem sq_X10_clear_b2 {T1 : AT} : ∀ n : Nat, ∀ (T : AT) (l0 : Nat) (l1 : Int32) (l2 : Int32), g_X10_clear_b2 n T l0 l1 l2 = some T1 → QF T T1 := by
  intro n
  induction n with
  | zero =>
    intro T l0 l1 l2 h
    have h : (none : Option (AT)) = some T1 := h
    cases h
  | succ n ih =>
    intro T l0 l1 l2 h
    have p0 := QF.rf T
    unfold g_X10_clear_b2 at h
    obtain ⟨g2, h⟩ := oif_some h
    obtain ⟨v3, -, h⟩ := elet_some h
    rcases oif_or h with ⟨c4, h⟩ | ⟨c4, h⟩
    · have h := h
      rw [← osome1 h]
      exact p0
    · have h := h
      obtain ⟨g5, h⟩ := oif_some h
      obtain ⟨n6, en6, h⟩ := obind_some h
      obtain ⟨g7, h⟩ := oif_some h
      obtain ⟨g8, h⟩ := oif_some h
      obtain ⟨n9, en9, h⟩ := obind_some h
      obtain ⟨g10, h⟩ := oif_some h
      obtain ⟨g11, h⟩ := oif_some h
      obtain ⟨T12, eT12, h⟩ := elet_some h
      have p1 : QF T T12 := QF.tr p0 (by rw [eT12]; exact qf_uJ)
      obtain ⟨v13, ev13, h⟩ := elet_some h
      exact QF.tr p1 (ih _ _ _ _ h)
set_option maxHeartbeats 4000000 in
set_option maxRecDepth 100000 in
theorem sq_X10_clear {T : AT} {o : Nat} {a0 : Int32} {T1 : AT} (h : g_X10_clear T o a0 = some T1) : QF T T1 := by
  have p0 := QF.rf T
  unfold g_X10_clear at h
  exact QF.tr p0 (sq_X10_clear_b2 _ _ _ _ _ h)
set_option maxHeartbeats 4000000 in
set_option maxRecDepth 100000 in
theorem sq_X10_widenTo_b108 {T1 : AT} : ∀ (T : AT), g_X10_widenTo_b108 T = some T1 → QF T T1 := by
  intro T h
  have p0 := QF.rf T
  unfold g_X10_widenTo_b108 at h
  rw [← osome1 h]
  exact p0
set_option maxHeartbeats 4000000 in
set_option maxRecDepth 100000 in
theorem sq_X10_widenTo_b40 {T1 : AT} {k5 : AT → Nat → Int32 → Int32 → Option (AT)} (hk5 : ∀ (T : AT) (l0 : Nat) (l1 : Int32) (l2 : Int32), k5 T l0 l1 l2 = some T1 → QF T T1) : ∀ n : Nat, ∀ (T : AT) (l0 : Nat) (l1 : Int32) (l2 : Int32) (l3 : Int32), g_X10_widenTo_b40 k5 n T l0 l1 l2 l3 = some T1 → QF T T1 := by
  intro n
  induction n with
  | zero =>
    intro T l0 l1 l2 l3 h
    have h : (none : Option (AT)) = some T1 := h
    cases h
  | succ n ih =>
    intro T l0 l1 l2 l3 h
    have p0 := QF.rf T
    unfold g_X10_widenTo_b40 at h
    obtain ⟨g2, h⟩ := oif_some h
    obtain ⟨v3, -, h⟩ := elet_some h
    rcases oif_or h with ⟨c4, h⟩ | ⟨c4, h⟩
    · have h := h
      obtain ⟨v5, -, h⟩ := elet_some h
      obtain ⟨g6, h⟩ := oif_some h
      obtain ⟨T7, eT7, h⟩ := elet_some h
      have p1 : QF T T7 := QF.tr p0 (by rw [eT7]; first | exact qf_uO (oO_k g6).2 (by decide) | exact qf_uA (aA_k g2).2.1 (by decide))
      obtain ⟨v8, ev8, h⟩ := elet_some h
      exact QF.tr p1 (hk5 _ _ _ _ h)
    · have h := h
      obtain ⟨g9, h⟩ := oif_some h
      obtain ⟨n10, en10, h⟩ := obind_some h
      obtain ⟨v11, -, h⟩ := elet_some h
      obtain ⟨g12, h⟩ := oif_some h
      obtain ⟨g13, h⟩ := oif_some h
      obtain ⟨n14, en14, h⟩ := obind_some h
      obtain ⟨g15, h⟩ := oif_some h
      obtain ⟨g16, h⟩ := oif_some h
      obtain ⟨v17, -, h⟩ := elet_some h
      obtain ⟨g18, h⟩ := oif_some h
      obtain ⟨n19, en19, h⟩ := obind_some h
      obtain ⟨v20, -, h⟩ := elet_some h
      obtain ⟨g21, h⟩ := oif_some h
      obtain ⟨g22, h⟩ := oif_some h
      obtain ⟨n23, en23, h⟩ := obind_some h
      obtain ⟨v24, -, h⟩ := elet_some h
      obtain ⟨g25, h⟩ := oif_some h
      obtain ⟨g26, h⟩ := oif_some h
      obtain ⟨T27, eT27, h⟩ := elet_some h
      have p1 : QF T T27 := QF.tr p0 (by rw [eT27]; exact qf_uJ)
      obtain ⟨g28, h⟩ := oif_some h
      obtain ⟨n29, en29, h⟩ := obind_some h
      obtain ⟨g30, h⟩ := oif_some h
      obtain ⟨g31, h⟩ := oif_some h
      obtain ⟨n32, en32, h⟩ := obind_some h
      obtain ⟨v33, -, h⟩ := elet_some h
      obtain ⟨g34, h⟩ := oif_some h
      obtain ⟨g35, h⟩ := oif_some h
      obtain ⟨T36, eT36, h⟩ := elet_some h
      have p2 : QF T T36 := QF.tr p1 (by rw [eT36]; exact qf_uJ)
      obtain ⟨v37, ev37, h⟩ := elet_some h
      exact QF.tr p2 (ih _ _ _ _ _ h)
set_option maxHeartbeats 4000000 in
set_option maxRecDepth 100000 in
theorem sq_X10_widenTo_b38 {T1 : AT} {k5 : AT → Nat → Int32 → Int32 → Option (AT)} (hk5 : ∀ (T : AT) (l0 : Nat) (l1 : Int32) (l2 : Int32), k5 T l0 l1 l2 = some T1 → QF T T1) : ∀ (T : AT) (l0 : Nat) (l1 : Int32) (l2 : Int32), g_X10_widenTo_b38 k5 T l0 l1 l2 = some T1 → QF T T1 := by
  intro T l0 l1 l2 h
  have p0 := QF.rf T
  unfold g_X10_widenTo_b38 at h
  exact QF.tr p0 (sq_X10_widenTo_b40 hk5 _ _ _ _ _ _ h)
set_option maxHeartbeats 4000000 in
set_option maxRecDepth 100000 in
theorem sq_X10_widenTo_b37 {T1 : AT} {k5 : AT → Nat → Int32 → Int32 → Option (AT)} (hk5 : ∀ (T : AT) (l0 : Nat) (l1 : Int32) (l2 : Int32), k5 T l0 l1 l2 = some T1 → QF T T1) : ∀ (T : AT) (s0 : Nat) (s1 : Int32) (s2 : Nat) (l0 : Nat) (l1 : Int32) (l2 : Int32), g_X10_widenTo_b37 k5 T s0 s1 s2 l0 l1 l2 = some T1 → QF T T1 := by
  intro T s0 s1 s2 l0 l1 l2 h
  have p0 := QF.rf T
  unfold g_X10_widenTo_b37 at h
  obtain ⟨g2, h⟩ := oif_some h
  obtain ⟨g3, h⟩ := oif_some h
  obtain ⟨g4, h⟩ := oif_some h
  obtain ⟨T5, eT5, h⟩ := elet_some h
  have p1 : QF T T5 := QF.tr p0 (by rw [eT5]; exact qf_uR (aA_k g4).1)
  exact QF.tr p1 (sq_X10_widenTo_b38 hk5 _ _ _ _ h)
set_option maxHeartbeats 4000000 in
set_option maxRecDepth 100000 in
theorem sq_X10_widenTo_b5 {T1 : AT} : ∀ n : Nat, ∀ (T : AT) (l0 : Nat) (l1 : Int32) (l2 : Int32), g_X10_widenTo_b5 n T l0 l1 l2 = some T1 → QF T T1 := by
  intro n
  induction n with
  | zero =>
    intro T l0 l1 l2 h
    have h : (none : Option (AT)) = some T1 := h
    cases h
  | succ n ih =>
    intro T l0 l1 l2 h
    have p0 := QF.rf T
    unfold g_X10_widenTo_b5 at h
    rcases oif_or h with ⟨c2, h⟩ | ⟨c2, h⟩
    · have h := h
      exact QF.tr p0 (sq_X10_widenTo_b108 _ h)
    · have h := h
      rcases oif_or h with ⟨c3, h⟩ | ⟨c3, h⟩
      · have h := h
        exact QF.tr p0 (sq_X10_widenTo_b108 _ h)
      · have h := h
        obtain ⟨g4, h⟩ := oif_some h
        obtain ⟨n5, en5, h⟩ := obind_some h
        obtain ⟨g6, h⟩ := oif_some h
        obtain ⟨g7, h⟩ := oif_some h
        obtain ⟨n8, en8, h⟩ := obind_some h
        obtain ⟨g9, h⟩ := oif_some h
        obtain ⟨v10, -, h⟩ := elet_some h
        rcases oif_or h with ⟨c11, h⟩ | ⟨c11, h⟩
        · have h := h
          obtain ⟨g12, h⟩ := oif_some h
          obtain ⟨n13, en13, h⟩ := obind_some h
          obtain ⟨g14, h⟩ := oif_some h
          obtain ⟨v15, -, h⟩ := elet_some h
          obtain ⟨g16, h⟩ := oif_some h
          obtain ⟨T17, eT17, h⟩ := elet_some h
          have p1 : QF T T17 := QF.tr p0 (by rw [eT17]; exact qf_newJ)
          exact QF.tr p1 (sq_X10_widenTo_b37 ih _ _ _ _ _ _ _ h)
        · have h := h
          exact QF.tr p0 (sq_X10_widenTo_b38 ih _ _ _ _ h)
set_option maxHeartbeats 4000000 in
set_option maxRecDepth 100000 in
theorem sq_X10_widenTo {T : AT} {o : Nat} {a0 : Int32} {T1 : AT} (h : g_X10_widenTo T o a0 = some T1) : QF T T1 := by
  have p0 := QF.rf T
  unfold g_X10_widenTo at h
  obtain ⟨g2, h⟩ := oif_some h
  obtain ⟨v3, -, h⟩ := elet_some h
  exact QF.tr p0 (sq_X10_widenTo_b5 _ _ _ _ _ h)
set_option maxHeartbeats 4000000 in
set_option maxRecDepth 100000 in
theorem sq_X10_settle_b99 {T1 : AT} : ∀ (T : AT), g_X10_settle_b99 T = some T1 → QF T T1 := by
  intro T h
  have p0 := QF.rf T
  unfold g_X10_settle_b99 at h
  rw [← osome1 h]
  exact p0
set_option maxHeartbeats 4000000 in
set_option maxRecDepth 100000 in
theorem sq_X10_settle_b93 {T1 : AT} {k64 : AT → Nat → Int32 → Int32 → Option (AT)} (hk64 : ∀ (T : AT) (l0 : Nat) (l1 : Int32) (l2 : Int32), k64 T l0 l1 l2 = some T1 → QF T T1) : ∀ (T : AT) (l0 : Nat) (l1 : Int32) (l2 : Int32), g_X10_settle_b93 k64 T l0 l1 l2 = some T1 → QF T T1 := by
  intro T l0 l1 l2 h
  have p0 := QF.rf T
  unfold g_X10_settle_b93 at h
  obtain ⟨v2, ev2, h⟩ := elet_some h
  exact QF.tr p0 (hk64 _ _ _ _ h)
set_option maxHeartbeats 4000000 in
set_option maxRecDepth 100000 in
theorem sq_X10_settle_b64 {T1 : AT} : ∀ n : Nat, ∀ (T : AT) (l0 : Nat) (l1 : Int32) (l2 : Int32), g_X10_settle_b64 n T l0 l1 l2 = some T1 → QF T T1 := by
  intro n
  induction n with
  | zero =>
    intro T l0 l1 l2 h
    have h : (none : Option (AT)) = some T1 := h
    cases h
  | succ n ih =>
    intro T l0 l1 l2 h
    have p0 := QF.rf T
    unfold g_X10_settle_b64 at h
    obtain ⟨v2, -, h⟩ := elet_some h
    rcases oif_or h with ⟨c3, h⟩ | ⟨c3, h⟩
    · have h := h
      exact QF.tr p0 (sq_X10_settle_b99 _ h)
    · have h := h
      obtain ⟨g4, h⟩ := oif_some h
      obtain ⟨n5, en5, h⟩ := obind_some h
      obtain ⟨g6, h⟩ := oif_some h
      obtain ⟨g7, h⟩ := oif_some h
      obtain ⟨n8, en8, h⟩ := obind_some h
      obtain ⟨g9, h⟩ := oif_some h
      obtain ⟨g10, h⟩ := oif_some h
      obtain ⟨v11, -, h⟩ := elet_some h
      obtain ⟨r12, -, h⟩ := obind_some h
      rcases oif_or h with ⟨c13, h⟩ | ⟨c13, h⟩
      · have h := h
        exact QF.tr p0 (sq_X10_settle_b99 _ h)
      · have h := h
        obtain ⟨v14, -, h⟩ := elet_some h
        obtain ⟨g15, h⟩ := oif_some h
        obtain ⟨T16, eT16, h⟩ := obind_some h
        have p1 : QF T T16 := QF.tr p0 (sq_X10_widenTo eT16)
        exact QF.tr p1 (sq_X10_settle_b93 ih _ _ _ _ h)
set_option maxHeartbeats 4000000 in
set_option maxRecDepth 100000 in
theorem sq_X10_settle_b2 {T1 : AT} : ∀ n : Nat, ∀ (T : AT) (l0 : Nat) (l1 : Int32) (l2 : Int32), g_X10_settle_b2 n T l0 l1 l2 = some T1 → QF T T1 := by
  intro n
  induction n with
  | zero =>
    intro T l0 l1 l2 h
    have h : (none : Option (AT)) = some T1 := h
    cases h
  | succ n ih =>
    intro T l0 l1 l2 h
    have p0 := QF.rf T
    unfold g_X10_settle_b2 at h
    obtain ⟨v2, -, h⟩ := elet_some h
    obtain ⟨g3, h⟩ := oif_some h
    obtain ⟨v4, -, h⟩ := elet_some h
    rcases oif_or h with ⟨c5, h⟩ | ⟨c5, h⟩
    · have h := h
      obtain ⟨g6, h⟩ := oif_some h
      obtain ⟨v7, -, h⟩ := elet_some h
      obtain ⟨v8, -, h⟩ := elet_some h
      exact QF.tr p0 (sq_X10_settle_b64 _ _ _ _ _ h)
    · have h := h
      obtain ⟨g9, h⟩ := oif_some h
      obtain ⟨n10, en10, h⟩ := obind_some h
      obtain ⟨g11, h⟩ := oif_some h
      obtain ⟨g12, h⟩ := oif_some h
      obtain ⟨n13, en13, h⟩ := obind_some h
      obtain ⟨g14, h⟩ := oif_some h
      obtain ⟨g15, h⟩ := oif_some h
      obtain ⟨v16, -, h⟩ := elet_some h
      obtain ⟨g17, h⟩ := oif_some h
      obtain ⟨n18, en18, h⟩ := obind_some h
      obtain ⟨g19, h⟩ := oif_some h
      obtain ⟨g20, h⟩ := oif_some h
      obtain ⟨n21, en21, h⟩ := obind_some h
      obtain ⟨v22, -, h⟩ := elet_some h
      obtain ⟨g23, h⟩ := oif_some h
      obtain ⟨g24, h⟩ := oif_some h
      obtain ⟨T25, eT25, h⟩ := elet_some h
      have p1 : QF T T25 := QF.tr p0 (by rw [eT25]; exact qf_uJ)
      obtain ⟨g26, h⟩ := oif_some h
      obtain ⟨n27, en27, h⟩ := obind_some h
      obtain ⟨v28, -, h⟩ := elet_some h
      obtain ⟨g29, h⟩ := oif_some h
      obtain ⟨g30, h⟩ := oif_some h
      obtain ⟨n31, en31, h⟩ := obind_some h
      obtain ⟨g32, h⟩ := oif_some h
      obtain ⟨g33, h⟩ := oif_some h
      obtain ⟨v34, -, h⟩ := elet_some h
      obtain ⟨v35, -, h⟩ := elet_some h
      obtain ⟨v36, -, h⟩ := elet_some h
      obtain ⟨g37, h⟩ := oif_some h
      obtain ⟨g38, h⟩ := oif_some h
      obtain ⟨T39, eT39, h⟩ := elet_some h
      have p2 : QF T T39 := QF.tr p1 (by rw [eT39]; exact qf_uJ)
      obtain ⟨v40, ev40, h⟩ := elet_some h
      exact QF.tr p2 (ih _ _ _ _ h)
set_option maxHeartbeats 4000000 in
set_option maxRecDepth 100000 in
theorem sq_X10_settle {T : AT} {o : Nat} {a0 : Int32} {T1 : AT} (h : g_X10_settle T o a0 = some T1) : QF T T1 := by
  have p0 := QF.rf T
  unfold g_X10_settle at h
  exact QF.tr p0 (sq_X10_settle_b2 _ _ _ _ _ h)
set_option maxHeartbeats 4000000 in
set_option maxRecDepth 100000 in
theorem sq_X10_divide_b121 {T1 : AT} : ∀ (T : AT), g_X10_divide_b121 T = some T1 → QF T T1 := by
  intro T h
  have p0 := QF.rf T
  unfold g_X10_divide_b121 at h
  rw [← osome1 h]
  exact p0
set_option maxHeartbeats 4000000 in
set_option maxRecDepth 100000 in
theorem sq_X10_divide_b40 {T1 : AT} : ∀ n : Nat, ∀ (T : AT) (l0 : Nat) (l1 : Int32) (l2 : Int32) (l3 : Int32) (l4 : Int64) (l6 : Int32), g_X10_divide_b40 n T l0 l1 l2 l3 l4 l6 = some T1 → QF T T1 := by
  intro n
  induction n with
  | zero =>
    intro T l0 l1 l2 l3 l4 l6 h
    have h : (none : Option (AT)) = some T1 := h
    cases h
  | succ n ih =>
    intro T l0 l1 l2 l3 l4 l6 h
    have p0 := QF.rf T
    unfold g_X10_divide_b40 at h
    rcases oif_or h with ⟨c2, h⟩ | ⟨c2, h⟩
    · have h := h
      rcases oif_or h with ⟨c3, h⟩ | ⟨c3, h⟩
      · have h := h
        exact QF.tr p0 (sq_X10_divide_b121 _ h)
      · have h := h
        obtain ⟨v4, -, h⟩ := elet_some h
        rcases oif_or h with ⟨c5, h⟩ | ⟨c5, h⟩
        · have h := h
          exact QF.tr p0 (sq_X10_divide_b121 _ h)
        · have h := h
          obtain ⟨g6, h⟩ := oif_some h
          obtain ⟨n7, en7, h⟩ := obind_some h
          obtain ⟨g8, h⟩ := oif_some h
          obtain ⟨g9, h⟩ := oif_some h
          obtain ⟨n10, en10, h⟩ := obind_some h
          obtain ⟨g11, h⟩ := oif_some h
          obtain ⟨g12, h⟩ := oif_some h
          obtain ⟨v13, -, h⟩ := elet_some h
          obtain ⟨v14, -, h⟩ := elet_some h
          obtain ⟨g15, h⟩ := oif_some h
          obtain ⟨g16, h⟩ := oif_some h
          obtain ⟨T17, eT17, h⟩ := elet_some h
          have p1 : QF T T17 := QF.tr p0 (by rw [eT17]; exact qf_uJ)
          obtain ⟨g18, h⟩ := oif_some h
          obtain ⟨T19, eT19, h⟩ := obind_some h
          have p2 : QF T T19 := QF.tr p1 (sq_X10_settle eT19)
          exact QF.tr p2 (sq_X10_divide_b121 _ h)
    · have h := h
      obtain ⟨v21, -, h⟩ := elet_some h
      obtain ⟨g22, h⟩ := oif_some h
      obtain ⟨n23, en23, h⟩ := obind_some h
      obtain ⟨g24, h⟩ := oif_some h
      obtain ⟨g25, h⟩ := oif_some h
      obtain ⟨n26, en26, h⟩ := obind_some h
      obtain ⟨g27, h⟩ := oif_some h
      obtain ⟨g28, h⟩ := oif_some h
      obtain ⟨v29, -, h⟩ := elet_some h
      obtain ⟨v30, -, h⟩ := elet_some h
      obtain ⟨g31, h⟩ := oif_some h
      obtain ⟨n32, en32, h⟩ := obind_some h
      obtain ⟨g33, h⟩ := oif_some h
      obtain ⟨g34, h⟩ := oif_some h
      obtain ⟨n35, en35, h⟩ := obind_some h
      obtain ⟨v36, -, h⟩ := elet_some h
      obtain ⟨r37, -, h⟩ := obind_some h
      obtain ⟨g38, h⟩ := oif_some h
      obtain ⟨g39, h⟩ := oif_some h
      obtain ⟨T40, eT40, h⟩ := elet_some h
      have p1 : QF T T40 := QF.tr p0 (by rw [eT40]; exact qf_uJ)
      obtain ⟨v41, -, h⟩ := elet_some h
      obtain ⟨r42, -, h⟩ := obind_some h
      obtain ⟨v43, ev43, h⟩ := elet_some h
      exact QF.tr p1 (ih _ _ _ _ _ _ _ h)
set_option maxHeartbeats 4000000 in
set_option maxRecDepth 100000 in
theorem sq_X10_divide_b28 {T1 : AT} : ∀ (T : AT) (s0 : Int32) (l0 : Nat) (l1 : Int32) (l2 : Int32), g_X10_divide_b28 T s0 l0 l1 l2 = some T1 → QF T T1 := by
  intro T s0 l0 l1 l2 h
  have p0 := QF.rf T
  unfold g_X10_divide_b28 at h
  obtain ⟨g2, h⟩ := oif_some h
  obtain ⟨v3, -, h⟩ := elet_some h
  obtain ⟨v4, -, h⟩ := elet_some h
  exact QF.tr p0 (sq_X10_divide_b40 _ _ _ _ _ _ _ _ h)
set_option maxHeartbeats 4000000 in
set_option maxRecDepth 100000 in
theorem sq_X10_divide {T : AT} {o : Nat} {a0 : Int32} {a1 : Int32} {T1 : AT} (h : g_X10_divide T o a0 a1 = some T1) : QF T T1 := by
  have p0 := QF.rf T
  unfold g_X10_divide at h
  rcases oif_or h with ⟨c2, h⟩ | ⟨c2, h⟩
  · have h := h
    obtain ⟨g3, h⟩ := oif_some h
    obtain ⟨n4, en4, h⟩ := obind_some h
    obtain ⟨g5, h⟩ := oif_some h
    obtain ⟨v6, -, h⟩ := elet_some h
    obtain ⟨v7, -, h⟩ := elet_some h
    obtain ⟨g8, h⟩ := oif_some h
    obtain ⟨g9, h⟩ := oif_some h
    obtain ⟨n10, en10, h⟩ := obind_some h
    obtain ⟨g11, h⟩ := oif_some h
    obtain ⟨g12, h⟩ := oif_some h
    obtain ⟨v13, -, h⟩ := elet_some h
    obtain ⟨v14, -, h⟩ := elet_some h
    rcases oif_or h with ⟨c15, h⟩ | ⟨c15, h⟩
    · have h := h
      exact QF.tr p0 (sq_X10_divide_b28 _ _ _ _ _ h)
    · have h := h
      exact QF.tr p0 (sq_X10_divide_b28 _ _ _ _ _ h)
  · have h := h
    rw [← osome1 h]
    exact p0
set_option maxHeartbeats 4000000 in
set_option maxRecDepth 100000 in
theorem sq_X8_weighted_b70 {r1 : Int64} {T1 : AT} {k6 : AT → Nat → Nat → Nat → Int32 → Int64 → Int32 → Option (Int64 × AT)} (hk6 : ∀ (T : AT) (l0 : Nat) (l1 : Nat) (l2 : Nat) (l3 : Int32) (l4 : Int64) (l6 : Int32), k6 T l0 l1 l2 l3 l4 l6 = some (r1, T1) → QF T T1) : ∀ (T : AT) (l0 : Nat) (l1 : Nat) (l2 : Nat) (l3 : Int32) (l4 : Int64) (l6 : Int32), g_X8_weighted_b70 k6 T l0 l1 l2 l3 l4 l6 = some (r1, T1) → QF T T1 := by
  intro T l0 l1 l2 l3 l4 l6 h
  have p0 := QF.rf T
  unfold g_X8_weighted_b70 at h
  obtain ⟨v2, ev2, h⟩ := elet_some h
  exact QF.tr p0 (hk6 _ _ _ _ _ _ _ h)
set_option maxHeartbeats 4000000 in
set_option maxRecDepth 100000 in
theorem sq_X8_weighted_b6 {r1 : Int64} {T1 : AT} : ∀ n : Nat, ∀ (T : AT) (l0 : Nat) (l1 : Nat) (l2 : Nat) (l3 : Int32) (l4 : Int64) (l6 : Int32), g_X8_weighted_b6 n T l0 l1 l2 l3 l4 l6 = some (r1, T1) → QF T T1 := by
  intro n
  induction n with
  | zero =>
    intro T l0 l1 l2 l3 l4 l6 h
    have h : (none : Option (Int64 × AT)) = some (r1, T1) := h
    cases h
  | succ n ih =>
    intro T l0 l1 l2 l3 l4 l6 h
    have p0 := QF.rf T
    unfold g_X8_weighted_b6 at h
    obtain ⟨g2, h⟩ := oif_some h
    obtain ⟨v3, -, h⟩ := elet_some h
    rcases oif_or h with ⟨c4, h⟩ | ⟨c4, h⟩
    · have h := h
      rw [← (osome2 h).2]
      exact p0
    · have h := h
      obtain ⟨g5, h⟩ := oif_some h
      obtain ⟨g6, h⟩ := oif_some h
      obtain ⟨v7, -, h⟩ := elet_some h
      obtain ⟨v8, -, h⟩ := elet_some h
      obtain ⟨g9, h⟩ := oif_some h
      obtain ⟨n10, en10, h⟩ := obind_some h
      obtain ⟨g11, h⟩ := oif_some h
      obtain ⟨g12, h⟩ := oif_some h
      obtain ⟨v13, -, h⟩ := elet_some h
      rcases oif_or h with ⟨c14, h⟩ | ⟨c14, h⟩
      · have h := h
        rcases oif_or h with ⟨c15, h⟩ | ⟨c15, h⟩
        · have h := h
          exact QF.tr p0 (sq_X8_weighted_b70 ih _ _ _ _ _ _ _ h)
        · have h := h
          obtain ⟨g16, h⟩ := oif_some h
          obtain ⟨v17, -, h⟩ := elet_some h
          rcases oif_or h with ⟨c18, h⟩ | ⟨c18, h⟩
          · have h := h
            exact QF.tr p0 (sq_X8_weighted_b70 ih _ _ _ _ _ _ _ h)
          · have h := h
            obtain ⟨g19, h⟩ := oif_some h
            obtain ⟨n20, en20, h⟩ := obind_some h
            obtain ⟨g21, h⟩ := oif_some h
            obtain ⟨g22, h⟩ := oif_some h
            obtain ⟨v23, -, h⟩ := elet_some h
            obtain ⟨v24, -, h⟩ := elet_some h
            obtain ⟨r25, -, h⟩ := obind_some h
            obtain ⟨g26, h⟩ := oif_some h
            obtain ⟨g27, h⟩ := oif_some h
            obtain ⟨v28, -, h⟩ := elet_some h
            obtain ⟨v29, -, h⟩ := elet_some h
            obtain ⟨v30, -, h⟩ := elet_some h
            exact QF.tr p0 (sq_X8_weighted_b70 ih _ _ _ _ _ _ _ h)
      · have h := h
        exact QF.tr p0 (sq_X8_weighted_b70 ih _ _ _ _ _ _ _ h)
set_option maxHeartbeats 4000000 in
set_option maxRecDepth 100000 in
theorem sq_X8_weighted {T : AT} {o : Nat} {a0 : Nat} {a1 : Nat} {a2 : Int32} {r1 : Int64} {T1 : AT} (h : g_X8_weighted T o a0 a1 a2 = some (r1, T1)) : QF T T1 := by
  have p0 := QF.rf T
  unfold g_X8_weighted at h
  exact QF.tr p0 (sq_X8_weighted_b6 _ _ _ _ _ _ _ _ h)
set_option maxHeartbeats 4000000 in
set_option maxRecDepth 100000 in
theorem sq_X8_focus_b74 {T1 : AT} : ∀ (T : AT), g_X8_focus_b74 T = some T1 → QF T T1 := by
  intro T h
  have p0 := QF.rf T
  unfold g_X8_focus_b74 at h
  rw [← osome1 h]
  exact p0
set_option maxHeartbeats 4000000 in
set_option maxRecDepth 100000 in
theorem sq_X8_focus_b23 {T1 : AT} : ∀ n : Nat, ∀ (T : AT) (l0 : Nat) (l1 : Nat) (l2 : Int32) (l3 : Int32), g_X8_focus_b23 n T l0 l1 l2 l3 = some T1 → QF T T1 := by
  intro n
  induction n with
  | zero =>
    intro T l0 l1 l2 l3 h
    have h : (none : Option (AT)) = some T1 := h
    cases h
  | succ n ih =>
    intro T l0 l1 l2 l3 h
    have p0 := QF.rf T
    unfold g_X8_focus_b23 at h
    obtain ⟨g2, h⟩ := oif_some h
    obtain ⟨n3, en3, h⟩ := obind_some h
    obtain ⟨g4, h⟩ := oif_some h
    obtain ⟨v5, -, h⟩ := elet_some h
    rcases oif_or h with ⟨c6, h⟩ | ⟨c6, h⟩
    · have h := h
      obtain ⟨g7, h⟩ := oif_some h
      obtain ⟨n8, en8, h⟩ := obind_some h
      obtain ⟨g9, h⟩ := oif_some h
      obtain ⟨T10, eT10, h⟩ := obind_some h
      have p1 : QF T T10 := QF.tr p0 (sq_X10_settle eT10)
      exact QF.tr p1 (sq_X8_focus_b74 _ h)
    · have h := h
      obtain ⟨g12, h⟩ := oif_some h
      obtain ⟨n13, en13, h⟩ := obind_some h
      obtain ⟨g14, h⟩ := oif_some h
      obtain ⟨n15, en15, h⟩ := obind_some h
      obtain ⟨g16, h⟩ := oif_some h
      obtain ⟨g17, h⟩ := oif_some h
      obtain ⟨n18, en18, h⟩ := obind_some h
      obtain ⟨g19, h⟩ := oif_some h
      obtain ⟨n20, en20, h⟩ := obind_some h
      obtain ⟨g21, h⟩ := oif_some h
      obtain ⟨n22, en22, h⟩ := obind_some h
      obtain ⟨g23, h⟩ := oif_some h
      obtain ⟨g24, h⟩ := oif_some h
      obtain ⟨n25, en25, h⟩ := obind_some h
      obtain ⟨g26, h⟩ := oif_some h
      obtain ⟨r28, T27, eT27, h⟩ := obind2_some h
      have p1 : QF T T27 := QF.tr p0 ((sq_X8_weighted eT27))
      obtain ⟨g29, h⟩ := oif_some h
      obtain ⟨g30, h⟩ := oif_some h
      obtain ⟨T31, eT31, h⟩ := elet_some h
      have p2 : QF T T31 := QF.tr p1 (by rw [eT31]; exact qf_uJ)
      obtain ⟨v32, ev32, h⟩ := elet_some h
      exact QF.tr p2 (ih _ _ _ _ _ h)
set_option maxHeartbeats 4000000 in
set_option maxRecDepth 100000 in
theorem sq_X8_focus_b21 {T1 : AT} : ∀ (T : AT) (l0 : Nat) (l1 : Nat) (l2 : Int32), g_X8_focus_b21 T l0 l1 l2 = some T1 → QF T T1 := by
  intro T l0 l1 l2 h
  have p0 := QF.rf T
  unfold g_X8_focus_b21 at h
  exact QF.tr p0 (sq_X8_focus_b23 _ _ _ _ _ _ h)
set_option maxHeartbeats 4000000 in
set_option maxRecDepth 100000 in
theorem sq_X8_focus {T : AT} {o : Nat} {a0 : Nat} {a1 : Int32} {T1 : AT} (h : g_X8_focus T o a0 a1 = some T1) : QF T T1 := by
  have p0 := QF.rf T
  unfold g_X8_focus at h
  obtain ⟨g2, h⟩ := oif_some h
  obtain ⟨n3, en3, h⟩ := obind_some h
  obtain ⟨g4, h⟩ := oif_some h
  obtain ⟨T5, eT5, h⟩ := obind_some h
  have p1 : QF T T5 := QF.tr p0 ((sq_X10_narrow eT5))
  obtain ⟨g7, h⟩ := oif_some h
  obtain ⟨n8, en8, h⟩ := obind_some h
  obtain ⟨g9, h⟩ := oif_some h
  obtain ⟨n10, en10, h⟩ := obind_some h
  obtain ⟨g11, h⟩ := oif_some h
  obtain ⟨v12, -, h⟩ := elet_some h
  obtain ⟨g13, h⟩ := oif_some h
  obtain ⟨T14, eT14, h⟩ := obind_some h
  have p2 : QF T T14 := QF.tr p1 (sq_X10_widenTo eT14)
  exact QF.tr p2 (sq_X8_focus_b21 _ _ _ _ h)
set_option maxHeartbeats 4000000 in
set_option maxRecDepth 100000 in
theorem sq_X10_addProduct_b138 {T1 : AT} : ∀ (T : AT), g_X10_addProduct_b138 T = some T1 → QF T T1 := by
  intro T h
  have p0 := QF.rf T
  unfold g_X10_addProduct_b138 at h
  rw [← osome1 h]
  exact p0
set_option maxHeartbeats 4000000 in
set_option maxRecDepth 100000 in
theorem sq_X10_addProduct_b133 {T1 : AT} : ∀ (T : AT) (l0 : Nat) (l1 : Int32), g_X10_addProduct_b133 T l0 l1 = some T1 → QF T T1 := by
  intro T l0 l1 h
  have p0 := QF.rf T
  unfold g_X10_addProduct_b133 at h
  obtain ⟨g2, h⟩ := oif_some h
  obtain ⟨T3, eT3, h⟩ := obind_some h
  have p1 : QF T T3 := QF.tr p0 (sq_X10_settle eT3)
  exact QF.tr p1 (sq_X10_addProduct_b138 _ h)
set_option maxHeartbeats 4000000 in
set_option maxRecDepth 100000 in
theorem sq_X10_addProduct_b113 {T1 : AT} {k17 : AT → Nat → Int32 → Nat → Int32 → Nat → Int32 → Int32 → Option (AT)} (hk17 : ∀ (T : AT) (l0 : Nat) (l1 : Int32) (l2 : Nat) (l3 : Int32) (l4 : Nat) (l5 : Int32) (l6 : Int32), k17 T l0 l1 l2 l3 l4 l5 l6 = some T1 → QF T T1) : ∀ (T : AT) (l0 : Nat) (l1 : Int32) (l2 : Nat) (l3 : Int32) (l4 : Nat) (l5 : Int32) (l6 : Int32) (l7 : Int64), g_X10_addProduct_b113 k17 T l0 l1 l2 l3 l4 l5 l6 l7 = some T1 → QF T T1 := by
  intro T l0 l1 l2 l3 l4 l5 l6 l7 h
  have p0 := QF.rf T
  unfold g_X10_addProduct_b113 at h
  obtain ⟨g2, h⟩ := oif_some h
  obtain ⟨n3, en3, h⟩ := obind_some h
  obtain ⟨g4, h⟩ := oif_some h
  obtain ⟨g5, h⟩ := oif_some h
  obtain ⟨n6, en6, h⟩ := obind_some h
  obtain ⟨g7, h⟩ := oif_some h
  obtain ⟨g8, h⟩ := oif_some h
  obtain ⟨v9, -, h⟩ := elet_some h
  obtain ⟨v10, -, h⟩ := elet_some h
  obtain ⟨g11, h⟩ := oif_some h
  obtain ⟨g12, h⟩ := oif_some h
  obtain ⟨T13, eT13, h⟩ := elet_some h
  have p1 : QF T T13 := QF.tr p0 (by rw [eT13]; exact qf_uJ)
  obtain ⟨v14, ev14, h⟩ := elet_some h
  exact QF.tr p1 (hk17 _ _ _ _ _ _ _ _ h)
set_option maxHeartbeats 4000000 in
set_option maxRecDepth 100000 in
theorem sq_X10_addProduct_b62 {T1 : AT} {k17 : AT → Nat → Int32 → Nat → Int32 → Nat → Int32 → Int32 → Option (AT)} (hk17 : ∀ (T : AT) (l0 : Nat) (l1 : Int32) (l2 : Nat) (l3 : Int32) (l4 : Nat) (l5 : Int32) (l6 : Int32), k17 T l0 l1 l2 l3 l4 l5 l6 = some T1 → QF T T1) : ∀ n : Nat, ∀ (T : AT) (l0 : Nat) (l1 : Int32) (l2 : Nat) (l3 : Int32) (l4 : Nat) (l5 : Int32) (l6 : Int32) (l7 : Int64) (l9 : Int32), g_X10_addProduct_b62 k17 n T l0 l1 l2 l3 l4 l5 l6 l7 l9 = some T1 → QF T T1 := by
  intro n
  induction n with
  | zero =>
    intro T l0 l1 l2 l3 l4 l5 l6 l7 l9 h
    have h : (none : Option (AT)) = some T1 := h
    cases h
  | succ n ih =>
    intro T l0 l1 l2 l3 l4 l5 l6 l7 l9 h
    have p0 := QF.rf T
    unfold g_X10_addProduct_b62 at h
    rcases oif_or h with ⟨c2, h⟩ | ⟨c2, h⟩
    · have h := h
      exact QF.tr p0 (sq_X10_addProduct_b113 hk17 _ _ _ _ _ _ _ _ _ h)
    · have h := h
      obtain ⟨g3, h⟩ := oif_some h
      obtain ⟨v4, -, h⟩ := elet_some h
      rcases oif_or h with ⟨c5, h⟩ | ⟨c5, h⟩
      · have h := h
        exact QF.tr p0 (sq_X10_addProduct_b113 hk17 _ _ _ _ _ _ _ _ _ h)
      · have h := h
        obtain ⟨g6, h⟩ := oif_some h
        obtain ⟨n7, en7, h⟩ := obind_some h
        obtain ⟨g8, h⟩ := oif_some h
        obtain ⟨g9, h⟩ := oif_some h
        obtain ⟨n10, en10, h⟩ := obind_some h
        obtain ⟨g11, h⟩ := oif_some h
        obtain ⟨g12, h⟩ := oif_some h
        obtain ⟨v13, -, h⟩ := elet_some h
        obtain ⟨g14, h⟩ := oif_some h
        obtain ⟨n15, en15, h⟩ := obind_some h
        obtain ⟨v16, -, h⟩ := elet_some h
        obtain ⟨g17, h⟩ := oif_some h
        obtain ⟨g18, h⟩ := oif_some h
        obtain ⟨n19, en19, h⟩ := obind_some h
        obtain ⟨g20, h⟩ := oif_some h
        obtain ⟨g21, h⟩ := oif_some h
        obtain ⟨v22, -, h⟩ := elet_some h
        obtain ⟨v23, -, h⟩ := elet_some h
        obtain ⟨v24, -, h⟩ := elet_some h
        obtain ⟨v25, ev25, h⟩ := elet_some h
        exact QF.tr p0 (ih _ _ _ _ _ _ _ _ _ _ h)
set_option maxHeartbeats 4000000 in
set_option maxRecDepth 100000 in
theorem sq_X10_addProduct_b17 {T1 : AT} : ∀ n : Nat, ∀ (T : AT) (l0 : Nat) (l1 : Int32) (l2 : Nat) (l3 : Int32) (l4 : Nat) (l5 : Int32) (l6 : Int32), g_X10_addProduct_b17 n T l0 l1 l2 l3 l4 l5 l6 = some T1 → QF T T1 := by
  intro n
  induction n with
  | zero =>
    intro T l0 l1 l2 l3 l4 l5 l6 h
    have h : (none : Option (AT)) = some T1 := h
    cases h
  | succ n ih =>
    intro T l0 l1 l2 l3 l4 l5 l6 h
    have p0 := QF.rf T
    unfold g_X10_addProduct_b17 at h
    obtain ⟨g2, h⟩ := oif_some h
    obtain ⟨v3, -, h⟩ := elet_some h
    rcases oif_or h with ⟨c4, h⟩ | ⟨c4, h⟩
    · have h := h
      exact QF.tr p0 (sq_X10_addProduct_b133 _ _ _ h)
    · have h := h
      obtain ⟨g5, h⟩ := oif_some h
      obtain ⟨v6, -, h⟩ := elet_some h
      obtain ⟨g7, h⟩ := oif_some h
      obtain ⟨v8, -, h⟩ := elet_some h
      obtain ⟨v9, -, h⟩ := elet_some h
      obtain ⟨v10, -, h⟩ := elet_some h
      rcases oif_or h with ⟨c11, h⟩ | ⟨c11, h⟩
      · have h := h
        exact QF.tr p0 (sq_X10_addProduct_b133 _ _ _ h)
      · have h := h
        obtain ⟨g12, h⟩ := oif_some h
        obtain ⟨v13, -, h⟩ := elet_some h
        obtain ⟨v14, -, h⟩ := elet_some h
        obtain ⟨v15, -, h⟩ := elet_some h
        obtain ⟨v16, -, h⟩ := elet_some h
        exact QF.tr p0 (sq_X10_addProduct_b62 ih _ _ _ _ _ _ _ _ _ _ _ h)
set_option maxHeartbeats 4000000 in
set_option maxRecDepth 100000 in
theorem sq_X10_addProduct_b14 {T1 : AT} : ∀ (T : AT) (l0 : Nat) (l1 : Int32) (l2 : Nat) (l3 : Int32) (l4 : Nat) (l5 : Int32), g_X10_addProduct_b14 T l0 l1 l2 l3 l4 l5 = some T1 → QF T T1 := by
  intro T l0 l1 l2 l3 l4 l5 h
  have p0 := QF.rf T
  unfold g_X10_addProduct_b14 at h
  exact QF.tr p0 (sq_X10_addProduct_b17 _ _ _ _ _ _ _ _ _ h)
set_option maxHeartbeats 4000000 in
set_option maxRecDepth 100000 in
theorem sq_X10_addProduct {T : AT} {o : Nat} {a0 : Int32} {a1 : Nat} {a2 : Int32} {a3 : Nat} {a4 : Int32} {T1 : AT} (h : g_X10_addProduct T o a0 a1 a2 a3 a4 = some T1) : QF T T1 := by
  have p0 := QF.rf T
  unfold g_X10_addProduct at h
  obtain ⟨g2, h⟩ := oif_some h
  obtain ⟨v3, -, h⟩ := elet_some h
  obtain ⟨g4, h⟩ := oif_some h
  obtain ⟨v5, -, h⟩ := elet_some h
  obtain ⟨v6, -, h⟩ := elet_some h
  obtain ⟨g7, h⟩ := oif_some h
  obtain ⟨T8, eT8, h⟩ := obind_some h
  have p1 : QF T T8 := QF.tr p0 (sq_X10_widenTo eT8)
  exact QF.tr p1 (sq_X10_addProduct_b14 _ _ _ _ _ _ _ h)
set_option maxHeartbeats 4000000 in
set_option maxRecDepth 100000 in
theorem sq_X8_blockPowerOf_b68 {T1 : AT} : ∀ (T : AT), g_X8_blockPowerOf_b68 T = some T1 → QF T T1 := by
  intro T h
  have p0 := QF.rf T
  unfold g_X8_blockPowerOf_b68 at h
  rw [← osome1 h]
  exact p0
set_option maxHeartbeats 4000000 in
set_option maxRecDepth 100000 in
theorem sq_X8_blockPowerOf_b54 {T1 : AT} {k23 : AT → Nat → Nat → Int32 → Nat → Int32 → Int32 → Int32 → Option (AT)} (hk23 : ∀ (T : AT) (l0 : Nat) (l1 : Nat) (l3 : Int32) (l4 : Nat) (l5 : Int32) (l6 : Int32) (l7 : Int32), k23 T l0 l1 l3 l4 l5 l6 l7 = some T1 → QF T T1) : ∀ (T : AT) (l0 : Nat) (l1 : Nat) (l3 : Int32) (l4 : Nat) (l5 : Int32) (l6 : Int32) (l7 : Int32), g_X8_blockPowerOf_b54 k23 T l0 l1 l3 l4 l5 l6 l7 = some T1 → QF T T1 := by
  intro T l0 l1 l3 l4 l5 l6 l7 h
  have p0 := QF.rf T
  unfold g_X8_blockPowerOf_b54 at h
  obtain ⟨v2, ev2, h⟩ := elet_some h
  exact QF.tr p0 (hk23 _ _ _ _ _ _ _ _ h)
set_option maxHeartbeats 4000000 in
set_option maxRecDepth 100000 in
theorem sq_X8_blockPowerOf_b37 {T1 : AT} {k23 : AT → Nat → Nat → Int32 → Nat → Int32 → Int32 → Int32 → Option (AT)} (hk23 : ∀ (T : AT) (l0 : Nat) (l1 : Nat) (l3 : Int32) (l4 : Nat) (l5 : Int32) (l6 : Int32) (l7 : Int32), k23 T l0 l1 l3 l4 l5 l6 l7 = some T1 → QF T T1) : ∀ (T : AT) (l0 : Nat) (l1 : Nat) (l3 : Int32) (l4 : Nat) (l5 : Int32) (l6 : Int32) (l7 : Int32), g_X8_blockPowerOf_b37 k23 T l0 l1 l3 l4 l5 l6 l7 = some T1 → QF T T1 := by
  intro T l0 l1 l3 l4 l5 l6 l7 h
  have p0 := QF.rf T
  unfold g_X8_blockPowerOf_b37 at h
  obtain ⟨g2, h⟩ := oif_some h
  obtain ⟨n3, en3, h⟩ := obind_some h
  obtain ⟨g4, h⟩ := oif_some h
  obtain ⟨n5, en5, h⟩ := obind_some h
  obtain ⟨g6, h⟩ := oif_some h
  obtain ⟨T7, eT7, h⟩ := obind_some h
  have p1 : QF T T7 := QF.tr p0 (sq_X10_addProduct eT7)
  exact QF.tr p1 (sq_X8_blockPowerOf_b54 hk23 _ _ _ _ _ _ _ _ h)
set_option maxHeartbeats 4000000 in
set_option maxRecDepth 100000 in
theorem sq_X8_blockPowerOf_b23 {T1 : AT} : ∀ n : Nat, ∀ (T : AT) (l0 : Nat) (l1 : Nat) (l3 : Int32) (l4 : Nat) (l5 : Int32) (l6 : Int32) (l7 : Int32), g_X8_blockPowerOf_b23 n T l0 l1 l3 l4 l5 l6 l7 = some T1 → QF T T1 := by
  intro n
  induction n with
  | zero =>
    intro T l0 l1 l3 l4 l5 l6 l7 h
    have h : (none : Option (AT)) = some T1 := h
    cases h
  | succ n ih =>
    intro T l0 l1 l3 l4 l5 l6 l7 h
    have p0 := QF.rf T
    unfold g_X8_blockPowerOf_b23 at h
    rcases oif_or h with ⟨c2, h⟩ | ⟨c2, h⟩
    · have h := h
      obtain ⟨g3, h⟩ := oif_some h
      obtain ⟨T4, eT4, h⟩ := obind_some h
      have p1 : QF T T4 := QF.tr p0 (sq_X10_divide eT4)
      exact QF.tr p1 (sq_X8_blockPowerOf_b68 _ h)
    · have h := h
      obtain ⟨g6, h⟩ := oif_some h
      obtain ⟨T7, eT7, h⟩ := obind_some h
      have p1 : QF T T7 := QF.tr p0 (sq_X8_focus eT7)
      exact QF.tr p1 (sq_X8_blockPowerOf_b37 ih _ _ _ _ _ _ _ _ h)
set_option maxHeartbeats 4000000 in
set_option maxRecDepth 100000 in
theorem sq_X8_blockPowerOf {T : AT} {o : Nat} {a0 : Nat} {a1 : Int32} {a2 : Int32} {a3 : Nat} {a4 : Int32} {T1 : AT} (h : g_X8_blockPowerOf T o a0 a1 a2 a3 a4 = some T1) : QF T T1 := by
  have p0 := QF.rf T
  unfold g_X8_blockPowerOf at h
  obtain ⟨v2, -, h⟩ := elet_some h
  obtain ⟨g3, h⟩ := oif_some h
  obtain ⟨r5, T4, eT4, h⟩ := obind2_some h
  have p1 : QF T T4 := QF.tr p0 ((sq_X8_windowOf eT4))
  obtain ⟨v6, -, h⟩ := elet_some h
  obtain ⟨g7, h⟩ := oif_some h
  obtain ⟨T8, eT8, h⟩ := obind_some h
  have p2 : QF T T8 := QF.tr p1 ((sq_X10_clear eT8))
  exact QF.tr p2 (sq_X8_blockPowerOf_b23 _ _ _ _ _ _ _ _ _ h)
set_option maxHeartbeats 4000000 in
set_option maxRecDepth 100000 in
theorem sq_X10_compare_b47 {r1 : Int32} {T1 : AT} : ∀ (T : AT) (l3 : Int32), g_X10_compare_b47 T l3 = some (r1, T1) → QF T T1 := by
  intro T l3 h
  have p0 := QF.rf T
  unfold g_X10_compare_b47 at h
  rw [← (osome2 h).2]
  exact p0
set_option maxHeartbeats 4000000 in
set_option maxRecDepth 100000 in
theorem sq_X10_compare_b10 {r1 : Int32} {T1 : AT} : ∀ n : Nat, ∀ (T : AT) (l0 : Nat) (l1 : Int32) (l2 : Int32) (l3 : Int32) (l4 : Int32), g_X10_compare_b10 n T l0 l1 l2 l3 l4 = some (r1, T1) → QF T T1 := by
  intro n
  induction n with
  | zero =>
    intro T l0 l1 l2 l3 l4 h
    have h : (none : Option (Int32 × AT)) = some (r1, T1) := h
    cases h
  | succ n ih =>
    intro T l0 l1 l2 l3 l4 h
    have p0 := QF.rf T
    unfold g_X10_compare_b10 at h
    rcases oif_or h with ⟨c2, h⟩ | ⟨c2, h⟩
    · have h := h
      exact QF.tr p0 (sq_X10_compare_b47 _ _ h)
    · have h := h
      rcases oif_or h with ⟨c3, h⟩ | ⟨c3, h⟩
      · have h := h
        obtain ⟨g4, h⟩ := oif_some h
        obtain ⟨n5, en5, h⟩ := obind_some h
        obtain ⟨g6, h⟩ := oif_some h
        obtain ⟨g7, h⟩ := oif_some h
        obtain ⟨n8, en8, h⟩ := obind_some h
        obtain ⟨g9, h⟩ := oif_some h
        obtain ⟨g10, h⟩ := oif_some h
        obtain ⟨v11, -, h⟩ := elet_some h
        obtain ⟨g12, h⟩ := oif_some h
        obtain ⟨n13, en13, h⟩ := obind_some h
        obtain ⟨g14, h⟩ := oif_some h
        obtain ⟨g15, h⟩ := oif_some h
        obtain ⟨n16, en16, h⟩ := obind_some h
        obtain ⟨g17, h⟩ := oif_some h
        obtain ⟨g18, h⟩ := oif_some h
        obtain ⟨v19, -, h⟩ := elet_some h
        obtain ⟨r20, -, h⟩ := obind_some h
        obtain ⟨v21, ev21, h⟩ := elet_some h
        exact QF.tr p0 (ih _ _ _ _ _ _ h)
      · have h := h
        exact QF.tr p0 (sq_X10_compare_b47 _ _ h)
set_option maxHeartbeats 4000000 in
set_option maxRecDepth 100000 in
theorem sq_X10_compare {T : AT} {o : Nat} {a0 : Int32} {a1 : Int32} {r1 : Int32} {T1 : AT} (h : g_X10_compare T o a0 a1 = some (r1, T1)) : QF T T1 := by
  have p0 := QF.rf T
  unfold g_X10_compare at h
  obtain ⟨g2, h⟩ := oif_some h
  obtain ⟨v3, -, h⟩ := elet_some h
  obtain ⟨v4, -, h⟩ := elet_some h
  exact QF.tr p0 (sq_X10_compare_b10 _ _ _ _ _ _ _ h)
set_option maxHeartbeats 4000000 in
set_option maxRecDepth 100000 in
theorem sq_X1_bestIn_b71 {r1 : Int32} {T1 : AT} {k19 : AT → Nat → Nat → Nat → Int32 → Int32 → Int32 → Option (Int32 × AT)} {k32 : AT → Nat → Nat → Nat → Int32 → Int32 → Int32 → Int32 → Option (Int32 × AT)} (hk19 : ∀ (T : AT) (l0 : Nat) (l1 : Nat) (l2 : Nat) (l3 : Int32) (l4 : Int32) (l5 : Int32), k19 T l0 l1 l2 l3 l4 l5 = some (r1, T1) → QF T T1) (hk32 : ∀ (T : AT) (l0 : Nat) (l1 : Nat) (l2 : Nat) (l3 : Int32) (l4 : Int32) (l5 : Int32) (l6 : Int32), k32 T l0 l1 l2 l3 l4 l5 l6 = some (r1, T1) → QF T T1) : ∀ (T : AT) (l0 : Nat) (l1 : Nat) (l2 : Nat) (l3 : Int32) (l4 : Int32) (l5 : Int32) (l6 : Int32), g_X1_bestIn_b71 k19 k32 T l0 l1 l2 l3 l4 l5 l6 = some (r1, T1) → QF T T1 := by
  intro T l0 l1 l2 l3 l4 l5 l6 h
  have p0 := QF.rf T
  unfold g_X1_bestIn_b71 at h
  obtain ⟨v2, ev2, h⟩ := elet_some h
  exact QF.tr p0 (hk32 _ _ _ _ _ _ _ _ h)
set_option maxHeartbeats 4000000 in
set_option maxRecDepth 100000 in
theorem sq_X1_bestIn_b32 {r1 : Int32} {T1 : AT} {k19 : AT → Nat → Nat → Nat → Int32 → Int32 → Int32 → Option (Int32 × AT)} (hk19 : ∀ (T : AT) (l0 : Nat) (l1 : Nat) (l2 : Nat) (l3 : Int32) (l4 : Int32) (l5 : Int32), k19 T l0 l1 l2 l3 l4 l5 = some (r1, T1) → QF T T1) : ∀ n : Nat, ∀ (T : AT) (l0 : Nat) (l1 : Nat) (l2 : Nat) (l3 : Int32) (l4 : Int32) (l5 : Int32) (l6 : Int32), g_X1_bestIn_b32 k19 n T l0 l1 l2 l3 l4 l5 l6 = some (r1, T1) → QF T T1 := by
  intro n
  induction n with
  | zero =>
    intro T l0 l1 l2 l3 l4 l5 l6 h
    have h : (none : Option (Int32 × AT)) = some (r1, T1) := h
    cases h
  | succ n ih =>
    intro T l0 l1 l2 l3 l4 l5 l6 h
    have p0 := QF.rf T
    unfold g_X1_bestIn_b32 at h
    obtain ⟨g2, h⟩ := oif_some h
    obtain ⟨g3, h⟩ := oif_some h
    obtain ⟨v4, -, h⟩ := elet_some h
    rcases oif_or h with ⟨c5, h⟩ | ⟨c5, h⟩
    · have h := h
      obtain ⟨v6, ev6, h⟩ := elet_some h
      exact QF.tr p0 (hk19 _ _ _ _ _ _ _ h)
    · have h := h
      obtain ⟨g7, h⟩ := oif_some h
      obtain ⟨v8, -, h⟩ := elet_some h
      obtain ⟨v9, -, h⟩ := elet_some h
      obtain ⟨v10, -, h⟩ := elet_some h
      obtain ⟨v11, -, h⟩ := elet_some h
      obtain ⟨v12, -, h⟩ := elet_some h
      obtain ⟨g13, h⟩ := oif_some h
      obtain ⟨r15, T14, eT14, h⟩ := obind2_some h
      have p1 : QF T T14 := QF.tr p0 (sq_X10_compare eT14)
      rcases oif_or h with ⟨c16, h⟩ | ⟨c16, h⟩
      · have h := h
        exact QF.tr p1 (sq_X1_bestIn_b71 hk19 ih _ _ _ _ _ _ _ _ h)
      · have h := h
        exact QF.tr p1 (sq_X1_bestIn_b71 hk19 ih _ _ _ _ _ _ _ _ h)
set_option maxHeartbeats 4000000 in
set_option maxRecDepth 100000 in
theorem sq_X1_bestIn_b19 {r1 : Int32} {T1 : AT} : ∀ n : Nat, ∀ (T : AT) (l0 : Nat) (l1 : Nat) (l2 : Nat) (l3 : Int32) (l4 : Int32) (l5 : Int32), g_X1_bestIn_b19 n T l0 l1 l2 l3 l4 l5 = some (r1, T1) → QF T T1 := by
  intro n
  induction n with
  | zero =>
    intro T l0 l1 l2 l3 l4 l5 h
    have h : (none : Option (Int32 × AT)) = some (r1, T1) := h
    cases h
  | succ n ih =>
    intro T l0 l1 l2 l3 l4 l5 h
    have p0 := QF.rf T
    unfold g_X1_bestIn_b19 at h
    obtain ⟨g2, h⟩ := oif_some h
    obtain ⟨g3, h⟩ := oif_some h
    obtain ⟨v4, -, h⟩ := elet_some h
    rcases oif_or h with ⟨c5, h⟩ | ⟨c5, h⟩
    · have h := h
      rw [← (osome2 h).2]
      exact p0
    · have h := h
      obtain ⟨g6, h⟩ := oif_some h
      obtain ⟨g7, h⟩ := oif_some h
      obtain ⟨v8, -, h⟩ := elet_some h
      exact QF.tr p0 (sq_X1_bestIn_b32 ih _ _ _ _ _ _ _ _ _ h)
set_option maxHeartbeats 4000000 in
set_option maxRecDepth 100000 in
theorem sq_X1_bestIn {T : AT} {o : Nat} {a0 : Nat} {a1 : Nat} {a2 : Int32} {r1 : Int32} {T1 : AT} (h : g_X1_bestIn T o a0 a1 a2 = some (r1, T1)) : QF T T1 := by
  have p0 := QF.rf T
  unfold g_X1_bestIn at h
  obtain ⟨g2, h⟩ := oif_some h
  obtain ⟨g3, h⟩ := oif_some h
  obtain ⟨v4, -, h⟩ := elet_some h
  obtain ⟨g5, h⟩ := oif_some h
  obtain ⟨v6, -, h⟩ := elet_some h
  obtain ⟨v7, -, h⟩ := elet_some h
  obtain ⟨g8, h⟩ := oif_some h
  obtain ⟨g9, h⟩ := oif_some h
  obtain ⟨v10, -, h⟩ := elet_some h
  obtain ⟨v11, -, h⟩ := elet_some h
  obtain ⟨g12, h⟩ := oif_some h
  obtain ⟨g13, h⟩ := oif_some h
  obtain ⟨v14, -, h⟩ := elet_some h
  exact QF.tr p0 (sq_X1_bestIn_b19 _ _ _ _ _ _ _ _ h)
set_option maxHeartbeats 4000000 in
set_option maxRecDepth 100000 in
theorem sq_X1_columnOf {T : AT} {o : Nat} {a0 : Int32} {r1 : Int32} {T1 : AT} (h : g_X1_columnOf T o a0 = some (r1, T1)) : QF T T1 := by
  have p0 := QF.rf T
  unfold g_X1_columnOf at h
  obtain ⟨g2, h⟩ := oif_some h
  obtain ⟨v3, -, h⟩ := elet_some h
  obtain ⟨r4, -, h⟩ := obind_some h
  rw [← (osome2 h).2]
  exact p0
set_option maxHeartbeats 4000000 in
set_option maxRecDepth 100000 in
theorem sq_X1_rowOf {T : AT} {o : Nat} {a0 : Int32} {r1 : Int32} {T1 : AT} (h : g_X1_rowOf T o a0 = some (r1, T1)) : QF T T1 := by
  have p0 := QF.rf T
  unfold g_X1_rowOf at h
  obtain ⟨v2, -, h⟩ := elet_some h
  obtain ⟨g3, h⟩ := oif_some h
  obtain ⟨v4, -, h⟩ := elet_some h
  obtain ⟨v5, -, h⟩ := elet_some h
  obtain ⟨r6, -, h⟩ := obind_some h
  obtain ⟨v7, -, h⟩ := elet_some h
  rw [← (osome2 h).2]
  exact p0
set_option maxHeartbeats 4000000 in
set_option maxRecDepth 100000 in
theorem sq_X1_areaAround {T : AT} {o : Nat} {a0 : Int32} {r1 : Nat} {T1 : AT} (h : g_X1_areaAround T o a0 = some (r1, T1)) : QF T T1 := by
  have p0 := QF.rf T
  unfold g_X1_areaAround at h
  obtain ⟨g2, h⟩ := oif_some h
  obtain ⟨r4, T3, eT3, h⟩ := obind2_some h
  have p1 : QF T T3 := QF.tr p0 (sq_X1_columnOf eT3)
  obtain ⟨g5, h⟩ := oif_some h
  obtain ⟨r7, T6, eT6, h⟩ := obind2_some h
  have p2 : QF T T6 := QF.tr p1 (sq_X1_rowOf eT6)
  obtain ⟨g8, h⟩ := oif_some h
  obtain ⟨n9, en9, h⟩ := obind_some h
  obtain ⟨v10, -, h⟩ := elet_some h
  obtain ⟨v11, -, h⟩ := elet_some h
  obtain ⟨g12, h⟩ := oif_some h
  obtain ⟨g13, h⟩ := oif_some h
  obtain ⟨T14, eT14, h⟩ := elet_some h
  have p3 : QF T T14 := QF.tr p2 (by rw [eT14]; first | exact qf_uO (oO_k g13).2 (by decide) | exact qf_uA (aA_k g12).2.1 (by decide))
  obtain ⟨g15, h⟩ := oif_some h
  obtain ⟨n16, en16, h⟩ := obind_some h
  obtain ⟨v17, -, h⟩ := elet_some h
  obtain ⟨v18, -, h⟩ := elet_some h
  obtain ⟨g19, h⟩ := oif_some h
  obtain ⟨g20, h⟩ := oif_some h
  obtain ⟨T21, eT21, h⟩ := elet_some h
  have p4 : QF T T21 := QF.tr p3 (by rw [eT21]; first | exact qf_uO (oO_k g20).2 (by decide) | exact qf_uA (aA_k g19).2.1 (by decide))
  obtain ⟨g22, h⟩ := oif_some h
  obtain ⟨n23, en23, h⟩ := obind_some h
  obtain ⟨v24, -, h⟩ := elet_some h
  obtain ⟨g25, h⟩ := oif_some h
  obtain ⟨v26, -, h⟩ := elet_some h
  obtain ⟨v27, -, h⟩ := elet_some h
  obtain ⟨v28, -, h⟩ := elet_some h
  obtain ⟨g29, h⟩ := oif_some h
  obtain ⟨g30, h⟩ := oif_some h
  obtain ⟨T31, eT31, h⟩ := elet_some h
  have p5 : QF T T31 := QF.tr p4 (by rw [eT31]; first | exact qf_uO (oO_k g30).2 (by decide) | exact qf_uA (aA_k g29).2.1 (by decide))
  obtain ⟨g32, h⟩ := oif_some h
  obtain ⟨n33, en33, h⟩ := obind_some h
  obtain ⟨v34, -, h⟩ := elet_some h
  obtain ⟨g35, h⟩ := oif_some h
  obtain ⟨v36, -, h⟩ := elet_some h
  obtain ⟨v37, -, h⟩ := elet_some h
  obtain ⟨v38, -, h⟩ := elet_some h
  obtain ⟨g39, h⟩ := oif_some h
  obtain ⟨g40, h⟩ := oif_some h
  obtain ⟨T41, eT41, h⟩ := elet_some h
  have p6 : QF T T41 := QF.tr p5 (by rw [eT41]; first | exact qf_uO (oO_k g40).2 (by decide) | exact qf_uA (aA_k g39).2.1 (by decide))
  obtain ⟨g42, h⟩ := oif_some h
  obtain ⟨n43, en43, h⟩ := obind_some h
  rw [← (osome2 h).2]
  exact p6
set_option maxHeartbeats 4000000 in
set_option maxRecDepth 100000 in
theorem sq_X10_add_b56 {T1 : AT} : ∀ (T : AT), g_X10_add_b56 T = some T1 → QF T T1 := by
  intro T h
  have p0 := QF.rf T
  unfold g_X10_add_b56 at h
  rw [← osome1 h]
  exact p0
set_option maxHeartbeats 4000000 in
set_option maxRecDepth 100000 in
theorem sq_X10_add_b11 {T1 : AT} : ∀ n : Nat, ∀ (T : AT) (l0 : Nat) (l1 : Int32) (l2 : Nat) (l3 : Int32) (l4 : Int32) (l5 : Int32), g_X10_add_b11 n T l0 l1 l2 l3 l4 l5 = some T1 → QF T T1 := by
  intro n
  induction n with
  | zero =>
    intro T l0 l1 l2 l3 l4 l5 h
    have h : (none : Option (AT)) = some T1 := h
    cases h
  | succ n ih =>
    intro T l0 l1 l2 l3 l4 l5 h
    have p0 := QF.rf T
    unfold g_X10_add_b11 at h
    obtain ⟨g2, h⟩ := oif_some h
    obtain ⟨v3, -, h⟩ := elet_some h
    rcases oif_or h with ⟨c4, h⟩ | ⟨c4, h⟩
    · have h := h
      obtain ⟨g5, h⟩ := oif_some h
      obtain ⟨T6, eT6, h⟩ := obind_some h
      have p1 : QF T T6 := QF.tr p0 (sq_X10_settle eT6)
      exact QF.tr p1 (sq_X10_add_b56 _ h)
    · have h := h
      obtain ⟨g8, h⟩ := oif_some h
      obtain ⟨n9, en9, h⟩ := obind_some h
      obtain ⟨g10, h⟩ := oif_some h
      obtain ⟨g11, h⟩ := oif_some h
      obtain ⟨n12, en12, h⟩ := obind_some h
      obtain ⟨g13, h⟩ := oif_some h
      obtain ⟨g14, h⟩ := oif_some h
      obtain ⟨v15, -, h⟩ := elet_some h
      obtain ⟨v16, -, h⟩ := elet_some h
      obtain ⟨g17, h⟩ := oif_some h
      obtain ⟨n18, en18, h⟩ := obind_some h
      obtain ⟨g19, h⟩ := oif_some h
      obtain ⟨g20, h⟩ := oif_some h
      obtain ⟨n21, en21, h⟩ := obind_some h
      obtain ⟨g22, h⟩ := oif_some h
      obtain ⟨g23, h⟩ := oif_some h
      obtain ⟨v24, -, h⟩ := elet_some h
      obtain ⟨v25, -, h⟩ := elet_some h
      obtain ⟨v26, -, h⟩ := elet_some h
      obtain ⟨g27, h⟩ := oif_some h
      obtain ⟨g28, h⟩ := oif_some h
      obtain ⟨T29, eT29, h⟩ := elet_some h
      have p1 : QF T T29 := QF.tr p0 (by rw [eT29]; exact qf_uJ)
      obtain ⟨v30, ev30, h⟩ := elet_some h
      exact QF.tr p1 (ih _ _ _ _ _ _ _ h)
set_option maxHeartbeats 4000000 in
set_option maxRecDepth 100000 in
theorem sq_X10_add_b8 {T1 : AT} : ∀ (T : AT) (l0 : Nat) (l1 : Int32) (l2 : Nat) (l3 : Int32) (l4 : Int32), g_X10_add_b8 T l0 l1 l2 l3 l4 = some T1 → QF T T1 := by
  intro T l0 l1 l2 l3 l4 h
  have p0 := QF.rf T
  unfold g_X10_add_b8 at h
  exact QF.tr p0 (sq_X10_add_b11 _ _ _ _ _ _ _ _ h)
set_option maxHeartbeats 4000000 in
set_option maxRecDepth 100000 in
theorem sq_X10_add {T : AT} {o : Nat} {a0 : Int32} {a1 : Nat} {a2 : Int32} {a3 : Int32} {T1 : AT} (h : g_X10_add T o a0 a1 a2 a3 = some T1) : QF T T1 := by
  have p0 := QF.rf T
  unfold g_X10_add at h
  obtain ⟨g2, h⟩ := oif_some h
  obtain ⟨v3, -, h⟩ := elet_some h
  obtain ⟨g4, h⟩ := oif_some h
  obtain ⟨T5, eT5, h⟩ := obind_some h
  have p1 : QF T T5 := QF.tr p0 (sq_X10_widenTo eT5)
  exact QF.tr p1 (sq_X10_add_b8 _ _ _ _ _ _ h)
set_option maxHeartbeats 4000000 in
set_option maxRecDepth 100000 in
theorem sq_X1_centreX {T : AT} {o : Nat} {a0 : Int32} {r1 : Int32} {T1 : AT} (h : g_X1_centreX T o a0 = some (r1, T1)) : QF T T1 := by
  have p0 := QF.rf T
  unfold g_X1_centreX at h
  obtain ⟨g2, h⟩ := oif_some h
  obtain ⟨v3, -, h⟩ := elet_some h
  obtain ⟨g4, h⟩ := oif_some h
  obtain ⟨v5, -, h⟩ := elet_some h
  obtain ⟨g6, h⟩ := oif_some h
  obtain ⟨r8, T7, eT7, h⟩ := obind2_some h
  have p1 : QF T T7 := QF.tr p0 (sq_X1_columnOf eT7)
  obtain ⟨v9, -, h⟩ := elet_some h
  obtain ⟨v10, -, h⟩ := elet_some h
  rw [← (osome2 h).2]
  exact p1
set_option maxHeartbeats 4000000 in
set_option maxRecDepth 100000 in
theorem sq_X1_centreY {T : AT} {o : Nat} {a0 : Int32} {r1 : Int32} {T1 : AT} (h : g_X1_centreY T o a0 = some (r1, T1)) : QF T T1 := by
  have p0 := QF.rf T
  unfold g_X1_centreY at h
  obtain ⟨g2, h⟩ := oif_some h
  obtain ⟨v3, -, h⟩ := elet_some h
  obtain ⟨g4, h⟩ := oif_some h
  obtain ⟨v5, -, h⟩ := elet_some h
  obtain ⟨g6, h⟩ := oif_some h
  obtain ⟨r8, T7, eT7, h⟩ := obind2_some h
  have p1 : QF T T7 := QF.tr p0 (sq_X1_rowOf eT7)
  obtain ⟨v9, -, h⟩ := elet_some h
  obtain ⟨v10, -, h⟩ := elet_some h
  rw [← (osome2 h).2]
  exact p1
set_option maxHeartbeats 4000000 in
set_option maxRecDepth 100000 in
theorem sq_X4_standsOut_b65 {r1 : Int32} {T1 : AT} {k11 : AT → Nat → Int32 → Nat → Nat → Int32 → Option (Int32 × AT)} {k24 : AT → Nat → Int32 → Nat → Nat → Int32 → Int32 → Option (Int32 × AT)} (hk11 : ∀ (T : AT) (l0 : Nat) (l1 : Int32) (l2 : Nat) (l3 : Nat) (l4 : Int32), k11 T l0 l1 l2 l3 l4 = some (r1, T1) → QF T T1) (hk24 : ∀ (T : AT) (l0 : Nat) (l1 : Int32) (l2 : Nat) (l3 : Nat) (l4 : Int32) (l5 : Int32), k24 T l0 l1 l2 l3 l4 l5 = some (r1, T1) → QF T T1) : ∀ (T : AT) (l0 : Nat) (l1 : Int32) (l2 : Nat) (l3 : Nat) (l4 : Int32) (l5 : Int32), g_X4_standsOut_b65 k11 k24 T l0 l1 l2 l3 l4 l5 = some (r1, T1) → QF T T1 := by
  intro T l0 l1 l2 l3 l4 l5 h
  have p0 := QF.rf T
  unfold g_X4_standsOut_b65 at h
  obtain ⟨v2, ev2, h⟩ := elet_some h
  exact QF.tr p0 (hk24 _ _ _ _ _ _ _ h)
set_option maxHeartbeats 4000000 in
set_option maxRecDepth 100000 in
theorem sq_X4_standsOut_b24 {r1 : Int32} {T1 : AT} {k11 : AT → Nat → Int32 → Nat → Nat → Int32 → Option (Int32 × AT)} (hk11 : ∀ (T : AT) (l0 : Nat) (l1 : Int32) (l2 : Nat) (l3 : Nat) (l4 : Int32), k11 T l0 l1 l2 l3 l4 = some (r1, T1) → QF T T1) : ∀ n : Nat, ∀ (T : AT) (l0 : Nat) (l1 : Int32) (l2 : Nat) (l3 : Nat) (l4 : Int32) (l5 : Int32), g_X4_standsOut_b24 k11 n T l0 l1 l2 l3 l4 l5 = some (r1, T1) → QF T T1 := by
  intro n
  induction n with
  | zero =>
    intro T l0 l1 l2 l3 l4 l5 h
    have h : (none : Option (Int32 × AT)) = some (r1, T1) := h
    cases h
  | succ n ih =>
    intro T l0 l1 l2 l3 l4 l5 h
    have p0 := QF.rf T
    unfold g_X4_standsOut_b24 at h
    obtain ⟨g2, h⟩ := oif_some h
    obtain ⟨g3, h⟩ := oif_some h
    obtain ⟨v4, -, h⟩ := elet_some h
    rcases oif_or h with ⟨c5, h⟩ | ⟨c5, h⟩
    · have h := h
      obtain ⟨v6, ev6, h⟩ := elet_some h
      exact QF.tr p0 (hk11 _ _ _ _ _ _ h)
    · have h := h
      obtain ⟨g7, h⟩ := oif_some h
      obtain ⟨v8, -, h⟩ := elet_some h
      obtain ⟨v9, -, h⟩ := elet_some h
      obtain ⟨v10, -, h⟩ := elet_some h
      rcases oif_or h with ⟨c11, h⟩ | ⟨c11, h⟩
      · have h := h
        exact QF.tr p0 (sq_X4_standsOut_b65 hk11 ih _ _ _ _ _ _ _ h)
      · have h := h
        obtain ⟨g12, h⟩ := oif_some h
        obtain ⟨n13, en13, h⟩ := obind_some h
        obtain ⟨g14, h⟩ := oif_some h
        obtain ⟨r16, T15, eT15, h⟩ := obind2_some h
        have p1 : QF T T15 := QF.tr p0 (sq_X10_compare eT15)
        rcases oif_or h with ⟨c17, h⟩ | ⟨c17, h⟩
        · have h := h
          exact QF.tr p1 (sq_X4_standsOut_b65 hk11 ih _ _ _ _ _ _ _ h)
        · have h := h
          rw [← (osome2 h).2]
          exact p1
set_option maxHeartbeats 4000000 in
set_option maxRecDepth 100000 in
theorem sq_X4_standsOut_b11 {r1 : Int32} {T1 : AT} : ∀ n : Nat, ∀ (T : AT) (l0 : Nat) (l1 : Int32) (l2 : Nat) (l3 : Nat) (l4 : Int32), g_X4_standsOut_b11 n T l0 l1 l2 l3 l4 = some (r1, T1) → QF T T1 := by
  intro n
  induction n with
  | zero =>
    intro T l0 l1 l2 l3 l4 h
    have h : (none : Option (Int32 × AT)) = some (r1, T1) := h
    cases h
  | succ n ih =>
    intro T l0 l1 l2 l3 l4 h
    have p0 := QF.rf T
    unfold g_X4_standsOut_b11 at h
    obtain ⟨g2, h⟩ := oif_some h
    obtain ⟨g3, h⟩ := oif_some h
    obtain ⟨v4, -, h⟩ := elet_some h
    rcases oif_or h with ⟨c5, h⟩ | ⟨c5, h⟩
    · have h := h
      rw [← (osome2 h).2]
      exact p0
    · have h := h
      obtain ⟨g6, h⟩ := oif_some h
      obtain ⟨g7, h⟩ := oif_some h
      obtain ⟨v8, -, h⟩ := elet_some h
      exact QF.tr p0 (sq_X4_standsOut_b24 ih _ _ _ _ _ _ _ _ h)
set_option maxHeartbeats 4000000 in
set_option maxRecDepth 100000 in
theorem sq_X4_standsOut {T : AT} {o : Nat} {a0 : Int32} {a1 : Nat} {r1 : Int32} {T1 : AT} (h : g_X4_standsOut T o a0 a1 = some (r1, T1)) : QF T T1 := by
  have p0 := QF.rf T
  unfold g_X4_standsOut at h
  obtain ⟨g2, h⟩ := oif_some h
  obtain ⟨r4, T3, eT3, h⟩ := obind2_some h
  have p1 : QF T T3 := QF.tr p0 (sq_X1_areaAround eT3)
  obtain ⟨g5, h⟩ := oif_some h
  obtain ⟨g6, h⟩ := oif_some h
  obtain ⟨v7, -, h⟩ := elet_some h
  exact QF.tr p1 (sq_X4_standsOut_b11 _ _ _ _ _ _ _ h)

set_option maxHeartbeats 4000000 in
set_option maxRecDepth 100000 in
theorem sq_X10_set_b13 {T1 : AT} : ∀ (T : AT), g_X10_set_b13 T = some T1 → QF T T1 := by
  intro T h
  have p0 := QF.rf T
  unfold g_X10_set_b13 at h
  rw [← osome1 h]
  exact p0
set_option maxHeartbeats 4000000 in
set_option maxRecDepth 100000 in
theorem sq_X10_set {T : AT} {o : Nat} {a0 : Int32} {a1 : Nat} {a2 : Int32} {T1 : AT} (h : g_X10_set T o a0 a1 a2 = some T1) : QF T T1 := by
  have p0 := QF.rf T
  unfold g_X10_set at h
  obtain ⟨g2, h⟩ := oif_some h
  obtain ⟨T3, eT3, h⟩ := obind_some h
  have p1 : QF T T3 := QF.tr p0 ((sq_X10_clear eT3))
  obtain ⟨g5, h⟩ := oif_some h
  obtain ⟨T6, eT6, h⟩ := obind_some h
  have p2 : QF T T6 := QF.tr p1 (sq_X10_add eT6)
  exact QF.tr p2 (sq_X10_set_b13 _ h)
set_option maxHeartbeats 4000000 in
set_option maxRecDepth 100000 in
theorem sq_X4_measure_b148 {T1 : AT} {k89 : AT → Nat → Nat → Int32 → Option (AT)} (hk89 : ∀ (T : AT) (l0 : Nat) (l1 : Nat) (l3 : Int32), k89 T l0 l1 l3 = some T1 → QF T T1) : ∀ (T : AT) (l0 : Nat) (l1 : Nat) (l3 : Int32), g_X4_measure_b148 k89 T l0 l1 l3 = some T1 → QF T T1 := by
  intro T l0 l1 l3 h
  have p0 := QF.rf T
  unfold g_X4_measure_b148 at h
  obtain ⟨v2, ev2, h⟩ := elet_some h
  exact QF.tr p0 (hk89 _ _ _ _ h)
set_option maxHeartbeats 4000000 in
set_option maxRecDepth 100000 in
theorem sq_X4_measure_b138 {T1 : AT} {k89 : AT → Nat → Nat → Int32 → Option (AT)} (hk89 : ∀ (T : AT) (l0 : Nat) (l1 : Nat) (l3 : Int32), k89 T l0 l1 l3 = some T1 → QF T T1) : ∀ (T : AT) (l0 : Nat) (l1 : Nat) (l3 : Int32), g_X4_measure_b138 k89 T l0 l1 l3 = some T1 → QF T T1 := by
  intro T l0 l1 l3 h
  have p0 := QF.rf T
  unfold g_X4_measure_b138 at h
  obtain ⟨g2, h⟩ := oif_some h
  obtain ⟨v3, -, h⟩ := elet_some h
  obtain ⟨v4, -, h⟩ := elet_some h
  obtain ⟨g5, h⟩ := oif_some h
  obtain ⟨T6, eT6, h⟩ := elet_some h
  have p1 : QF T T6 := QF.tr p0 (by rw [eT6]; first | exact qf_uO (oO_k g5).2 (by decide) | exact qf_uA (aA_k g2).2.1 (by decide))
  exact QF.tr p1 (sq_X4_measure_b148 hk89 _ _ _ _ h)
set_option maxHeartbeats 4000000 in
set_option maxRecDepth 100000 in
theorem sq_X4_measure_b89 {T1 : AT} : ∀ n : Nat, ∀ (T : AT) (l0 : Nat) (l1 : Nat) (l3 : Int32), g_X4_measure_b89 n T l0 l1 l3 = some T1 → QF T T1 := by
  intro n
  induction n with
  | zero =>
    intro T l0 l1 l3 h
    have h : (none : Option (AT)) = some T1 := h
    cases h
  | succ n ih =>
    intro T l0 l1 l3 h
    have p0 := QF.rf T
    unfold g_X4_measure_b89 at h
    obtain ⟨g2, h⟩ := oif_some h
    obtain ⟨n3, en3, h⟩ := obind_some h
    obtain ⟨g4, h⟩ := oif_some h
    obtain ⟨r6, T5, eT5, h⟩ := obind2_some h
    have p1 : QF T T5 := QF.tr p0 ((sq_X1_cells eT5))
    rcases oif_or h with ⟨c7, h⟩ | ⟨c7, h⟩
    · have h := h
      rw [← osome1 h]
      exact p1
    · have h := h
      obtain ⟨g8, h⟩ := oif_some h
      obtain ⟨n9, en9, h⟩ := obind_some h
      obtain ⟨g10, h⟩ := oif_some h
      obtain ⟨r12, T11, eT11, h⟩ := obind2_some h
      have p2 : QF T T11 := QF.tr p1 ((sq_X4_standsOut eT11))
      rcases oif_or h with ⟨c13, h⟩ | ⟨c13, h⟩
      · have h := h
        exact QF.tr p2 (sq_X4_measure_b148 ih _ _ _ _ h)
      · have h := h
        obtain ⟨g14, h⟩ := oif_some h
        obtain ⟨n15, en15, h⟩ := obind_some h
        obtain ⟨g16, h⟩ := oif_some h
        obtain ⟨v17, -, h⟩ := elet_some h
        obtain ⟨g18, h⟩ := oif_some h
        obtain ⟨g19, h⟩ := oif_some h
        obtain ⟨T20, eT20, h⟩ := elet_some h
        have p3 : QF T T20 := QF.tr p2 (by rw [eT20]; first | exact qf_uO (oO_k g19).2 (by decide) | exact qf_uA (aA_k g18).2.1 (by decide))
        obtain ⟨g21, h⟩ := oif_some h
        obtain ⟨n22, en22, h⟩ := obind_some h
        obtain ⟨g23, h⟩ := oif_some h
        obtain ⟨v24, -, h⟩ := elet_some h
        obtain ⟨g25, h⟩ := oif_some h
        obtain ⟨n26, en26, h⟩ := obind_some h
        obtain ⟨g27, h⟩ := oif_some h
        obtain ⟨T28, eT28, h⟩ := obind_some h
        have p4 : QF T T28 := QF.tr p3 (sq_X10_set eT28)
        exact QF.tr p4 (sq_X4_measure_b138 ih _ _ _ _ h)
set_option maxHeartbeats 4000000 in
set_option maxRecDepth 100000 in
theorem sq_X4_measure_b53 {T1 : AT} {k16 : AT → Nat → Nat → Nat → Int32 → Option (AT)} (hk16 : ∀ (T : AT) (l0 : Nat) (l1 : Nat) (l2 : Nat) (l3 : Int32), k16 T l0 l1 l2 l3 = some T1 → QF T T1) : ∀ (T : AT) (l0 : Nat) (l1 : Nat) (l2 : Nat) (l3 : Int32), g_X4_measure_b53 k16 T l0 l1 l2 l3 = some T1 → QF T T1 := by
  intro T l0 l1 l2 l3 h
  have p0 := QF.rf T
  unfold g_X4_measure_b53 at h
  obtain ⟨v2, ev2, h⟩ := elet_some h
  exact QF.tr p0 (hk16 _ _ _ _ _ h)
set_option maxHeartbeats 4000000 in
set_option maxRecDepth 100000 in
theorem sq_X4_measure_b16 {T1 : AT} : ∀ n : Nat, ∀ (T : AT) (l0 : Nat) (l1 : Nat) (l2 : Nat) (l3 : Int32), g_X4_measure_b16 n T l0 l1 l2 l3 = some T1 → QF T T1 := by
  intro n
  induction n with
  | zero =>
    intro T l0 l1 l2 l3 h
    have h : (none : Option (AT)) = some T1 := h
    cases h
  | succ n ih =>
    intro T l0 l1 l2 l3 h
    have p0 := QF.rf T
    unfold g_X4_measure_b16 at h
    obtain ⟨g2, h⟩ := oif_some h
    obtain ⟨n3, en3, h⟩ := obind_some h
    obtain ⟨g4, h⟩ := oif_some h
    obtain ⟨r6, T5, eT5, h⟩ := obind2_some h
    have p1 : QF T T5 := QF.tr p0 ((sq_X1_cells eT5))
    rcases oif_or h with ⟨c7, h⟩ | ⟨c7, h⟩
    · have h := h
      obtain ⟨g8, h⟩ := oif_some h
      obtain ⟨n9, en9, h⟩ := obind_some h
      obtain ⟨g10, h⟩ := oif_some h
      obtain ⟨n11, en11, h⟩ := obind_some h
      obtain ⟨g12, h⟩ := oif_some h
      obtain ⟨n13, en13, h⟩ := obind_some h
      obtain ⟨g14, h⟩ := oif_some h
      obtain ⟨n15, en15, h⟩ := obind_some h
      obtain ⟨g16, h⟩ := oif_some h
      obtain ⟨r18, T17, eT17, h⟩ := obind2_some h
      have p2 : QF T T17 := QF.tr p1 ((sq_X1_bestIn eT17))
      obtain ⟨g19, h⟩ := oif_some h
      obtain ⟨T20, eT20, h⟩ := elet_some h
      have p3 : QF T T20 := QF.tr p2 (by rw [eT20]; first | exact qf_uO (oO_k g19).2 (by decide) | exact qf_uA (aA_k g16).2.1 (by decide))
      obtain ⟨g21, h⟩ := oif_some h
      obtain ⟨T22, eT22, h⟩ := elet_some h
      have p4 : QF T T22 := QF.tr p3 (by rw [eT22]; first | exact qf_uO (oO_k g21).2 (by decide) | exact qf_uA (aA_k g19).2.1 (by decide))
      exact QF.tr p4 (sq_X4_measure_b89 _ _ _ _ _ h)
    · have h := h
      obtain ⟨g23, h⟩ := oif_some h
      obtain ⟨n24, en24, h⟩ := obind_some h
      obtain ⟨g25, h⟩ := oif_some h
      obtain ⟨g26, h⟩ := oif_some h
      obtain ⟨n27, en27, h⟩ := obind_some h
      obtain ⟨g28, h⟩ := oif_some h
      obtain ⟨r30, T29, eT29, h⟩ := obind2_some h
      have p2 : QF T T29 := QF.tr p1 ((sq_X8_windowOf eT29))
      obtain ⟨g31, h⟩ := oif_some h
      obtain ⟨n32, en32, h⟩ := obind_some h
      obtain ⟨g33, h⟩ := oif_some h
      obtain ⟨T34, eT34, h⟩ := obind_some h
      have p3 : QF T T34 := QF.tr p2 (sq_X8_blockPowerOf eT34)
      exact QF.tr p3 (sq_X4_measure_b53 ih _ _ _ _ _ h)
set_option maxHeartbeats 4000000 in
set_option maxRecDepth 100000 in
theorem sq_X4_measure {T : AT} {o : Nat} {a0 : Nat} {a1 : Nat} {T1 : AT} (h : g_X4_measure T o a0 a1 = some T1) : QF T T1 := by
  have p0 := QF.rf T
  unfold g_X4_measure at h
  obtain ⟨g2, h⟩ := oif_some h
  obtain ⟨n3, en3, h⟩ := obind_some h
  obtain ⟨g4, h⟩ := oif_some h
  obtain ⟨T5, eT5, h⟩ := obind_some h
  have p1 : QF T T5 := QF.tr p0 ((sq_X10_narrow eT5))
  obtain ⟨g7, h⟩ := oif_some h
  obtain ⟨n8, en8, h⟩ := obind_some h
  obtain ⟨g9, h⟩ := oif_some h
  obtain ⟨T10, eT10, h⟩ := obind_some h
  have p2 : QF T T10 := QF.tr p1 ((sq_X10_narrow eT10))
  exact QF.tr p2 (sq_X4_measure_b16 _ _ _ _ _ _ h)
set_option maxHeartbeats 4000000 in
set_option maxRecDepth 100000 in
theorem sq_J7_fill_53178_b5 {T1 : AT} : ∀ n : Nat, ∀ (T : AT) (l0 : Nat) (l1 : Int32) (l2 : Int32) (l3 : Int32), g_J7_fill_53178_b5 n T l0 l1 l2 l3 = some T1 → QF T T1 := by
  intro n
  induction n with
  | zero =>
    intro T l0 l1 l2 l3 h
    have h : (none : Option (AT)) = some T1 := h
    cases h
  | succ n ih =>
    intro T l0 l1 l2 l3 h
    have p0 := QF.rf T
    unfold g_J7_fill_53178_b5 at h
    rcases oif_or h with ⟨c2, h⟩ | ⟨c2, h⟩
    · have h := h
      rw [← osome1 h]
      exact p0
    · have h := h
      obtain ⟨g3, h⟩ := oif_some h
      obtain ⟨g4, h⟩ := oif_some h
      obtain ⟨T5, eT5, h⟩ := elet_some h
      have p1 : QF T T5 := QF.tr p0 (by rw [eT5]; first | exact qf_uO (oO_k g4).2 (by decide) | exact qf_uA (aA_k g3).2.1 (by decide))
      obtain ⟨v6, ev6, h⟩ := elet_some h
      exact QF.tr p1 (ih _ _ _ _ _ h)
set_option maxHeartbeats 4000000 in
set_option maxRecDepth 100000 in
theorem sq_J7_fill_53178 {T : AT} {a0 : Nat} {a1 : Int32} {T1 : AT} (h : g_J7_fill_53178 T a0 a1 = some T1) : QF T T1 := by
  have p0 := QF.rf T
  unfold g_J7_fill_53178 at h
  obtain ⟨g2, h⟩ := oif_some h
  obtain ⟨v3, -, h⟩ := elet_some h
  exact QF.tr p0 (sq_J7_fill_53178_b5 _ _ _ _ _ _ h)
set_option maxHeartbeats 4000000 in
set_option maxRecDepth 100000 in
theorem sq_X5_silence_b2 {T1 : AT} : ∀ n : Nat, ∀ (T : AT) (l0 : Nat) (l1 : Int32), g_X5_silence_b2 n T l0 l1 = some T1 → QF T T1 := by
  intro n
  induction n with
  | zero =>
    intro T l0 l1 h
    have h : (none : Option (AT)) = some T1 := h
    cases h
  | succ n ih =>
    intro T l0 l1 h
    have p0 := QF.rf T
    unfold g_X5_silence_b2 at h
    rcases oif_or h with ⟨c2, h⟩ | ⟨c2, h⟩
    · have h := h
      rw [← osome1 h]
      exact p0
    · have h := h
      obtain ⟨g3, h⟩ := oif_some h
      obtain ⟨n4, en4, h⟩ := obind_some h
      obtain ⟨g5, h⟩ := oif_some h
      obtain ⟨g6, h⟩ := oif_some h
      obtain ⟨n7, en7, h⟩ := obind_some h
      obtain ⟨T8, eT8, h⟩ := obind_some h
      have p1 : QF T T8 := QF.tr p0 (sq_J7_fill_53178 eT8)
      obtain ⟨v10, ev10, h⟩ := elet_some h
      exact QF.tr p1 (ih _ _ _ h)
set_option maxHeartbeats 4000000 in
set_option maxRecDepth 100000 in
theorem sq_X5_silence {T : AT} {o : Nat} {T1 : AT} (h : g_X5_silence T o = some T1) : QF T T1 := by
  have p0 := QF.rf T
  unfold g_X5_silence at h
  exact QF.tr p0 (sq_X5_silence_b2 _ _ _ _ h)
set_option maxHeartbeats 4000000 in
set_option maxRecDepth 100000 in
theorem sq_X5_raw_b49 {r1 : Int32} {T1 : AT} : ∀ (T : AT) (s0 : Int32), g_X5_raw_b49 T s0 = some (r1, T1) → QF T T1 := by
  intro T s0 h
  have p0 := QF.rf T
  unfold g_X5_raw_b49 at h
  rw [← (osome2 h).2]
  exact p0
set_option maxHeartbeats 4000000 in
set_option maxRecDepth 100000 in
theorem sq_X5_raw_b48 {r1 : Int32} {T1 : AT} : ∀ (T : AT), g_X5_raw_b48 T = some (r1, T1) → QF T T1 := by
  intro T h
  have p0 := QF.rf T
  unfold g_X5_raw_b48 at h
  exact QF.tr p0 (sq_X5_raw_b49 _ _ h)
set_option maxHeartbeats 4000000 in
set_option maxRecDepth 100000 in
theorem sq_X5_raw {T : AT} {o : Nat} {a0 : Nat} {a1 : Int32} {a2 : Int32} {r1 : Int32} {T1 : AT} (h : g_X5_raw T o a0 a1 a2 = some (r1, T1)) : QF T T1 := by
  have p0 := QF.rf T
  unfold g_X5_raw at h
  obtain ⟨g2, h⟩ := oif_some h
  obtain ⟨n3, en3, h⟩ := obind_some h
  obtain ⟨g4, h⟩ := oif_some h
  obtain ⟨g5, h⟩ := oif_some h
  obtain ⟨n6, en6, h⟩ := obind_some h
  obtain ⟨g7, h⟩ := oif_some h
  obtain ⟨v8, -, h⟩ := elet_some h
  obtain ⟨v9, -, h⟩ := elet_some h
  rcases oif_or h with ⟨c10, h⟩ | ⟨c10, h⟩
  · have h := h
    exact QF.tr p0 (sq_X5_raw_b48 _ h)
  · have h := h
    rcases oif_or h with ⟨c11, h⟩ | ⟨c11, h⟩
    · have h := h
      exact QF.tr p0 (sq_X5_raw_b48 _ h)
    · have h := h
      obtain ⟨g12, h⟩ := oif_some h
      obtain ⟨n13, en13, h⟩ := obind_some h
      obtain ⟨g14, h⟩ := oif_some h
      obtain ⟨g15, h⟩ := oif_some h
      obtain ⟨n16, en16, h⟩ := obind_some h
      obtain ⟨g17, h⟩ := oif_some h
      obtain ⟨v18, -, h⟩ := elet_some h
      obtain ⟨g19, h⟩ := oif_some h
      obtain ⟨n20, en20, h⟩ := obind_some h
      obtain ⟨g21, h⟩ := oif_some h
      obtain ⟨g22, h⟩ := oif_some h
      obtain ⟨n23, en23, h⟩ := obind_some h
      obtain ⟨g24, h⟩ := oif_some h
      obtain ⟨g25, h⟩ := oif_some h
      obtain ⟨v26, -, h⟩ := elet_some h
      obtain ⟨v27, -, h⟩ := elet_some h
      exact QF.tr p0 (sq_X5_raw_b49 _ _ h)
set_option maxHeartbeats 4000000 in
set_option maxRecDepth 100000 in
theorem sq_X5_filtered_b6 {r1 : Int32} {T1 : AT} : ∀ n : Nat, ∀ (T : AT) (l0 : Nat) (l1 : Nat) (l2 : Int32) (l3 : Int32) (l4 : Int32) (l5 : Int32), g_X5_filtered_b6 n T l0 l1 l2 l3 l4 l5 = some (r1, T1) → QF T T1 := by
  intro n
  induction n with
  | zero =>
    intro T l0 l1 l2 l3 l4 l5 h
    have h : (none : Option (Int32 × AT)) = some (r1, T1) := h
    cases h
  | succ n ih =>
    intro T l0 l1 l2 l3 l4 l5 h
    have p0 := QF.rf T
    unfold g_X5_filtered_b6 at h
    obtain ⟨g2, h⟩ := oif_some h
    obtain ⟨v3, -, h⟩ := elet_some h
    rcases oif_or h with ⟨c4, h⟩ | ⟨c4, h⟩
    · have h := h
      rw [← (osome2 h).2]
      exact p0
    · have h := h
      obtain ⟨g5, h⟩ := oif_some h
      obtain ⟨n6, en6, h⟩ := obind_some h
      obtain ⟨g7, h⟩ := oif_some h
      obtain ⟨g8, h⟩ := oif_some h
      obtain ⟨v9, -, h⟩ := elet_some h
      obtain ⟨v10, -, h⟩ := elet_some h
      obtain ⟨g11, h⟩ := oif_some h
      obtain ⟨r13, T12, eT12, h⟩ := obind2_some h
      have p1 : QF T T12 := QF.tr p0 (sq_X5_raw eT12)
      obtain ⟨v14, -, h⟩ := elet_some h
      obtain ⟨v15, -, h⟩ := elet_some h
      obtain ⟨v16, ev16, h⟩ := elet_some h
      exact QF.tr p1 (ih _ _ _ _ _ _ _ h)
set_option maxHeartbeats 4000000 in
set_option maxRecDepth 100000 in
theorem sq_X5_filtered {T : AT} {o : Nat} {a0 : Nat} {a1 : Int32} {a2 : Int32} {r1 : Int32} {T1 : AT} (h : g_X5_filtered T o a0 a1 a2 = some (r1, T1)) : QF T T1 := by
  have p0 := QF.rf T
  unfold g_X5_filtered at h
  exact QF.tr p0 (sq_X5_filtered_b6 _ _ _ _ _ _ _ _ h)

set_option maxHeartbeats 4000000 in
set_option maxRecDepth 100000 in
theorem sq_X10_put_b20 {T1 : AT} : ∀ (T : AT), g_X10_put_b20 T = some T1 → QF T T1 := by
  intro T h
  have p0 := QF.rf T
  unfold g_X10_put_b20 at h
  rw [← osome1 h]
  exact p0
set_option maxHeartbeats 4000000 in
set_option maxRecDepth 100000 in
theorem sq_X10_put {T : AT} {o : Nat} {a0 : Int32} {a1 : Int32} {T1 : AT} (h : g_X10_put T o a0 a1 = some T1) : QF T T1 := by
  have p0 := QF.rf T
  unfold g_X10_put at h
  obtain ⟨g2, h⟩ := oif_some h
  obtain ⟨T3, eT3, h⟩ := obind_some h
  have p1 : QF T T3 := QF.tr p0 ((sq_X10_clear eT3))
  obtain ⟨g5, h⟩ := oif_some h
  obtain ⟨n6, en6, h⟩ := obind_some h
  obtain ⟨g7, h⟩ := oif_some h
  obtain ⟨g8, h⟩ := oif_some h
  obtain ⟨n9, en9, h⟩ := obind_some h
  obtain ⟨v10, -, h⟩ := elet_some h
  obtain ⟨g11, h⟩ := oif_some h
  obtain ⟨g12, h⟩ := oif_some h
  obtain ⟨T13, eT13, h⟩ := elet_some h
  have p2 : QF T T13 := QF.tr p1 (by rw [eT13]; exact qf_uJ)
  obtain ⟨g14, h⟩ := oif_some h
  obtain ⟨T15, eT15, h⟩ := obind_some h
  have p3 : QF T T15 := QF.tr p2 (sq_X10_settle eT15)
  exact QF.tr p3 (sq_X10_put_b20 _ h)
set_option maxHeartbeats 4000000 in
set_option maxRecDepth 100000 in
theorem sq_X5_finish_b87 {T1 : AT} {k9 : AT → Nat → Nat → Nat → Int32 → Option (AT)} {k20 : AT → Nat → Nat → Nat → Int32 → Int32 → Option (AT)} (hk9 : ∀ (T : AT) (l0 : Nat) (l1 : Nat) (l2 : Nat) (l3 : Int32), k9 T l0 l1 l2 l3 = some T1 → QF T T1) (hk20 : ∀ (T : AT) (l0 : Nat) (l1 : Nat) (l2 : Nat) (l3 : Int32) (l4 : Int32), k20 T l0 l1 l2 l3 l4 = some T1 → QF T T1) : ∀ (T : AT) (l0 : Nat) (l1 : Nat) (l2 : Nat) (l3 : Int32) (l4 : Int32), g_X5_finish_b87 k9 k20 T l0 l1 l2 l3 l4 = some T1 → QF T T1 := by
  intro T l0 l1 l2 l3 l4 h
  have p0 := QF.rf T
  unfold g_X5_finish_b87 at h
  obtain ⟨v2, ev2, h⟩ := elet_some h
  exact QF.tr p0 (hk20 _ _ _ _ _ _ h)
set_option maxHeartbeats 4000000 in
set_option maxRecDepth 100000 in
theorem sq_X5_finish_b55 {T1 : AT} {k9 : AT → Nat → Nat → Nat → Int32 → Option (AT)} {k20 : AT → Nat → Nat → Nat → Int32 → Int32 → Option (AT)} (hk9 : ∀ (T : AT) (l0 : Nat) (l1 : Nat) (l2 : Nat) (l3 : Int32), k9 T l0 l1 l2 l3 = some T1 → QF T T1) (hk20 : ∀ (T : AT) (l0 : Nat) (l1 : Nat) (l2 : Nat) (l3 : Int32) (l4 : Int32), k20 T l0 l1 l2 l3 l4 = some T1 → QF T T1) : ∀ (T : AT) (s0 : Int32) (l0 : Nat) (l1 : Nat) (l2 : Nat) (l3 : Int32) (l4 : Int32), g_X5_finish_b55 k9 k20 T s0 l0 l1 l2 l3 l4 = some T1 → QF T T1 := by
  intro T s0 l0 l1 l2 l3 l4 h
  have p0 := QF.rf T
  unfold g_X5_finish_b55 at h
  obtain ⟨g2, h⟩ := oif_some h
  obtain ⟨n3, en3, h⟩ := obind_some h
  obtain ⟨r4, -, h⟩ := obind_some h
  obtain ⟨g5, h⟩ := oif_some h
  obtain ⟨v6, -, h⟩ := elet_some h
  obtain ⟨v7, -, h⟩ := elet_some h
  obtain ⟨g8, h⟩ := oif_some h
  obtain ⟨v9, -, h⟩ := elet_some h
  obtain ⟨v10, -, h⟩ := elet_some h
  obtain ⟨v11, -, h⟩ := elet_some h
  obtain ⟨g12, h⟩ := oif_some h
  obtain ⟨T13, eT13, h⟩ := obind_some h
  have p1 : QF T T13 := QF.tr p0 (sq_X10_put eT13)
  exact QF.tr p1 (sq_X5_finish_b87 hk9 hk20 _ _ _ _ _ _ h)
set_option maxHeartbeats 4000000 in
set_option maxRecDepth 100000 in
theorem sq_X5_finish_b20 {T1 : AT} {k9 : AT → Nat → Nat → Nat → Int32 → Option (AT)} (hk9 : ∀ (T : AT) (l0 : Nat) (l1 : Nat) (l2 : Nat) (l3 : Int32), k9 T l0 l1 l2 l3 = some T1 → QF T T1) : ∀ n : Nat, ∀ (T : AT) (l0 : Nat) (l1 : Nat) (l2 : Nat) (l3 : Int32) (l4 : Int32), g_X5_finish_b20 k9 n T l0 l1 l2 l3 l4 = some T1 → QF T T1 := by
  intro n
  induction n with
  | zero =>
    intro T l0 l1 l2 l3 l4 h
    have h : (none : Option (AT)) = some T1 := h
    cases h
  | succ n ih =>
    intro T l0 l1 l2 l3 l4 h
    have p0 := QF.rf T
    unfold g_X5_finish_b20 at h
    obtain ⟨g2, h⟩ := oif_some h
    obtain ⟨v3, -, h⟩ := elet_some h
    rcases oif_or h with ⟨c4, h⟩ | ⟨c4, h⟩
    · have h := h
      obtain ⟨v5, ev5, h⟩ := elet_some h
      exact QF.tr p0 (hk9 _ _ _ _ _ h)
    · have h := h
      obtain ⟨g6, h⟩ := oif_some h
      obtain ⟨v7, -, h⟩ := elet_some h
      rcases oif_or h with ⟨c8, h⟩ | ⟨c8, h⟩
      · have h := h
        obtain ⟨g9, h⟩ := oif_some h
        obtain ⟨r11, T10, eT10, h⟩ := obind2_some h
        have p1 : QF T T10 := QF.tr p0 ((sq_X5_raw eT10))
        exact QF.tr p1 (sq_X5_finish_b55 hk9 ih _ _ _ _ _ _ _ h)
      · have h := h
        obtain ⟨g12, h⟩ := oif_some h
        obtain ⟨r14, T13, eT13, h⟩ := obind2_some h
        have p1 : QF T T13 := QF.tr p0 ((sq_X5_filtered eT13))
        exact QF.tr p1 (sq_X5_finish_b55 hk9 ih _ _ _ _ _ _ _ h)
set_option maxHeartbeats 4000000 in
set_option maxRecDepth 100000 in
theorem sq_X5_finish_b9 {T1 : AT} : ∀ n : Nat, ∀ (T : AT) (l0 : Nat) (l1 : Nat) (l2 : Nat) (l3 : Int32), g_X5_finish_b9 n T l0 l1 l2 l3 = some T1 → QF T T1 := by
  intro n
  induction n with
  | zero =>
    intro T l0 l1 l2 l3 h
    have h : (none : Option (AT)) = some T1 := h
    cases h
  | succ n ih =>
    intro T l0 l1 l2 l3 h
    have p0 := QF.rf T
    unfold g_X5_finish_b9 at h
    obtain ⟨g2, h⟩ := oif_some h
    obtain ⟨v3, -, h⟩ := elet_some h
    rcases oif_or h with ⟨c4, h⟩ | ⟨c4, h⟩
    · have h := h
      obtain ⟨g5, h⟩ := oif_some h
      obtain ⟨T6, eT6, h⟩ := elet_some h
      have p1 : QF T T6 := QF.tr p0 (by rw [eT6]; first | exact qf_uO (oO_k g5).2 (by decide) | exact qf_uA (aA_k g2).2.1 (by decide))
      rw [← osome1 h]
      exact p1
    · have h := h
      exact QF.tr p0 (sq_X5_finish_b20 ih _ _ _ _ _ _ _ h)
set_option maxHeartbeats 4000000 in
set_option maxRecDepth 100000 in
theorem sq_X5_finish {T : AT} {o : Nat} {a0 : Nat} {a1 : Nat} {T1 : AT} (h : g_X5_finish T o a0 a1 = some T1) : QF T T1 := by
  have p0 := QF.rf T
  unfold g_X5_finish at h
  obtain ⟨g2, h⟩ := oif_some h
  obtain ⟨n3, en3, h⟩ := obind_some h
  obtain ⟨g4, h⟩ := oif_some h
  obtain ⟨T5, eT5, h⟩ := obind_some h
  have p1 : QF T T5 := QF.tr p0 ((sq_X10_narrow eT5))
  exact QF.tr p1 (sq_X5_finish_b9 _ _ _ _ _ _ h)
set_option maxHeartbeats 4000000 in
set_option maxRecDepth 100000 in
theorem sq_X6_delayFrom {T : AT} {o : Nat} {a0 : Nat} {a1 : Int32} {a2 : Int32} {r1 : Int32} {T1 : AT} (h : g_X6_delayFrom T o a0 a1 a2 = some (r1, T1)) : QF T T1 := by
  have p0 := QF.rf T
  unfold g_X6_delayFrom at h
  obtain ⟨g2, h⟩ := oif_some h
  obtain ⟨v3, -, h⟩ := elet_some h
  obtain ⟨v4, -, h⟩ := elet_some h
  obtain ⟨g5, h⟩ := oif_some h
  obtain ⟨v6, -, h⟩ := elet_some h
  obtain ⟨v7, -, h⟩ := elet_some h
  obtain ⟨v8, -, h⟩ := elet_some h
  obtain ⟨v9, -, h⟩ := elet_some h
  obtain ⟨v10, -, h⟩ := elet_some h
  obtain ⟨g11, h⟩ := oif_some h
  obtain ⟨v12, -, h⟩ := elet_some h
  obtain ⟨g13, h⟩ := oif_some h
  obtain ⟨v14, -, h⟩ := elet_some h
  obtain ⟨v15, -, h⟩ := elet_some h
  obtain ⟨v16, -, h⟩ := elet_some h
  obtain ⟨r17, -, h⟩ := obind_some h
  obtain ⟨v18, -, h⟩ := elet_some h
  obtain ⟨g19, h⟩ := oif_some h
  obtain ⟨v20, -, h⟩ := elet_some h
  obtain ⟨v21, -, h⟩ := elet_some h
  obtain ⟨r22, -, h⟩ := obind_some h
  obtain ⟨g23, h⟩ := oif_some h
  obtain ⟨v24, -, h⟩ := elet_some h
  obtain ⟨v25, -, h⟩ := elet_some h
  obtain ⟨g26, h⟩ := oif_some h
  obtain ⟨v27, -, h⟩ := elet_some h
  obtain ⟨v28, -, h⟩ := elet_some h
  obtain ⟨r29, -, h⟩ := obind_some h
  obtain ⟨v30, -, h⟩ := elet_some h
  obtain ⟨v31, -, h⟩ := elet_some h
  rw [← (osome2 h).2]
  exact p0
set_option maxHeartbeats 4000000 in
set_option maxRecDepth 100000 in
theorem sq_X7_valueAt_b78 {r1 : Int32} {T1 : AT} : ∀ (T : AT) (s0 : Int32), g_X7_valueAt_b78 T s0 = some (r1, T1) → QF T T1 := by
  intro T s0 h
  have p0 := QF.rf T
  unfold g_X7_valueAt_b78 at h
  rw [← (osome2 h).2]
  exact p0
set_option maxHeartbeats 4000000 in
set_option maxRecDepth 100000 in
theorem sq_X7_valueAt_b125 {r1 : Int32} {T1 : AT} : ∀ (T : AT) (s0 : Int32), g_X7_valueAt_b125 T s0 = some (r1, T1) → QF T T1 := by
  intro T s0 h
  have p0 := QF.rf T
  unfold g_X7_valueAt_b125 at h
  rw [← (osome2 h).2]
  exact p0
set_option maxHeartbeats 4000000 in
set_option maxRecDepth 100000 in
theorem sq_X7_valueAt {T : AT} {o : Nat} {a0 : Int32} {r1 : Int32} {T1 : AT} (h : g_X7_valueAt T o a0 = some (r1, T1)) : QF T T1 := by
  have p0 := QF.rf T
  unfold g_X7_valueAt at h
  obtain ⟨g2, h⟩ := oif_some h
  obtain ⟨v3, -, h⟩ := elet_some h
  rcases oif_or h with ⟨c4, h⟩ | ⟨c4, h⟩
  · have h := h
    obtain ⟨g5, h⟩ := oif_some h
    obtain ⟨v6, -, h⟩ := elet_some h
    obtain ⟨v7, -, h⟩ := elet_some h
    obtain ⟨g8, h⟩ := oif_some h
    obtain ⟨v9, -, h⟩ := elet_some h
    obtain ⟨r10, -, h⟩ := obind_some h
    obtain ⟨g11, h⟩ := oif_some h
    obtain ⟨v12, -, h⟩ := elet_some h
    by_cases c13 : v12 = 0
    · have h := oif_pos c13 h
      obtain ⟨g14, h⟩ := oif_some h
      obtain ⟨v15, -, h⟩ := elet_some h
      obtain ⟨v16, -, h⟩ := elet_some h
      rcases oif_or h with ⟨c17, h⟩ | ⟨c17, h⟩
      · have h := h
        obtain ⟨g18, h⟩ := oif_some h
        obtain ⟨v19, -, h⟩ := elet_some h
        obtain ⟨v20, -, h⟩ := elet_some h
        exact QF.tr p0 (sq_X7_valueAt_b78 _ _ h)
      · have h := h
        obtain ⟨g21, h⟩ := oif_some h
        obtain ⟨v22, -, h⟩ := elet_some h
        exact QF.tr p0 (sq_X7_valueAt_b78 _ _ h)
    have h := oif_neg c13 h
    by_cases c23 : v12 = 1
    · have h := oif_pos c23 h
      obtain ⟨g24, h⟩ := oif_some h
      obtain ⟨v25, -, h⟩ := elet_some h
      obtain ⟨g26, h⟩ := oif_some h
      obtain ⟨v27, -, h⟩ := elet_some h
      obtain ⟨v28, -, h⟩ := elet_some h
      obtain ⟨v29, -, h⟩ := elet_some h
      obtain ⟨v30, -, h⟩ := elet_some h
      obtain ⟨v31, -, h⟩ := elet_some h
      obtain ⟨g32, h⟩ := oif_some h
      obtain ⟨v33, -, h⟩ := elet_some h
      obtain ⟨v34, -, h⟩ := elet_some h
      obtain ⟨v35, -, h⟩ := elet_some h
      obtain ⟨v36, -, h⟩ := elet_some h
      obtain ⟨g37, h⟩ := oif_some h
      obtain ⟨v38, -, h⟩ := elet_some h
      obtain ⟨v39, -, h⟩ := elet_some h
      obtain ⟨r40, -, h⟩ := obind_some h
      obtain ⟨v41, -, h⟩ := elet_some h
      rw [← (osome2 h).2]
      exact p0
    have h := oif_neg c23 h
    by_cases c42 : v12 = 2
    · have h := oif_pos c42 h
      rcases oif_or h with ⟨c43, h⟩ | ⟨c43, h⟩
      · have h := h
        obtain ⟨g44, h⟩ := oif_some h
        obtain ⟨v45, -, h⟩ := elet_some h
        exact QF.tr p0 (sq_X7_valueAt_b125 _ _ h)
      · have h := h
        exact QF.tr p0 (sq_X7_valueAt_b125 _ _ h)
    have h := oif_neg c42 h
    obtain ⟨v46, -, h⟩ := elet_some h
    obtain ⟨v47, -, h⟩ := elet_some h
    obtain ⟨v48, -, h⟩ := elet_some h
    obtain ⟨v49, -, h⟩ := elet_some h
    obtain ⟨g50, h⟩ := oif_some h
    obtain ⟨v51, -, h⟩ := elet_some h
    obtain ⟨v52, -, h⟩ := elet_some h
    obtain ⟨v53, -, h⟩ := elet_some h
    obtain ⟨g54, h⟩ := oif_some h
    obtain ⟨v55, -, h⟩ := elet_some h
    obtain ⟨v56, -, h⟩ := elet_some h
    obtain ⟨v57, -, h⟩ := elet_some h
    obtain ⟨r58, -, h⟩ := obind_some h
    obtain ⟨g59, h⟩ := oif_some h
    obtain ⟨v60, -, h⟩ := elet_some h
    obtain ⟨v61, -, h⟩ := elet_some h
    rw [← (osome2 h).2]
    exact p0
  · have h := h
    rw [← (osome2 h).2]
    exact p0
set_option maxHeartbeats 4000000 in
set_option maxRecDepth 100000 in
theorem sq_X5_arriving_b47 {r1 : Int32} {T1 : AT} : ∀ (T : AT) (s0 : Int32), g_X5_arriving_b47 T s0 = some (r1, T1) → QF T T1 := by
  intro T s0 h
  have p0 := QF.rf T
  unfold g_X5_arriving_b47 at h
  rw [← (osome2 h).2]
  exact p0
set_option maxHeartbeats 4000000 in
set_option maxRecDepth 100000 in
theorem sq_X5_arriving {T : AT} {a0 : Nat} {a1 : Nat} {a2 : Int32} {a3 : Int32} {r1 : Int32} {T1 : AT} (h : g_X5_arriving T a0 a1 a2 a3 = some (r1, T1)) : QF T T1 := by
  have p0 := QF.rf T
  unfold g_X5_arriving at h
  rcases oif_or h with ⟨c2, h⟩ | ⟨c2, h⟩
  · have h := h
    obtain ⟨v3, -, h⟩ := elet_some h
    obtain ⟨g4, h⟩ := oif_some h
    obtain ⟨r6, T5, eT5, h⟩ := obind2_some h
    have p1 : QF T T5 := QF.tr p0 (sq_X7_valueAt eT5)
    obtain ⟨g7, h⟩ := oif_some h
    obtain ⟨v8, -, h⟩ := elet_some h
    rcases oif_or h with ⟨c9, h⟩ | ⟨c9, h⟩
    · have h := h
      exact QF.tr p1 (sq_X5_arriving_b47 _ _ h)
    · have h := h
      obtain ⟨g10, h⟩ := oif_some h
      obtain ⟨v11, -, h⟩ := elet_some h
      obtain ⟨v12, -, h⟩ := elet_some h
      obtain ⟨v13, -, h⟩ := elet_some h
      obtain ⟨g14, h⟩ := oif_some h
      obtain ⟨v15, -, h⟩ := elet_some h
      obtain ⟨v16, -, h⟩ := elet_some h
      obtain ⟨v17, -, h⟩ := elet_some h
      obtain ⟨r18, -, h⟩ := obind_some h
      obtain ⟨v19, -, h⟩ := elet_some h
      exact QF.tr p1 (sq_X5_arriving_b47 _ _ h)
  · have h := h
    rw [← (osome2 h).2]
    exact p0
set_option maxHeartbeats 4000000 in
set_option maxRecDepth 100000 in
theorem sq_X5_hear_b42 {T1 : AT} {k3 : AT → Nat → Nat → Nat → Int32 → Int32 → Int32 → Int32 → Option (AT)} (hk3 : ∀ (T : AT) (l0 : Nat) (l1 : Nat) (l2 : Nat) (l3 : Int32) (l4 : Int32) (l5 : Int32) (l6 : Int32), k3 T l0 l1 l2 l3 l4 l5 l6 = some T1 → QF T T1) : ∀ n : Nat, ∀ (T : AT) (l0 : Nat) (l1 : Nat) (l2 : Nat) (l3 : Int32) (l4 : Int32) (l5 : Int32) (l6 : Int32) (l7 : Nat) (l8 : Int32) (l9 : Int32), g_X5_hear_b42 k3 n T l0 l1 l2 l3 l4 l5 l6 l7 l8 l9 = some T1 → QF T T1 := by
  intro n
  induction n with
  | zero =>
    intro T l0 l1 l2 l3 l4 l5 l6 l7 l8 l9 h
    have h : (none : Option (AT)) = some T1 := h
    cases h
  | succ n ih =>
    intro T l0 l1 l2 l3 l4 l5 l6 l7 l8 l9 h
    have p0 := QF.rf T
    unfold g_X5_hear_b42 at h
    obtain ⟨g2, h⟩ := oif_some h
    obtain ⟨v3, -, h⟩ := elet_some h
    rcases oif_or h with ⟨c4, h⟩ | ⟨c4, h⟩
    · have h := h
      obtain ⟨g5, h⟩ := oif_some h
      obtain ⟨n6, en6, h⟩ := obind_some h
      obtain ⟨g7, h⟩ := oif_some h
      obtain ⟨g8, h⟩ := oif_some h
      obtain ⟨n9, en9, h⟩ := obind_some h
      obtain ⟨g10, h⟩ := oif_some h
      obtain ⟨g11, h⟩ := oif_some h
      obtain ⟨v12, -, h⟩ := elet_some h
      obtain ⟨v13, -, h⟩ := elet_some h
      obtain ⟨g14, h⟩ := oif_some h
      obtain ⟨g15, h⟩ := oif_some h
      obtain ⟨T16, eT16, h⟩ := elet_some h
      have p1 : QF T T16 := QF.tr p0 (by rw [eT16]; first | exact qf_uO (oO_k g15).2 (by decide) | exact qf_uA (aA_k g14).2.1 (by decide))
      obtain ⟨v17, ev17, h⟩ := elet_some h
      exact QF.tr p1 (hk3 _ _ _ _ _ _ _ _ h)
    · have h := h
      obtain ⟨g18, h⟩ := oif_some h
      obtain ⟨n19, en19, h⟩ := obind_some h
      obtain ⟨g20, h⟩ := oif_some h
      obtain ⟨g21, h⟩ := oif_some h
      obtain ⟨v22, -, h⟩ := elet_some h
      obtain ⟨v23, -, h⟩ := elet_some h
      obtain ⟨v24, -, h⟩ := elet_some h
      obtain ⟨g25, h⟩ := oif_some h
      obtain ⟨r27, T26, eT26, h⟩ := obind2_some h
      have p1 : QF T T26 := QF.tr p0 (sq_X6_delayFrom eT26)
      obtain ⟨r29, T28, eT28, h⟩ := obind2_some h
      have p2 : QF T T28 := QF.tr p1 (sq_X5_arriving eT28)
      obtain ⟨g30, h⟩ := oif_some h
      obtain ⟨n31, en31, h⟩ := obind_some h
      obtain ⟨g32, h⟩ := oif_some h
      obtain ⟨g33, h⟩ := oif_some h
      obtain ⟨v34, -, h⟩ := elet_some h
      obtain ⟨v35, -, h⟩ := elet_some h
      obtain ⟨v36, -, h⟩ := elet_some h
      obtain ⟨v37, -, h⟩ := elet_some h
      obtain ⟨v38, ev38, h⟩ := elet_some h
      exact QF.tr p2 (ih _ _ _ _ _ _ _ _ _ _ _ h)
set_option maxHeartbeats 4000000 in
set_option maxRecDepth 100000 in
theorem sq_X5_hear_b3 {T1 : AT} : ∀ n : Nat, ∀ (T : AT) (l0 : Nat) (l1 : Nat) (l2 : Nat) (l3 : Int32) (l4 : Int32) (l5 : Int32) (l6 : Int32), g_X5_hear_b3 n T l0 l1 l2 l3 l4 l5 l6 = some T1 → QF T T1 := by
  intro n
  induction n with
  | zero =>
    intro T l0 l1 l2 l3 l4 l5 l6 h
    have h : (none : Option (AT)) = some T1 := h
    cases h
  | succ n ih =>
    intro T l0 l1 l2 l3 l4 l5 l6 h
    have p0 := QF.rf T
    unfold g_X5_hear_b3 at h
    obtain ⟨g2, h⟩ := oif_some h
    obtain ⟨v3, -, h⟩ := elet_some h
    rcases oif_or h with ⟨c4, h⟩ | ⟨c4, h⟩
    · have h := h
      rw [← osome1 h]
      exact p0
    · have h := h
      obtain ⟨g5, h⟩ := oif_some h
      obtain ⟨n6, en6, h⟩ := obind_some h
      obtain ⟨g7, h⟩ := oif_some h
      obtain ⟨g8, h⟩ := oif_some h
      obtain ⟨n9, en9, h⟩ := obind_some h
      obtain ⟨g10, h⟩ := oif_some h
      obtain ⟨r12, T11, eT11, h⟩ := obind2_some h
      have p1 : QF T T11 := QF.tr p0 (sq_X6_delayFrom eT11)
      obtain ⟨r14, T13, eT13, h⟩ := obind2_some h
      have p2 : QF T T13 := QF.tr p1 (sq_X5_arriving eT13)
      exact QF.tr p2 (sq_X5_hear_b42 ih _ _ _ _ _ _ _ _ _ _ _ _ h)
set_option maxHeartbeats 4000000 in
set_option maxRecDepth 100000 in
theorem sq_X5_hear {T : AT} {o : Nat} {a0 : Nat} {a1 : Nat} {a2 : Int32} {a3 : Int32} {a4 : Int32} {T1 : AT} (h : g_X5_hear T o a0 a1 a2 a3 a4 = some T1) : QF T T1 := by
  have p0 := QF.rf T
  unfold g_X5_hear at h
  exact QF.tr p0 (sq_X5_hear_b3 _ _ _ _ _ _ _ _ _ h)
set_option maxHeartbeats 4000000 in
set_option maxRecDepth 100000 in
theorem sq_X5_recordPoint_b89 {T1 : AT} : ∀ (T : AT), g_X5_recordPoint_b89 T = some T1 → QF T T1 := by
  intro T h
  have p0 := QF.rf T
  unfold g_X5_recordPoint_b89 at h
  rw [← osome1 h]
  exact p0
set_option maxHeartbeats 4000000 in
set_option maxRecDepth 100000 in
theorem sq_X5_recordPoint_b53 {T1 : AT} : ∀ n : Nat, ∀ (T : AT) (l0 : Nat) (l1 : Nat) (l2 : Nat) (l5 : Int32) (l6 : Int32) (l7 : Int32), g_X5_recordPoint_b53 n T l0 l1 l2 l5 l6 l7 = some T1 → QF T T1 := by
  intro n
  induction n with
  | zero =>
    intro T l0 l1 l2 l5 l6 l7 h
    have h : (none : Option (AT)) = some T1 := h
    cases h
  | succ n ih =>
    intro T l0 l1 l2 l5 l6 l7 h
    have p0 := QF.rf T
    unfold g_X5_recordPoint_b53 at h
    obtain ⟨g2, h⟩ := oif_some h
    obtain ⟨v3, -, h⟩ := elet_some h
    rcases oif_or h with ⟨c4, h⟩ | ⟨c4, h⟩
    · have h := h
      obtain ⟨g5, h⟩ := oif_some h
      obtain ⟨T6, eT6, h⟩ := obind_some h
      have p1 : QF T T6 := QF.tr p0 (sq_X5_finish eT6)
      exact QF.tr p1 (sq_X5_recordPoint_b89 _ h)
    · have h := h
      obtain ⟨g8, h⟩ := oif_some h
      obtain ⟨n9, en9, h⟩ := obind_some h
      obtain ⟨g10, h⟩ := oif_some h
      obtain ⟨T11, eT11, h⟩ := obind_some h
      have p1 : QF T T11 := QF.tr p0 ((sq_X5_hear eT11))
      obtain ⟨v13, ev13, h⟩ := elet_some h
      exact QF.tr p1 (ih _ _ _ _ _ _ _ h)
set_option maxHeartbeats 4000000 in
set_option maxRecDepth 100000 in
theorem sq_X10_copyFrom_b18 {T1 : AT} : ∀ n : Nat, ∀ (T : AT) (l0 : Nat) (l1 : Nat) (l2 : Int32), g_X10_copyFrom_b18 n T l0 l1 l2 = some T1 → QF T T1 := by
  intro n
  induction n with
  | zero =>
    intro T l0 l1 l2 h
    have h : (none : Option (AT)) = some T1 := h
    cases h
  | succ n ih =>
    intro T l0 l1 l2 h
    have p0 := QF.rf T
    unfold g_X10_copyFrom_b18 at h
    obtain ⟨g2, h⟩ := oif_some h
    obtain ⟨v3, -, h⟩ := elet_some h
    rcases oif_or h with ⟨c4, h⟩ | ⟨c4, h⟩
    · have h := h
      rw [← osome1 h]
      exact p0
    · have h := h
      obtain ⟨g5, h⟩ := oif_some h
      obtain ⟨n6, en6, h⟩ := obind_some h
      obtain ⟨g7, h⟩ := oif_some h
      obtain ⟨g8, h⟩ := oif_some h
      obtain ⟨n9, en9, h⟩ := obind_some h
      obtain ⟨g10, h⟩ := oif_some h
      obtain ⟨n11, en11, h⟩ := obind_some h
      obtain ⟨g12, h⟩ := oif_some h
      obtain ⟨g13, h⟩ := oif_some h
      obtain ⟨n14, en14, h⟩ := obind_some h
      obtain ⟨g15, h⟩ := oif_some h
      obtain ⟨v16, -, h⟩ := elet_some h
      obtain ⟨g17, h⟩ := oif_some h
      obtain ⟨v18, -, h⟩ := elet_some h
      obtain ⟨v19, -, h⟩ := elet_some h
      obtain ⟨g20, h⟩ := oif_some h
      obtain ⟨g21, h⟩ := oif_some h
      obtain ⟨g22, h⟩ := oif_some h
      obtain ⟨T23, eT23, h⟩ := elet_some h
      have p1 : QF T T23 := QF.tr p0 (by rw [eT23]; exact qf_uC)
      obtain ⟨v24, ev24, h⟩ := elet_some h
      exact QF.tr p1 (ih _ _ _ _ h)
set_option maxHeartbeats 4000000 in
set_option maxRecDepth 100000 in
theorem sq_X10_copyFrom_b8 {T1 : AT} : ∀ (T : AT) (l0 : Nat) (l1 : Nat), g_X10_copyFrom_b8 T l0 l1 = some T1 → QF T T1 := by
  intro T l0 l1 h
  have p0 := QF.rf T
  unfold g_X10_copyFrom_b8 at h
  obtain ⟨g2, h⟩ := oif_some h
  obtain ⟨v3, -, h⟩ := elet_some h
  obtain ⟨g4, h⟩ := oif_some h
  obtain ⟨T5, eT5, h⟩ := elet_some h
  have p1 : QF T T5 := QF.tr p0 (by rw [eT5]; first | exact qf_uO (oO_k g4).2 (by decide) | exact qf_uA (aA_k g2).2.1 (by decide))
  exact QF.tr p1 (sq_X10_copyFrom_b18 _ _ _ _ _ h)
set_option maxHeartbeats 4000000 in
set_option maxRecDepth 100000 in
theorem sq_X10_copyFrom {T : AT} {o : Nat} {a0 : Nat} {T1 : AT} (h : g_X10_copyFrom T o a0 = some T1) : QF T T1 := by
  have p0 := QF.rf T
  unfold g_X10_copyFrom at h
  obtain ⟨g2, h⟩ := oif_some h
  obtain ⟨v3, -, h⟩ := elet_some h
  obtain ⟨g4, h⟩ := oif_some h
  obtain ⟨T5, eT5, h⟩ := obind_some h
  have p1 : QF T T5 := QF.tr p0 (sq_X10_widenTo eT5)
  exact QF.tr p1 (sq_X10_copyFrom_b8 _ _ _ h)
set_option maxHeartbeats 4000000 in
set_option maxRecDepth 100000 in
theorem sq_X8_copyFrom_b147 {T1 : AT} : ∀ (T : AT), g_X8_copyFrom_b147 T = some T1 → QF T T1 := by
  intro T h
  have p0 := QF.rf T
  unfold g_X8_copyFrom_b147 at h
  rw [← osome1 h]
  exact p0
set_option maxHeartbeats 4000000 in
set_option maxRecDepth 100000 in
theorem sq_X8_copyFrom_b64 {T1 : AT} : ∀ n : Nat, ∀ (T : AT) (l0 : Nat) (l1 : Nat) (l2 : Int32), g_X8_copyFrom_b64 n T l0 l1 l2 = some T1 → QF T T1 := by
  intro n
  induction n with
  | zero =>
    intro T l0 l1 l2 h
    have h : (none : Option (AT)) = some T1 := h
    cases h
  | succ n ih =>
    intro T l0 l1 l2 h
    have p0 := QF.rf T
    unfold g_X8_copyFrom_b64 at h
    rcases oif_or h with ⟨c2, h⟩ | ⟨c2, h⟩
    · have h := h
      obtain ⟨g3, h⟩ := oif_some h
      obtain ⟨n4, en4, h⟩ := obind_some h
      obtain ⟨g5, h⟩ := oif_some h
      obtain ⟨n6, en6, h⟩ := obind_some h
      obtain ⟨g7, h⟩ := oif_some h
      obtain ⟨T8, eT8, h⟩ := obind_some h
      have p1 : QF T T8 := QF.tr p0 (sq_X10_copyFrom eT8)
      exact QF.tr p1 (sq_X8_copyFrom_b147 _ h)
    · have h := h
      obtain ⟨g10, h⟩ := oif_some h
      obtain ⟨n11, en11, h⟩ := obind_some h
      obtain ⟨g12, h⟩ := oif_some h
      obtain ⟨n13, en13, h⟩ := obind_some h
      obtain ⟨g14, h⟩ := oif_some h
      obtain ⟨g15, h⟩ := oif_some h
      obtain ⟨v16, -, h⟩ := elet_some h
      obtain ⟨g17, h⟩ := oif_some h
      obtain ⟨g18, h⟩ := oif_some h
      obtain ⟨gz, h⟩ := oif_some h
      obtain ⟨T19, eT19, h⟩ := elet_some h
      have p1 : QF T T19 := QF.tr p0 (by rw [eT19]; first | exact qf_uO (oO_k g18).2 (by decide) | exact qf_uA (aA_k g17).2.1 (by decide))
      obtain ⟨g20, h⟩ := oif_some h
      obtain ⟨n21, en21, h⟩ := obind_some h
      obtain ⟨g22, h⟩ := oif_some h
      obtain ⟨n23, en23, h⟩ := obind_some h
      obtain ⟨g24, h⟩ := oif_some h
      obtain ⟨g25, h⟩ := oif_some h
      obtain ⟨v26, -, h⟩ := elet_some h
      obtain ⟨g27, h⟩ := oif_some h
      obtain ⟨g28, h⟩ := oif_some h
      obtain ⟨T29, eT29, h⟩ := elet_some h
      have p2 : QF T T29 := QF.tr p1 (by rw [eT29]; first | exact qf_uO (oO_k g28).2 (by decide) | exact qf_uA (aA_k g27).2.1 (by decide))
      obtain ⟨g30, h⟩ := oif_some h
      obtain ⟨n31, en31, h⟩ := obind_some h
      obtain ⟨g32, h⟩ := oif_some h
      obtain ⟨n33, en33, h⟩ := obind_some h
      obtain ⟨g34, h⟩ := oif_some h
      obtain ⟨g35, h⟩ := oif_some h
      obtain ⟨v36, -, h⟩ := elet_some h
      obtain ⟨g37, h⟩ := oif_some h
      obtain ⟨g38, h⟩ := oif_some h
      obtain ⟨T39, eT39, h⟩ := elet_some h
      have p3 : QF T T39 := QF.tr p2 (by rw [eT39]; first | exact qf_uO (oO_k g38).2 (by decide) | exact qf_uA (aA_k g37).2.1 (by decide))
      obtain ⟨g40, h⟩ := oif_some h
      obtain ⟨n41, en41, h⟩ := obind_some h
      obtain ⟨g42, h⟩ := oif_some h
      obtain ⟨n43, en43, h⟩ := obind_some h
      obtain ⟨g44, h⟩ := oif_some h
      obtain ⟨g45, h⟩ := oif_some h
      obtain ⟨v46, -, h⟩ := elet_some h
      obtain ⟨g47, h⟩ := oif_some h
      obtain ⟨g48, h⟩ := oif_some h
      obtain ⟨T49, eT49, h⟩ := elet_some h
      have p4 : QF T T49 := QF.tr p3 (by rw [eT49]; first | exact qf_uO (oO_k g48).2 (by decide) | exact qf_uA (aA_k g47).2.1 (by decide))
      obtain ⟨g50, h⟩ := oif_some h
      obtain ⟨n51, en51, h⟩ := obind_some h
      obtain ⟨g52, h⟩ := oif_some h
      obtain ⟨n53, en53, h⟩ := obind_some h
      obtain ⟨g54, h⟩ := oif_some h
      obtain ⟨g55, h⟩ := oif_some h
      obtain ⟨v56, -, h⟩ := elet_some h
      obtain ⟨g57, h⟩ := oif_some h
      obtain ⟨g58, h⟩ := oif_some h
      obtain ⟨T59, eT59, h⟩ := elet_some h
      have p5 : QF T T59 := QF.tr p4 (by rw [eT59]; first | exact qf_uO (oO_k g58).2 (by decide) | exact qf_uA (aA_k g57).2.1 (by decide))
      obtain ⟨v60, ev60, h⟩ := elet_some h
      exact QF.tr p5 (ih _ _ _ _ h)
set_option maxHeartbeats 4000000 in
set_option maxRecDepth 100000 in
theorem sq_X8_copyFrom_b26 {T1 : AT} : ∀ n : Nat, ∀ (T : AT) (l0 : Nat) (l1 : Nat) (l2 : Int32), g_X8_copyFrom_b26 n T l0 l1 l2 = some T1 → QF T T1 := by
  intro n
  induction n with
  | zero =>
    intro T l0 l1 l2 h
    have h : (none : Option (AT)) = some T1 := h
    cases h
  | succ n ih =>
    intro T l0 l1 l2 h
    have p0 := QF.rf T
    unfold g_X8_copyFrom_b26 at h
    rcases oif_or h with ⟨c2, h⟩ | ⟨c2, h⟩
    · have h := h
      exact QF.tr p0 (sq_X8_copyFrom_b64 _ _ _ _ _ h)
    · have h := h
      obtain ⟨g3, h⟩ := oif_some h
      obtain ⟨n4, en4, h⟩ := obind_some h
      obtain ⟨g5, h⟩ := oif_some h
      obtain ⟨n6, en6, h⟩ := obind_some h
      obtain ⟨g7, h⟩ := oif_some h
      obtain ⟨g8, h⟩ := oif_some h
      obtain ⟨v9, -, h⟩ := elet_some h
      obtain ⟨g10, h⟩ := oif_some h
      obtain ⟨g11, h⟩ := oif_some h
      obtain ⟨gz, h⟩ := oif_some h
      obtain ⟨T12, eT12, h⟩ := elet_some h
      have p1 : QF T T12 := QF.tr p0 (by rw [eT12]; first | exact qf_uO (oO_k g11).2 (by decide) | exact qf_uA (aA_k g10).2.1 (by decide))
      obtain ⟨g13, h⟩ := oif_some h
      obtain ⟨n14, en14, h⟩ := obind_some h
      obtain ⟨g15, h⟩ := oif_some h
      obtain ⟨n16, en16, h⟩ := obind_some h
      obtain ⟨g17, h⟩ := oif_some h
      obtain ⟨g18, h⟩ := oif_some h
      obtain ⟨v19, -, h⟩ := elet_some h
      obtain ⟨g20, h⟩ := oif_some h
      obtain ⟨g21, h⟩ := oif_some h
      obtain ⟨T22, eT22, h⟩ := elet_some h
      have p2 : QF T T22 := QF.tr p1 (by rw [eT22]; first | exact qf_uO (oO_k g21).2 (by decide) | exact qf_uA (aA_k g20).2.1 (by decide))
      obtain ⟨v23, ev23, h⟩ := elet_some h
      exact QF.tr p2 (ih _ _ _ _ h)
set_option maxHeartbeats 4000000 in
set_option maxRecDepth 100000 in
theorem sq_X8_copyFrom {T : AT} {o : Nat} {a0 : Nat} {T1 : AT} (h : g_X8_copyFrom T o a0 = some T1) : QF T T1 := by
  have p0 := QF.rf T
  unfold g_X8_copyFrom at h
  obtain ⟨g2, h⟩ := oif_some h
  obtain ⟨v3, -, h⟩ := elet_some h
  obtain ⟨g4, h⟩ := oif_some h
  obtain ⟨T5, eT5, h⟩ := elet_some h
  have p1 : QF T T5 := QF.tr p0 (by rw [eT5]; first | exact qf_uO (oO_k g4).2 (by decide) | exact qf_uA (aA_k g2).2.1 (by decide))
  obtain ⟨g6, h⟩ := oif_some h
  obtain ⟨v7, -, h⟩ := elet_some h
  obtain ⟨g8, h⟩ := oif_some h
  obtain ⟨T9, eT9, h⟩ := elet_some h
  have p2 : QF T T9 := QF.tr p1 (by rw [eT9]; first | exact qf_uO (oO_k g8).2 (by decide) | exact qf_uA (aA_k g6).2.1 (by decide))
  obtain ⟨g10, h⟩ := oif_some h
  obtain ⟨v11, -, h⟩ := elet_some h
  obtain ⟨g12, h⟩ := oif_some h
  obtain ⟨T13, eT13, h⟩ := elet_some h
  have p3 : QF T T13 := QF.tr p2 (by rw [eT13]; first | exact qf_uO (oO_k g12).2 (by decide) | exact qf_uA (aA_k g10).2.1 (by decide))
  exact QF.tr p3 (sq_X8_copyFrom_b26 _ _ _ _ _ h)
set_option maxHeartbeats 4000000 in
set_option maxRecDepth 100000 in
theorem sq_X8_powerOf_b13 {T1 : AT} : ∀ (T : AT), g_X8_powerOf_b13 T = some T1 → QF T T1 := by
  intro T h
  have p0 := QF.rf T
  unfold g_X8_powerOf_b13 at h
  rw [← osome1 h]
  exact p0
set_option maxHeartbeats 4000000 in
set_option maxRecDepth 100000 in
theorem sq_X8_powerOf {T : AT} {o : Nat} {a0 : Nat} {a1 : Nat} {a2 : Int32} {T1 : AT} (h : g_X8_powerOf T o a0 a1 a2 = some T1) : QF T T1 := by
  have p0 := QF.rf T
  unfold g_X8_powerOf at h
  obtain ⟨g2, h⟩ := oif_some h
  obtain ⟨r4, T3, eT3, h⟩ := obind2_some h
  have p1 : QF T T3 := QF.tr p0 ((sq_X8_windowOf eT3))
  obtain ⟨g5, h⟩ := oif_some h
  obtain ⟨T6, eT6, h⟩ := obind_some h
  have p2 : QF T T6 := QF.tr p1 (sq_X8_blockPowerOf eT6)
  exact QF.tr p2 (sq_X8_powerOf_b13 _ h)
set_option maxHeartbeats 4000000 in
set_option maxRecDepth 100000 in
theorem sq_X10_value_b10 {r1 : Int64} {T1 : AT} : ∀ n : Nat, ∀ (T : AT) (l0 : Nat) (l1 : Int32) (l2 : Int64) (l4 : Int32), g_X10_value_b10 n T l0 l1 l2 l4 = some (r1, T1) → QF T T1 := by
  intro n
  induction n with
  | zero =>
    intro T l0 l1 l2 l4 h
    have h : (none : Option (Int64 × AT)) = some (r1, T1) := h
    cases h
  | succ n ih =>
    intro T l0 l1 l2 l4 h
    have p0 := QF.rf T
    unfold g_X10_value_b10 at h
    rcases oif_or h with ⟨c2, h⟩ | ⟨c2, h⟩
    · have h := h
      rw [← (osome2 h).2]
      exact p0
    · have h := h
      obtain ⟨v3, -, h⟩ := elet_some h
      obtain ⟨g4, h⟩ := oif_some h
      obtain ⟨n5, en5, h⟩ := obind_some h
      obtain ⟨g6, h⟩ := oif_some h
      obtain ⟨g7, h⟩ := oif_some h
      obtain ⟨n8, en8, h⟩ := obind_some h
      obtain ⟨g9, h⟩ := oif_some h
      obtain ⟨g10, h⟩ := oif_some h
      obtain ⟨v11, -, h⟩ := elet_some h
      obtain ⟨v12, -, h⟩ := elet_some h
      obtain ⟨v13, ev13, h⟩ := elet_some h
      exact QF.tr p0 (ih _ _ _ _ _ h)
set_option maxHeartbeats 4000000 in
set_option maxRecDepth 100000 in
theorem sq_X10_value {T : AT} {o : Nat} {a0 : Int32} {r1 : Int64} {T1 : AT} (h : g_X10_value T o a0 = some (r1, T1)) : QF T T1 := by
  have p0 := QF.rf T
  unfold g_X10_value at h
  obtain ⟨g2, h⟩ := oif_some h
  obtain ⟨v3, -, h⟩ := elet_some h
  obtain ⟨v4, -, h⟩ := elet_some h
  exact QF.tr p0 (sq_X10_value_b10 _ _ _ _ _ _ h)
set_option maxHeartbeats 4000000 in
set_option maxRecDepth 100000 in
theorem sq_X11_trialBest_b15 {r1 : Int32} {T1 : AT} : ∀ (T : AT) (l0 : Nat), g_X11_trialBest_b15 T l0 = some (r1, T1) → QF T T1 := by
  intro T l0 h
  have p0 := QF.rf T
  unfold g_X11_trialBest_b15 at h
  obtain ⟨g2, h⟩ := oif_some h
  obtain ⟨n3, en3, h⟩ := obind_some h
  obtain ⟨g4, h⟩ := oif_some h
  obtain ⟨v5, -, h⟩ := elet_some h
  rw [← (osome2 h).2]
  exact p0
set_option maxHeartbeats 4000000 in
set_option maxRecDepth 100000 in
theorem sq_X11_trialBest {T : AT} {o : Nat} {r1 : Int32} {T1 : AT} (h : g_X11_trialBest T o = some (r1, T1)) : QF T T1 := by
  have p0 := QF.rf T
  unfold g_X11_trialBest at h
  obtain ⟨g2, h⟩ := oif_some h
  obtain ⟨n3, en3, h⟩ := obind_some h
  obtain ⟨g4, h⟩ := oif_some h
  obtain ⟨n5, en5, h⟩ := obind_some h
  obtain ⟨g6, h⟩ := oif_some h
  obtain ⟨n7, en7, h⟩ := obind_some h
  obtain ⟨g8, h⟩ := oif_some h
  obtain ⟨T9, eT9, h⟩ := obind_some h
  have p1 : QF T T9 := QF.tr p0 (sq_X4_measure eT9)
  exact QF.tr p1 (sq_X11_trialBest_b15 _ _ h)
set_option maxHeartbeats 4000000 in
set_option maxRecDepth 100000 in
theorem sq_X11_pointPower_b48 {e1 : Nat} {r1 : Int64} {T1 : AT} : ∀ (T : AT) (l0 : Nat), g_X11_pointPower_b48 T l0 = some (e1, r1, T1) → QF T T1 := by
  intro T l0 h
  have p0 := QF.rf T
  unfold g_X11_pointPower_b48 at h
  obtain ⟨g2, h⟩ := oif_some h
  obtain ⟨n3, en3, h⟩ := obind_some h
  obtain ⟨g4, h⟩ := oif_some h
  obtain ⟨r6, T5, eT5, h⟩ := obind2_some h
  have p1 : QF T T5 := QF.tr p0 ((sq_X10_value eT5))
  rw [← (osome3 h).2.2]
  exact p1
end
section
/-! 20a.tok.lean.txt -/
/-! Class and reference read a text alike: tokens by their places -/
theorem ui_get {T : AT} {n k : Nat} {v : Int32} (m j : Nat) : (uI T n k v).2.2.1 m j = if m = n ∧ j = k then v else T.2.2.1 m j := by
  show va_up T.2.2.1 n (upd (T.2.2.1 n) k v) m j = _
  by_cases e : m = n
  · subst e
    rw [va_up_self]
    unfold upd
    by_cases e2 : j = k
    · rw [if_pos e2, if_pos ⟨rfl, e2⟩]
    · rw [if_neg e2, if_neg (fun q => e2 q.2)]
  · rw [va_up_ne _ _ e, if_neg (fun q => e q.1)]
theorem ui_at {T : AT} {n k : Nat} {v : Int32} : (uI T n k v).2.2.1 n k = v := by rw [ui_get, if_pos ⟨rfl, rfl⟩]
theorem ui_ne {T : AT} {n k m j : Nat} {v : Int32} (h : m ≠ n ∨ j ≠ k) : (uI T n k v).2.2.1 m j = T.2.2.1 m j := by
  rw [ui_get, if_neg (fun q => by rcases h with h | h; exact h q.1; exact h q.2)]
theorem mi_ne {S : MS} {k j : Nat} {v : Int32} (h : j ≠ k) : (mi S k v).1 j = S.1 j := by
  show (bif Nat.beq j k then v else S.1 j) = _
  have e : Nat.beq j k = false := Bool.eq_false_iff.mpr (fun q => h (Nat.eq_of_beq_eq_true q))
  rw [e]
  rfl
theorem mi_at {S : MS} {k : Nat} {v : Int32} : (mi S k v).1 k = v := by
  show (bif Nat.beq k k then v else S.1 k) = _
  rw [Nat.beq_refl]
  rfl
theorem othr_k {α β : Type} {x : Option (Nat × α × AT)} {z : β} {f : α → AT → Option (Nat × β × AT)} {e1 : Nat} {r1 : β} {T1 : AT} (h : othr x z f = some (e1, r1, T1)) : (∃ r, x = some (e1, r, T1) ∧ e1 ≠ 0) ∨ ∃ r T, x = some (0, r, T) ∧ f r T = some (e1, r1, T1) := by
  unfold othr at h
  match x, h with
  | none, h => cases h
  | some (0, r, T), h => exact .inr ⟨r, T, rfl, h⟩
  | some (k + 1, r, T), h =>
    have f := osome3 h
    refine .inl ⟨r, ?_, ?_⟩
    · rw [← f.1, ← f.2.2]
    · rw [← f.1]; exact Nat.succ_ne_zero k
def sk1 (b : Nat → Int32) (n : Nat) : Nat → Nat → Nat
  | 0, p => p
  | f + 1, p => if p < n ∧ b p = 32 then sk1 b n f (p + 1) else p
def sk (b : Nat → Int32) (n p : Nat) : Nat := sk1 b n (n - p) p
def rn1 (b : Nat → Int32) (n : Nat) (lo hi : Int32) : Nat → Nat → Nat
  | 0, p => p
  | f + 1, p => if p < n ∧ lo ≤ b p ∧ b p ≤ hi then rn1 b n lo hi f (p + 1) else p
def rn (b : Nat → Int32) (n : Nat) (lo hi : Int32) (p : Nat) : Nat := rn1 b n lo hi (n - p) p
def te (b : Nat → Int32) (n p : Nat) : Nat := if n ≤ p then n else if 97 ≤ b p ∧ b p ≤ 122 then rn b n 97 122 p else if 48 ≤ b p ∧ b p ≤ 57 then rn b n 48 57 p else p + 1
def kd (b : Nat → Int32) (n p : Nat) : Int32 := if n ≤ p then 5 else if 97 ≤ b p ∧ b p ≤ 122 then (if te b n p - p ≤ 8 then 1 else 6) else if 48 ≤ b p ∧ b p ≤ 57 then (if te b n p - p ≤ 4 then 2 else 6) else if b p = 45 then 3 else if b p = 59 then 4 else 6
def pst (b : Nat → Int32) (n : Nat) : Nat → Nat
  | 0 => sk b n 0
  | i + 1 => sk b n (te b n (pst b n i))
def vf (b : Nat → Int32) : Nat → Nat → Int32 → Int32
  | 0, _, a => a
  | k + 1, p, a => vf b k (p + 1) (10 * a + b p - 48)
section
variable {b : Nat → Int32} {n : Nat}
theorem vf_snoc : ∀ (k p : Nat) (a : Int32), vf b (k + 1) p a = 10 * vf b k p a + b (p + k) - 48 := by
  intro k
  induction k with
  | zero => intro p a; rfl
  | succ k ih =>
    intro p a
    show vf b (k + 1) (p + 1) _ = 10 * vf b k (p + 1) _ + _ - _
    rw [ih, show p + 1 + k = p + (k + 1) from by omega]
theorem sk_sp {p : Nat} (h : p < n) (e : b p = 32) : sk b n p = sk b n (p + 1) := by
  unfold sk
  rw [show n - p = (n - (p + 1)) + 1 from by omega]
  show (if p < n ∧ b p = 32 then sk1 b n (n - (p + 1)) (p + 1) else p) = _
  rw [if_pos ⟨h, e⟩]
theorem sk_no {p : Nat} (h : ¬ (p < n ∧ b p = 32)) : sk b n p = p := by
  unfold sk
  cases n - p with
  | zero => rfl
  | succ f =>
    show (if p < n ∧ b p = 32 then sk1 b n f (p + 1) else p) = _
    rw [if_neg h]
theorem sk1_b : ∀ f p : Nat, p + f ≤ n → p ≤ sk1 b n f p ∧ sk1 b n f p ≤ n := by
  intro f
  induction f with
  | zero => intro p h; exact ⟨Nat.le_refl _, h⟩
  | succ f ih =>
    intro p h
    show p ≤ (if p < n ∧ b p = 32 then sk1 b n f (p + 1) else p) ∧ (if p < n ∧ b p = 32 then sk1 b n f (p + 1) else p) ≤ n
    by_cases c : p < n ∧ b p = 32
    · rw [if_pos c]
      have := ih (p + 1) (by omega)
      omega
    · rw [if_neg c]
      omega
theorem sk_b {p : Nat} (h : p ≤ n) : p ≤ sk b n p ∧ sk b n p ≤ n := sk1_b (n - p) p (by omega)
theorem rn_in {lo hi : Int32} {p : Nat} (h : p < n) (h1 : lo ≤ b p) (h2 : b p ≤ hi) : rn b n lo hi p = rn b n lo hi (p + 1) := by
  unfold rn
  rw [show n - p = (n - (p + 1)) + 1 from by omega]
  show (if p < n ∧ lo ≤ b p ∧ b p ≤ hi then rn1 b n lo hi (n - (p + 1)) (p + 1) else p) = _
  rw [if_pos ⟨h, h1, h2⟩]
theorem rn_no {lo hi : Int32} {p : Nat} (h : ¬ (p < n ∧ lo ≤ b p ∧ b p ≤ hi)) : rn b n lo hi p = p := by
  unfold rn
  cases n - p with
  | zero => rfl
  | succ f =>
    show (if p < n ∧ lo ≤ b p ∧ b p ≤ hi then rn1 b n lo hi f (p + 1) else p) = _
    rw [if_neg h]
theorem rn1_b {lo hi : Int32} : ∀ f p : Nat, p + f ≤ n → p ≤ rn1 b n lo hi f p ∧ rn1 b n lo hi f p ≤ n := by
  intro f
  induction f with
  | zero => intro p h; exact ⟨Nat.le_refl _, h⟩
  | succ f ih =>
    intro p h
    show p ≤ (if p < n ∧ lo ≤ b p ∧ b p ≤ hi then rn1 b n lo hi f (p + 1) else p) ∧ (if p < n ∧ lo ≤ b p ∧ b p ≤ hi then rn1 b n lo hi f (p + 1) else p) ≤ n
    by_cases c : p < n ∧ lo ≤ b p ∧ b p ≤ hi
    · rw [if_pos c]
      have := ih (p + 1) (by omega)
      omega
    · rw [if_neg c]
      omega
theorem rn_b {lo hi : Int32} {p : Nat} (h : p ≤ n) : p ≤ rn b n lo hi p ∧ rn b n lo hi p ≤ n := rn1_b (n - p) p (by omega)
theorem te_b {p : Nat} (h : p < n) : p + 1 ≤ te b n p ∧ te b n p ≤ n := by
  unfold te
  rw [if_neg (by omega)]
  by_cases c : 97 ≤ b p ∧ b p ≤ 122
  · rw [if_pos c, rn_in h c.1 c.2]
    exact rn_b (by omega)
  · rw [if_neg c]
    by_cases c : 48 ≤ b p ∧ b p ≤ 57
    · rw [if_pos c, rn_in h c.1 c.2]
      exact rn_b (by omega)
    · rw [if_neg c]
      omega
theorem te_n {p : Nat} (h : n ≤ p) : te b n p = n := by unfold te; rw [if_pos h]
theorem te_le {p : Nat} : te b n p ≤ n := by
  by_cases h : n ≤ p
  · rw [te_n h]; exact Nat.le_refl _
  · exact (te_b (by omega)).2
theorem pst_le (i : Nat) : pst b n i ≤ n := by
  cases i with
  | zero => exact (sk_b (Nat.zero_le _)).2
  | succ i => exact (sk_b te_le).2
theorem kd_n {p : Nat} (h : n ≤ p) : kd b n p = 5 := by unfold kd; rw [if_pos h]
theorem kd_all (p : Nat) : kd b n p = 1 ∨ kd b n p = 2 ∨ kd b n p = 3 ∨ kd b n p = 4 ∨ kd b n p = 5 ∨ kd b n p = 6 := by
  unfold kd
  by_cases c : n ≤ p
  · rw [if_pos c]; simp
  · rw [if_neg c]
    by_cases c : 97 ≤ b p ∧ b p ≤ 122
    · rw [if_pos c]; split <;> simp
    · rw [if_neg c]
      by_cases c : 48 ≤ b p ∧ b p ≤ 57
      · rw [if_pos c]; split <;> simp
      · rw [if_neg c]
        by_cases c : b p = 45
        · rw [if_pos c]; simp
        · rw [if_neg c]; split <;> simp
/-- what the reference's token says -/
def TKR (b : Nat → Int32) (n p : Nat) (t v : Int32) : Prop := (kd b n p = 5 → t = 1) ∧ (kd b n p = 1 → t = 2) ∧ (kd b n p = 2 → t = 3 ∧ v = vf b (te b n p - p) p 0) ∧ (kd b n p = 3 → t = 4 ∧ v = 45) ∧ (kd b n p = 4 → t = 4 ∧ v = 59) ∧ (kd b n p = 6 → t = 0 ∨ t = 4 ∧ v ≠ 45 ∧ v ≠ 59)
theorem tk_end {p : Nat} {t v : Int32} (h : TKR b n p t v) : t = 1 ↔ kd b n p = 5 := by
  obtain ⟨h5, h1, h2, h3, h4, h6⟩ := h
  rcases kd_all (b := b) (n := n) p with e | e | e | e | e | e <;> rw [e] at h1 h2 h3 h4 h5 h6 ⊢
  · rw [h1 rfl]; decide
  · rw [(h2 rfl).1]; decide
  · rw [(h3 rfl).1]; decide
  · rw [(h4 rfl).1]; decide
  · rw [h5 rfl]
    decide
  · rcases h6 rfl with q | q
    · rw [q]; decide
    · rw [q.1]; decide
theorem tk_word {p : Nat} {t v : Int32} (h : TKR b n p t v) : t = 2 ↔ kd b n p = 1 := by
  obtain ⟨h5, h1, h2, h3, h4, h6⟩ := h
  rcases kd_all (b := b) (n := n) p with e | e | e | e | e | e <;> rw [e] at h1 h2 h3 h4 h5 h6 ⊢
  · rw [h1 rfl]; decide
  · rw [(h2 rfl).1]; decide
  · rw [(h3 rfl).1]; decide
  · rw [(h4 rfl).1]; decide
  · rw [h5 rfl]; decide
  · rcases h6 rfl with q | q
    · rw [q]; decide
    · rw [q.1]; decide
theorem tk_num {p : Nat} {t v : Int32} (h : TKR b n p t v) : t = 3 ↔ kd b n p = 2 := by
  obtain ⟨h5, h1, h2, h3, h4, h6⟩ := h
  rcases kd_all (b := b) (n := n) p with e | e | e | e | e | e <;> rw [e] at h1 h2 h3 h4 h5 h6 ⊢
  · rw [h1 rfl]; decide
  · rw [(h2 rfl).1]; decide
  · rw [(h3 rfl).1]; decide
  · rw [(h4 rfl).1]; decide
  · rw [h5 rfl]; decide
  · rcases h6 rfl with q | q
    · rw [q]; decide
    · rw [q.1]; decide
theorem tk_minus {p : Nat} {t v : Int32} (h : TKR b n p t v) : (t = 4 ∧ v = 45) ↔ kd b n p = 3 := by
  obtain ⟨h5, h1, h2, h3, h4, h6⟩ := h
  rcases kd_all (b := b) (n := n) p with e | e | e | e | e | e <;> rw [e] at h1 h2 h3 h4 h5 h6 ⊢
  · rw [h1 rfl]; exact ⟨fun q => absurd q.1 (by decide), fun q => absurd q (by decide)⟩
  · rw [(h2 rfl).1]; exact ⟨fun q => absurd q.1 (by decide), fun q => absurd q (by decide)⟩
  · exact ⟨fun _ => rfl, fun _ => h3 rfl⟩
  · rw [(h4 rfl).2]; exact ⟨fun q => absurd q.2 (by decide), fun q => absurd q (by decide)⟩
  · rw [h5 rfl]; exact ⟨fun q => absurd q.1 (by decide), fun q => absurd q (by decide)⟩
  · refine ⟨fun q => ?_, fun q => absurd q (by decide)⟩
    rcases h6 rfl with w | w
    · rw [w] at q; exact absurd q.1 (by decide)
    · exact absurd q.2 w.2.1
theorem tk_semi {p : Nat} {t v : Int32} (h : TKR b n p t v) : (t = 4 ∧ v = 59) ↔ kd b n p = 4 := by
  obtain ⟨h5, h1, h2, h3, h4, h6⟩ := h
  rcases kd_all (b := b) (n := n) p with e | e | e | e | e | e <;> rw [e] at h1 h2 h3 h4 h5 h6 ⊢
  · rw [h1 rfl]; exact ⟨fun q => absurd q.1 (by decide), fun q => absurd q (by decide)⟩
  · rw [(h2 rfl).1]; exact ⟨fun q => absurd q.1 (by decide), fun q => absurd q (by decide)⟩
  · rw [(h3 rfl).2]; exact ⟨fun q => absurd q.2 (by decide), fun q => absurd q (by decide)⟩
  · exact ⟨fun _ => rfl, fun _ => h4 rfl⟩
  · rw [h5 rfl]; exact ⟨fun q => absurd q.1 (by decide), fun q => absurd q (by decide)⟩
  · refine ⟨fun q => ?_, fun q => absurd q (by decide)⟩
    rcases h6 rfl with w | w
    · rw [w] at q; exact absurd q.1 (by decide)
    · exact absurd q.2 w.2.2
/-! the class cuts -/
def TXR (T : AT) : Prop := T.2.2.2.2 1 0 = some 2 ∧ T.2.2.2.2 1 2 = some 3 ∧ T.2.2.2.2 1 3 = some 4 ∧ T.2.2.2.2 1 4 = some 5 ∧ T.2.2.2.2 6 0 = some 1 ∧ T.2.1 3 = (100, 1001)
def BYq (b : Nat → Int32) (T : AT) : Prop := ∀ k, k < 1000 → T.2.2.1 2 k = b k
theorem q_run {lo hi : Int32} : ∀ (f : Nat) {T : AT} {p : Nat} {r : Int32} {T1 : AT}, TXR T → BYq b T → n ≤ 1000 → p ≤ n → g_X9_runEnd_b3 f T 1 (nI n) lo hi (nI p) = some (r, T1) → r = nI (rn b n lo hi p) ∧ T1 = T := by
  intro f
  induction f with
  | zero => intro T p r T1 hR hB hn hp h; cases h
  | succ f ih =>
    intro T p r T1 hR hB hn hp h
    unfold g_X9_runEnd_b3 at h
    by_cases c : nI n ≤ nI p
    · rw [if_pos c] at h
      have c := (nI_leI (by omega) (by omega)).mp c
      have f := osome2 h
      rw [rn_no (by omega)]
      exact ⟨by rw [← f.1, show p = n from by omega], f.2.symm⟩
    · rw [if_neg c] at h
      have c : p < n := Nat.lt_of_not_le (fun q => c ((nI_leI (by omega) (by omega)).mpr q))
      obtain ⟨-, h⟩ := oif_some h
      obtain ⟨n4, e4, h⟩ := obind_some h
      rw [hR.1] at e4
      cases e4
      obtain ⟨-, h⟩ := oif_some h
      obtain ⟨-, h⟩ := oif_some h
      obtain ⟨v7, e7, h⟩ := elet_some h
      rw [nI_clamp (by omega), hB p (by omega)] at e7
      by_cases c2 : v7 < lo
      · rw [if_pos c2] at h
        unfold g_X9_runEnd_b32 at h
        have f := osome2 h
        rw [rn_no (fun q => Int32.not_lt.mpr q.2.1 (by rw [← e7]; exact c2))]
        exact ⟨f.1.symm, f.2.symm⟩
      · rw [if_neg c2] at h
        obtain ⟨-, h⟩ := oif_some h
        obtain ⟨n10, e10, h⟩ := obind_some h
        rw [hR.1] at e10
        cases e10
        obtain ⟨-, h⟩ := oif_some h
        obtain ⟨-, h⟩ := oif_some h
        obtain ⟨v13, e13, h⟩ := elet_some h
        rw [nI_clamp (by omega), hB p (by omega)] at e13
        by_cases c3 : v13 ≤ hi
        · rw [if_pos c3] at h
          obtain ⟨v15, e15, h⟩ := elet_some h
          have e15 : v15 = nI (p + 1) := e15.trans (nI_1 p)
          rw [e15] at h
          have k := ih hR hB hn (by omega) h
          rw [rn_in c (by rw [← e7]; exact Int32.not_lt.mp c2) (by rw [← e13]; exact c3)]
          exact k
        · rw [if_neg c3] at h
          unfold g_X9_runEnd_b32 at h
          have f := osome2 h
          rw [rn_no (fun q => c3 (by rw [e13]; exact q.2.2))]
          exact ⟨f.1.symm, f.2.symm⟩
theorem q_add {T T1 : AT} {c : Nat} {k st en : Int32} (hR : TXR T) (hc : T.2.2.1 1 5 = nI c) (hc2 : c ≤ 1000) (h : g_X9_add T 1 k st en = some T1) : T1 = uI (uI (uI (uI T 3 c k) 4 c st) 5 c en) 1 5 (nI (c + 1)) := by
  unfold g_X9_add at h
  obtain ⟨-, h⟩ := oif_some h
  obtain ⟨v3, e3, h⟩ := elet_some h
  rw [hc] at e3
  obtain ⟨-, h⟩ := oif_some h
  obtain ⟨n5, e5, h⟩ := obind_some h
  rw [hR.2.1] at e5
  cases e5
  obtain ⟨-, h⟩ := oif_some h
  obtain ⟨v7, e7, h⟩ := elet_some h
  rw [hR.2.2.2.2.2] at e7
  have e7 : v7 = nI 1001 := e7
  rw [if_neg (fun q => by rw [e7, e3] at q; have := (nI_leI (by decide) (by omega)).mp q; omega)] at h
  obtain ⟨-, h⟩ := oif_some h
  obtain ⟨n10, e10, h⟩ := obind_some h
  rw [hR.2.1] at e10
  cases e10
  obtain ⟨-, h⟩ := oif_some h
  obtain ⟨v12, e12, h⟩ := elet_some h
  rw [hc] at e12
  obtain ⟨-, h⟩ := oif_some h
  obtain ⟨-, h⟩ := oif_some h
  obtain ⟨T15, e15, h⟩ := elet_some h
  rw [e12, nI_clamp (by omega)] at e15
  have i15 : T15.2.2.1 1 5 = nI c := by rw [e15, ui_ne (.inl (by decide))]; exact hc
  have r15 : T15.2.2.2.2 = T.2.2.2.2 := by rw [e15]; rfl
  obtain ⟨-, h⟩ := oif_some h
  obtain ⟨n17, e17, h⟩ := obind_some h
  rw [r15, hR.2.2.1] at e17
  cases e17
  obtain ⟨-, h⟩ := oif_some h
  obtain ⟨v19, e19, h⟩ := elet_some h
  rw [i15] at e19
  obtain ⟨-, h⟩ := oif_some h
  obtain ⟨-, h⟩ := oif_some h
  obtain ⟨T22, e22, h⟩ := elet_some h
  rw [e19, nI_clamp (by omega)] at e22
  have i22 : T22.2.2.1 1 5 = nI c := by rw [e22, ui_ne (.inl (by decide))]; exact i15
  have r22 : T22.2.2.2.2 = T.2.2.2.2 := by rw [e22]; exact r15
  obtain ⟨-, h⟩ := oif_some h
  obtain ⟨n24, e24, h⟩ := obind_some h
  rw [r22, hR.2.2.2.1] at e24
  cases e24
  obtain ⟨-, h⟩ := oif_some h
  obtain ⟨v26, e26, h⟩ := elet_some h
  rw [i22] at e26
  obtain ⟨-, h⟩ := oif_some h
  obtain ⟨-, h⟩ := oif_some h
  obtain ⟨T29, e29, h⟩ := elet_some h
  rw [e26, nI_clamp (by omega)] at e29
  have i29 : T29.2.2.1 1 5 = nI c := by rw [e29, ui_ne (.inl (by decide))]; exact i22
  obtain ⟨-, h⟩ := oif_some h
  obtain ⟨v31, e31, h⟩ := elet_some h
  rw [i29] at e31
  obtain ⟨v32, e32, h⟩ := elet_some h
  rw [e31, nI_1] at e32
  obtain ⟨-, h⟩ := oif_some h
  obtain ⟨T34, e34, h⟩ := elet_some h
  unfold g_X9_add_b52 at h
  rw [← osome1 h, e34, e32, e29, e22, e15]
/-- the tokens that are stored -/
def TK1 (b : Nat → Int32) (n : Nat) (T : AT) (j : Nat) : Prop := ∀ i, i < j → T.2.2.1 3 i = kd b n (pst b n i) ∧ T.2.2.1 4 i = nI (pst b n i) ∧ T.2.2.1 5 i = nI (te b n (pst b n i)) ∧ pst b n i < n
def KPq (T T1 : AT) : Prop := T1.1 = T.1 ∧ T1.2.1 = T.2.1 ∧ T1.2.2.2 = T.2.2.2 ∧ ∀ m k, m ≠ 3 → m ≠ 4 → m ≠ 5 → (m ≠ 1 ∨ k ≠ 5) → T1.2.2.1 m k = T.2.2.1 m k
theorem KPq.rf (T : AT) : KPq T T := ⟨rfl, rfl, rfl, fun _ _ _ _ _ _ => rfl⟩
theorem KPq.tr {T T1 T2 : AT} (h : KPq T T1) (k : KPq T1 T2) : KPq T T2 := ⟨k.1.trans h.1, k.2.1.trans h.2.1, k.2.2.1.trans h.2.2.1, fun m j a b c d => (k.2.2.2 m j a b c d).trans (h.2.2.2 m j a b c d)⟩
theorem KPq.txr {T T1 : AT} (h : KPq T T1) (q : TXR T) : TXR T1 := by
  unfold TXR at q ⊢
  rw [h.2.2.1, h.2.1]
  exact q
theorem KPq.by {T T1 : AT} (h : KPq T T1) (q : BYq b T) : BYq b T1 := fun k hk => (h.2.2.2 2 k (by decide) (by decide) (by decide) (.inl (by decide))).trans (q k hk)
theorem q_tok {T T1 : AT} {j p : Nat} {k : Int32} (hR : TXR T) (hn : n ≤ 1000) (hj : j ≤ p) (hp : p < n) (hc : T.2.2.1 1 5 = nI j) (hT : TK1 b n T j) (e : pst b n j = p) (hk : k = kd b n p) (h : g_X9_add T 1 k (nI p) (nI (te b n p)) = some T1) : KPq T T1 ∧ T1.2.2.1 1 5 = nI (j + 1) ∧ TK1 b n T1 (j + 1) := by
  have q := q_add hR hc (by omega) h
  refine ⟨?_, by rw [q, ui_at], fun i hi => ?_⟩
  · rw [q]
    refine ⟨rfl, rfl, rfl, fun m k a3 a4 a5 a1 => ?_⟩
    rw [ui_ne (by omega), ui_ne (.inl a5), ui_ne (.inl a4), ui_ne (.inl a3)]
  · rw [q]
    by_cases c : i = j
    · subst c
      rw [ui_ne (.inl (by decide)), ui_ne (.inl (by decide)), ui_ne (.inl (by decide)), ui_at, ui_ne (.inl (by decide)), ui_ne (.inl (by decide)), ui_at, ui_ne (.inl (by decide)), ui_at, e]
      exact ⟨hk, rfl, rfl, hp⟩
    · rw [ui_ne (.inl (by decide)), ui_ne (.inl (by decide)), ui_ne (.inl (by decide)), ui_ne (.inr c), ui_ne (.inl (by decide)), ui_ne (.inl (by decide)), ui_ne (.inr c), ui_ne (.inl (by decide)), ui_ne (.inl (by decide)), ui_ne (.inr c), ui_ne (.inl (by decide)), ui_ne (.inl (by decide))]
      exact hT i (by omega)
end
end
section
/-! 20b.cut.lean.txt -/
section
variable {b : Nat → Int32} {n : Nat}
theorem q_let {c : Int32} (h1 : ¬ c < 97) (h2 : ¬ 122 < c) : 97 ≤ c ∧ c ≤ 122 := ⟨Int32.not_lt.mp h1, Int32.not_lt.mp h2⟩
theorem nI_dif {p q : Nat} (h : p ≤ q) (hq : q ≤ 2000) : (nI q - nI p).toInt = (q : Int) - p := by
  have a : (nI q).toInt = (q : Int) := nI_toInt (by omega)
  have c : (nI p).toInt = (p : Int) := nI_toInt (by omega)
  rw [i_sub (v := nI q - nI p) rfl (by omega) (by omega), a, c]
theorem q_one {T T1 : AT} {j p : Nat} {r : Int32} (hR : TXR T) (hB : BYq b T) (hn : n ≤ 1000) (hj : j ≤ p) (hp : p < n) (hc : T.2.2.1 1 5 = nI j) (hT : TK1 b n T j) (e : pst b n j = sk b n p) (h : g_X9_cutOne T 1 (nI n) (nI p) = some (r, T1)) : KPq T T1 ∧ ∃ j1 p1, r = nI p1 ∧ p < p1 ∧ p1 ≤ n ∧ j1 ≤ p1 ∧ T1.2.2.1 1 5 = nI j1 ∧ TK1 b n T1 j1 ∧ pst b n j1 = sk b n p1 := by
  have z8 : (8 : Int32).toInt = 8 := by decide
  have z4 : (4 : Int32).toInt = 4 := by decide
  have tb := te_b (b := b) hp
  -- a token that begins here
  have key : ∀ {T2 : AT} {k en : Int32}, ¬ b p = 32 → en = nI (te b n p) → k = kd b n p → g_X9_add T 1 k (nI p) en = some T2 → T1 = T2 → r = en → KPq T T1 ∧ ∃ j1 p1, r = nI p1 ∧ p < p1 ∧ p1 ≤ n ∧ j1 ≤ p1 ∧ T1.2.2.1 1 5 = nI j1 ∧ TK1 b n T1 j1 ∧ pst b n j1 = sk b n p1 := by
    intro T2 k en h32 he hk ha hT1 hr
    have ep : pst b n j = p := e.trans (sk_no (fun q => h32 q.2))
    rw [he] at ha
    obtain ⟨a1, a2, a3⟩ := q_tok hR hn hj hp hc hT ep hk ha
    rw [hT1]
    refine ⟨a1, j + 1, te b n p, hr.trans he, by omega, by omega, by omega, a2, a3, ?_⟩
    show sk b n (te b n (pst b n j)) = _
    rw [ep]
  have r109 : ∀ {l4 : Int32}, ¬ (97 ≤ b p ∧ b p ≤ 122) → ¬ (48 ≤ b p ∧ b p ≤ 57) → l4 = nI (p + 1) → g_X9_cutOne_b109 T 1 (nI p) (b p) l4 = some (r, T1) → KPq T T1 ∧ ∃ j1 p1, r = nI p1 ∧ p < p1 ∧ p1 ≤ n ∧ j1 ≤ p1 ∧ T1.2.2.1 1 5 = nI j1 ∧ TK1 b n T1 j1 ∧ pst b n j1 = sk b n p1 := by
    intro l4 n1 n2 hl h
    have et : te b n p = p + 1 := by unfold te; rw [if_neg (by omega), if_neg n1, if_neg n2]
    have ek : kd b n p = if b p = 45 then 3 else if b p = 59 then 4 else 6 := by unfold kd; rw [if_neg (by omega), if_neg n1, if_neg n2]
    unfold g_X9_cutOne_b109 at h
    by_cases c1 : b p = 45
    · rw [if_pos c1] at h
      obtain ⟨-, h⟩ := oif_some h
      obtain ⟨T4, e4, h⟩ := obind_some h
      unfold g_X9_cutOne_b158 at h
      have f := osome2 h
      exact key (by rw [c1]; decide) (by rw [hl, et]) (by rw [ek, if_pos c1]) e4 f.2.symm f.1.symm
    · rw [if_neg c1] at h
      by_cases c2 : b p = 59
      · rw [if_pos c2] at h
        obtain ⟨-, h⟩ := oif_some h
        obtain ⟨T4, e4, h⟩ := obind_some h
        unfold g_X9_cutOne_b158 at h
        have f := osome2 h
        exact key (by rw [c2]; decide) (by rw [hl, et]) (by rw [ek, if_neg c1, if_pos c2]) e4 f.2.symm f.1.symm
      · rw [if_neg c2] at h
        by_cases c3 : b p = 32
        · rw [if_pos c3] at h
          unfold g_X9_cutOne_b158 at h
          have f := osome2 h
          rw [← f.2, ← f.1]
          exact ⟨KPq.rf T, j, p + 1, hl, by omega, by omega, by omega, hc, hT, e.trans (sk_sp hp c3)⟩
        · rw [if_neg c3] at h
          obtain ⟨-, h⟩ := oif_some h
          obtain ⟨T4, e4, h⟩ := obind_some h
          unfold g_X9_cutOne_b158 at h
          have f := osome2 h
          exact key c3 (by rw [hl, et]) (by rw [ek, if_neg c1, if_neg c2]) e4 f.2.symm f.1.symm
  have r61 : ∀ {l4 : Int32}, ¬ (97 ≤ b p ∧ b p ≤ 122) → l4 = nI (p + 1) → g_X9_cutOne_b61 T 1 (nI n) (nI p) (b p) l4 = some (r, T1) → KPq T T1 ∧ ∃ j1 p1, r = nI p1 ∧ p < p1 ∧ p1 ≤ n ∧ j1 ≤ p1 ∧ T1.2.2.1 1 5 = nI j1 ∧ TK1 b n T1 j1 ∧ pst b n j1 = sk b n p1 := by
    intro l4 n1 hl h
    unfold g_X9_cutOne_b61 at h
    by_cases c1 : b p < 48
    · rw [if_pos c1] at h
      exact r109 n1 (fun q => Int32.not_lt.mpr q.1 c1) hl h
    · rw [if_neg c1] at h
      by_cases c2 : 57 < b p
      · rw [if_pos c2] at h
        exact r109 n1 (fun q => Int32.not_lt.mpr q.2 c2) hl h
      · rw [if_neg c2] at h
        have n2 : 48 ≤ b p ∧ b p ≤ 57 := ⟨Int32.not_lt.mp c1, Int32.not_lt.mp c2⟩
        have et : te b n p = rn b n 48 57 p := by unfold te; rw [if_neg (by omega), if_neg n1, if_pos n2]
        have ek : kd b n p = if te b n p - p ≤ 4 then 2 else 6 := by unfold kd; rw [if_neg (by omega), if_neg n1, if_pos n2]
        obtain ⟨-, h⟩ := oif_some h
        obtain ⟨r7, T5, e5, h⟩ := obind2_some h
        obtain ⟨k1, k2⟩ := q_run 16384 hR hB hn (by omega) e5
        rw [k2] at h
        obtain ⟨v9, e9, h⟩ := elet_some h
        rw [k1, ← et] at e9
        have q9 : v9.toInt = (te b n p : Int) - p := by rw [e9]; exact nI_dif (by omega) (by omega)
        have h32 : ¬ b p = 32 := fun q => by rw [q] at n2; exact absurd n2.1 (by decide)
        by_cases c3 : 4 < v9
        · rw [if_pos c3] at h
          have c3 := i_lt c3
          unfold g_X9_cutOne_b100 at h
          obtain ⟨-, h⟩ := oif_some h
          obtain ⟨T3, e3, h⟩ := obind_some h
          unfold g_X9_cutOne_b158 at h
          have f := osome2 h
          exact key h32 (by rw [k1, et]) (by rw [ek, if_neg (by omega)]) e3 f.2.symm f.1.symm
        · rw [if_neg c3] at h
          have c3 := i_nlt c3
          unfold g_X9_cutOne_b100 at h
          obtain ⟨-, h⟩ := oif_some h
          obtain ⟨T3, e3, h⟩ := obind_some h
          unfold g_X9_cutOne_b158 at h
          have f := osome2 h
          exact key h32 (by rw [k1, et]) (by rw [ek, if_pos (by omega)]) e3 f.2.symm f.1.symm
  unfold g_X9_cutOne at h
  obtain ⟨-, h⟩ := oif_some h
  obtain ⟨n3, e3, h⟩ := obind_some h
  rw [hR.1] at e3
  cases e3
  obtain ⟨-, h⟩ := oif_some h
  obtain ⟨-, h⟩ := oif_some h
  obtain ⟨v6, e6, h⟩ := elet_some h
  rw [nI_clamp (by omega), hB p (by omega)] at e6
  rw [e6] at h
  obtain ⟨v7, e7, h⟩ := elet_some h
  rw [nI_1] at e7
  by_cases c1 : b p < 97
  · rw [if_pos c1] at h
    exact r61 (fun q => Int32.not_lt.mpr q.1 c1) e7 h
  · rw [if_neg c1] at h
    by_cases c2 : 122 < b p
    · rw [if_pos c2] at h
      exact r61 (fun q => Int32.not_lt.mpr q.2 c2) e7 h
    · rw [if_neg c2] at h
      have n1 := q_let c1 c2
      have et : te b n p = rn b n 97 122 p := by unfold te; rw [if_neg (by omega), if_pos n1]
      have ek : kd b n p = if te b n p - p ≤ 8 then 1 else 6 := by unfold kd; rw [if_neg (by omega), if_pos n1]
      obtain ⟨-, h⟩ := oif_some h
      obtain ⟨r7, T5, e5, h⟩ := obind2_some h
      obtain ⟨k1, k2⟩ := q_run 16384 hR hB hn (by omega) e5
      rw [k2] at h
      obtain ⟨v9, e9, h⟩ := elet_some h
      rw [k1, ← et] at e9
      have q9 : v9.toInt = (te b n p : Int) - p := by rw [e9]; exact nI_dif (by omega) (by omega)
      have h32 : ¬ b p = 32 := fun q => by rw [q] at n1; exact absurd n1.1 (by decide)
      by_cases c3 : 8 < v9
      · rw [if_pos c3] at h
        have c3 := i_lt c3
        unfold g_X9_cutOne_b52 at h
        obtain ⟨-, h⟩ := oif_some h
        obtain ⟨T3, e3, h⟩ := obind_some h
        unfold g_X9_cutOne_b158 at h
        have f := osome2 h
        exact key h32 (by rw [k1, et]) (by rw [ek, if_neg (by omega)]) e3 f.2.symm f.1.symm
      · rw [if_neg c3] at h
        have c3 := i_nlt c3
        unfold g_X9_cutOne_b52 at h
        obtain ⟨-, h⟩ := oif_some h
        obtain ⟨T3, e3, h⟩ := obind_some h
        unfold g_X9_cutOne_b158 at h
        have f := osome2 h
        exact key h32 (by rw [k1, et]) (by rw [ek, if_pos (by omega)]) e3 f.2.symm f.1.symm
/-- all tokens: c of them, the last one the end -/
def TKS (b : Nat → Int32) (n : Nat) (T : AT) (c : Nat) : Prop := T.2.2.1 1 5 = nI c ∧ 1 ≤ c ∧ c ≤ 1001 ∧ (∀ i, i < c → T.2.2.1 3 i = kd b n (pst b n i) ∧ T.2.2.1 4 i = nI (pst b n i) ∧ T.2.2.1 5 i = nI (te b n (pst b n i))) ∧ (∀ i, i + 1 < c → pst b n i < n) ∧ pst b n (c - 1) = n
theorem q_cutl : ∀ (f : Nat) {T T1 : AT} {j p i : Nat}, TXR T → BYq b T → n ≤ 1000 → j ≤ p → p ≤ n → i ≤ p → T.2.2.1 1 5 = nI j → TK1 b n T j → pst b n j = sk b n p → g_X9_cut_b9 f T 1 (nI n) (nI p) (nI i) = some T1 → KPq T T1 ∧ ∃ c, TKS b n T1 c := by
  intro f
  induction f with
  | zero => intro T T1 j p i hR hB hn hj hp hi hc hT e h; cases h
  | succ f ih =>
    intro T T1 j p i hR hB hn hj hp hi hc hT e h
    unfold g_X9_cut_b9 at h
    have fin : p = n → g_X9_cut_b32 T 1 (nI n) = some T1 → KPq T T1 ∧ ∃ c, TKS b n T1 c := by
      intro hpn h
      subst hpn
      unfold g_X9_cut_b32 at h
      obtain ⟨-, h⟩ := oif_some h
      obtain ⟨T3, e3, h⟩ := obind_some h
      have q := q_add hR hc (by omega) e3
      have en : pst b p j = p := e.trans (sk_no (by omega))
      rw [← osome1 h]
      refine ⟨?_, j + 1, by rw [q, ui_at], by omega, by omega, fun i hi => ?_, fun i hi => (hT i (by omega)).2.2.2, by rw [Nat.add_sub_cancel]; exact en⟩
      · rw [q]
        refine ⟨rfl, rfl, rfl, fun m k a3 a4 a5 a1 => ?_⟩
        rw [ui_ne (by omega), ui_ne (.inl a5), ui_ne (.inl a4), ui_ne (.inl a3)]
      · rw [q]
        by_cases c : i = j
        · subst c
          rw [ui_ne (.inl (by decide)), ui_ne (.inl (by decide)), ui_ne (.inl (by decide)), ui_at, ui_ne (.inl (by decide)), ui_ne (.inl (by decide)), ui_at, ui_ne (.inl (by decide)), ui_at, en]
          exact ⟨(kd_n (Nat.le_refl _)).symm, rfl, by rw [te_n (Nat.le_refl _)]⟩
        · rw [ui_ne (.inl (by decide)), ui_ne (.inl (by decide)), ui_ne (.inl (by decide)), ui_ne (.inr c), ui_ne (.inl (by decide)), ui_ne (.inl (by decide)), ui_ne (.inr c), ui_ne (.inl (by decide)), ui_ne (.inl (by decide)), ui_ne (.inr c), ui_ne (.inl (by decide)), ui_ne (.inl (by decide))]
          exact ⟨(hT i (by omega)).1, (hT i (by omega)).2.1, (hT i (by omega)).2.2.1⟩
    by_cases c1 : nI n ≤ nI i
    · rw [if_pos c1] at h
      have c1 := (nI_leI (by omega) (by omega)).mp c1
      exact fin (by omega) h
    · rw [if_neg c1] at h
      by_cases c2 : nI n ≤ nI p
      · rw [if_pos c2] at h
        have c2 := (nI_leI (by omega) (by omega)).mp c2
        exact fin (by omega) h
      · rw [if_neg c2] at h
        have c2 : p < n := Nat.lt_of_not_le (fun q => c2 ((nI_leI (by omega) (by omega)).mpr q))
        obtain ⟨-, h⟩ := oif_some h
        obtain ⟨r7, T5, e5, h⟩ := obind2_some h
        obtain ⟨k1, j1, p1, hr, hp1, hp2, hj1, hc1, hT1, e1⟩ := q_one hR hB hn hj c2 hc hT e e5
        obtain ⟨v9, e9, h⟩ := elet_some h
        have e9 : v9 = nI (i + 1) := e9.trans (nI_1 i)
        rw [hr, e9] at h
        obtain ⟨k2, q⟩ := ih (k1.txr hR) (k1.by hB) hn hj1 hp2 (by omega) hc1 hT1 e1 h
        exact ⟨k1.tr k2, q⟩
theorem q_cut {T T1 : AT} (hR : TXR T) (hB : BYq b T) (hn : n ≤ 1000) (h : g_X9_cut T 1 (nI n) = some T1) : KPq T T1 ∧ ∃ c, TKS b n T1 c := by
  unfold g_X9_cut at h
  obtain ⟨-, h⟩ := oif_some h
  obtain ⟨T3, e3, h⟩ := elet_some h
  have k : KPq T T3 := by
    rw [e3]
    exact ⟨rfl, rfl, rfl, fun m k a3 a4 a5 a1 => ui_ne (by omega)⟩
  obtain ⟨k2, q⟩ := q_cutl 16384 (j := 0) (p := 0) (i := 0) (k.txr hR) (k.by hB) hn (Nat.le_refl _) (Nat.zero_le _) (Nat.le_refl _) (by rw [e3, ui_at]; rfl) (fun i hi => absurd hi (Nat.not_lt_zero i)) rfl h
  exact ⟨k.tr k2, q⟩
/-! the reference's next token -/
theorem r_in {v lo hi r : Int32} (h : fr_in v lo hi = some r) : r = if lo ≤ v ∧ v ≤ hi then 1 else 0 := by
  unfold fr_in at h
  by_cases c : v < lo
  · rw [if_pos c] at h
    have h : some (0 : Int32) = some r := h
    rw [if_neg (fun q => Int32.not_lt.mpr q.1 c)]
    exact (osome1 h).symm
  · rw [if_neg c] at h
    by_cases c2 : hi < v
    · rw [if_pos c2] at h
      have h : some (0 : Int32) = some r := h
      rw [if_neg (fun q => Int32.not_lt.mpr q.2 c2)]
      exact (osome1 h).symm
    · rw [if_neg c2] at h
      have h : some (1 : Int32) = some r := h
      rw [if_pos ⟨Int32.not_lt.mp c, Int32.not_lt.mp c2⟩]
      exact (osome1 h).symm
theorem r_byte {S S1 : MS} {p : Nat} {r : Int32} (he : S.1 3 = nI n) (hn : n ≤ 1000) (hp : p ≤ n) (h : fr_byteAt S (nI p) = some (r, S1)) : S1 = S ∧ r = if p < n then S.2.1 1 p else -1 := by
  unfold fr_byteAt at h
  obtain ⟨v2, e2, h⟩ := elet_some h
  rw [he] at e2
  rw [e2] at h
  by_cases c : nI n ≤ nI p
  · rw [if_pos c] at h
    have c := (nI_leI (by omega) (by omega)).mp c
    unfold fr_byteAt_b18 at h
    have f := osome2 h
    rw [if_neg (by omega)]
    exact ⟨f.2.symm, f.1.symm⟩
  · rw [if_neg c] at h
    have c : p < n := Nat.lt_of_not_le (fun q => c ((nI_leI (by omega) (by omega)).mpr q))
    obtain ⟨-, h⟩ := oif_some h
    obtain ⟨v5, e5, h⟩ := elet_some h
    unfold fr_byteAt_b18 at h
    have f := osome2 h
    rw [if_pos c]
    exact ⟨f.2.symm, by rw [← f.1, e5, nI_clamp (by omega)]⟩
def MFq (S S1 : MS) : Prop := S1.2 = S.2 ∧ ∀ k, k ≠ 4 → k ≠ 7 → k ≠ 8 → k ≠ 9 → S1.1 k = S.1 k
theorem MFq.rf (S : MS) : MFq S S := ⟨rfl, fun _ _ _ _ _ => rfl⟩
theorem MFq.tr {S S1 S2 : MS} (h : MFq S S1) (k : MFq S1 S2) : MFq S S2 := ⟨k.1.trans h.1, fun j a c d e => (k.2 j a c d e).trans (h.2 j a c d e)⟩
theorem mq {S S1 : MS} {k : Nat} {v : Int32} (h : MFq S S1) (hk : k = 4 ∨ k = 7 ∨ k = 8 ∨ k = 9) : MFq S (mi S1 k v) := ⟨h.1, fun j a c d e => (mi_ne (by omega)).trans (h.2 j a c d e)⟩
theorem r_let : ∀ (f : Nat) {S S1 : MS} {p q : Nat}, S.2.1 1 = b → S.1 3 = nI n → S.1 4 = nI q → S.1 8 = nI p → p ≤ q → q ≤ n → n ≤ 1000 → fr_nextToken_b79 f S = some S1 → MFq S S1 ∧ S1.1 8 = nI p ∧ S1.1 4 = nI (rn b n 97 122 q) ∧ S1.1 7 = if rn b n 97 122 q - p ≤ 8 then 2 else 0 := by
  have z8 : (8 : Int32).toInt = 8 := by decide
  intro f
  induction f with
  | zero => intro S S1 p q hb h3 h4 h8 hpq hq hn h; cases h
  | succ f ih =>
    intro S S1 p q hb h3 h4 h8 hpq hq hn h
    unfold fr_nextToken_b79 at h
    obtain ⟨v2, e2, h⟩ := elet_some h
    rw [h4] at e2
    rw [e2] at h
    obtain ⟨r6, S3, e3, h⟩ := obind2_some h
    obtain ⟨k1, k2⟩ := r_byte h3 hn hq e3
    rw [k1] at h
    obtain ⟨r7, e7, h⟩ := obind_some h
    have e7 := r_in e7
    by_cases c : q < n ∧ 97 ≤ b q ∧ b q ≤ 122
    · have c7 : r7 = 1 := by rw [e7, k2, if_pos c.1, hb, if_pos c.2]
      rw [if_neg (by rw [c7]; decide)] at h
      obtain ⟨v14, e14, h⟩ := elet_some h
      rw [h4] at e14
      obtain ⟨v15, e15, h⟩ := elet_some h
      rw [e14, nI_1] at e15
      obtain ⟨S16, e16, h⟩ := elet_some h
      have f16 : MFq S S16 := by rw [e16]; exact mq (MFq.rf S) (by omega)
      obtain ⟨a1, a2, a3, a4⟩ := ih (p := p) (q := q + 1) (by rw [f16.1]; exact hb) (by rw [f16.2 3 (by decide) (by decide) (by decide) (by decide)]; exact h3) (by rw [e16, mi_at, e15]) (by rw [e16, mi_ne (by decide)]; exact h8) (by omega) (by omega) hn h
      rw [rn_in c.1 c.2.1 c.2.2]
      exact ⟨f16.tr a1, a2, a3, a4⟩
    · have c7 : r7 = 0 := by
        rw [e7, k2]
        by_cases c1 : q < n
        · rw [if_pos c1, hb, if_neg (fun w => c ⟨c1, w⟩)]
        · rw [if_neg c1]
          decide
      rw [if_pos c7] at h
      obtain ⟨v10, e10, h⟩ := elet_some h
      rw [h4] at e10
      obtain ⟨v11, e11, h⟩ := elet_some h
      rw [h8] at e11
      obtain ⟨v12, e12, h⟩ := elet_some h
      rw [e10, e11] at e12
      have q12 : v12.toInt = (q : Int) - p := by rw [e12]; exact nI_dif hpq (by omega)
      rw [rn_no c]
      by_cases c8 : v12 ≤ 8
      · rw [if_pos c8] at h
        have c8 := i_le c8
        have h : some (mi S 7 2) = some S1 := h
        rw [← osome1 h, if_pos (by omega)]
        exact ⟨mq (MFq.rf S) (by omega), by rw [mi_ne (by decide)]; exact h8, by rw [mi_ne (by decide)]; exact h4, mi_at⟩
      · rw [if_neg c8] at h
        have c8 := i_nle c8
        have h : some (mi S 7 0) = some S1 := h
        rw [← osome1 h, if_neg (by omega)]
        exact ⟨mq (MFq.rf S) (by omega), by rw [mi_ne (by decide)]; exact h8, by rw [mi_ne (by decide)]; exact h4, mi_at⟩
theorem r_dig : ∀ (f : Nat) {S S1 : MS} {p q : Nat}, S.2.1 1 = b → S.1 3 = nI n → S.1 4 = nI q → S.1 8 = nI p → p ≤ q → q ≤ n → n ≤ 1000 → (q - p ≤ 4 → S.1 9 = vf b (q - p) p 0) → fr_nextToken_b159 f S = some S1 → MFq S S1 ∧ S1.1 8 = nI p ∧ S1.1 4 = nI (rn b n 48 57 q) ∧ S1.1 7 = (if rn b n 48 57 q - p ≤ 4 then 3 else 0) ∧ (rn b n 48 57 q - p ≤ 4 → S1.1 9 = vf b (rn b n 48 57 q - p) p 0) := by
  have z4 : (4 : Int32).toInt = 4 := by decide
  intro f
  induction f with
  | zero => intro S S1 p q hb h3 h4 h8 hpq hq hn hv h; cases h
  | succ f ih =>
    intro S S1 p q hb h3 h4 h8 hpq hq hn hv h
    unfold fr_nextToken_b159 at h
    obtain ⟨v2, e2, h⟩ := elet_some h
    rw [h4] at e2
    rw [e2] at h
    obtain ⟨r6, S3, e3, h⟩ := obind2_some h
    obtain ⟨k1, k2⟩ := r_byte h3 hn hq e3
    rw [k1] at h
    obtain ⟨r7, e7, h⟩ := obind_some h
    have e7 := r_in e7
    by_cases c : q < n ∧ 48 ≤ b q ∧ b q ≤ 57
    · have c7 : r7 = 1 := by rw [e7, k2, if_pos c.1, hb, if_pos c.2]
      rw [if_neg (by rw [c7]; decide)] at h
      obtain ⟨v14, e14, h⟩ := elet_some h
      rw [h4] at e14
      obtain ⟨v15, e15, h⟩ := elet_some h
      rw [h8] at e15
      obtain ⟨v16, e16, h⟩ := elet_some h
      rw [e14, e15] at e16
      have q16 : v16.toInt = (q : Int) - p := by rw [e16]; exact nI_dif hpq (by omega)
      have go : ∀ {S2 : MS}, MFq S S2 → S2.1 4 = nI q → S2.1 8 = nI p → (q + 1 - p ≤ 4 → S2.1 9 = vf b (q + 1 - p) p 0) → fr_nextToken_b213 (fr_nextToken_b159 f) S2 = some S1 → MFq S S1 ∧ S1.1 8 = nI p ∧ S1.1 4 = nI (rn b n 48 57 q) ∧ S1.1 7 = (if rn b n 48 57 q - p ≤ 4 then 3 else 0) ∧ (rn b n 48 57 q - p ≤ 4 → S1.1 9 = vf b (rn b n 48 57 q - p) p 0) := by
        intro S2 m2 a4 a8 a9 h
        unfold fr_nextToken_b213 at h
        obtain ⟨w2, d2, h⟩ := elet_some h
        rw [a4] at d2
        obtain ⟨w3, d3, h⟩ := elet_some h
        rw [d2, nI_1] at d3
        obtain ⟨S4, d4, h⟩ := elet_some h
        have f4 : MFq S S4 := by rw [d4]; exact mq m2 (by omega)
        obtain ⟨a1, a2, a3, a5⟩ := ih (p := p) (q := q + 1) (by rw [f4.1]; exact hb) (by rw [f4.2 3 (by decide) (by decide) (by decide) (by decide)]; exact h3) (by rw [d4, mi_at, d3]) (by rw [d4, mi_ne (by decide)]; exact a8) (by omega) (by omega) hn (fun w => by rw [d4, mi_ne (by decide)]; exact a9 w) h
        rw [rn_in c.1 c.2.1 c.2.2]
        exact ⟨f4.tr a1, a2, a3, a5⟩
      by_cases c4 : 4 ≤ v16
      · rw [if_pos c4] at h
        have c4 := i_le c4
        exact go (MFq.rf S) h4 h8 (fun w => absurd w (by omega)) h
      · rw [if_neg c4] at h
        have c4 := i_nle c4
        obtain ⟨v18, e18, h⟩ := elet_some h
        rw [hv (by omega)] at e18
        obtain ⟨v19, e19, h⟩ := elet_some h
        obtain ⟨v20, e20, h⟩ := elet_some h
        rw [h4] at e20
        rw [e20] at h
        obtain ⟨r24, S21, e21, h⟩ := obind2_some h
        obtain ⟨k3, k4⟩ := r_byte h3 hn hq e21
        rw [k3] at h
        rw [if_pos c.1, hb] at k4
        obtain ⟨v25, e25, h⟩ := elet_some h
        obtain ⟨v26, e26, h⟩ := elet_some h
        obtain ⟨S27, e27, h⟩ := elet_some h
        refine go (S2 := S27) (by rw [e27]; exact mq (MFq.rf S) (by omega)) (by rw [e27, mi_ne (by decide)]; exact h4) (by rw [e27, mi_ne (by decide)]; exact h8) (fun _ => ?_) h
        rw [e27, mi_at, e26, e25, k4, e19, e18, show q + 1 - p = (q - p) + 1 from by omega, vf_snoc, show p + (q - p) = q from by omega]
    · have c7 : r7 = 0 := by
        rw [e7, k2]
        by_cases c1 : q < n
        · rw [if_pos c1, hb, if_neg (fun w => c ⟨c1, w⟩)]
        · rw [if_neg c1]
          decide
      rw [if_pos c7] at h
      obtain ⟨v10, e10, h⟩ := elet_some h
      rw [h4] at e10
      obtain ⟨v11, e11, h⟩ := elet_some h
      rw [h8] at e11
      obtain ⟨v12, e12, h⟩ := elet_some h
      rw [e10, e11] at e12
      have q12 : v12.toInt = (q : Int) - p := by rw [e12]; exact nI_dif hpq (by omega)
      rw [rn_no c]
      by_cases c8 : v12 ≤ 4
      · rw [if_pos c8] at h
        have c8 := i_le c8
        have h : some (mi S 7 3) = some S1 := h
        rw [← osome1 h, if_pos (by omega)]
        exact ⟨mq (MFq.rf S) (by omega), by rw [mi_ne (by decide)]; exact h8, by rw [mi_ne (by decide)]; exact h4, mi_at, fun w => by rw [mi_ne (by decide)]; exact hv w⟩
      · rw [if_neg c8] at h
        have c8 := i_nle c8
        have h : some (mi S 7 0) = some S1 := h
        rw [← osome1 h, if_neg (by omega)]
        exact ⟨mq (MFq.rf S) (by omega), by rw [mi_ne (by decide)]; exact h8, by rw [mi_ne (by decide)]; exact h4, mi_at, fun w => by rw [mi_ne (by decide)]; exact hv w⟩
theorem r_sign {v r : Int32} (h : fr_isSign v = some r) (e : v = 45 ∨ v = 59) : r = 1 := by
  rcases e with rfl | rfl
  · have h : some (1 : Int32) = some r := h
    exact (osome1 h).symm
  · have h : some (1 : Int32) = some r := h
    exact (osome1 h).symm
theorem r_tok : ∀ (f : Nat) {S S1 : MS} {p : Nat}, S.2.1 1 = b → S.1 3 = nI n → S.1 4 = nI p → p ≤ n → n ≤ 1000 → fr_nextToken_b8 f S = some S1 → MFq S S1 ∧ S1.1 8 = nI (sk b n p) ∧ S1.1 4 = nI (te b n (sk b n p)) ∧ TKR b n (sk b n p) (S1.1 7) (S1.1 9) := by
  intro f
  induction f with
  | zero => intro S S1 p hb h3 h4 hp hn h; cases h
  | succ f ih =>
    intro S S1 p hb h3 h4 hp hn h
    unfold fr_nextToken_b8 at h
    obtain ⟨v2, e2, h⟩ := elet_some h
    rw [h4] at e2
    rw [e2] at h
    obtain ⟨r6, S3, e3, h⟩ := obind2_some h
    obtain ⟨k1, k2⟩ := r_byte h3 hn hp e3
    rw [k1] at h
    by_cases c : p < n ∧ b p = 32
    · rw [if_pos (by rw [k2, if_pos c.1, hb]; exact c.2)] at h
      obtain ⟨v8, e8, h⟩ := elet_some h
      rw [h4] at e8
      obtain ⟨v9, e9, h⟩ := elet_some h
      rw [e8, nI_1] at e9
      obtain ⟨S10, e10, h⟩ := elet_some h
      have f10 : MFq S S10 := by rw [e10]; exact mq (MFq.rf S) (by omega)
      obtain ⟨a1, a2, a3, a4⟩ := ih (p := p + 1) (by rw [f10.1]; exact hb) (by rw [f10.2 3 (by decide) (by decide) (by decide) (by decide)]; exact h3) (by rw [e10, mi_at, e9]) (by omega) hn h
      rw [sk_sp c.1 c.2]
      exact ⟨f10.tr a1, a2, a3, a4⟩
    · rw [if_neg (fun w => by
        rw [k2] at w
        by_cases c1 : p < n
        · rw [if_pos c1, hb] at w; exact c ⟨c1, w⟩
        · rw [if_neg c1] at w; exact absurd w (by decide))] at h
      rw [sk_no c]
      obtain ⟨v11, e11, h⟩ := elet_some h
      rw [h4] at e11
      obtain ⟨S12, e12, h⟩ := elet_some h
      have m12 : MFq S S12 := by rw [e12]; exact mq (MFq.rf S) (by omega)
      have a8 : S12.1 8 = nI p := by rw [e12, mi_at, e11]
      have a4 : S12.1 4 = nI p := by rw [e12, mi_ne (by decide)]; exact h4
      have a3 : S12.1 3 = nI n := by rw [e12, mi_ne (by decide)]; exact h3
      have ab : S12.2.1 1 = b := by rw [m12.1]; exact hb
      obtain ⟨v13, e13, h⟩ := elet_some h
      rw [a4] at e13
      obtain ⟨v14, e14, h⟩ := elet_some h
      rw [a3] at e14
      by_cases c1 : n = p
      · rw [if_pos (by rw [e13, e14, c1])] at h
        have h : some (mi S12 7 1) = some S1 := h
        rw [← osome1 h]
        have k5 : kd b n p = 5 := kd_n (by omega)
        refine ⟨mq m12 (by omega), by rw [mi_ne (by decide)]; exact a8, by rw [mi_ne (by decide), a4, te_n (by omega), c1], ?_⟩
        rw [mi_at]
        unfold TKR
        rw [k5]
        exact ⟨fun _ => rfl, fun w => absurd w (by decide), fun w => absurd w (by decide), fun w => absurd w (by decide), fun w => absurd w (by decide), fun w => absurd w (by decide)⟩
      · have c1 : p < n := by omega
        rw [if_neg (fun w => by rw [e13, e14] at w; have := (nI_eq (by omega) (by omega)).mp w; omega)] at h
        obtain ⟨v17, e17, h⟩ := elet_some h
        rw [a4] at e17
        rw [e17] at h
        obtain ⟨r21, S18, e18, h⟩ := obind2_some h
        obtain ⟨k3, k4⟩ := r_byte a3 hn hp e18
        rw [if_pos c1, ab] at k4
        rw [k3] at h
        obtain ⟨r22, e22, h⟩ := obind_some h
        have e22 := r_in e22
        rw [k4] at e22
        by_cases n1 : 97 ≤ b p ∧ b p ≤ 122
        · rw [if_pos n1] at e22
          rw [if_neg (by rw [e22]; decide)] at h
          obtain ⟨d1, d2, d3, d4⟩ := r_let 16384 ab a3 a4 a8 (Nat.le_refl _) hp hn h
          have et : te b n p = rn b n 97 122 p := by unfold te; rw [if_neg (by omega), if_pos n1]
          have ek : kd b n p = if te b n p - p ≤ 8 then 1 else 6 := by unfold kd; rw [if_neg (by omega), if_pos n1]
          rw [← et] at d3 d4
          refine ⟨m12.tr d1, d2, d3, ?_⟩
          unfold TKR
          by_cases c8 : te b n p - p ≤ 8
          · rw [if_pos c8] at d4 ek
            rw [ek, d4]
            exact ⟨fun w => absurd w (by decide), fun _ => rfl, fun w => absurd w (by decide), fun w => absurd w (by decide), fun w => absurd w (by decide), fun w => absurd w (by decide)⟩
          · rw [if_neg c8] at d4 ek
            rw [ek, d4]
            exact ⟨fun w => absurd w (by decide), fun w => absurd w (by decide), fun w => absurd w (by decide), fun w => absurd w (by decide), fun w => absurd w (by decide), fun _ => .inl rfl⟩
        · rw [if_neg n1] at e22
          rw [if_pos e22] at h
          obtain ⟨v25, e25, h⟩ := elet_some h
          rw [a4] at e25
          rw [e25] at h
          obtain ⟨r29, S26, e26, h⟩ := obind2_some h
          obtain ⟨k5, k6⟩ := r_byte a3 hn hp e26
          rw [if_pos c1, ab] at k6
          rw [k5] at h
          obtain ⟨r30, e30, h⟩ := obind_some h
          have e30 := r_in e30
          rw [k6] at e30
          by_cases n2 : 48 ≤ b p ∧ b p ≤ 57
          · rw [if_pos n2] at e30
            rw [if_neg (by rw [e30]; decide)] at h
            obtain ⟨S43, e43, h⟩ := elet_some h
            have m43 : MFq S S43 := by rw [e43]; exact mq m12 (by omega)
            obtain ⟨d1, d2, d3, d4, d5⟩ := r_dig (b := b) 16384 (by rw [m43.1]; exact hb) (by rw [e43, mi_ne (by decide)]; exact a3) (by rw [e43, mi_ne (by decide)]; exact a4) (by rw [e43, mi_ne (by decide)]; exact a8) (Nat.le_refl _) hp hn (fun _ => by rw [e43, mi_at, Nat.sub_self]; rfl) h
            have et : te b n p = rn b n 48 57 p := by unfold te; rw [if_neg (by omega), if_neg n1, if_pos n2]
            have ek : kd b n p = if te b n p - p ≤ 4 then 2 else 6 := by unfold kd; rw [if_neg (by omega), if_neg n1, if_pos n2]
            rw [← et] at d3 d4 d5
            refine ⟨m43.tr d1, d2, d3, ?_⟩
            unfold TKR
            by_cases c8 : te b n p - p ≤ 4
            · rw [if_pos c8] at d4 ek
              rw [ek, d4, d5 c8]
              exact ⟨fun w => absurd w (by decide), fun w => absurd w (by decide), fun _ => ⟨rfl, rfl⟩, fun w => absurd w (by decide), fun w => absurd w (by decide), fun w => absurd w (by decide)⟩
            · rw [if_neg c8] at d4 ek
              rw [ek, d4]
              exact ⟨fun w => absurd w (by decide), fun w => absurd w (by decide), fun w => absurd w (by decide), fun w => absurd w (by decide), fun w => absurd w (by decide), fun _ => .inl rfl⟩
          · rw [if_neg n2] at e30
            rw [if_pos e30] at h
            obtain ⟨v33, e33, h⟩ := elet_some h
            rw [a4] at e33
            rw [e33] at h
            obtain ⟨r37, S34, e34, h⟩ := obind2_some h
            obtain ⟨k7, k8⟩ := r_byte a3 hn hp e34
            rw [if_pos c1, ab] at k8
            rw [k7] at h
            obtain ⟨S38, e38, h⟩ := elet_some h
            have m38 : MFq S S38 := by rw [e38]; exact mq m12 (by omega)
            obtain ⟨v39, e39, h⟩ := elet_some h
            rw [e38, mi_at, k8] at e39
            obtain ⟨r40, e40, h⟩ := obind_some h
            have et : te b n p = p + 1 := by unfold te; rw [if_neg (by omega), if_neg n1, if_neg n2]
            have ek : kd b n p = if b p = 45 then 3 else if b p = 59 then 4 else 6 := by unfold kd; rw [if_neg (by omega), if_neg n1, if_neg n2]
            have b38 : S38.1 4 = nI p := by rw [e38, mi_ne (by decide)]; exact a4
            have c38 : S38.1 8 = nI p := by rw [e38, mi_ne (by decide)]; exact a8
            have d38 : S38.1 9 = b p := by rw [e38, mi_at, k8]
            have go : ∀ {t : Int32}, (t = 4 ∨ t = 0 ∧ ¬ (b p = 45 ∨ b p = 59)) → fr_nextToken_b279 S38 t = some S1 → MFq S S1 ∧ S1.1 8 = nI p ∧ S1.1 4 = nI (te b n p) ∧ TKR b n p (S1.1 7) (S1.1 9) := by
              intro t ht h
              unfold fr_nextToken_b279 at h
              obtain ⟨S2, d2, h⟩ := elet_some h
              obtain ⟨w3, d3, h⟩ := elet_some h
              rw [d2, mi_ne (by decide), b38] at d3
              obtain ⟨w4, d4, h⟩ := elet_some h
              rw [d3, nI_1] at d4
              obtain ⟨S5, d5, h⟩ := elet_some h
              have h : some S5 = some S1 := h
              have m5 : MFq S S5 := by rw [d5, d2]; exact mq (mq m38 (by omega)) (by omega)
              rw [← osome1 h]
              have t7 : S5.1 7 = t := by rw [d5, mi_ne (by decide), d2, mi_at]
              have t9 : S5.1 9 = b p := by rw [d5, mi_ne (by decide), d2, mi_ne (by decide), d38]
              refine ⟨m5, by rw [d5, mi_ne (by decide), d2, mi_ne (by decide), c38], by rw [d5, mi_at, d4, et], ?_⟩
              rw [t7, t9]
              unfold TKR
              rw [ek]
              by_cases b45 : b p = 45
              · rw [if_pos b45]
                have t4 : t = 4 := by
                  rcases ht with w | w
                  · exact w
                  · exact absurd (.inl b45) w.2
                exact ⟨fun w => absurd w (by decide), fun w => absurd w (by decide), fun w => absurd w (by decide), fun _ => ⟨t4, b45⟩, fun w => absurd w (by decide), fun w => absurd w (by decide)⟩
              · rw [if_neg b45]
                by_cases b59 : b p = 59
                · rw [if_pos b59]
                  have t4 : t = 4 := by
                    rcases ht with w | w
                    · exact w
                    · exact absurd (.inr b59) w.2
                  exact ⟨fun w => absurd w (by decide), fun w => absurd w (by decide), fun w => absurd w (by decide), fun w => absurd w (by decide), fun _ => ⟨t4, b59⟩, fun w => absurd w (by decide)⟩
                · rw [if_neg b59]
                  refine ⟨fun w => absurd w (by decide), fun w => absurd w (by decide), fun w => absurd w (by decide), fun w => absurd w (by decide), fun w => absurd w (by decide), fun _ => ?_⟩
                  rcases ht with w | w
                  · exact .inr ⟨w, b45, b59⟩
                  · exact .inl w.1
            by_cases c40 : r40 = 0
            · rw [if_pos c40] at h
              refine go (.inr ⟨rfl, fun w => ?_⟩) h
              have := r_sign e40 (by rw [e39]; exact w)
              rw [this] at c40
              exact absurd c40 (by decide)
            · rw [if_neg c40] at h
              exact go (.inl rfl) h
theorem r_next {S S1 : MS} {p : Nat} (hb : S.2.1 1 = b) (h3 : S.1 3 = nI n) (h4 : S.1 4 = nI p) (hp : p ≤ n) (hn : n ≤ 1000) (h5 : S.1 5 = 0) (h : fr_nextToken S = some S1) : MFq S S1 ∧ S1.1 8 = nI (sk b n p) ∧ S1.1 4 = nI (te b n (sk b n p)) ∧ TKR b n (sk b n p) (S1.1 7) (S1.1 9) := by
  unfold fr_nextToken at h
  obtain ⟨v2, e2, h⟩ := elet_some h
  rw [if_pos (by rw [e2, h5]; decide)] at h
  exact r_tok 16384 hb h3 h4 hp hn h
end
end
section
/-! 20c.prim.lean.txt -/
section
variable {b : Nat → Int32} {n c i : Nat} {T T1 : AT} {S S1 : MS}
/-- at token i of c, nothing wrong yet -/
def PRq (b : Nat → Int32) (n c i : Nat) (T : AT) (S : MS) : Prop := (n ≤ 1000 ∧ TXR T ∧ BYq b T ∧ TKS b n T c ∧ i < c ∧ T.2.2.1 6 1 = nI i) ∧ (S.2.1 1 = b ∧ S.1 5 = 0 ∧ S.1 6 = -1 ∧ S.1 3 = nI n ∧ S.1 8 = nI (pst b n i) ∧ S.1 4 = nI (te b n (pst b n i)) ∧ TKR b n (pst b n i) (S.1 7) (S.1 9))
/-- both have found the same fault -/
def ERq (T : AT) (S : MS) : Prop := 0 < (S.1 5).toInt ∧ T.2.2.1 6 2 = S.1 5 ∧ T.2.2.1 6 3 = S.1 6
def TFq (T T1 : AT) : Prop := T1.1 = T.1 ∧ T1.2.1 = T.2.1 ∧ T1.2.2.2 = T.2.2.2 ∧ ∀ m k, m ≠ 6 → T1.2.2.1 m k = T.2.2.1 m k
theorem TFq.rf (T : AT) : TFq T T := ⟨rfl, rfl, rfl, fun _ _ _ => rfl⟩
theorem TFq.tr {T T1 T2 : AT} (h : TFq T T1) (k : TFq T1 T2) : TFq T T2 := ⟨k.1.trans h.1, k.2.1.trans h.2.1, k.2.2.1.trans h.2.2.1, fun m j a => (k.2.2.2 m j a).trans (h.2.2.2 m j a)⟩
theorem tf6 {k : Nat} {v : Int32} : TFq T (uI T 6 k v) := ⟨rfl, rfl, rfl, fun m j a => ui_ne (.inl a)⟩
theorem pr_uI {m k : Nat} {v : Int32} (h : PRq b n c i T S) (hm : 7 ≤ m) : PRq b n c i (uI T m k v) S := by
  obtain ⟨⟨h1, h2, h3, ⟨h4, h5, h6, h7, h8, h9⟩, h10, h11⟩, h12⟩ := h
  refine ⟨⟨h1, h2, fun j hj => ?_, ⟨?_, h5, h6, fun j hj => ?_, h8, h9⟩, h10, ?_⟩, h12⟩
  · rw [ui_ne (by omega)]; exact h3 j hj
  · rw [ui_ne (by omega)]; exact h4
  · rw [ui_ne (by omega), ui_ne (by omega), ui_ne (by omega)]; exact h7 j hj
  · rw [ui_ne (by omega)]; exact h11
theorem pr_mf {a : Nat} {f : Nat → Int32} (h : PRq b n c i T S) (ha : a ≠ 1) : PRq b n c i T (mf S a f) := by
  refine ⟨h.1, ?_, h.2.2⟩
  rw [mf_ne (Ne.symm ha)]
  exact h.2.1
theorem pr_adv (h : PRq b n c i T S) (hk : kd b n (pst b n i) ≠ 5) (hf : fr_nextToken S = some S1) : PRq b n c (i + 1) (uI T 6 1 (nI (i + 1))) S1 ∧ MFq S S1 := by
  obtain ⟨⟨h1, h2, h3, ⟨h4, h5, h6, h7, h8, h9⟩, h10, h11⟩, q1, q5, q6, q3, q8, q4, qt⟩ := h
  obtain ⟨m, a8, a4, at_⟩ := r_next q1 q3 q4 te_le h1 q5 hf
  have hi : i + 1 < c := by
    refine Nat.lt_of_le_of_ne h10 (fun e => hk (kd_n ?_))
    rw [show i = c - 1 from by omega, h9]
    exact Nat.le_refl _
  refine ⟨⟨⟨h1, h2, fun j hj => ?_, ⟨?_, h5, h6, fun j hj => ?_, h8, h9⟩, hi, ui_at⟩, ?_, ?_, ?_, ?_, a8, a4, at_⟩, m⟩
  · rw [ui_ne (by omega)]; exact h3 j hj
  · rw [ui_ne (by omega)]; exact h4
  · rw [ui_ne (by omega), ui_ne (by omega), ui_ne (by omega)]; exact h7 j hj
  · rw [m.1]; exact q1
  · rw [m.2 5 (by decide) (by decide) (by decide) (by decide)]; exact q5
  · rw [m.2 6 (by decide) (by decide) (by decide) (by decide)]; exact q6
  · rw [m.2 3 (by decide) (by decide) (by decide) (by decide)]; exact q3
theorem k_kind {r : Int32} (h : PRq b n c i T S) (hg : g_X3_kind T 6 = some (r, T1)) : r = kd b n (pst b n i) ∧ T1 = T := by
  obtain ⟨⟨h1, ⟨r10, r12, r13, r14, r60, s3⟩, h3, ⟨h4, h5, h6, h7, h8, h9⟩, h10, h11⟩, -⟩ := h
  unfold g_X3_kind at hg
  obtain ⟨-, hg⟩ := oif_some hg
  obtain ⟨v3, e3, hg⟩ := elet_some hg
  rw [h11] at e3
  obtain ⟨-, hg⟩ := oif_some hg
  obtain ⟨n5, e5, hg⟩ := obind_some hg
  rw [r60] at e5
  cases e5
  obtain ⟨-, hg⟩ := oif_some hg
  obtain ⟨v7, e7, hg⟩ := elet_some hg
  rw [h4] at e7
  rw [if_neg (fun q => by rw [e7, e3] at q; have := (nI_leI (by omega) (by omega)).mp q; omega)] at hg
  obtain ⟨-, hg⟩ := oif_some hg
  obtain ⟨n10, e10, hg⟩ := obind_some hg
  rw [r60] at e10
  cases e10
  obtain ⟨-, hg⟩ := oif_some hg
  obtain ⟨n12, e12, hg⟩ := obind_some hg
  rw [r12] at e12
  cases e12
  obtain ⟨-, hg⟩ := oif_some hg
  obtain ⟨v14, e14, hg⟩ := elet_some hg
  rw [h11] at e14
  obtain ⟨-, hg⟩ := oif_some hg
  obtain ⟨-, hg⟩ := oif_some hg
  obtain ⟨v17, e17, hg⟩ := elet_some hg
  rw [e14, nI_clamp (by omega), (h7 i h10).1] at e17
  unfold g_X3_kind_b30 at hg
  have f := osome2 hg
  exact ⟨f.1.symm.trans e17, f.2.symm⟩
theorem k_val1 : ∀ (f : Nat) {q : Nat} {a r : Int32}, PRq b n c i T S → q ≤ te b n (pst b n i) → g_X3_value_b15 f T 6 a (nI q) = some (r, T1) → r = vf b (te b n (pst b n i) - q) q a ∧ T1 = T := by
  intro f
  induction f with
  | zero => intro q a r h hq hg; cases hg
  | succ f ih =>
    intro q a r h hq hg
    have hh := h
    obtain ⟨⟨h1, ⟨r10, r12, r13, r14, r60, s3⟩, h3, ⟨h4, h5, h6, h7, h8, h9⟩, h10, h11⟩, -⟩ := h
    have tl : te b n (pst b n i) ≤ n := te_le
    unfold g_X3_value_b15 at hg
    obtain ⟨-, hg⟩ := oif_some hg
    obtain ⟨n3, e3, hg⟩ := obind_some hg
    rw [r60] at e3
    cases e3
    obtain ⟨-, hg⟩ := oif_some hg
    obtain ⟨n5, e5, hg⟩ := obind_some hg
    rw [r14] at e5
    cases e5
    obtain ⟨-, hg⟩ := oif_some hg
    obtain ⟨v7, e7, hg⟩ := elet_some hg
    rw [h11] at e7
    obtain ⟨-, hg⟩ := oif_some hg
    obtain ⟨-, hg⟩ := oif_some hg
    obtain ⟨v10, e10, hg⟩ := elet_some hg
    rw [e7, nI_clamp (by omega), (h7 i h10).2.2] at e10
    by_cases c1 : v10 ≤ nI q
    · rw [if_pos c1] at hg
      rw [e10] at c1
      have c1 := (nI_leI (by omega) (by omega)).mp c1
      have f := osome2 hg
      rw [show te b n (pst b n i) - q = 0 from by omega]
      exact ⟨f.1.symm, f.2.symm⟩
    · rw [if_neg c1] at hg
      have c1 : q < te b n (pst b n i) := Nat.lt_of_not_le (fun w => c1 (by rw [e10]; exact (nI_leI (by omega) (by omega)).mpr w))
      obtain ⟨v12, e12, hg⟩ := elet_some hg
      obtain ⟨-, hg⟩ := oif_some hg
      obtain ⟨n14, e14, hg⟩ := obind_some hg
      rw [r60] at e14
      cases e14
      obtain ⟨-, hg⟩ := oif_some hg
      obtain ⟨n16, e16, hg⟩ := obind_some hg
      rw [r10] at e16
      cases e16
      obtain ⟨-, hg⟩ := oif_some hg
      obtain ⟨-, hg⟩ := oif_some hg
      obtain ⟨v19, e19, hg⟩ := elet_some hg
      rw [nI_clamp (by omega), h3 q (by omega)] at e19
      obtain ⟨v20, e20, hg⟩ := elet_some hg
      obtain ⟨v21, e21, hg⟩ := elet_some hg
      obtain ⟨v22, e22, hg⟩ := elet_some hg
      have e22 : v22 = nI (q + 1) := e22.trans (nI_1 q)
      rw [e22] at hg
      obtain ⟨k1, k2⟩ := ih hh (by omega) hg
      refine ⟨?_, k2⟩
      rw [show te b n (pst b n i) - q = (te b n (pst b n i) - (q + 1)) + 1 from by omega, k1, e21, e20, e19, e12]
      rfl
theorem pst_te (i : Nat) : pst b n i ≤ te b n (pst b n i) := by
  by_cases h : n ≤ pst b n i
  · rw [te_n h]; exact pst_le i
  · have := (te_b (b := b) (n := n) (p := pst b n i) (by omega)).1
    omega
theorem k_value {r : Int32} (h : PRq b n c i T S) (hg : g_X3_value T 6 = some (r, T1)) : r = vf b (te b n (pst b n i) - pst b n i) (pst b n i) 0 ∧ T1 = T := by
  have hh := h
  obtain ⟨⟨h1, ⟨r10, r12, r13, r14, r60, s3⟩, h3, ⟨h4, h5, h6, h7, h8, h9⟩, h10, h11⟩, -⟩ := h
  unfold g_X3_value at hg
  obtain ⟨-, hg⟩ := oif_some hg
  obtain ⟨n3, e3, hg⟩ := obind_some hg
  rw [r60] at e3
  cases e3
  obtain ⟨-, hg⟩ := oif_some hg
  obtain ⟨n5, e5, hg⟩ := obind_some hg
  rw [r13] at e5
  cases e5
  obtain ⟨-, hg⟩ := oif_some hg
  obtain ⟨v7, e7, hg⟩ := elet_some hg
  rw [h11] at e7
  obtain ⟨-, hg⟩ := oif_some hg
  obtain ⟨-, hg⟩ := oif_some hg
  obtain ⟨v10, e10, hg⟩ := elet_some hg
  rw [e7, nI_clamp (by omega), (h7 i h10).2.1] at e10
  rw [e10] at hg
  exact k_val1 16384 hh (pst_te i) hg
theorem k_failT {j k : Nat} {e r : Int32} (h2 : TXR T) (h4 : T.2.2.1 1 5 = nI c) (h6 : c ≤ 1001) (h7 : ∀ j, j < c → T.2.2.1 4 j = nI (pst b n j)) (hj : j < c) (hg : g_X3_failAt T 6 (nI j) e = some (k, r, T1)) : k = 3 ∧ T1.2.2.1 6 2 = e ∧ T1.2.2.1 6 3 = nI (pst b n j) := by
  obtain ⟨r10, r12, r13, r14, r60, s3⟩ := h2
  unfold g_X3_failAt at hg
  obtain ⟨-, hg⟩ := oif_some hg
  obtain ⟨T3, e3, hg⟩ := elet_some hg
  rw [if_neg (nI_pos (by omega))] at hg
  have i3 : T3.2.2.1 1 5 = nI c := by rw [e3, ui_ne (.inl (by decide))]; exact h4
  have t3 : T3.2.2.1 4 j = nI (pst b n j) := by rw [e3, ui_ne (.inl (by decide))]; exact h7 j hj
  have r3 : T3.2.2.2.2 = T.2.2.2.2 := by rw [e3]; rfl
  obtain ⟨-, hg⟩ := oif_some hg
  obtain ⟨n6, e6, hg⟩ := obind_some hg
  rw [r3, r60] at e6
  cases e6
  obtain ⟨-, hg⟩ := oif_some hg
  obtain ⟨v8, e8, hg⟩ := elet_some hg
  rw [i3] at e8
  rw [if_neg (fun q => by rw [e8] at q; have := (nI_leI (by omega) (by omega)).mp q; omega)] at hg
  obtain ⟨-, hg⟩ := oif_some hg
  obtain ⟨n11, e11, hg⟩ := obind_some hg
  rw [r3, r60] at e11
  cases e11
  obtain ⟨-, hg⟩ := oif_some hg
  obtain ⟨n13, e13, hg⟩ := obind_some hg
  rw [r3, r13] at e13
  cases e13
  obtain ⟨-, hg⟩ := oif_some hg
  obtain ⟨-, hg⟩ := oif_some hg
  obtain ⟨v16, e16, hg⟩ := elet_some hg
  rw [nI_clamp (by omega), t3] at e16
  unfold g_X3_failAt_b34 at hg
  obtain ⟨-, hg⟩ := oif_some hg
  obtain ⟨T4, e4, hg⟩ := elet_some hg
  have f := osome3 hg
  rw [← f.2.2]
  refine ⟨f.1.symm, ?_, ?_⟩
  · rw [e4, ui_ne (.inr (by decide)), e3, ui_at]
  · rw [e4, ui_at, e16]
theorem k_fail {j k : Nat} {e r : Int32} (h : PRq b n c i T S) (hj : j < c) (hg : g_X3_failAt T 6 (nI j) e = some (k, r, T1)) : k = 3 ∧ T1.2.2.1 6 2 = e ∧ T1.2.2.1 6 3 = nI (pst b n j) := k_failT h.1.2.1 h.1.2.2.2.1.1 h.1.2.2.2.1.2.2.1 (fun j hj => (h.1.2.2.2.1.2.2.2.1 j hj).2.1) hj hg
/-! the reference's faults stay -/
theorem st_le (h : 0 < (S.1 5).toInt) {v : Int32} (e : v = S.1 5) : ¬ v ≤ 0 := fun q => by
  have := i_le q
  rw [e] at this
  have z : (0 : Int32).toInt = 0 := by decide
  omega
theorem st_ne (h : 0 < (S.1 5).toInt) {v : Int32} (e : v = S.1 5) : ¬ v = 0 := fun q => by
  rw [← e, q] at h
  exact absurd h (by decide)
theorem st_faults {e : Int32} (h : 0 < (S.1 5).toInt) (hf : fr_faults S e = some S1) : S1 = S := by
  unfold fr_faults at hf
  obtain ⟨v2, e2, hf⟩ := elet_some hf
  rw [if_neg (st_le h e2)] at hf
  exact (osome1 hf).symm
theorem st_next (h : 0 < (S.1 5).toInt) (hf : fr_nextToken S = some S1) : S1 = S := by
  unfold fr_nextToken at hf
  obtain ⟨v2, e2, hf⟩ := elet_some hf
  rw [if_neg (st_le h e2)] at hf
  exact (osome1 hf).symm
theorem st_here {a r : Int32} (h : 0 < (S.1 5).toInt) (hf : fr_isSignHere S a = some (r, S1)) : r = 0 ∧ S1 = S := by
  unfold fr_isSignHere at hf
  obtain ⟨v2, e2, hf⟩ := elet_some hf
  rw [if_neg (st_ne h e2)] at hf
  have f := osome2 (show some ((0 : Int32), S) = some (r, S1) from hf)
  exact ⟨f.1.symm, f.2.symm⟩
theorem st_word {tx : Nat × (Nat → Int32)} {r : Int32} (h : 0 < (S.1 5).toInt) (hf : fr_isWord S tx = some (r, S1)) : r = 0 ∧ S1 = S := by
  unfold fr_isWord at hf
  obtain ⟨v2, e2, hf⟩ := elet_some hf
  rw [if_pos (by rw [e2]; exact Int32.lt_iff_toInt_lt.mpr h)] at hf
  have f := osome2 (show some ((0 : Int32), S) = some (r, S1) from hf)
  exact ⟨f.1.symm, f.2.symm⟩
theorem st_takes {tx : Nat × (Nat → Int32)} {r : Int32} (h : 0 < (S.1 5).toInt) (hf : fr_takes S tx = some (r, S1)) : r = 0 ∧ S1 = S := by
  unfold fr_takes at hf
  obtain ⟨r5, S2, e5, hf⟩ := obind2_some hf
  obtain ⟨k1, k2⟩ := st_word h e5
  rw [if_pos k1, k1, k2] at hf
  have f := osome2 (show some ((0 : Int32), S) = some (r, S1) from hf)
  exact ⟨f.1.symm, f.2.symm⟩
theorem st_keyword {tx : Nat × (Nat → Int32)} (h : 0 < (S.1 5).toInt) (hf : fr_keyword S tx = some S1) : S1 = S := by
  unfold fr_keyword at hf
  obtain ⟨r5, S2, e5, hf⟩ := obind2_some hf
  obtain ⟨k1, k2⟩ := st_takes h e5
  rw [if_pos k1, k2] at hf
  obtain ⟨S7, e7, hf⟩ := obind_some hf
  rw [st_faults h e7] at hf
  exact (osome1 (show some S = some S1 from hf)).symm
theorem st_look {a0 a1 r : Int32} (h : 0 < (S.1 5).toInt) (hf : fr_look S a0 a1 = some (r, S1)) : S1 = S := by
  unfold fr_look at hf
  obtain ⟨v2, e2, hf⟩ := elet_some hf
  rw [if_neg (st_le h e2)] at hf
  exact (osome2 hf).2.symm
theorem st_number {a0 a1 r : Int32} (h : 0 < (S.1 5).toInt) (hf : fr_number S a0 a1 = some (r, S1)) : S1 = S := by
  unfold fr_number at hf
  obtain ⟨r5, S2, e5, hf⟩ := obind2_some hf
  rw [st_look h e5] at hf
  obtain ⟨S6, e6, hf⟩ := obind_some hf
  rw [st_next h e6] at hf
  exact (osome2 hf).2.symm
theorem st_gauge {tx : Nat × (Nat → Int32)} {a0 a1 r : Int32} (h : 0 < (S.1 5).toInt) (hf : fr_gauge S tx a0 a1 = some (r, S1)) : S1 = S := by
  unfold fr_gauge at hf
  obtain ⟨S2, e2, hf⟩ := obind_some hf
  rw [st_keyword h e2] at hf
  obtain ⟨r8, S5, e8, hf⟩ := obind2_some hf
  rw [st_number h e8] at hf
  exact (osome2 hf).2.symm
theorem st_signed {a0 a1 r : Int32} (h : 0 < (S.1 5).toInt) (hf : fr_signed S a0 a1 = some (r, S1)) : S1 = S := by
  unfold fr_signed at hf
  obtain ⟨r5, S2, e5, hf⟩ := obind2_some hf
  obtain ⟨k1, k2⟩ := st_here h e5
  rw [if_pos k1, k1, k2] at hf
  unfold fr_signed_b15 at hf
  rw [if_pos rfl] at hf
  obtain ⟨r6, S3, e6, hf⟩ := obind2_some hf
  rw [st_number h e6] at hf
  exact (osome2 (show some (r6, S) = some (r, S1) from hf)).2.symm
theorem r_fault {e : Int32} (h : S.1 5 = 0) (hf : fr_faults S e = some S1) : S1 = mi (mi S 5 e) 6 (S.1 8) := by
  unfold fr_faults at hf
  obtain ⟨v2, e2, hf⟩ := elet_some hf
  rw [if_pos (by rw [e2, h]; decide)] at hf
  obtain ⟨S4, e4, hf⟩ := elet_some hf
  obtain ⟨v5, e5, hf⟩ := elet_some hf
  obtain ⟨S6, e6, hf⟩ := elet_some hf
  rw [← osome1 hf, e6, e5, e4]
  rfl
/-- class and reference fail at token i with one code -/
theorem k_err {j k : Nat} {e r : Int32} (h : PRq b n c i T S) (hj : j < c) (hij : pst b n j = pst b n i) (he : 0 < e.toInt) (hg : g_X3_failAt T 6 (nI j) e = some (k, r, T1)) (hf : fr_faults S e = some S1) : k = 3 ∧ ERq T1 S1 := by
  obtain ⟨a1, a2, a3⟩ := k_fail h hj hg
  have q := r_fault h.2.2.1 hf
  refine ⟨a1, ?_⟩
  rw [q]
  refine ⟨?_, ?_, ?_⟩
  · rw [mi_ne (by decide), mi_at]; exact he
  · rw [mi_ne (by decide), mi_at, a2]
  · rw [mi_at, a3, hij]; exact h.2.2.2.2.2.1.symm
theorem tin2 {v a0 a1 r : Int32} (h : fr_in v a0 a1 = some r) : r = 1 ∧ a0 ≤ v ∧ v ≤ a1 ∨ r = 0 ∧ ¬ (a0 ≤ v ∧ v ≤ a1) := by
  have q := r_in h
  by_cases c : a0 ≤ v ∧ v ≤ a1
  · rw [if_pos c] at q; exact .inl ⟨q, c⟩
  · rw [if_neg c] at q; exact .inr ⟨q, c⟩
/-- the outcome of a step: both go on, or both have failed alike -/
def OKq (b : Nat → Int32) (n c i : Nat) (T : AT) (S : MS) (T1 : AT) (S1 : MS) : Prop := (∃ j, i < j ∧ PRq b n c j T1 S1) ∧ TFq T T1 ∧ MFq S S1
/-- a number that both look at, taken by the class alone -/
theorem k_look {k : Nat} {a0 a1 r r2 : Int32} (h : PRq b n c i T S) (hg : g_X3_number T 6 a0 a1 = some (k, r, T1)) (hf : fr_look S a0 a1 = some (r2, S1)) : (k = 0 ∧ r2 = r ∧ a0.toInt ≤ r.toInt ∧ r.toInt ≤ a1.toInt ∧ kd b n (pst b n i) = 2 ∧ T1 = uI T 6 1 (nI (i + 1)) ∧ S1 = S) ∨ (k = 3 ∧ ERq T1 S1) := by
  have h11 := h.1.2.2.2.2.2
  have h10 := h.1.2.2.2.2.1
  have q5 := h.2.2.1
  have qt := h.2.2.2.2.2.2.2
  unfold g_X3_number at hg
  obtain ⟨-, hg⟩ := oif_some hg
  obtain ⟨r5, T3, e5, hg⟩ := obind2_some hg
  obtain ⟨k1, k2⟩ := k_kind h e5
  rw [k2] at hg
  have f5 := hf
  unfold fr_look at f5
  obtain ⟨w2, d2, f5⟩ := elet_some f5
  rw [if_pos (by rw [d2, q5]; decide)] at f5
  obtain ⟨w4, d4, f5⟩ := elet_some f5
  by_cases ck : kd b n (pst b n i) = 2
  · rw [if_pos (k1.trans ck)] at hg
    rw [if_pos (d4.trans ((tk_num qt).mpr ck))] at f5
    obtain ⟨w6, d6, f5⟩ := elet_some f5
    rw [(qt.2.2.1 ck).2] at d6
    obtain ⟨w7, d7, f5⟩ := obind_some f5
    unfold g_X3_number_b17 at hg
    obtain ⟨-, hg⟩ := oif_some hg
    obtain ⟨v5, T5, e6, hg⟩ := obind2_some hg
    obtain ⟨k3, k4⟩ := k_value h e6
    rw [k4] at hg
    rw [← k3] at d6
    rw [d6] at d7
    rcases tin2 d7 with ⟨c7, c8, c9⟩ | ⟨c7, c8⟩
    · -- inside
      rw [if_neg (Int32.not_lt.mpr c8), if_pos c9] at hg
      unfold g_X3_number_b41 at hg
      obtain ⟨-, hg⟩ := oif_some hg
      obtain ⟨v3, e3, hg⟩ := elet_some hg
      rw [h11] at e3
      obtain ⟨v4, e4, hg⟩ := elet_some hg
      rw [e3, nI_1] at e4
      obtain ⟨-, hg⟩ := oif_some hg
      obtain ⟨T6, e7, hg⟩ := elet_some hg
      have g := osome3 hg
      rw [if_neg (by rw [c7]; decide)] at f5
      unfold fr_look_b42 at f5
      obtain ⟨w8, d8, f5⟩ := elet_some f5
      rw [if_pos (by rw [d8, q5]; decide)] at f5
      obtain ⟨w9, d9, f5⟩ := elet_some f5
      have g5 := osome2 (show some (w9, S) = some (r2, S1) from f5)
      left
      refine ⟨g.1.symm, ?_, ?_, ?_, ck, ?_, g5.2.symm⟩
      · rw [← g5.1, d9, ← g.2.1, (qt.2.2.1 ck).2, k3]
      · rw [← g.2.1]; exact i_le c8
      · rw [← g.2.1]; exact i_le c9
      · rw [← g.2.2, e7, e4]
    · -- out of bounds
      have hg : g_X3_number_b32 T 6 v5 = some (k, r, T1) := by
        by_cases c1 : v5 < a0
        · rw [if_pos c1] at hg; exact hg
        · rw [if_neg c1] at hg
          rw [if_neg (fun q => c8 ⟨Int32.not_lt.mp c1, q⟩)] at hg
          exact hg
      unfold g_X3_number_b32 at hg
      obtain ⟨-, hg⟩ := oif_some hg
      obtain ⟨v3, e3, hg⟩ := elet_some hg
      rw [h11] at e3
      rw [e3] at hg
      obtain ⟨-, hg⟩ := oif_some hg
      rw [if_pos c7] at f5
      obtain ⟨S10, f10, f5⟩ := obind_some f5
      right
      rcases othr_k hg with ⟨r9, g9, -⟩ | ⟨r9, T9, g9, -⟩
      · obtain ⟨a1, a2⟩ := k_err h h10 rfl (by decide) g9 f10
        have st := a2.1
        unfold fr_look_b42 at f5
        obtain ⟨w8, d8, f5⟩ := elet_some f5
        rw [if_neg (st_le st d8)] at f5
        have g5 := osome2 (show some (a0, S10) = some (r2, S1) from f5)
        rw [← g5.2]
        exact ⟨a1, a2⟩
      · exact absurd (k_err h h10 rfl (by decide) g9 f10).1 (by decide)
  · rw [if_neg (fun q => ck (k1.symm.trans q))] at hg
    rw [if_neg (fun q => ck ((tk_num qt).mp (d4.symm.trans q)))] at f5
    obtain ⟨-, hg⟩ := oif_some hg
    obtain ⟨v9, e9, hg⟩ := elet_some hg
    rw [h11] at e9
    rw [e9] at hg
    obtain ⟨-, hg⟩ := oif_some hg
    obtain ⟨S13, f13, f5⟩ := obind_some f5
    right
    rcases othr_k hg with ⟨r9, g9, -⟩ | ⟨r9, T9, g9, -⟩
    · obtain ⟨a1, a2⟩ := k_err h h10 rfl (by decide) g9 f13
      have st := a2.1
      unfold fr_look_b42 at f5
      obtain ⟨w8, d8, f5⟩ := elet_some f5
      rw [if_neg (st_le st d8)] at f5
      have g5 := osome2 (show some (a0, S13) = some (r2, S1) from f5)
      rw [← g5.2]
      exact ⟨a1, a2⟩
    · exact absurd (k_err h h10 rfl (by decide) g9 f13).1 (by decide)
theorem k_number {k : Nat} {a0 a1 r r2 : Int32} (h : PRq b n c i T S) (hg : g_X3_number T 6 a0 a1 = some (k, r, T1)) (hf : fr_number S a0 a1 = some (r2, S1)) : (k = 0 ∧ r2 = r ∧ a0.toInt ≤ r.toInt ∧ r.toInt ≤ a1.toInt ∧ PRq b n c (i + 1) T1 S1 ∧ TFq T T1 ∧ MFq S S1) ∨ (k = 3 ∧ ERq T1 S1) := by
  unfold fr_number at hf
  obtain ⟨w5, S2, f5, hf⟩ := obind2_some hf
  obtain ⟨S6, f6, hf⟩ := obind_some hf
  have ff := osome2 hf
  rw [← ff.2]
  rcases k_look h hg f5 with ⟨a1, a2, a3, a4, a5, a6, a7⟩ | ⟨a1, a2⟩
  · rw [a7] at f6
    obtain ⟨p1, p2⟩ := pr_adv h (by rw [a5]; decide) f6
    left
    rw [a6]
    exact ⟨a1, ff.1.symm.trans a2, a3, a4, p1, tf6, p2⟩
  · rw [st_next a2.1 f6]
    exact .inr ⟨a1, a2⟩
theorem k_here {a r : Int32} (h : PRq b n c i T S) (ha : a = 45 ∨ a = 59) (hf : fr_isSignHere S a = some (r, S1)) : S1 = S ∧ (r = 1 ∧ kd b n (pst b n i) = (if a = 45 then 3 else 4) ∨ r = 0 ∧ kd b n (pst b n i) ≠ (if a = 45 then 3 else 4)) := by
  have q5 := h.2.2.1
  have qt := h.2.2.2.2.2.2.2
  have key : (S.1 7 = 4 ∧ S.1 9 = a) ↔ kd b n (pst b n i) = (if a = 45 then 3 else 4) := by
    rcases ha with rfl | rfl
    · exact tk_minus qt
    · exact tk_semi qt
  unfold fr_isSignHere at hf
  obtain ⟨v2, e2, hf⟩ := elet_some hf
  rw [if_pos (e2.trans q5)] at hf
  obtain ⟨v4, e4, hf⟩ := elet_some hf
  by_cases c1 : S.1 7 = 4
  · rw [if_pos (e4.trans c1)] at hf
    obtain ⟨v6, e6, hf⟩ := elet_some hf
    by_cases c2 : S.1 9 = a
    · rw [if_pos (e6.trans c2)] at hf
      have f := osome2 (show some ((1 : Int32), S) = some (r, S1) from hf)
      exact ⟨f.2.symm, .inl ⟨f.1.symm, key.mp ⟨c1, c2⟩⟩⟩
    · rw [if_neg (fun q => c2 (e6.symm.trans q))] at hf
      have f := osome2 (show some ((0 : Int32), S) = some (r, S1) from hf)
      exact ⟨f.2.symm, .inr ⟨f.1.symm, fun q => c2 (key.mpr q).2⟩⟩
  · rw [if_neg (fun q => c1 (e4.symm.trans q))] at hf
    have f := osome2 (show some ((0 : Int32), S) = some (r, S1) from hf)
    exact ⟨f.2.symm, .inr ⟨f.1.symm, fun q => c1 (key.mpr q).1⟩⟩
theorem k_signed {k : Nat} {a0 a1 r r2 : Int32} (h : PRq b n c i T S) (hg : g_X3_signed T 6 a0 a1 = some (k, r, T1)) (hf : fr_signed S a0 a1 = some (r2, S1)) : (k = 0 ∧ r2 = r ∧ OKq b n c i T S T1 S1) ∨ (k = 3 ∧ ERq T1 S1) := by
  have h11 := h.1.2.2.2.2.2
  unfold g_X3_signed at hg
  obtain ⟨-, hg⟩ := oif_some hg
  obtain ⟨r5, T3, e5, hg⟩ := obind2_some hg
  obtain ⟨k1, k2⟩ := k_kind h e5
  rw [k2] at hg
  unfold fr_signed at hf
  obtain ⟨w5, S2, f5, hf⟩ := obind2_some hf
  obtain ⟨g1, g2⟩ := k_here h (.inl rfl) f5
  rw [if_pos rfl] at g2
  rw [g1] at hf
  rcases g2 with ⟨w1, ck⟩ | ⟨w1, ck⟩
  · rw [if_pos (k1.trans ck)] at hg
    rw [if_neg (by rw [w1]; decide)] at hf
    obtain ⟨-, hg⟩ := oif_some hg
    obtain ⟨v9, e9, hg⟩ := elet_some hg
    rw [h11] at e9
    obtain ⟨v10, e10, hg⟩ := elet_some hg
    rw [e9, nI_1] at e10
    obtain ⟨-, hg⟩ := oif_some hg
    obtain ⟨T12, e12, hg⟩ := elet_some hg
    obtain ⟨v13, e13, hg⟩ := elet_some hg
    obtain ⟨v14, e14, hg⟩ := elet_some hg
    obtain ⟨-, hg⟩ := oif_some hg
    obtain ⟨S7, f7, hf⟩ := obind_some hf
    obtain ⟨p1, p2⟩ := pr_adv h (by rw [ck]; decide) f7
    rw [← e10, ← e12] at p1
    unfold fr_signed_b15 at hf
    rw [if_neg (by rw [w1]; decide)] at hf
    obtain ⟨w7, d7, hf⟩ := elet_some hf
    obtain ⟨w8, d8, hf⟩ := elet_some hf
    obtain ⟨w12, S9, f12, hf⟩ := obind2_some hf
    obtain ⟨w13, d13, hf⟩ := elet_some hf
    have ff := osome2 (show some (w13, S9) = some (r2, S1) from hf)
    rw [d7, d8] at f12
    rw [e13, e14] at hg
    rcases othr_k hg with ⟨r9, g9, z0⟩ | ⟨r9, T9, g9, hg⟩
    · rcases k_number p1 g9 f12 with ⟨z, -⟩ | ⟨z1, z2⟩
      · exact absurd z z0
      · right; rw [← ff.2]; exact ⟨z1, z2⟩
    · rcases k_number p1 g9 f12 with ⟨-, z1, -, -, z2, z3, z4⟩ | ⟨z1, -⟩
      · obtain ⟨v20, e20, hg⟩ := elet_some hg
        have g := osome3 hg
        left
        refine ⟨g.1.symm, ?_, ⟨i + 1 + 1, by omega, ?_⟩, ?_, ?_⟩
        · rw [← ff.1, d13, z1, ← g.2.1, e20]
        · rw [← ff.2, ← g.2.2]; exact z2
        · rw [← g.2.2]; exact TFq.tr (by rw [e12]; exact tf6) z3
        · rw [← ff.2]; exact p2.tr z4
      · exact absurd z1 (by decide)
  · rw [if_neg (fun q => ck (k1.symm.trans q))] at hg
    rw [if_pos w1] at hf
    obtain ⟨-, hg⟩ := oif_some hg
    unfold fr_signed_b15 at hf
    rw [if_pos w1] at hf
    obtain ⟨w6, S3, f6, hf⟩ := obind2_some hf
    have ff := osome2 (show some (w6, S3) = some (r2, S1) from hf)
    rcases othr_k hg with ⟨r9, g9, z0⟩ | ⟨r9, T9, g9, hg⟩
    · rcases k_number h g9 f6 with ⟨z, -⟩ | ⟨z1, z2⟩
      · exact absurd z z0
      · right; rw [← ff.2]; exact ⟨z1, z2⟩
    · rcases k_number h g9 f6 with ⟨-, z1, -, -, z2, z3, z4⟩ | ⟨z1, -⟩
      · have g := osome3 hg
        left
        refine ⟨g.1.symm, ?_, ⟨i + 1, by omega, ?_⟩, ?_, ?_⟩
        · rw [← ff.1, z1, ← g.2.1]
        · rw [← ff.2, ← g.2.2]; exact z2
        · rw [← g.2.2]; exact z3
        · rw [← ff.2]; exact z4
      · exact absurd z1 (by decide)
/-- a word stands here -/
def WD (b : Nat → Int32) (n p : Nat) (tx : Nat × (Nat → Int32)) : Prop := kd b n p = 1 ∧ te b n p - p = tx.1 ∧ ∀ j, j < tx.1 → b (p + j) = s_ch (tx.2 j)
theorem sh0 (x : Int32) : x >>> (0 &&& 31) = x := by
  have e : (0 &&& 31 : Int32) = 0 := by decide
  rw [e, Int32.shiftRight_zero]
theorem kc_word1 {tx : Nat × (Nat → Int32)} {p : Nat} (ht : tx.1 ≤ 8) (hp : p ≤ 1000) : ∀ (f : Nat) {l : Nat} {r : Int32}, TXR T → BYq b T → p + tx.1 ≤ 1000 → g_X3_isWord_b51 tx f T 6 (nI p) (nI tx.1) (nI l) = some (r, T1) → l ≤ tx.1 → T1 = T ∧ (r = 1 ∧ (∀ j, l ≤ j → j < tx.1 → b (p + j) = s_ch (tx.2 j)) ∨ r = 0 ∧ ¬ ∀ j, l ≤ j → j < tx.1 → b (p + j) = s_ch (tx.2 j)) := by
  intro f
  induction f with
  | zero => intro l r hR hB hn hg hl; cases hg
  | succ f ih =>
    intro l r hR hB hn hg hl
    unfold g_X3_isWord_b51 at hg
    by_cases c1 : nI tx.1 ≤ nI l
    · rw [if_pos c1] at hg
      have c1 := (nI_leI (by omega) (by omega)).mp c1
      have g := osome2 hg
      exact ⟨g.2.symm, .inl ⟨g.1.symm, fun j h1 h2 => absurd h2 (by omega)⟩⟩
    · rw [if_neg c1] at hg
      have c1 : l < tx.1 := Nat.lt_of_not_le (fun w => c1 ((nI_leI (by omega) (by omega)).mpr w))
      obtain ⟨-, hg⟩ := oif_some hg
      obtain ⟨n4, e4, hg⟩ := obind_some hg
      rw [hR.2.2.2.2.1] at e4
      cases e4
      obtain ⟨-, hg⟩ := oif_some hg
      obtain ⟨n6, e6, hg⟩ := obind_some hg
      rw [hR.1] at e6
      cases e6
      obtain ⟨v7, e7, hg⟩ := elet_some hg
      rw [nI_add] at e7
      obtain ⟨-, hg⟩ := oif_some hg
      obtain ⟨-, hg⟩ := oif_some hg
      obtain ⟨v10, e10, hg⟩ := elet_some hg
      rw [e7, nI_clamp (by omega), hB _ (by omega)] at e10
      obtain ⟨-, hg⟩ := oif_some hg
      obtain ⟨v13, e13, hg⟩ := elet_some hg
      rw [nI_clamp (by omega)] at e13
      by_cases c2 : v10 = v13
      · rw [if_pos c2] at hg
        obtain ⟨v15, e15, hg⟩ := elet_some hg
        have e15 : v15 = nI (l + 1) := e15.trans (nI_1 l)
        rw [e15] at hg
        rw [e10, e13] at c2
        obtain ⟨k1, k2⟩ := ih hR hB hn hg (by omega)
        refine ⟨k1, ?_⟩
        rcases k2 with ⟨k2, k3⟩ | ⟨k2, k3⟩
        · refine .inl ⟨k2, fun j h1 h2 => ?_⟩
          by_cases e : j = l
          · rw [e]; exact c2
          · exact k3 j (by omega) h2
        · exact .inr ⟨k2, fun q => k3 (fun j h1 h2 => q j (by omega) h2)⟩
      · rw [if_neg c2] at hg
        rw [e10, e13] at c2
        have g := osome2 hg
        exact ⟨g.2.symm, .inr ⟨g.1.symm, fun q => c2 (q l (Nat.le_refl _) c1)⟩⟩
theorem kr_word1 {tx : Nat × (Nat → Int32)} {p : Nat} (ht : tx.1 ≤ 8) (hp : p ≤ 1000) : ∀ (f : Nat) {l : Nat} {r : Int32}, S.2.1 1 = b → S.1 8 = nI p → p + tx.1 ≤ 1000 → fr_isWord_b35 tx f S (nI l) = some (r, S1) → l ≤ tx.1 → S1 = S ∧ (r = 1 ∧ (∀ j, l ≤ j → j < tx.1 → b (p + j) = s_ch (tx.2 j)) ∨ r = 0 ∧ ¬ ∀ j, l ≤ j → j < tx.1 → b (p + j) = s_ch (tx.2 j)) := by
  intro f
  induction f with
  | zero => intro l r hb h8 hn hf hl; cases hf
  | succ f ih =>
    intro l r hb h8 hn hf hl
    unfold fr_isWord_b35 at hf
    obtain ⟨v3, e3, hf⟩ := elet_some hf
    rw [sh0] at e3
    rw [e3] at hf
    by_cases c1 : nI tx.1 ≤ nI l
    · rw [if_pos c1] at hf
      have c1 := (nI_leI (by omega) (by omega)).mp c1
      have g := osome2 hf
      exact ⟨g.2.symm, .inl ⟨g.1.symm, fun j h1 h2 => absurd h2 (by omega)⟩⟩
    · rw [if_neg c1] at hf
      have c1 : l < tx.1 := Nat.lt_of_not_le (fun w => c1 ((nI_leI (by omega) (by omega)).mpr w))
      obtain ⟨v5, e5, hf⟩ := elet_some hf
      rw [h8] at e5
      obtain ⟨v6, e6, hf⟩ := elet_some hf
      rw [e5, nI_add] at e6
      obtain ⟨-, hf⟩ := oif_some hf
      obtain ⟨v10, e10, hf⟩ := elet_some hf
      rw [e6, nI_clamp (by omega), hb] at e10
      obtain ⟨-, hf⟩ := oif_some hf
      obtain ⟨v13, e13, hf⟩ := elet_some hf
      rw [nI_clamp (by omega)] at e13
      by_cases c2 : v10 = v13
      · rw [if_pos c2] at hf
        obtain ⟨v15, e15, hf⟩ := elet_some hf
        have e15 : v15 = nI (l + 1) := e15.trans (nI_1 l)
        rw [e15] at hf
        rw [e10, e13] at c2
        obtain ⟨k1, k2⟩ := ih hb h8 hn hf (by omega)
        refine ⟨k1, ?_⟩
        rcases k2 with ⟨k2, k3⟩ | ⟨k2, k3⟩
        · refine .inl ⟨k2, fun j h1 h2 => ?_⟩
          by_cases e : j = l
          · rw [e]; exact c2
          · exact k3 j (by omega) h2
        · exact .inr ⟨k2, fun q => k3 (fun j h1 h2 => q j (by omega) h2)⟩
      · rw [if_neg c2] at hf
        rw [e10, e13] at c2
        have g := osome2 hf
        exact ⟨g.2.symm, .inr ⟨g.1.symm, fun q => c2 (q l (Nat.le_refl _) c1)⟩⟩
theorem kc_word {tx : Nat × (Nat → Int32)} {r : Int32} (ht : tx.1 ≤ 8) (h : PRq b n c i T S) (hg : g_X3_isWord T tx 6 = some (r, T1)) : T1 = T ∧ (r = 1 ∧ WD b n (pst b n i) tx ∨ r = 0 ∧ ¬ WD b n (pst b n i) tx) := by
  have hn := h.1.1
  have hR := h.1.2.1
  have hB := h.1.2.2.1
  have h7 := h.1.2.2.2.1.2.2.2.1
  have h10 := h.1.2.2.2.2.1
  have h11 := h.1.2.2.2.2.2
  have hc := h.1.2.2.2.1.2.2.1
  have pt := pst_te (b := b) (n := n) i
  have tl := te_le (b := b) (n := n) (p := pst b n i)
  unfold g_X3_isWord at hg
  obtain ⟨-, hg⟩ := oif_some hg
  obtain ⟨r5, T3, e5, hg⟩ := obind2_some hg
  obtain ⟨k1, k2⟩ := k_kind h e5
  rw [k2] at hg
  by_cases ck : kd b n (pst b n i) = 1
  · rw [if_pos (k1.trans ck)] at hg
    obtain ⟨-, hg⟩ := oif_some hg
    obtain ⟨n9, e9, hg⟩ := obind_some hg
    rw [hR.2.2.2.2.1] at e9
    cases e9
    obtain ⟨-, hg⟩ := oif_some hg
    obtain ⟨n11, e11, hg⟩ := obind_some hg
    rw [hR.2.2.1] at e11
    cases e11
    obtain ⟨-, hg⟩ := oif_some hg
    obtain ⟨v13, e13, hg⟩ := elet_some hg
    rw [h11] at e13
    obtain ⟨-, hg⟩ := oif_some hg
    obtain ⟨-, hg⟩ := oif_some hg
    obtain ⟨v16, e16, hg⟩ := elet_some hg
    rw [e13, nI_clamp (by omega), (h7 i h10).2.1] at e16
    obtain ⟨-, hg⟩ := oif_some hg
    obtain ⟨n18, e18, hg⟩ := obind_some hg
    rw [hR.2.2.2.2.1] at e18
    cases e18
    obtain ⟨-, hg⟩ := oif_some hg
    obtain ⟨n20, e20, hg⟩ := obind_some hg
    rw [hR.2.2.2.1] at e20
    cases e20
    obtain ⟨-, hg⟩ := oif_some hg
    obtain ⟨v22, e22, hg⟩ := elet_some hg
    rw [h11] at e22
    obtain ⟨-, hg⟩ := oif_some hg
    obtain ⟨-, hg⟩ := oif_some hg
    obtain ⟨v25, e25, hg⟩ := elet_some hg
    rw [e22, nI_clamp (by omega), (h7 i h10).2.2] at e25
    obtain ⟨v26, e26, hg⟩ := elet_some hg
    rw [e25, e16] at e26
    obtain ⟨v28, e28, hg⟩ := elet_some hg
    rw [sh0] at e28
    have q26 : v26.toInt = (te b n (pst b n i) : Int) - pst b n i := by rw [e26]; exact nI_dif pt (by omega)
    have q28 : v28.toInt = (tx.1 : Int) := by rw [e28]; exact nI_toInt (by omega)
    by_cases cl : v26 = v28
    · rw [if_pos cl] at hg
      rw [cl] at q26 hg
      rw [e28, e16] at hg
      obtain ⟨a1, a2⟩ := kc_word1 (l := 0) ht (by omega) 16384 hR hB (by omega) hg (Nat.zero_le _)
      refine ⟨a1, ?_⟩
      rcases a2 with ⟨a2, a3⟩ | ⟨a2, a3⟩
      · exact .inl ⟨a2, ck, by omega, fun j hj => a3 j (Nat.zero_le _) hj⟩
      · exact .inr ⟨a2, fun q => a3 (fun j _ hj => q.2.2 j hj)⟩
    · rw [if_neg cl] at hg
      have g := osome2 hg
      exact ⟨g.2.symm, .inr ⟨g.1.symm, fun q => cl (Int32.toInt_inj.mp (by rw [q26, q28]; have := q.2.1; omega))⟩⟩
  · rw [if_neg (fun q => ck (k1.symm.trans q))] at hg
    have g := osome2 hg
    exact ⟨g.2.symm, .inr ⟨g.1.symm, fun q => ck q.1⟩⟩
theorem kr_word {tx : Nat × (Nat → Int32)} {r : Int32} (ht : tx.1 ≤ 8) (h : PRq b n c i T S) (hf : fr_isWord S tx = some (r, S1)) : S1 = S ∧ (r = 1 ∧ WD b n (pst b n i) tx ∨ r = 0 ∧ ¬ WD b n (pst b n i) tx) := by
  have hn := h.1.1
  have q5 := h.2.2.1
  have q8 := h.2.2.2.2.2.1
  have q4 := h.2.2.2.2.2.2.1
  have qt := h.2.2.2.2.2.2.2
  have pt := pst_te (b := b) (n := n) i
  have tl := te_le (b := b) (n := n) (p := pst b n i)
  unfold fr_isWord at hf
  obtain ⟨w2, d2, hf⟩ := elet_some hf
  rw [if_neg (by rw [d2, q5]; decide)] at hf
  obtain ⟨w4, d4, hf⟩ := elet_some hf
  by_cases ck : kd b n (pst b n i) = 1
  · rw [if_pos (d4.trans ((tk_word qt).mpr ck))] at hf
    obtain ⟨w6, d6, hf⟩ := elet_some hf
    rw [q4] at d6
    obtain ⟨w7, d7, hf⟩ := elet_some hf
    rw [q8] at d7
    obtain ⟨w8, d8, hf⟩ := elet_some hf
    rw [d6, d7] at d8
    obtain ⟨w10, d10, hf⟩ := elet_some hf
    rw [sh0] at d10
    have a8 : w8.toInt = (te b n (pst b n i) : Int) - pst b n i := by rw [d8]; exact nI_dif pt (by omega)
    have a10 : w10.toInt = (tx.1 : Int) := by rw [d10]; exact nI_toInt (by omega)
    by_cases cl : w8 = w10
    · rw [if_pos cl] at hf
      rw [cl] at a8
      obtain ⟨a1, a2⟩ := kr_word1 (l := 0) ht (by omega) 16384 h.2.1 q8 (by omega) hf (Nat.zero_le _)
      refine ⟨a1, ?_⟩
      rcases a2 with ⟨a2, a3⟩ | ⟨a2, a3⟩
      · exact .inl ⟨a2, ck, by omega, fun j hj => a3 j (Nat.zero_le _) hj⟩
      · exact .inr ⟨a2, fun q => a3 (fun j _ hj => q.2.2 j hj)⟩
    · rw [if_neg cl] at hf
      have g := osome2 (show some ((0 : Int32), S) = some (r, S1) from hf)
      exact ⟨g.2.symm, .inr ⟨g.1.symm, fun q => cl (Int32.toInt_inj.mp (by rw [a8, a10]; have := q.2.1; omega))⟩⟩
  · rw [if_neg (fun q => ck ((tk_word qt).mp (d4.symm.trans q)))] at hf
    have g := osome2 (show some ((0 : Int32), S) = some (r, S1) from hf)
    exact ⟨g.2.symm, .inr ⟨g.1.symm, fun q => ck q.1⟩⟩
/-- two words can't both stand at one place -/
def wxq (t u : Nat × (Nat → Int32)) : Bool := (!(Nat.beq t.1 u.1)) || (List.range t.1).any (fun j => !(decide (s_ch (t.2 j) = s_ch (u.2 j))))
theorem wx {t u : Nat × (Nat → Int32)} {p : Nat} (h : wxq t u = true) (a : WD b n p t) : ¬ WD b n p u := fun d => by
  unfold wxq at h
  rcases (Bool.or_eq_true _ _).mp h with h | h
  · have e : t.1 = u.1 := a.2.1.symm.trans d.2.1
    rw [e, Nat.beq_refl] at h
    cases h
  · obtain ⟨j, hj, q⟩ := List.any_eq_true.mp h
    have hj := List.mem_range.mp hj
    have e : s_ch (t.2 j) = s_ch (u.2 j) := (a.2.2 j hj).symm.trans (d.2.2 j (by rw [← d.2.1, a.2.1]; exact hj))
    rw [decide_eq_true e] at q
    cases q
theorem k_take {tx : Nat × (Nat → Int32)} {k : Nat} {r : Int32} (ht : tx.1 ≤ 8) (h : PRq b n c i T S) (hg : g_X3_takeWord T tx 6 = some (k, r, T1)) (hf : fr_keyword S tx = some S1) : (k = 0 ∧ OKq b n c i T S T1 S1) ∨ (k = 3 ∧ ERq T1 S1) := by
  have h11 := h.1.2.2.2.2.2
  have h10 := h.1.2.2.2.2.1
  unfold g_X3_takeWord at hg
  obtain ⟨-, hg⟩ := oif_some hg
  obtain ⟨r5, T3, e5, hg⟩ := obind2_some hg
  unfold fr_keyword at hf
  obtain ⟨w5, S2, f5, hf⟩ := obind2_some hf
  unfold fr_takes at f5
  obtain ⟨u5, S3, f6, f5⟩ := obind2_some f5
  obtain ⟨k2, k4⟩ := kc_word ht h e5
  obtain ⟨k3, k5⟩ := kr_word ht h f6
  rw [k2] at hg
  rw [k3] at f5
  by_cases c0 : WD b n (pst b n i) tx
  · have z1 : r5 = 1 := by
      rcases k4 with q | q
      · exact q.1
      · exact absurd c0 q.2
    have z2 : u5 = 1 := by
      rcases k5 with q | q
      · exact q.1
      · exact absurd c0 q.2
    rw [if_neg (by rw [z1]; decide)] at hg
    rw [if_neg (by rw [z2]; decide)] at f5
    obtain ⟨S7, f7, f5⟩ := obind_some f5
    unfold fr_takes_b14 at f5
    obtain ⟨-, f5⟩ := oif_some f5
    have g5 := osome2 f5
    rw [← g5.1, ← g5.2, if_neg (by rw [z2]; decide)] at hf
    have g7 := osome1 (show some S7 = some S1 from hf)
    rw [← g7]
    obtain ⟨p1, p2⟩ := pr_adv h (by rw [c0.1]; decide) f7
    unfold g_X3_takeWord_b17 at hg
    obtain ⟨-, hg⟩ := oif_some hg
    obtain ⟨v3, e3, hg⟩ := elet_some hg
    rw [h11] at e3
    obtain ⟨v4, e4, hg⟩ := elet_some hg
    rw [e3, nI_1] at e4
    obtain ⟨-, hg⟩ := oif_some hg
    obtain ⟨T6, e6, hg⟩ := elet_some hg
    have g := osome3 hg
    left
    refine ⟨g.1.symm, ⟨i + 1, by omega, ?_⟩, ?_, p2⟩
    · rw [← g.2.2, e6, e4]; exact p1
    · rw [← g.2.2, e6]; exact tf6
  · have z1 : r5 = 0 := by
      rcases k4 with q | q
      · exact absurd q.2 c0
      · exact q.1
    have z2 : u5 = 0 := by
      rcases k5 with q | q
      · exact absurd q.2 c0
      · exact q.1
    rw [if_pos z1] at hg
    rw [if_pos z2] at f5
    unfold fr_takes_b14 at f5
    obtain ⟨-, f5⟩ := oif_some f5
    have g5 := osome2 f5
    rw [← g5.1, ← g5.2, if_pos z2] at hf
    obtain ⟨S7, f7, hf⟩ := obind_some hf
    have g7 := osome1 (show some S7 = some S1 from hf)
    rw [← g7]
    obtain ⟨-, hg⟩ := oif_some hg
    obtain ⟨v9, e9, hg⟩ := elet_some hg
    rw [h11] at e9
    rw [e9] at hg
    obtain ⟨-, hg⟩ := oif_some hg
    right
    rcases othr_k hg with ⟨r9, g9, -⟩ | ⟨r9, T9, g9, -⟩
    · exact k_err h h10 rfl (by decide) g9 f7
    · exact absurd (k_err h h10 rfl (by decide) g9 f7).1 (by decide)
/-- the beginning of a line, refused or not -/
theorem k_start {k : Nat} {a0 e r : Int32} (h : PRq b n c i T S) (hg : g_X3_startLine T 6 a0 e = some (k, r, T1)) : (a0 = 0 ∧ k = 0 ∧ T1 = uI T 6 1 (nI (i + 1))) ∨ (a0 ≠ 0 ∧ ∃ r9, g_X3_failAt T 6 (nI i) e = some (k, r9, T1)) := by
  have h11 := h.1.2.2.2.2.2
  have h10 := h.1.2.2.2.2.1
  unfold g_X3_startLine at hg
  by_cases c0 : a0 = 0
  · rw [if_pos c0] at hg
    unfold g_X3_startLine_b13 at hg
    obtain ⟨-, hg⟩ := oif_some hg
    obtain ⟨v3, e3, hg⟩ := elet_some hg
    rw [h11] at e3
    obtain ⟨v4, e4, hg⟩ := elet_some hg
    rw [e3, nI_1] at e4
    obtain ⟨-, hg⟩ := oif_some hg
    obtain ⟨T6, e6, hg⟩ := elet_some hg
    have g := osome3 hg
    exact .inl ⟨c0, g.1.symm, by rw [← g.2.2, e6, e4]⟩
  · rw [if_neg c0] at hg
    obtain ⟨-, hg⟩ := oif_some hg
    obtain ⟨v4, e4, hg⟩ := elet_some hg
    rw [h11] at e4
    rw [e4] at hg
    obtain ⟨-, hg⟩ := oif_some hg
    rcases othr_k hg with ⟨r9, g9, -⟩ | ⟨r9, T9, g9, -⟩
    · exact .inr ⟨c0, r9, g9⟩
    · exact absurd (k_fail h h10 g9).1 (by decide)
/-- the beginning of a line on both sides -/
theorem k_line {k : Nat} {a0 e r : Int32} {S2 S3 : MS} (h : PRq b n c i T S) (hk : kd b n (pst b n i) = 1) (he : 0 < e.toInt) (hg : g_X3_startLine T 6 a0 e = some (k, r, T1)) (hf : (a0 = 0 ∧ S2 = S) ∨ (a0 ≠ 0 ∧ fr_faults S e = some S2)) (hn : fr_nextToken S2 = some S3) : (k = 0 ∧ PRq b n c (i + 1) T1 S3 ∧ TFq T T1 ∧ MFq S S3 ∧ a0 = 0) ∨ (k = 3 ∧ ERq T1 S3) := by
  rcases k_start h hg with ⟨a, k0, e1⟩ | ⟨a, r9, g9⟩
  · rcases hf with ⟨-, f⟩ | ⟨f, -⟩
    · rw [f] at hn
      obtain ⟨p1, p2⟩ := pr_adv h (by rw [hk]; decide) hn
      left
      rw [e1]
      exact ⟨k0, p1, tf6, p2, a⟩
    · exact absurd a f
  · rcases hf with ⟨f, -⟩ | ⟨-, f⟩
    · exact absurd f a
    · obtain ⟨a1, a2⟩ := k_err h h.1.2.2.2.2.1 rfl he g9 f
      rw [st_next a2.1 hn]
      exact .inr ⟨a1, a2⟩
theorem rn1_all {lo hi : Int32} : ∀ (f p q : Nat), p ≤ q → q < rn1 b n lo hi f p → lo ≤ b q ∧ b q ≤ hi := by
  intro f
  induction f with
  | zero => intro p q h1 h2; exact absurd (show q < p from h2) (by omega)
  | succ f ih =>
    intro p q h1 h2
    have h2 : q < (if p < n ∧ lo ≤ b p ∧ b p ≤ hi then rn1 b n lo hi f (p + 1) else p) := h2
    by_cases c1 : p < n ∧ lo ≤ b p ∧ b p ≤ hi
    · rw [if_pos c1] at h2
      by_cases e : q = p
      · rw [e]; exact c1.2
      · exact ih (p + 1) q (by omega) h2
    · rw [if_neg c1] at h2
      omega
theorem dg_all {p : Nat} (hk : kd b n p = 2) : te b n p - p ≤ 4 ∧ ∀ q, p ≤ q → q < te b n p → 48 ≤ b q ∧ b q ≤ 57 := by
  unfold kd at hk
  by_cases c0 : n ≤ p
  · rw [if_pos c0] at hk; exact absurd hk (by decide)
  rw [if_neg c0] at hk
  by_cases c1 : 97 ≤ b p ∧ b p ≤ 122
  · rw [if_pos c1] at hk
    by_cases c2 : te b n p - p ≤ 8
    · rw [if_pos c2] at hk; exact absurd hk (by decide)
    · rw [if_neg c2] at hk; exact absurd hk (by decide)
  rw [if_neg c1] at hk
  by_cases c2 : 48 ≤ b p ∧ b p ≤ 57
  · rw [if_pos c2] at hk
    by_cases c3 : te b n p - p ≤ 4
    · refine ⟨c3, fun q h1 h2 => ?_⟩
      have et : te b n p = rn b n 48 57 p := by unfold te; rw [if_neg c0, if_neg c1, if_pos c2]
      rw [et] at h2
      exact rn1_all _ _ _ h1 h2
    · rw [if_neg c3] at hk; exact absurd hk (by decide)
  rw [if_neg c2] at hk
  by_cases c3 : b p = 45
  · rw [if_pos c3] at hk; exact absurd hk (by decide)
  rw [if_neg c3] at hk
  by_cases c4 : b p = 59
  · rw [if_pos c4] at hk; exact absurd hk (by decide)
  · rw [if_neg c4] at hk; exact absurd hk (by decide)
theorem vf_stp {a d : Int32} {B : Int} (h0 : 0 ≤ a.toInt) (h1 : a.toInt ≤ B) (hB : B ≤ 100000) (hd : 48 ≤ d ∧ d ≤ 57) : 0 ≤ (10 * a + d - 48).toInt ∧ (10 * a + d - 48).toInt ≤ 10 * B + 9 := by
  have z10 : (10 : Int32).toInt = 10 := by decide
  have z48 : (48 : Int32).toInt = 48 := by decide
  have z57 : (57 : Int32).toInt = 57 := by decide
  have d1 := i_le hd.1
  have d2 := i_le hd.2
  have m1 := i_mulk (v := 10 * a) rfl z10 (by omega) (by omega)
  have m2 := i_add (v := 10 * a + d) rfl (by omega) (by omega)
  have m3 := i_sub (v := 10 * a + d - 48) rfl (by omega) (by omega)
  omega
theorem vf_pos (h : PRq b n c i T S) (hk : kd b n (pst b n i) = 2) : 0 ≤ vf b (te b n (pst b n i) - pst b n i) (pst b n i) 0 := by
  obtain ⟨h4, hd⟩ := dg_all hk
  refine Int32.le_iff_toInt_le.mpr ?_
  have z0 : (0 : Int32).toInt = 0 := by decide
  rw [z0]
  rcases (show te b n (pst b n i) - pst b n i = 0 ∨ te b n (pst b n i) - pst b n i = 1 ∨ te b n (pst b n i) - pst b n i = 2 ∨ te b n (pst b n i) - pst b n i = 3 ∨ te b n (pst b n i) - pst b n i = 4 by omega) with e | e | e | e | e <;> rw [e]
  · show 0 ≤ (0 : Int32).toInt
    decide
  · exact (vf_stp (a := 0) (B := 0) (by omega) (by omega) (by omega) (hd _ (by omega) (by omega))).1
  · have s1 := vf_stp (a := 0) (B := 0) (by omega) (by omega) (by omega) (hd (pst b n i) (by omega) (by omega))
    exact (vf_stp s1.1 s1.2 (by omega) (hd (pst b n i + 1) (by omega) (by omega))).1
  · have s1 := vf_stp (a := 0) (B := 0) (by omega) (by omega) (by omega) (hd (pst b n i) (by omega) (by omega))
    have s2 := vf_stp s1.1 s1.2 (by omega) (hd (pst b n i + 1) (by omega) (by omega))
    exact (vf_stp s2.1 s2.2 (by omega) (hd (pst b n i + 1 + 1) (by omega) (by omega))).1
  · have s1 := vf_stp (a := 0) (B := 0) (by omega) (by omega) (by omega) (hd (pst b n i) (by omega) (by omega))
    have s2 := vf_stp s1.1 s1.2 (by omega) (hd (pst b n i + 1) (by omega) (by omega))
    have s3 := vf_stp s2.1 s2.2 (by omega) (hd (pst b n i + 1 + 1) (by omega) (by omega))
    exact (vf_stp s3.1 s3.2 (by omega) (hd (pst b n i + 1 + 1 + 1) (by omega) (by omega))).1
end
end
section
/-! 20d.grp.lean.txt -/
/-! what the class's scene s (being read) and the reference's new plan have in common -/
section
variable {s : Nat} {T T1 : AT} {P P1 D D1 : Nat → Int32}
def HDg (s : Nat) (T : AT) (P : Nat → Int32) : Prop := T.2.2.1 s 0 = P 0 ∧ T.2.2.1 s 1 = P 1 ∧ T.2.2.1 s 2 = P 2 ∧ T.2.2.1 s 3 = P 3
def MICg (s : Nat) (T : AT) (P : Nat → Int32) : Prop := ∃ c : Nat, c ≤ 12 ∧ T.2.2.1 s 5 = nI c ∧ P 4 = nI c ∧ (∀ m, m < c → T.2.2.1 (s + 160 + m) 0 = P (11 + m) ∧ T.2.2.1 (s + 160 + m) 1 = P (23 + m) ∧ T.2.2.1 (s + 160 + m) 2 = P (35 + m) ∧ T.2.2.1 (s + 160 + m) 3 = P (83 + m)) ∧ ∀ m, c ≤ m → m < 12 → P (83 + m) = 0
def GRDg (s : Nat) (T : AT) (P : Nat → Int32) : Prop := T.2.2.1 (s + 2) 3 = P 9 ∧ T.2.2.1 (s + 2) 4 = P 10 ∧ (P 8 = 0 ∧ P 9 = 0 ∧ P 10 = 0 ∨ 1 ≤ (P 8).toInt ∧ 1 ≤ (P 9).toInt ∧ T.2.2.1 (s + 2) 0 = P 6 ∧ T.2.2.1 (s + 2) 1 = P 7 ∧ T.2.2.1 (s + 2) 2 = P 8 ∧ T.2.2.1 (s + 3) 2 = P 9 - 1 ∧ T.2.2.1 (s + 3) 3 = P 10 - 1)
def SRCg (s : Nat) (T : AT) (P D : Nat → Int32) : Prop := ∃ c : Nat, c ≤ 6 ∧ T.2.2.1 s 8 = nI c ∧ P 5 = nI c ∧ ∀ k, k < c → T.2.2.1 (s + 172 + k) 0 = P (47 + k) ∧ T.2.2.1 (s + 172 + k) 5 = P (53 + k) ∧ T.2.2.1 (s + 172 + k) 6 = P (59 + k) ∧ T.2.2.1 (s + 172 + k) 7 = P (65 + k) ∧ T.2.2.1 (s + 172 + k) 8 = P (95 + k) ∧ (T.2.2.1 (s + 172 + k) 9 = 0 ∧ D (25 + k) = 1 ∨ T.2.2.1 (s + 172 + k) 9 = 1 ∧ D (25 + k) = 0) ∧ T.2.2.1 (s + 172 + k) 1 = D (31 + k) ∧ T.2.2.1 (s + 172 + k) 2 = D (37 + k) ∧ T.2.2.1 (s + 172 + k) 3 = D (43 + k) ∧ T.2.2.1 (s + 172 + k) 4 = D (49 + k)
def WALg (s : Nat) (T : AT) (P : Nat → Int32) : Prop := ∃ c : Nat, c ≤ 2 ∧ T.2.2.1 s 11 = nI c ∧ P 71 = nI c ∧ ∀ k, k < c → T.2.2.1 (s + 11) k = P (72 + k) ∧ T.2.2.1 (s + 12) k = P (74 + k)
def FADg (s : Nat) (T : AT) (P : Nat → Int32) : Prop := T.2.2.1 s 12 = P 76
def TAPg (s : Nat) (T : AT) (P : Nat → Int32) : Prop := ∃ c : Nat, c ≤ 5 ∧ T.2.2.1 s 14 = nI c ∧ P 77 = nI c ∧ ∀ k, k < c → T.2.2.1 (s + 13) k = P (78 + k)
def ZONg (s : Nat) (T : AT) (P : Nat → Int32) : Prop := ∃ c : Nat, c ≤ 4 ∧ T.2.2.1 (s + 2) 7 = nI c ∧ P 101 = nI c ∧ ∀ k, k < c → ∀ j, j < 4 → T.2.2.1 (s + 5 + k) j = P (102 + 4 * k + j)
def SHDg (s : Nat) (T : AT) (P : Nat → Int32) : Prop := ∃ c : Nat, c ≤ 12 ∧ T.2.2.1 s 16 = nI c ∧ P 118 = nI c ∧ ∀ k, k < c → T.2.2.1 (s + 14) k = P (119 + k)
def DZg (D : Nat → Int32) : Prop := ∀ j, j < 25 → D j = 0
theorem HDg.cg (h : HDg s T P) (a : ∀ j, j < 4 → T1.2.2.1 s j = T.2.2.1 s j) (b : ∀ j, j < 4 → P1 j = P j) : HDg s T1 P1 := by
  unfold HDg at h ⊢
  rw [a 0 (by decide), a 1 (by decide), a 2 (by decide), a 3 (by decide), b 0 (by decide), b 1 (by decide), b 2 (by decide), b 3 (by decide)]
  exact h
theorem MICg.cg (h : MICg s T P) (a0 : T1.2.2.1 s 5 = T.2.2.1 s 5) (a : ∀ m k, s + 160 ≤ m → m < s + 172 → T1.2.2.1 m k = T.2.2.1 m k) (b : ∀ j, j = 4 ∨ 11 ≤ j ∧ j < 47 ∨ 83 ≤ j ∧ j < 95 → P1 j = P j) : MICg s T1 P1 := by
  obtain ⟨c, h1, h2, h3, h4, h5⟩ := h
  refine ⟨c, h1, a0.trans h2, (b 4 (by omega)).trans h3, fun m hm => ?_, fun m hm hm2 => (b _ (by omega)).trans (h5 m hm hm2)⟩
  rw [a _ _ (by omega) (by omega), a _ _ (by omega) (by omega), a _ _ (by omega) (by omega), a _ _ (by omega) (by omega), b (11 + m) (by omega), b (23 + m) (by omega), b (35 + m) (by omega), b (83 + m) (by omega)]
  exact h4 m hm
theorem GRDg.cg (h : GRDg s T P) (a : ∀ k, k < 5 → T1.2.2.1 (s + 2) k = T.2.2.1 (s + 2) k) (a2 : ∀ k, T1.2.2.1 (s + 3) k = T.2.2.1 (s + 3) k) (b : ∀ j, 6 ≤ j → j ≤ 10 → P1 j = P j) : GRDg s T1 P1 := by
  unfold GRDg at h ⊢
  rw [a 0 (by decide), a 1 (by decide), a 2 (by decide), a 3 (by decide), a 4 (by decide), a2, a2, b 6 (by decide) (by decide), b 7 (by decide) (by decide), b 8 (by decide) (by decide), b 9 (by decide) (by decide), b 10 (by decide) (by decide)]
  exact h
theorem SRCg.cg (h : SRCg s T P D) (a0 : T1.2.2.1 s 8 = T.2.2.1 s 8) (a : ∀ m k, s + 172 ≤ m → m < s + 178 → T1.2.2.1 m k = T.2.2.1 m k) (b : ∀ j, j = 5 ∨ 47 ≤ j ∧ j < 71 ∨ 95 ≤ j ∧ j < 101 → P1 j = P j) (d : ∀ j, 25 ≤ j → j < 55 → D1 j = D j) : SRCg s T1 P1 D1 := by
  obtain ⟨c, h1, h2, h3, h4⟩ := h
  refine ⟨c, h1, a0.trans h2, (b 5 (by omega)).trans h3, fun k hk => ?_⟩
  have q : ∀ j, T1.2.2.1 (s + 172 + k) j = T.2.2.1 (s + 172 + k) j := fun j => a _ _ (by omega) (by omega)
  rw [q, q, q, q, q, q, q, q, q, q, b (47 + k) (by omega), b (53 + k) (by omega), b (59 + k) (by omega), b (65 + k) (by omega), b (95 + k) (by omega), d (25 + k) (by omega) (by omega), d (31 + k) (by omega) (by omega), d (37 + k) (by omega) (by omega), d (43 + k) (by omega) (by omega), d (49 + k) (by omega) (by omega)]
  exact h4 k hk
theorem WALg.cg (h : WALg s T P) (a0 : T1.2.2.1 s 11 = T.2.2.1 s 11) (a : ∀ k, T1.2.2.1 (s + 11) k = T.2.2.1 (s + 11) k) (a2 : ∀ k, T1.2.2.1 (s + 12) k = T.2.2.1 (s + 12) k) (b : ∀ j, 71 ≤ j → j < 76 → P1 j = P j) : WALg s T1 P1 := by
  obtain ⟨c, h1, h2, h3, h4⟩ := h
  refine ⟨c, h1, a0.trans h2, (b 71 (by omega) (by omega)).trans h3, fun k hk => ?_⟩
  rw [a, a2, b (72 + k) (by omega) (by omega), b (74 + k) (by omega) (by omega)]
  exact h4 k hk
theorem FADg.cg (h : FADg s T P) (a : T1.2.2.1 s 12 = T.2.2.1 s 12) (b : P1 76 = P 76) : FADg s T1 P1 := a.trans (h.trans b.symm)
theorem TAPg.cg (h : TAPg s T P) (a0 : T1.2.2.1 s 14 = T.2.2.1 s 14) (a : ∀ k, T1.2.2.1 (s + 13) k = T.2.2.1 (s + 13) k) (b : ∀ j, 77 ≤ j → j < 83 → P1 j = P j) : TAPg s T1 P1 := by
  obtain ⟨c, h1, h2, h3, h4⟩ := h
  refine ⟨c, h1, a0.trans h2, (b 77 (by omega) (by omega)).trans h3, fun k hk => ?_⟩
  rw [a, b (78 + k) (by omega) (by omega)]
  exact h4 k hk
theorem ZONg.cg (h : ZONg s T P) (a0 : T1.2.2.1 (s + 2) 7 = T.2.2.1 (s + 2) 7) (a : ∀ m k, s + 5 ≤ m → m < s + 9 → T1.2.2.1 m k = T.2.2.1 m k) (b : ∀ j, 101 ≤ j → j < 118 → P1 j = P j) : ZONg s T1 P1 := by
  obtain ⟨c, h1, h2, h3, h4⟩ := h
  refine ⟨c, h1, a0.trans h2, (b 101 (by omega) (by omega)).trans h3, fun k hk j hj => ?_⟩
  rw [a _ _ (by omega) (by omega), b _ (by omega) (by omega)]
  exact h4 k hk j hj
theorem SHDg.cg (h : SHDg s T P) (a0 : T1.2.2.1 s 16 = T.2.2.1 s 16) (a : ∀ k, T1.2.2.1 (s + 14) k = T.2.2.1 (s + 14) k) (b : ∀ j, 118 ≤ j → j < 131 → P1 j = P j) : SHDg s T1 P1 := by
  obtain ⟨c, h1, h2, h3, h4⟩ := h
  refine ⟨c, h1, a0.trans h2, (b 118 (by omega) (by omega)).trans h3, fun k hk => ?_⟩
  rw [a, b (119 + k) (by omega) (by omega)]
  exact h4 k hk
def SCN0 (s : Nat) (T : AT) (P D : Nat → Int32) : Prop := MICg s T P ∧ GRDg s T P ∧ SRCg s T P D ∧ WALg s T P ∧ FADg s T P ∧ TAPg s T P ∧ ZONg s T P ∧ SHDg s T P ∧ DZg D
def SRF (s : Nat) (T : AT) : Prop := T.2.2.2.2 s 4 = some (s + 1) ∧ T.2.2.2.2 s 6 = some (s + 2) ∧ T.2.2.2.2 s 7 = some (s + 10) ∧ T.2.2.2.2 s 9 = some (s + 11) ∧ T.2.2.2.2 s 10 = some (s + 12) ∧ T.2.2.2.2 s 13 = some (s + 13) ∧ T.2.2.2.2 s 15 = some (s + 14) ∧ T.2.2.2.2 s 17 = some (s + 15) ∧ (∀ i, i < 12 → T.2.2.2.2 (s + 1) i = some (s + 160 + i)) ∧ (∀ i, i < 6 → T.2.2.2.2 (s + 10) i = some (s + 172 + i)) ∧ T.2.2.2.2 (s + 2) 5 = some (s + 3) ∧ T.2.2.2.2 (s + 2) 6 = some (s + 4) ∧ (∀ i, i < 4 → T.2.2.2.2 (s + 4) i = some (s + 5 + i)) ∧ T.2.2.2.2 (s + 2) 8 = some (s + 9) ∧ ∀ c, c < 144 → T.2.2.2.2 (s + 15) c = some (s + 16 + c)
theorem SRF.sub (h : SRF s T) (e : T1.2.2.2.2 = T.2.2.2.2) : SRF s T1 := by
  unfold SRF at h ⊢
  rw [e]
  exact h
def SCNq (s : Nat) (T : AT) (P D : Nat → Int32) : Prop := HDg s T P ∧ SCN0 s T P D
/-- the outcome of a line -/
def LNq (b : Nat → Int32) (n c i s : Nat) (T T1 : AT) (S1 : MS) (k : Nat) : Prop := (k = 0 ∧ (∃ j, i < j ∧ PRq b n c j T1 S1) ∧ SCNq s T1 (S1.2.1 11) (S1.2.1 13) ∧ T1.2.2.2.2 = T.2.2.2.2) ∨ (k = 3 ∧ ERq T1 S1)
end
end
section
/-! 20d2.shape.lean.txt -/
section
variable {b : Nat → Int32} {n c i k : Nat} {T T1 : AT} {S S1 : MS} {r : Int32}
theorem pr_mfe {a : Nat} {f : Nat → Int32} {S2 : MS} (h : PRq b n c i T S) (e : S2 = mf S a f) (ha : a ≠ 1) : PRq b n c i T S2 := by
  rw [e]
  exact pr_mf h ha
theorem wq4 : wxq (sTx "square") (sTx "triangle") = true ∧ wxq (sTx "square") (sTx "pulse") = true ∧ wxq (sTx "square") (sTx "noise") = true ∧ wxq (sTx "triangle") (sTx "pulse") = true ∧ wxq (sTx "triangle") (sTx "noise") = true ∧ wxq (sTx "pulse") (sTx "noise") = true := by decide +kernel
theorem wl4 : (sTx "square").1 ≤ 8 ∧ (sTx "triangle").1 ≤ 8 ∧ (sTx "pulse").1 ≤ 8 ∧ (sTx "noise").1 ≤ 8 ∧ (sTx "from").1 ≤ 8 := by decide +kernel
/-- what shape a word tells -/
def SHw (b : Nat → Int32) (n p : Nat) (v : Int32) : Prop := v = 0 ∧ WD b n p (sTx "square") ∨ v = 1 ∧ WD b n p (sTx "triangle") ∨ v = 2 ∧ WD b n p (sTx "pulse") ∨ v = 3 ∧ WD b n p (sTx "noise")
theorem sh_one {p : Nat} {v w : Int32} (a : SHw b n p v) (d : SHw b n p w) : v = w := by
  obtain ⟨q1, q2, q3, q4, q5, q6⟩ := wq4
  rcases a with ⟨a, a2⟩ | ⟨a, a2⟩ | ⟨a, a2⟩ | ⟨a, a2⟩ <;> rcases d with ⟨d, d2⟩ | ⟨d, d2⟩ | ⟨d, d2⟩ | ⟨d, d2⟩ <;> first | exact a.trans d.symm | exact absurd d2 (wx q1 a2) | exact absurd a2 (wx q1 d2) | exact absurd d2 (wx q2 a2) | exact absurd a2 (wx q2 d2) | exact absurd d2 (wx q3 a2) | exact absurd a2 (wx q3 d2) | exact absurd d2 (wx q4 a2) | exact absurd a2 (wx q4 d2) | exact absurd d2 (wx q5 a2) | exact absurd a2 (wx q5 d2) | exact absurd d2 (wx q6 a2) | exact absurd a2 (wx q6 d2)
theorem sh_word {p : Nat} {v : Int32} (a : SHw b n p v) : kd b n p = 1 ∧ v ≠ -1 := by
  rcases a with ⟨a, a2⟩ | ⟨a, a2⟩ | ⟨a, a2⟩ | ⟨a, a2⟩ <;> exact ⟨a2.1, by rw [a]; decide⟩
theorem c_shape62 {v : Int32} (h : PRq b n c i T S) (hg : g_X3_shape_b62 T 6 v = some (k, r, T1)) : k = 0 ∧ r = v ∧ T1 = uI T 6 1 (nI (i + 1)) := by
  unfold g_X3_shape_b62 at hg
  obtain ⟨-, hg⟩ := oif_some hg
  obtain ⟨v3, e3, hg⟩ := elet_some hg
  rw [h.1.2.2.2.2.2] at e3
  obtain ⟨v4, e4, hg⟩ := elet_some hg
  rw [e3, nI_1] at e4
  obtain ⟨-, hg⟩ := oif_some hg
  obtain ⟨T6, e6, hg⟩ := elet_some hg
  have g := osome3 hg
  exact ⟨g.1.symm, g.2.1.symm, by rw [← g.2.2, e6, e4]⟩
theorem c_shape (h : PRq b n c i T S) (hg : g_X3_shape T 6 = some (k, r, T1)) : (SHw b n (pst b n i) r ∧ k = 0 ∧ T1 = uI T 6 1 (nI (i + 1))) ∨ ((∀ v, ¬ SHw b n (pst b n i) v) ∧ ∃ r9, g_X3_failAt T 6 (nI i) 1 = some (k, r9, T1)) := by
  obtain ⟨w1, w2, w3, w4, -⟩ := wl4
  unfold g_X3_shape at hg
  obtain ⟨-, hg⟩ := oif_some hg
  obtain ⟨r6, T4, e6, hg⟩ := obind2_some hg
  obtain ⟨t4, d6⟩ := kc_word w2 h e6
  rw [t4] at hg
  rcases d6 with ⟨z, d6⟩ | ⟨z, d6⟩
  · rw [if_neg (by rw [z]; decide)] at hg
    obtain ⟨a1, a2, a3⟩ := c_shape62 h hg
    exact .inl ⟨.inr (.inl ⟨a2, d6⟩), a1, a3⟩
  rw [if_pos z] at hg
  obtain ⟨-, hg⟩ := oif_some hg
  obtain ⟨r13, T11, e13, hg⟩ := obind2_some hg
  obtain ⟨t11, d13⟩ := kc_word w3 h e13
  rw [t11] at hg
  rcases d13 with ⟨z, d13⟩ | ⟨z, d13⟩
  · rw [if_neg (by rw [z]; decide)] at hg
    obtain ⟨a1, a2, a3⟩ := c_shape62 h hg
    exact .inl ⟨.inr (.inr (.inl ⟨a2, d13⟩)), a1, a3⟩
  rw [if_pos z] at hg
  obtain ⟨-, hg⟩ := oif_some hg
  obtain ⟨r20, T18, e20, hg⟩ := obind2_some hg
  obtain ⟨t18, d20⟩ := kc_word w4 h e20
  rw [t18] at hg
  rcases d20 with ⟨z, d20⟩ | ⟨z, d20⟩
  · rw [if_neg (by rw [z]; decide)] at hg
    obtain ⟨a1, a2, a3⟩ := c_shape62 h hg
    exact .inl ⟨.inr (.inr (.inr ⟨a2, d20⟩)), a1, a3⟩
  rw [if_pos z] at hg
  obtain ⟨-, hg⟩ := oif_some hg
  obtain ⟨r27, T25, e27, hg⟩ := obind2_some hg
  obtain ⟨t25, d27⟩ := kc_word w1 h e27
  rw [t25] at hg
  rcases d27 with ⟨z, d27⟩ | ⟨z, d27⟩
  · rw [if_neg (by rw [z]; decide)] at hg
    obtain ⟨a1, a2, a3⟩ := c_shape62 h hg
    exact .inl ⟨.inl ⟨a2, d27⟩, a1, a3⟩
  rw [if_pos z] at hg
  obtain ⟨-, hg⟩ := oif_some hg
  obtain ⟨v31, e31, hg⟩ := elet_some hg
  rw [h.1.2.2.2.2.2] at e31
  rw [e31] at hg
  obtain ⟨-, hg⟩ := oif_some hg
  right
  refine ⟨fun v q => ?_, ?_⟩
  · rcases q with ⟨-, q⟩ | ⟨-, q⟩ | ⟨-, q⟩ | ⟨-, q⟩
    · exact d27 q
    · exact d6 q
    · exact d13 q
    · exact d20 q
  · rcases othr_k hg with ⟨r9, g9, -⟩ | ⟨r9, T9, g9, -⟩
    · exact ⟨r9, g9⟩
    · exact absurd (k_fail h h.1.2.2.2.2.1 g9).1 (by decide)
theorem r_shape {l1 : Int32} (h : PRq b n c i T S) (hf : (obind2 (fr_isWord S (sTx "square")) fun r9 S6 => if r9 = 0 then (obind2 (fr_isWord S6 (sTx "triangle")) fun r15 S12 => if r15 = 0 then (obind2 (fr_isWord S12 (sTx "pulse")) fun r21 S18 => if r21 = 0 then (obind2 (fr_isWord S18 (sTx "noise")) fun r27 S24 => if r27 = 0 then (fr_readSource_b75 S24 (-1) l1) else (fr_readSource_b75 S24 3 l1)) else (fr_readSource_b75 S18 2 l1)) else (fr_readSource_b75 S12 1 l1)) else (fr_readSource_b75 S6 0 l1)) = some S1) : ∃ v Sb, fr_readSource_b86 Sb l1 v = some S1 ∧ (SHw b n (pst b n i) v ∧ Sb = S ∨ (∀ v, ¬ SHw b n (pst b n i) v) ∧ fr_faults S 1 = some Sb) := by
  obtain ⟨w1, w2, w3, w4, -⟩ := wl4
  have fin : ∀ {v : Int32}, SHw b n (pst b n i) v → fr_readSource_b75 S v l1 = some S1 → ∃ v Sb, fr_readSource_b86 Sb l1 v = some S1 ∧ (SHw b n (pst b n i) v ∧ Sb = S ∨ (∀ v, ¬ SHw b n (pst b n i) v) ∧ fr_faults S 1 = some Sb) := by
    intro v q hf
    unfold fr_readSource_b75 at hf
    rw [if_neg (sh_word q).2] at hf
    exact ⟨v, S, hf, .inl ⟨q, rfl⟩⟩
  obtain ⟨r9, S6, e9, hf⟩ := obind2_some hf
  obtain ⟨t6, d9⟩ := kr_word w1 h e9
  rw [t6] at hf
  rcases d9 with ⟨z, d9⟩ | ⟨z, d9⟩
  · rw [if_neg (by rw [z]; decide)] at hf
    exact fin (.inl ⟨rfl, d9⟩) hf
  rw [if_pos z] at hf
  obtain ⟨r15, S12, e15, hf⟩ := obind2_some hf
  obtain ⟨t12, d15⟩ := kr_word w2 h e15
  rw [t12] at hf
  rcases d15 with ⟨z, d15⟩ | ⟨z, d15⟩
  · rw [if_neg (by rw [z]; decide)] at hf
    exact fin (.inr (.inl ⟨rfl, d15⟩)) hf
  rw [if_pos z] at hf
  obtain ⟨r21, S18, e21, hf⟩ := obind2_some hf
  obtain ⟨t18, d21⟩ := kr_word w3 h e21
  rw [t18] at hf
  rcases d21 with ⟨z, d21⟩ | ⟨z, d21⟩
  · rw [if_neg (by rw [z]; decide)] at hf
    exact fin (.inr (.inr (.inl ⟨rfl, d21⟩))) hf
  rw [if_pos z] at hf
  obtain ⟨r27, S24, e27, hf⟩ := obind2_some hf
  obtain ⟨t24, d27⟩ := kr_word w4 h e27
  rw [t24] at hf
  rcases d27 with ⟨z, d27⟩ | ⟨z, d27⟩
  · rw [if_neg (by rw [z]; decide)] at hf
    exact fin (.inr (.inr (.inr ⟨rfl, d27⟩))) hf
  rw [if_pos z] at hf
  unfold fr_readSource_b75 at hf
  rw [if_pos rfl] at hf
  obtain ⟨S3, f3, hf⟩ := obind_some hf
  refine ⟨_, S3, hf, .inr ⟨fun v q => ?_, f3⟩⟩
  rcases q with ⟨-, q⟩ | ⟨-, q⟩ | ⟨-, q⟩ | ⟨-, q⟩
  · exact d9 q
  · exact d15 q
  · exact d21 q
  · exact d27 q
theorem k_shape {v : Int32} {Sb S3 : MS} (h : PRq b n c i T S) (hg : g_X3_shape T 6 = some (k, r, T1)) (hf : SHw b n (pst b n i) v ∧ Sb = S ∨ (∀ v, ¬ SHw b n (pst b n i) v) ∧ fr_faults S 1 = some Sb) (hn : fr_nextToken Sb = some S3) : (k = 0 ∧ v = r ∧ PRq b n c (i + 1) T1 S3 ∧ TFq T T1 ∧ MFq S S3) ∨ (k = 3 ∧ ERq T1 S3) := by
  rcases c_shape h hg with ⟨a, k0, e1⟩ | ⟨a, r9, g9⟩
  · rcases hf with ⟨f, f2⟩ | ⟨f, -⟩
    · rw [f2] at hn
      obtain ⟨p1, p2⟩ := pr_adv h (by rw [(sh_word a).1]; decide) hn
      left
      rw [e1]
      exact ⟨k0, sh_one f a, p1, tf6, p2⟩
    · exact absurd a (f _)
  · rcases hf with ⟨f, -⟩ | ⟨-, f⟩
    · exact absurd f (a _)
    · obtain ⟨a1, a2⟩ := k_err h h.1.2.2.2.2.1 rfl (by decide) g9 f
      rw [st_next a2.1 hn]
      exact .inr ⟨a1, a2⟩
end
end
section
/-! 20e.lines.lean.txt -/
set_option maxHeartbeats 4000000 in
set_option maxRecDepth 10000 in
theorem l_mic {b : Nat → Int32} {n c i k s : Nat} {T T1 : AT} {S S1 : MS} {r : Int32} (h : PRq b n c i T S) (hk : kd b n (pst b n i) = 1) (hs : s = 478 ∨ s = 656) (hF : SRF s T) (hC : SCNq s T (S.2.1 11) (S.2.1 13)) (hg : g_X3_parseMic T 6 s = some (k, r, T1)) (hf : fr_readMic S = some S1) : LNq b n c i s T T1 S1 k := by
  obtain ⟨gH, gM, gG, gS, gW, gF, gT, gZ, gD, gX⟩ := hC
  obtain ⟨F1, F2, F3, F4, F5, F6, F7, F8, F9, F10, F11, F12, F13, F14, F15⟩ := hF
  obtain ⟨mc, b1, b2, b3, b4, b5⟩ := gM
  unfold g_X3_parseMic at hg
  obtain ⟨-, hg⟩ := oif_some hg
  obtain ⟨v3, ev3, hg⟩ := elet_some hg
  rw [b2] at ev3
  unfold fr_readMic at hf
  obtain ⟨v2, ev2, hf⟩ := elet_some hf
  rw [b3] at ev2
  have key : ∃ (a0 : Int32) (Sa : MS), g_X3_parseMic_b15 T a0 6 6 s = some (k, r, T1) ∧ fr_readMic_b18 Sa v2 = some S1 ∧ ((a0 = 0 ∧ Sa = S) ∨ (a0 ≠ 0 ∧ fr_faults S 4 = some Sa)) ∧ (a0 = 0 → mc < 12) := by
    by_cases cm : mc < 12
    · rw [if_pos (by rw [ev3]; exact nI_lt (a := mc) (b := 12) cm (by decide))] at hg
      rw [if_neg (fun q => by rw [ev2] at q; have := (nI_eq (a := mc) (b := 12) (by omega) (by decide)).mp q; omega)] at hf
      exact ⟨0, S, hg, hf, .inl ⟨rfl, rfl⟩, fun _ => cm⟩
    · rw [if_neg (by rw [ev3]; exact nI_nlt (a := mc) (b := 12) (by omega) (by omega))] at hg
      rw [if_pos (by rw [ev2, show mc = 12 from by omega]; rfl)] at hf
      obtain ⟨S4, f4, hf⟩ := obind_some hf
      exact ⟨1, S4, hg, hf, .inr ⟨by decide, f4⟩, fun q => absurd q (by decide)⟩
  obtain ⟨a0, Sa, hg, hf, hcase, hmc⟩ := key
  unfold fr_readMic_b18 at hf
  obtain ⟨S2, fS2, hf⟩ := obind_some hf
  obtain ⟨r8, S5, fS5, hf⟩ := obind2_some hf
  obtain ⟨r12, S9, fS9, hf⟩ := obind2_some hf
  obtain ⟨r16, S13, fS13, hf⟩ := obind2_some hf
  obtain ⟨v17, ev17, hf⟩ := elet_some hf
  have fin_S13 : 0 < (S13.1 5).toInt → S1 = S13 := fun q => by rw [if_neg (st_le q ev17)] at hf; exact (osome1 (show some S13 = some S1 from hf)).symm
  have fin_S9 : 0 < (S9.1 5).toInt → S1 = S9 := fun q => by have e := (st_number q fS13); exact (fin_S13 (by rw [e]; exact q)).trans e
  have fin_S5 : 0 < (S5.1 5).toInt → S1 = S5 := fun q => by have e := (st_signed q fS9); exact (fin_S9 (by rw [e]; exact q)).trans e
  have fin_S2 : 0 < (S2.1 5).toInt → S1 = S2 := fun q => by have e := (st_signed q fS5); exact (fin_S5 (by rw [e]; exact q)).trans e
  unfold g_X3_parseMic_b15 at hg
  obtain ⟨-, hg⟩ := oif_some hg
  rcases othr_k hg with ⟨r9, g9, z0⟩ | ⟨r5c, T3c, g9, hg⟩
  · rcases k_line h hk (by decide) g9 hcase fS2 with ⟨z, -⟩ | ⟨z1, z2⟩
    · exact absurd z z0
    · exact .inr ⟨z1, by rw [fin_S2 z2.1]; exact z2⟩
  rcases k_line h hk (by decide) g9 hcase fS2 with ⟨-, p_T3c, tf_T3c, m0, za⟩ | ⟨z1, -⟩
  rotate_left
  · exact absurd z1 (by decide)
  have cmc := hmc za
  have r_T3c : T3c.2.2.2.2 = T.2.2.2.2 := congrArg (fun x => x.2) tf_T3c.2.2.1
  have hI_T3c : ∀ m j : Nat, m ≠ 6 → T3c.2.2.1 m j = T.2.2.1 m j := fun m j h6 => by rw [tf_T3c.2.2.2 m j h6]
  obtain ⟨-, hg⟩ := oif_some hg
  obtain ⟨n8c, en8c, hg⟩ := obind_some hg
  rw [r_T3c, F1] at en8c
  cases en8c
  obtain ⟨-, hg⟩ := oif_some hg
  obtain ⟨v10c, ev10c, hg⟩ := elet_some hg
  rw [hI_T3c _ _ (by omega)] at ev10c
  rw [b2] at ev10c
  have k_v10c : v10c = nI mc := ev10c
  obtain ⟨-, hg⟩ := oif_some hg
  obtain ⟨-, hg⟩ := oif_some hg
  obtain ⟨n13c, en13c, hg⟩ := obind_some hg
  rw [k_v10c, nI_clamp (by omega)] at en13c
  rw [r_T3c, F9 _ (by omega)] at en13c
  cases en13c
  obtain ⟨-, hg⟩ := oif_some hg
  rcases othr_k hg with ⟨r9, g9, z0⟩ | ⟨r17c, T15c, g9, hg⟩
  · rcases k_signed p_T3c g9 fS5 with ⟨z, -⟩ | ⟨z1, z2⟩
    · exact absurd z z0
    · exact .inr ⟨z1, by rw [fin_S5 z2.1]; exact z2⟩
  rcases k_signed p_T3c g9 fS5 with ⟨-, q_r17c, ⟨i_T15c, l_T15c, p_T15c⟩, tf_T15c, mf_T15c⟩ | ⟨z1, -⟩
  rotate_left
  · exact absurd z1 (by decide)
  have r_T15c : T15c.2.2.2.2 = T.2.2.2.2 := (congrArg (fun x => x.2) tf_T15c.2.2.1).trans r_T3c
  have hI_T15c : ∀ m j : Nat, m ≠ 6 → T15c.2.2.1 m j = T.2.2.1 m j := fun m j h6 => by rw [tf_T15c.2.2.2 m j h6, hI_T3c m j h6]
  have mm_T15c := MFq.tr m0 mf_T15c
  obtain ⟨-, hg⟩ := oif_some hg
  obtain ⟨T20c, eT20c, hg⟩ := elet_some hg
  have r_T20c : T20c.2.2.2.2 = T.2.2.2.2 := by rw [eT20c]; exact r_T15c
  have hI_T20c : ∀ m j : Nat, m ≠ 6 → T20c.2.2.1 m j = if m = (s + 160 + mc) ∧ j = 0 then r17c else T.2.2.1 m j := fun m j h6 => by rw [eT20c, ui_get, hI_T15c m j h6]
  have p_T20c := pr_uI (m := (s + 160 + mc)) (k := 0) (v := r17c) p_T15c (by omega)
  rw [← eT20c] at p_T20c
  obtain ⟨-, hg⟩ := oif_some hg
  rcases othr_k hg with ⟨r9, g9, z0⟩ | ⟨r24c, T22c, g9, hg⟩
  · rcases k_signed p_T20c g9 fS9 with ⟨z, -⟩ | ⟨z1, z2⟩
    · exact absurd z z0
    · exact .inr ⟨z1, by rw [fin_S9 z2.1]; exact z2⟩
  rcases k_signed p_T20c g9 fS9 with ⟨-, q_r24c, ⟨i_T22c, l_T22c, p_T22c⟩, tf_T22c, mf_T22c⟩ | ⟨z1, -⟩
  rotate_left
  · exact absurd z1 (by decide)
  have r_T22c : T22c.2.2.2.2 = T.2.2.2.2 := (congrArg (fun x => x.2) tf_T22c.2.2.1).trans r_T20c
  have hI_T22c : ∀ m j : Nat, m ≠ 6 → T22c.2.2.1 m j = if m = (s + 160 + mc) ∧ j = 0 then r17c else T.2.2.1 m j := fun m j h6 => by rw [tf_T22c.2.2.2 m j h6, hI_T20c m j h6]
  have mm_T22c := MFq.tr mm_T15c mf_T22c
  obtain ⟨-, hg⟩ := oif_some hg
  obtain ⟨T27c, eT27c, hg⟩ := elet_some hg
  have r_T27c : T27c.2.2.2.2 = T.2.2.2.2 := by rw [eT27c]; exact r_T22c
  have hI_T27c : ∀ m j : Nat, m ≠ 6 → T27c.2.2.1 m j = if m = (s + 160 + mc) ∧ j = 1 then r24c else if m = (s + 160 + mc) ∧ j = 0 then r17c else T.2.2.1 m j := fun m j h6 => by rw [eT27c, ui_get, hI_T22c m j h6]
  have p_T27c := pr_uI (m := (s + 160 + mc)) (k := 1) (v := r24c) p_T22c (by omega)
  rw [← eT27c] at p_T27c
  obtain ⟨-, hg⟩ := oif_some hg
  rcases othr_k hg with ⟨r9, g9, z0⟩ | ⟨r31c, T29c, g9, hg⟩
  · rcases k_number p_T27c g9 fS13 with ⟨z, -⟩ | ⟨z1, z2⟩
    · exact absurd z z0
    · exact .inr ⟨z1, by rw [fin_S13 z2.1]; exact z2⟩
  rcases k_number p_T27c g9 fS13 with ⟨-, q_r31c, lo_r31c, hi_r31c, p_T29c, tf_T29c, mf_T29c⟩ | ⟨z1, -⟩
  rotate_left
  · exact absurd z1 (by decide)
  have r_T29c : T29c.2.2.2.2 = T.2.2.2.2 := (congrArg (fun x => x.2) tf_T29c.2.2.1).trans r_T27c
  have hI_T29c : ∀ m j : Nat, m ≠ 6 → T29c.2.2.1 m j = if m = (s + 160 + mc) ∧ j = 1 then r24c else if m = (s + 160 + mc) ∧ j = 0 then r17c else T.2.2.1 m j := fun m j h6 => by rw [tf_T29c.2.2.2 m j h6, hI_T27c m j h6]
  have mm_T29c := MFq.tr mm_T22c mf_T29c
  obtain ⟨-, hg⟩ := oif_some hg
  obtain ⟨T34c, eT34c, hg⟩ := elet_some hg
  have r_T34c : T34c.2.2.2.2 = T.2.2.2.2 := by rw [eT34c]; exact r_T29c
  have hI_T34c : ∀ m j : Nat, m ≠ 6 → T34c.2.2.1 m j = if m = (s + 160 + mc) ∧ j = 2 then r31c else if m = (s + 160 + mc) ∧ j = 1 then r24c else if m = (s + 160 + mc) ∧ j = 0 then r17c else T.2.2.1 m j := fun m j h6 => by rw [eT34c, ui_get, hI_T29c m j h6]
  have p_T34c := pr_uI (m := (s + 160 + mc)) (k := 2) (v := r31c) p_T29c (by omega)
  rw [← eT34c] at p_T34c
  obtain ⟨-, hg⟩ := oif_some hg
  obtain ⟨T36c, eT36c, hg⟩ := elet_some hg
  have r_T36c : T36c.2.2.2.2 = T.2.2.2.2 := by rw [eT36c]; exact r_T34c
  have hI_T36c : ∀ m j : Nat, m ≠ 6 → T36c.2.2.1 m j = if m = (s + 160 + mc) ∧ j = 3 then 0 else if m = (s + 160 + mc) ∧ j = 2 then r31c else if m = (s + 160 + mc) ∧ j = 1 then r24c else if m = (s + 160 + mc) ∧ j = 0 then r17c else T.2.2.1 m j := fun m j h6 => by rw [eT36c, ui_get, hI_T34c m j h6]
  have p_T36c := pr_uI (m := (s + 160 + mc)) (k := 3) (v := 0) p_T34c (by omega)
  rw [← eT36c] at p_T36c
  obtain ⟨-, hg⟩ := oif_some hg
  obtain ⟨v38c, ev38c, hg⟩ := elet_some hg
  rw [hI_T36c _ _ (by omega)] at ev38c
  simp (disch := omega) only [if_neg, if_pos, and_self, and_true, true_and, and_false, false_and, if_true, if_false] at ev38c
  rw [b2] at ev38c
  have k_v38c : v38c = nI mc := ev38c
  obtain ⟨v39c, ev39c, hg⟩ := elet_some hg
  have k_v39c : v39c = nI (mc + 1) := by rw [ev39c, k_v38c]; exact nI_add (mc) 1
  obtain ⟨-, hg⟩ := oif_some hg
  obtain ⟨T41c, eT41c, hg⟩ := elet_some hg
  have r_T41c : T41c.2.2.2.2 = T.2.2.2.2 := by rw [eT41c]; exact r_T36c
  have hI_T41c : ∀ m j : Nat, m ≠ 6 → T41c.2.2.1 m j = if m = s ∧ j = 5 then v39c else if m = (s + 160 + mc) ∧ j = 3 then 0 else if m = (s + 160 + mc) ∧ j = 2 then r31c else if m = (s + 160 + mc) ∧ j = 1 then r24c else if m = (s + 160 + mc) ∧ j = 0 then r17c else T.2.2.1 m j := fun m j h6 => by rw [eT41c, ui_get, hI_T36c m j h6]
  have p_T41c := pr_uI (m := s) (k := 5) (v := v39c) p_T36c (by omega)
  rw [← eT41c] at p_T41c
  have g := osome3 hg
  rw [if_pos (by rw [ev17, p_T41c.2.2.1] <;> decide)] at hf
  obtain ⟨v19, ev19, hf⟩ := elet_some hf
  obtain ⟨-, hf⟩ := oif_some hf
  obtain ⟨S21, eS21, hf⟩ := elet_some hf
  obtain ⟨v22, ev22, hf⟩ := elet_some hf
  obtain ⟨-, hf⟩ := oif_some hf
  obtain ⟨S24, eS24, hf⟩ := elet_some hf
  obtain ⟨v25, ev25, hf⟩ := elet_some hf
  obtain ⟨-, hf⟩ := oif_some hf
  obtain ⟨S27, eS27, hf⟩ := elet_some hf
  obtain ⟨v28, ev28, hf⟩ := elet_some hf
  obtain ⟨v29, ev29, hf⟩ := elet_some hf
  obtain ⟨S30, eS30, hf⟩ := elet_some hf
  have k_l1 : v2 = nI mc := ev2
  have hP_S13 : ∀ x : Nat, S13.2.1 11 x = S.2.1 11 x := fun x => by rw [mm_T29c.1]
  have hD_S13 : ∀ x : Nat, S13.2.1 13 x = S.2.1 13 x := fun x => by rw [mm_T29c.1]
  have k_v19 : v19 = nI (11 + mc) := by rw [ev19, k_l1]; exact nI_add 11 (mc)
  rw [k_v19, nI_clamp (by omega)] at eS21
  have hP_S21 : ∀ x : Nat, S21.2.1 11 x = if x = (11 + mc) then r8 else S.2.1 11 x := fun x => by rw [eS21, mf_at]; show (if x = (11 + mc) then r8 else S13.2.1 11 x) = _; rw [hP_S13]
  have hD_S21 : ∀ x : Nat, S21.2.1 13 x = S.2.1 13 x := fun x => by rw [eS21, mf_ne (by decide), hD_S13]
  have k_v22 : v22 = nI (23 + mc) := by rw [ev22, k_l1]; exact nI_add 23 (mc)
  rw [k_v22, nI_clamp (by omega)] at eS24
  have hP_S24 : ∀ x : Nat, S24.2.1 11 x = if x = (23 + mc) then r12 else if x = (11 + mc) then r8 else S.2.1 11 x := fun x => by rw [eS24, mf_at]; show (if x = (23 + mc) then r12 else S21.2.1 11 x) = _; rw [hP_S21]
  have hD_S24 : ∀ x : Nat, S24.2.1 13 x = S.2.1 13 x := fun x => by rw [eS24, mf_ne (by decide), hD_S21]
  have k_v25 : v25 = nI (35 + mc) := by rw [ev25, k_l1]; exact nI_add 35 (mc)
  rw [k_v25, nI_clamp (by omega)] at eS27
  have hP_S27 : ∀ x : Nat, S27.2.1 11 x = if x = (35 + mc) then r16 else if x = (23 + mc) then r12 else if x = (11 + mc) then r8 else S.2.1 11 x := fun x => by rw [eS27, mf_at]; show (if x = (35 + mc) then r16 else S24.2.1 11 x) = _; rw [hP_S24]
  have hD_S27 : ∀ x : Nat, S27.2.1 13 x = S.2.1 13 x := fun x => by rw [eS27, mf_ne (by decide), hD_S24]
  rw [hP_S27] at ev28
  (try simp (disch := omega) only [if_neg, if_pos, and_self, and_true, true_and, and_false, false_and, if_true, if_false] at ev28)
  rw [b3] at ev28
  have k_v28 : v28 = nI mc := ev28
  have k_v29 : v29 = nI (mc + 1) := by rw [ev29, k_v28]; exact nI_add (mc) 1
  have hP_S30 : ∀ x : Nat, S30.2.1 11 x = if x = 4 then v29 else if x = (35 + mc) then r16 else if x = (23 + mc) then r12 else if x = (11 + mc) then r8 else S.2.1 11 x := fun x => by rw [eS30, mf_at]; show (if x = 4 then v29 else S27.2.1 11 x) = _; rw [hP_S27]
  have hD_S30 : ∀ x : Nat, S30.2.1 13 x = S.2.1 13 x := fun x => by rw [eS30, mf_ne (by decide), hD_S27]
  have p_S21 := pr_mfe p_T41c eS21 (by decide)
  have p_S24 := pr_mfe p_S21 eS24 (by decide)
  have p_S27 := pr_mfe p_S24 eS27 (by decide)
  have p_S30 := pr_mfe p_S27 eS30 (by decide)
  have eS := osome1 (show some S30 = some S1 from hf)
  rw [← g.2.2, ← eS]
  exact .inl ⟨g.1.symm, ⟨_, by omega, p_S30⟩, ⟨gH.cg (fun j hj => by rw [hI_T41c _ _ (by omega)]; try simp (disch := omega) only [if_neg, if_pos, and_self, and_true, true_and, and_false, false_and, if_true, if_false]) (fun j hj => by rw [hP_S30]; try simp (disch := omega) only [if_neg, if_pos, and_self, and_true, true_and, and_false, false_and, if_true, if_false]), ⟨mc + 1, by omega, (by rw [hI_T41c _ _ (by omega)]; (try simp (disch := omega) only [if_neg, if_pos, and_self, and_true, true_and, and_false, false_and, if_true, if_false]); try exact k_v39c), (by rw [hP_S30]; (try simp (disch := omega) only [if_neg, if_pos, and_self, and_true, true_and, and_false, false_and, if_true, if_false]); try exact k_v29), fun m hm => if e : m = mc then ⟨(by rw [e]; rw [hI_T41c _ _ (by omega), hP_S30]; (try simp (disch := omega) only [if_neg, if_pos, and_self, and_true, true_and, and_false, false_and, if_true, if_false]); try exact q_r17c.symm), (by rw [e]; rw [hI_T41c _ _ (by omega), hP_S30]; (try simp (disch := omega) only [if_neg, if_pos, and_self, and_true, true_and, and_false, false_and, if_true, if_false]); try exact q_r24c.symm), (by rw [e]; rw [hI_T41c _ _ (by omega), hP_S30]; (try simp (disch := omega) only [if_neg, if_pos, and_self, and_true, true_and, and_false, false_and, if_true, if_false]); try exact q_r31c.symm), (by rw [e]; rw [hI_T41c _ _ (by omega), hP_S30]; (try simp (disch := omega) only [if_neg, if_pos, and_self, and_true, true_and, and_false, false_and, if_true, if_false]); try exact (b5 mc (Nat.le_refl _) (by omega)).symm)⟩ else ⟨(by rw [hI_T41c _ _ (by omega), hP_S30]; (try simp (disch := omega) only [if_neg, if_pos, and_self, and_true, true_and, and_false, false_and, if_true, if_false]); try exact (b4 m (by omega)).1), (by rw [hI_T41c _ _ (by omega), hP_S30]; (try simp (disch := omega) only [if_neg, if_pos, and_self, and_true, true_and, and_false, false_and, if_true, if_false]); try exact (b4 m (by omega)).2.1), (by rw [hI_T41c _ _ (by omega), hP_S30]; (try simp (disch := omega) only [if_neg, if_pos, and_self, and_true, true_and, and_false, false_and, if_true, if_false]); try exact (b4 m (by omega)).2.2.1), (by rw [hI_T41c _ _ (by omega), hP_S30]; (try simp (disch := omega) only [if_neg, if_pos, and_self, and_true, true_and, and_false, false_and, if_true, if_false]); try exact (b4 m (by omega)).2.2.2)⟩, fun m hm hm2 => (by rw [hP_S30]; (try simp (disch := omega) only [if_neg, if_pos, and_self, and_true, true_and, and_false, false_and, if_true, if_false]); try exact b5 m (by omega) (by omega))⟩, gG.cg (fun k hk => by rw [hI_T41c _ _ (by omega)]; try simp (disch := omega) only [if_neg, if_pos, and_self, and_true, true_and, and_false, false_and, if_true, if_false]) (fun k => by rw [hI_T41c _ _ (by omega)]; try simp (disch := omega) only [if_neg, if_pos, and_self, and_true, true_and, and_false, false_and, if_true, if_false]) (fun j hj hj2 => by rw [hP_S30]; try simp (disch := omega) only [if_neg, if_pos, and_self, and_true, true_and, and_false, false_and, if_true, if_false]), gS.cg (by rw [hI_T41c _ _ (by omega)]; try simp (disch := omega) only [if_neg, if_pos, and_self, and_true, true_and, and_false, false_and, if_true, if_false]) (fun m k hm hm2 => by rw [hI_T41c _ _ (by omega)]; try simp (disch := omega) only [if_neg, if_pos, and_self, and_true, true_and, and_false, false_and, if_true, if_false]) (fun j hj => by rw [hP_S30]; try simp (disch := omega) only [if_neg, if_pos, and_self, and_true, true_and, and_false, false_and, if_true, if_false]) (fun j hj hj2 => by rw [hD_S30]; try simp (disch := omega) only [if_neg, if_pos, and_self, and_true, true_and, and_false, false_and, if_true, if_false]), gW.cg (by rw [hI_T41c _ _ (by omega)]; try simp (disch := omega) only [if_neg, if_pos, and_self, and_true, true_and, and_false, false_and, if_true, if_false]) (fun k => by rw [hI_T41c _ _ (by omega)]; try simp (disch := omega) only [if_neg, if_pos, and_self, and_true, true_and, and_false, false_and, if_true, if_false]) (fun k => by rw [hI_T41c _ _ (by omega)]; try simp (disch := omega) only [if_neg, if_pos, and_self, and_true, true_and, and_false, false_and, if_true, if_false]) (fun j hj hj2 => by rw [hP_S30]; try simp (disch := omega) only [if_neg, if_pos, and_self, and_true, true_and, and_false, false_and, if_true, if_false]), gF.cg (by rw [hI_T41c _ _ (by omega)]; try simp (disch := omega) only [if_neg, if_pos, and_self, and_true, true_and, and_false, false_and, if_true, if_false]) (by rw [hP_S30]; try simp (disch := omega) only [if_neg, if_pos, and_self, and_true, true_and, and_false, false_and, if_true, if_false]), gT.cg (by rw [hI_T41c _ _ (by omega)]; try simp (disch := omega) only [if_neg, if_pos, and_self, and_true, true_and, and_false, false_and, if_true, if_false]) (fun k => by rw [hI_T41c _ _ (by omega)]; try simp (disch := omega) only [if_neg, if_pos, and_self, and_true, true_and, and_false, false_and, if_true, if_false]) (fun j hj hj2 => by rw [hP_S30]; try simp (disch := omega) only [if_neg, if_pos, and_self, and_true, true_and, and_false, false_and, if_true, if_false]), gZ.cg (by rw [hI_T41c _ _ (by omega)]; try simp (disch := omega) only [if_neg, if_pos, and_self, and_true, true_and, and_false, false_and, if_true, if_false]) (fun m k hm hm2 => by rw [hI_T41c _ _ (by omega)]; try simp (disch := omega) only [if_neg, if_pos, and_self, and_true, true_and, and_false, false_and, if_true, if_false]) (fun j hj hj2 => by rw [hP_S30]; try simp (disch := omega) only [if_neg, if_pos, and_self, and_true, true_and, and_false, false_and, if_true, if_false]), gD.cg (by rw [hI_T41c _ _ (by omega)]; try simp (disch := omega) only [if_neg, if_pos, and_self, and_true, true_and, and_false, false_and, if_true, if_false]) (fun k => by rw [hI_T41c _ _ (by omega)]; try simp (disch := omega) only [if_neg, if_pos, and_self, and_true, true_and, and_false, false_and, if_true, if_false]) (fun j hj hj2 => by rw [hP_S30]; try simp (disch := omega) only [if_neg, if_pos, and_self, and_true, true_and, and_false, false_and, if_true, if_false]), (fun j hj => by rw [hD_S30]; (try simp (disch := omega) only [if_neg, if_pos, and_self, and_true, true_and, and_false, false_and, if_true, if_false]); try exact gX j hj)⟩, r_T41c⟩
set_option maxHeartbeats 4000000 in
set_option maxRecDepth 10000 in
theorem l_wall {b : Nat → Int32} {n c i k s : Nat} {T T1 : AT} {S S1 : MS} {r : Int32} (h : PRq b n c i T S) (hk : kd b n (pst b n i) = 1) (hs : s = 478 ∨ s = 656) (hF : SRF s T) (hC : SCNq s T (S.2.1 11) (S.2.1 13)) (hg : g_X3_parseWall T 6 s = some (k, r, T1)) (hf : fr_readWall S = some S1) : LNq b n c i s T T1 S1 k := by
  obtain ⟨gH, gM, gG, gS, gW, gF, gT, gZ, gD, gX⟩ := hC
  obtain ⟨F1, F2, F3, F4, F5, F6, F7, F8, F9, F10, F11, F12, F13, F14, F15⟩ := hF
  obtain ⟨mc, b1, b2, b3, b4⟩ := gW
  unfold g_X3_parseWall at hg
  obtain ⟨-, hg⟩ := oif_some hg
  obtain ⟨v3, ev3, hg⟩ := elet_some hg
  rw [b2] at ev3
  unfold fr_readWall at hf
  obtain ⟨v2, ev2, hf⟩ := elet_some hf
  rw [b3] at ev2
  have key : ∃ (a0 : Int32) (Sa : MS), g_X3_parseWall_b14 T a0 6 6 s = some (k, r, T1) ∧ fr_readWall_b18 Sa v2 = some S1 ∧ ((a0 = 0 ∧ Sa = S) ∨ (a0 ≠ 0 ∧ fr_faults S 4 = some Sa)) ∧ (a0 = 0 → mc < 2) := by
    by_cases cm : mc < 2
    · rw [if_pos (by rw [ev3]; exact nI_lt (a := mc) (b := 2) cm (by decide))] at hg
      rw [if_neg (fun q => by rw [ev2] at q; have := (nI_eq (a := mc) (b := 2) (by omega) (by decide)).mp q; omega)] at hf
      exact ⟨0, S, hg, hf, .inl ⟨rfl, rfl⟩, fun _ => cm⟩
    · rw [if_neg (by rw [ev3]; exact nI_nlt (a := mc) (b := 2) (by omega) (by omega))] at hg
      rw [if_pos (by rw [ev2, show mc = 2 from by omega]; rfl)] at hf
      obtain ⟨S4, f4, hf⟩ := obind_some hf
      exact ⟨1, S4, hg, hf, .inr ⟨by decide, f4⟩, fun q => absurd q (by decide)⟩
  obtain ⟨a0, Sa, hg, hf, hcase, hmc⟩ := key
  unfold fr_readWall_b18 at hf
  obtain ⟨S2, fS2, hf⟩ := obind_some hf
  obtain ⟨r8, S5, fS5, hf⟩ := obind2_some hf
  obtain ⟨r12, S9, fS9, hf⟩ := obind2_some hf
  obtain ⟨v13, ev13, hf⟩ := elet_some hf
  have fin_S9 : 0 < (S9.1 5).toInt → S1 = S9 := fun q => by rw [if_neg (st_le q ev13)] at hf; exact (osome1 (show some S9 = some S1 from hf)).symm
  have fin_S5 : 0 < (S5.1 5).toInt → S1 = S5 := fun q => by have e := (st_number q fS9); exact (fin_S9 (by rw [e]; exact q)).trans e
  have fin_S2 : 0 < (S2.1 5).toInt → S1 = S2 := fun q => by have e := (st_signed q fS5); exact (fin_S5 (by rw [e]; exact q)).trans e
  unfold g_X3_parseWall_b14 at hg
  obtain ⟨-, hg⟩ := oif_some hg
  rcases othr_k hg with ⟨r9, g9, z0⟩ | ⟨r5c, T3c, g9, hg⟩
  · rcases k_line h hk (by decide) g9 hcase fS2 with ⟨z, -⟩ | ⟨z1, z2⟩
    · exact absurd z z0
    · exact .inr ⟨z1, by rw [fin_S2 z2.1]; exact z2⟩
  rcases k_line h hk (by decide) g9 hcase fS2 with ⟨-, p_T3c, tf_T3c, m0, za⟩ | ⟨z1, -⟩
  rotate_left
  · exact absurd z1 (by decide)
  have cmc := hmc za
  have r_T3c : T3c.2.2.2.2 = T.2.2.2.2 := congrArg (fun x => x.2) tf_T3c.2.2.1
  have hI_T3c : ∀ m j : Nat, m ≠ 6 → T3c.2.2.1 m j = T.2.2.1 m j := fun m j h6 => by rw [tf_T3c.2.2.2 m j h6]
  obtain ⟨-, hg⟩ := oif_some hg
  obtain ⟨n8c, en8c, hg⟩ := obind_some hg
  rw [r_T3c, F4] at en8c
  cases en8c
  obtain ⟨-, hg⟩ := oif_some hg
  obtain ⟨v10c, ev10c, hg⟩ := elet_some hg
  rw [hI_T3c _ _ (by omega)] at ev10c
  rw [b2] at ev10c
  have k_v10c : v10c = nI mc := ev10c
  obtain ⟨-, hg⟩ := oif_some hg
  rcases othr_k hg with ⟨r9, g9, z0⟩ | ⟨r14c, T12c, g9, hg⟩
  · rcases k_signed p_T3c g9 fS5 with ⟨z, -⟩ | ⟨z1, z2⟩
    · exact absurd z z0
    · exact .inr ⟨z1, by rw [fin_S5 z2.1]; exact z2⟩
  rcases k_signed p_T3c g9 fS5 with ⟨-, q_r14c, ⟨i_T12c, l_T12c, p_T12c⟩, tf_T12c, mf_T12c⟩ | ⟨z1, -⟩
  rotate_left
  · exact absurd z1 (by decide)
  have r_T12c : T12c.2.2.2.2 = T.2.2.2.2 := (congrArg (fun x => x.2) tf_T12c.2.2.1).trans r_T3c
  have hI_T12c : ∀ m j : Nat, m ≠ 6 → T12c.2.2.1 m j = T.2.2.1 m j := fun m j h6 => by rw [tf_T12c.2.2.2 m j h6, hI_T3c m j h6]
  have mm_T12c := MFq.tr m0 mf_T12c
  obtain ⟨-, hg⟩ := oif_some hg
  obtain ⟨-, hg⟩ := oif_some hg
  obtain ⟨T18c, eT18c, hg⟩ := elet_some hg
  rw [k_v10c, nI_clamp (by omega)] at eT18c
  have r_T18c : T18c.2.2.2.2 = T.2.2.2.2 := by rw [eT18c]; exact r_T12c
  have hI_T18c : ∀ m j : Nat, m ≠ 6 → T18c.2.2.1 m j = if m = (s + 11) ∧ j = mc then r14c else T.2.2.1 m j := fun m j h6 => by rw [eT18c, ui_get, hI_T12c m j h6]
  have p_T18c := pr_uI (m := (s + 11)) (k := mc) (v := r14c) p_T12c (by omega)
  rw [← eT18c] at p_T18c
  obtain ⟨-, hg⟩ := oif_some hg
  obtain ⟨n20c, en20c, hg⟩ := obind_some hg
  rw [r_T18c, F5] at en20c
  cases en20c
  obtain ⟨-, hg⟩ := oif_some hg
  obtain ⟨v22c, ev22c, hg⟩ := elet_some hg
  rw [hI_T18c _ _ (by omega)] at ev22c
  simp (disch := omega) only [if_neg, if_pos, and_self, and_true, true_and, and_false, false_and, if_true, if_false] at ev22c
  rw [b2] at ev22c
  have k_v22c : v22c = nI mc := ev22c
  obtain ⟨-, hg⟩ := oif_some hg
  rcases othr_k hg with ⟨r9, g9, z0⟩ | ⟨r26c, T24c, g9, hg⟩
  · rcases k_number p_T18c g9 fS9 with ⟨z, -⟩ | ⟨z1, z2⟩
    · exact absurd z z0
    · exact .inr ⟨z1, by rw [fin_S9 z2.1]; exact z2⟩
  rcases k_number p_T18c g9 fS9 with ⟨-, q_r26c, lo_r26c, hi_r26c, p_T24c, tf_T24c, mf_T24c⟩ | ⟨z1, -⟩
  rotate_left
  · exact absurd z1 (by decide)
  have r_T24c : T24c.2.2.2.2 = T.2.2.2.2 := (congrArg (fun x => x.2) tf_T24c.2.2.1).trans r_T18c
  have hI_T24c : ∀ m j : Nat, m ≠ 6 → T24c.2.2.1 m j = if m = (s + 11) ∧ j = mc then r14c else T.2.2.1 m j := fun m j h6 => by rw [tf_T24c.2.2.2 m j h6, hI_T18c m j h6]
  have mm_T24c := MFq.tr mm_T12c mf_T24c
  obtain ⟨-, hg⟩ := oif_some hg
  obtain ⟨-, hg⟩ := oif_some hg
  obtain ⟨T30c, eT30c, hg⟩ := elet_some hg
  rw [k_v22c, nI_clamp (by omega)] at eT30c
  have r_T30c : T30c.2.2.2.2 = T.2.2.2.2 := by rw [eT30c]; exact r_T24c
  have hI_T30c : ∀ m j : Nat, m ≠ 6 → T30c.2.2.1 m j = if m = (s + 12) ∧ j = mc then r26c else if m = (s + 11) ∧ j = mc then r14c else T.2.2.1 m j := fun m j h6 => by rw [eT30c, ui_get, hI_T24c m j h6]
  have p_T30c := pr_uI (m := (s + 12)) (k := mc) (v := r26c) p_T24c (by omega)
  rw [← eT30c] at p_T30c
  obtain ⟨-, hg⟩ := oif_some hg
  obtain ⟨v32c, ev32c, hg⟩ := elet_some hg
  rw [hI_T30c _ _ (by omega)] at ev32c
  simp (disch := omega) only [if_neg, if_pos, and_self, and_true, true_and, and_false, false_and, if_true, if_false] at ev32c
  rw [b2] at ev32c
  have k_v32c : v32c = nI mc := ev32c
  obtain ⟨v33c, ev33c, hg⟩ := elet_some hg
  have k_v33c : v33c = nI (mc + 1) := by rw [ev33c, k_v32c]; exact nI_add (mc) 1
  obtain ⟨-, hg⟩ := oif_some hg
  obtain ⟨T35c, eT35c, hg⟩ := elet_some hg
  have r_T35c : T35c.2.2.2.2 = T.2.2.2.2 := by rw [eT35c]; exact r_T30c
  have hI_T35c : ∀ m j : Nat, m ≠ 6 → T35c.2.2.1 m j = if m = s ∧ j = 11 then v33c else if m = (s + 12) ∧ j = mc then r26c else if m = (s + 11) ∧ j = mc then r14c else T.2.2.1 m j := fun m j h6 => by rw [eT35c, ui_get, hI_T30c m j h6]
  have p_T35c := pr_uI (m := s) (k := 11) (v := v33c) p_T30c (by omega)
  rw [← eT35c] at p_T35c
  have g := osome3 hg
  rw [if_pos (by rw [ev13, p_T35c.2.2.1] <;> decide)] at hf
  obtain ⟨v15, ev15, hf⟩ := elet_some hf
  obtain ⟨-, hf⟩ := oif_some hf
  obtain ⟨S17, eS17, hf⟩ := elet_some hf
  obtain ⟨v18, ev18, hf⟩ := elet_some hf
  obtain ⟨-, hf⟩ := oif_some hf
  obtain ⟨S20, eS20, hf⟩ := elet_some hf
  obtain ⟨v21, ev21, hf⟩ := elet_some hf
  obtain ⟨v22, ev22, hf⟩ := elet_some hf
  obtain ⟨S23, eS23, hf⟩ := elet_some hf
  have k_l1 : v2 = nI mc := ev2
  have hP_S9 : ∀ x : Nat, S9.2.1 11 x = S.2.1 11 x := fun x => by rw [mm_T24c.1]
  have hD_S9 : ∀ x : Nat, S9.2.1 13 x = S.2.1 13 x := fun x => by rw [mm_T24c.1]
  have k_v15 : v15 = nI (72 + mc) := by rw [ev15, k_l1]; exact nI_add 72 (mc)
  rw [k_v15, nI_clamp (by omega)] at eS17
  have hP_S17 : ∀ x : Nat, S17.2.1 11 x = if x = (72 + mc) then r8 else S.2.1 11 x := fun x => by rw [eS17, mf_at]; show (if x = (72 + mc) then r8 else S9.2.1 11 x) = _; rw [hP_S9]
  have hD_S17 : ∀ x : Nat, S17.2.1 13 x = S.2.1 13 x := fun x => by rw [eS17, mf_ne (by decide), hD_S9]
  have k_v18 : v18 = nI (74 + mc) := by rw [ev18, k_l1]; exact nI_add 74 (mc)
  rw [k_v18, nI_clamp (by omega)] at eS20
  have hP_S20 : ∀ x : Nat, S20.2.1 11 x = if x = (74 + mc) then r12 else if x = (72 + mc) then r8 else S.2.1 11 x := fun x => by rw [eS20, mf_at]; show (if x = (74 + mc) then r12 else S17.2.1 11 x) = _; rw [hP_S17]
  have hD_S20 : ∀ x : Nat, S20.2.1 13 x = S.2.1 13 x := fun x => by rw [eS20, mf_ne (by decide), hD_S17]
  rw [hP_S20] at ev21
  (try simp (disch := omega) only [if_neg, if_pos, and_self, and_true, true_and, and_false, false_and, if_true, if_false] at ev21)
  rw [b3] at ev21
  have k_v21 : v21 = nI mc := ev21
  have k_v22 : v22 = nI (mc + 1) := by rw [ev22, k_v21]; exact nI_add (mc) 1
  have hP_S23 : ∀ x : Nat, S23.2.1 11 x = if x = 71 then v22 else if x = (74 + mc) then r12 else if x = (72 + mc) then r8 else S.2.1 11 x := fun x => by rw [eS23, mf_at]; show (if x = 71 then v22 else S20.2.1 11 x) = _; rw [hP_S20]
  have hD_S23 : ∀ x : Nat, S23.2.1 13 x = S.2.1 13 x := fun x => by rw [eS23, mf_ne (by decide), hD_S20]
  have p_S17 := pr_mfe p_T35c eS17 (by decide)
  have p_S20 := pr_mfe p_S17 eS20 (by decide)
  have p_S23 := pr_mfe p_S20 eS23 (by decide)
  have eS := osome1 (show some S23 = some S1 from hf)
  rw [← g.2.2, ← eS]
  exact .inl ⟨g.1.symm, ⟨_, by omega, p_S23⟩, ⟨gH.cg (fun j hj => by rw [hI_T35c _ _ (by omega)]; try simp (disch := omega) only [if_neg, if_pos, and_self, and_true, true_and, and_false, false_and, if_true, if_false]) (fun j hj => by rw [hP_S23]; try simp (disch := omega) only [if_neg, if_pos, and_self, and_true, true_and, and_false, false_and, if_true, if_false]), gM.cg (by rw [hI_T35c _ _ (by omega)]; try simp (disch := omega) only [if_neg, if_pos, and_self, and_true, true_and, and_false, false_and, if_true, if_false]) (fun m k hm hm2 => by rw [hI_T35c _ _ (by omega)]; try simp (disch := omega) only [if_neg, if_pos, and_self, and_true, true_and, and_false, false_and, if_true, if_false]) (fun j hj => by rw [hP_S23]; try simp (disch := omega) only [if_neg, if_pos, and_self, and_true, true_and, and_false, false_and, if_true, if_false]), gG.cg (fun k hk => by rw [hI_T35c _ _ (by omega)]; try simp (disch := omega) only [if_neg, if_pos, and_self, and_true, true_and, and_false, false_and, if_true, if_false]) (fun k => by rw [hI_T35c _ _ (by omega)]; try simp (disch := omega) only [if_neg, if_pos, and_self, and_true, true_and, and_false, false_and, if_true, if_false]) (fun j hj hj2 => by rw [hP_S23]; try simp (disch := omega) only [if_neg, if_pos, and_self, and_true, true_and, and_false, false_and, if_true, if_false]), gS.cg (by rw [hI_T35c _ _ (by omega)]; try simp (disch := omega) only [if_neg, if_pos, and_self, and_true, true_and, and_false, false_and, if_true, if_false]) (fun m k hm hm2 => by rw [hI_T35c _ _ (by omega)]; try simp (disch := omega) only [if_neg, if_pos, and_self, and_true, true_and, and_false, false_and, if_true, if_false]) (fun j hj => by rw [hP_S23]; try simp (disch := omega) only [if_neg, if_pos, and_self, and_true, true_and, and_false, false_and, if_true, if_false]) (fun j hj hj2 => by rw [hD_S23]; try simp (disch := omega) only [if_neg, if_pos, and_self, and_true, true_and, and_false, false_and, if_true, if_false]), ⟨mc + 1, by omega, (by rw [hI_T35c _ _ (by omega)]; (try simp (disch := omega) only [if_neg, if_pos, and_self, and_true, true_and, and_false, false_and, if_true, if_false]); try exact k_v33c), (by rw [hP_S23]; (try simp (disch := omega) only [if_neg, if_pos, and_self, and_true, true_and, and_false, false_and, if_true, if_false]); try exact k_v22), fun m hm => if e : m = mc then ⟨(by rw [e]; rw [hI_T35c _ _ (by omega), hP_S23]; (try simp (disch := omega) only [if_neg, if_pos, and_self, and_true, true_and, and_false, false_and, if_true, if_false]); try exact q_r14c.symm), (by rw [e]; rw [hI_T35c _ _ (by omega), hP_S23]; (try simp (disch := omega) only [if_neg, if_pos, and_self, and_true, true_and, and_false, false_and, if_true, if_false]); try exact q_r26c.symm)⟩ else ⟨(by rw [hI_T35c _ _ (by omega), hP_S23]; (try simp (disch := omega) only [if_neg, if_pos, and_self, and_true, true_and, and_false, false_and, if_true, if_false]); try exact (b4 m (by omega)).1), (by rw [hI_T35c _ _ (by omega), hP_S23]; (try simp (disch := omega) only [if_neg, if_pos, and_self, and_true, true_and, and_false, false_and, if_true, if_false]); try exact (b4 m (by omega)).2)⟩⟩, gF.cg (by rw [hI_T35c _ _ (by omega)]; try simp (disch := omega) only [if_neg, if_pos, and_self, and_true, true_and, and_false, false_and, if_true, if_false]) (by rw [hP_S23]; try simp (disch := omega) only [if_neg, if_pos, and_self, and_true, true_and, and_false, false_and, if_true, if_false]), gT.cg (by rw [hI_T35c _ _ (by omega)]; try simp (disch := omega) only [if_neg, if_pos, and_self, and_true, true_and, and_false, false_and, if_true, if_false]) (fun k => by rw [hI_T35c _ _ (by omega)]; try simp (disch := omega) only [if_neg, if_pos, and_self, and_true, true_and, and_false, false_and, if_true, if_false]) (fun j hj hj2 => by rw [hP_S23]; try simp (disch := omega) only [if_neg, if_pos, and_self, and_true, true_and, and_false, false_and, if_true, if_false]), gZ.cg (by rw [hI_T35c _ _ (by omega)]; try simp (disch := omega) only [if_neg, if_pos, and_self, and_true, true_and, and_false, false_and, if_true, if_false]) (fun m k hm hm2 => by rw [hI_T35c _ _ (by omega)]; try simp (disch := omega) only [if_neg, if_pos, and_self, and_true, true_and, and_false, false_and, if_true, if_false]) (fun j hj hj2 => by rw [hP_S23]; try simp (disch := omega) only [if_neg, if_pos, and_self, and_true, true_and, and_false, false_and, if_true, if_false]), gD.cg (by rw [hI_T35c _ _ (by omega)]; try simp (disch := omega) only [if_neg, if_pos, and_self, and_true, true_and, and_false, false_and, if_true, if_false]) (fun k => by rw [hI_T35c _ _ (by omega)]; try simp (disch := omega) only [if_neg, if_pos, and_self, and_true, true_and, and_false, false_and, if_true, if_false]) (fun j hj hj2 => by rw [hP_S23]; try simp (disch := omega) only [if_neg, if_pos, and_self, and_true, true_and, and_false, false_and, if_true, if_false]), (fun j hj => by rw [hD_S23]; (try simp (disch := omega) only [if_neg, if_pos, and_self, and_true, true_and, and_false, false_and, if_true, if_false]); try exact gX j hj)⟩, r_T35c⟩
set_option maxHeartbeats 4000000 in
set_option maxRecDepth 10000 in
theorem l_zone {b : Nat → Int32} {n c i k s : Nat} {T T1 : AT} {S S1 : MS} {r : Int32} (h : PRq b n c i T S) (hk : kd b n (pst b n i) = 1) (hs : s = 478 ∨ s = 656) (hF : SRF s T) (hC : SCNq s T (S.2.1 11) (S.2.1 13)) (hg : g_X3_parseZone T 6 (s + 2) = some (k, r, T1)) (hf : fr_readZone S = some S1) : LNq b n c i s T T1 S1 k := by
  obtain ⟨gH, gM, gG, gS, gW, gF, gT, gZ, gD, gX⟩ := hC
  obtain ⟨F1, F2, F3, F4, F5, F6, F7, F8, F9, F10, F11, F12, F13, F14, F15⟩ := hF
  obtain ⟨mc, b1, b2, b3, b4⟩ := gZ
  unfold g_X3_parseZone at hg
  obtain ⟨-, hg⟩ := oif_some hg
  obtain ⟨v3, ev3, hg⟩ := elet_some hg
  rw [b2] at ev3
  unfold fr_readZone at hf
  obtain ⟨v2, ev2, hf⟩ := elet_some hf
  rw [b3] at ev2
  have key : ∃ (a0 : Int32) (Sa : MS), g_X3_parseZone_b14 T a0 6 6 (s + 2) = some (k, r, T1) ∧ fr_readZone_b18 Sa v2 = some S1 ∧ ((a0 = 0 ∧ Sa = S) ∨ (a0 ≠ 0 ∧ fr_faults S 4 = some Sa)) ∧ (a0 = 0 → mc < 4) := by
    by_cases cm : mc < 4
    · rw [if_pos (by rw [ev3]; exact nI_lt (a := mc) (b := 4) cm (by decide))] at hg
      rw [if_neg (fun q => by rw [ev2] at q; have := (nI_eq (a := mc) (b := 4) (by omega) (by decide)).mp q; omega)] at hf
      exact ⟨0, S, hg, hf, .inl ⟨rfl, rfl⟩, fun _ => cm⟩
    · rw [if_neg (by rw [ev3]; exact nI_nlt (a := mc) (b := 4) (by omega) (by omega))] at hg
      rw [if_pos (by rw [ev2, show mc = 4 from by omega]; rfl)] at hf
      obtain ⟨S4, f4, hf⟩ := obind_some hf
      exact ⟨1, S4, hg, hf, .inr ⟨by decide, f4⟩, fun q => absurd q (by decide)⟩
  obtain ⟨a0, Sa, hg, hf, hcase, hmc⟩ := key
  unfold fr_readZone_b18 at hf
  obtain ⟨S2, fS2, hf⟩ := obind_some hf
  obtain ⟨v5, ev5, hf⟩ := elet_some hf
  obtain ⟨v6, ev6, hf⟩ := elet_some hf
  obtain ⟨r10, S7, fS7, hf⟩ := obind2_some hf
  obtain ⟨v11, ev11, hf⟩ := elet_some hf
  obtain ⟨v12, ev12, hf⟩ := elet_some hf
  obtain ⟨r16, S13, fS13, hf⟩ := obind2_some hf
  obtain ⟨v17, ev17, hf⟩ := elet_some hf
  obtain ⟨v18, ev18, hf⟩ := elet_some hf
  obtain ⟨r22, S19, fS19, hf⟩ := obind2_some hf
  obtain ⟨v23, ev23, hf⟩ := elet_some hf
  obtain ⟨v24, ev24, hf⟩ := elet_some hf
  obtain ⟨r28, S25, fS25, hf⟩ := obind2_some hf
  obtain ⟨v29, ev29, hf⟩ := elet_some hf
  have fin_S25 : 0 < (S25.1 5).toInt → S1 = S25 := fun q => by rw [if_neg (st_le q ev29)] at hf; exact (osome1 (show some S25 = some S1 from hf)).symm
  have fin_S19 : 0 < (S19.1 5).toInt → S1 = S19 := fun q => by have e := (st_number q fS25); exact (fin_S25 (by rw [e]; exact q)).trans e
  have fin_S13 : 0 < (S13.1 5).toInt → S1 = S13 := fun q => by have e := (st_number q fS19); exact (fin_S19 (by rw [e]; exact q)).trans e
  have fin_S7 : 0 < (S7.1 5).toInt → S1 = S7 := fun q => by have e := (st_number q fS13); exact (fin_S13 (by rw [e]; exact q)).trans e
  have fin_S2 : 0 < (S2.1 5).toInt → S1 = S2 := fun q => by have e := (st_number q fS7); exact (fin_S7 (by rw [e]; exact q)).trans e
  unfold g_X3_parseZone_b14 at hg
  obtain ⟨-, hg⟩ := oif_some hg
  rcases othr_k hg with ⟨r9, g9, z0⟩ | ⟨r5c, T3c, g9, hg⟩
  · rcases k_line h hk (by decide) g9 hcase fS2 with ⟨z, -⟩ | ⟨z1, z2⟩
    · exact absurd z z0
    · exact .inr ⟨z1, by rw [fin_S2 z2.1]; exact z2⟩
  rcases k_line h hk (by decide) g9 hcase fS2 with ⟨-, p_T3c, tf_T3c, m0, za⟩ | ⟨z1, -⟩
  rotate_left
  · exact absurd z1 (by decide)
  have cmc := hmc za
  have r_T3c : T3c.2.2.2.2 = T.2.2.2.2 := congrArg (fun x => x.2) tf_T3c.2.2.1
  have hI_T3c : ∀ m j : Nat, m ≠ 6 → T3c.2.2.1 m j = T.2.2.1 m j := fun m j h6 => by rw [tf_T3c.2.2.2 m j h6]
  obtain ⟨-, hg⟩ := oif_some hg
  obtain ⟨n8c, en8c, hg⟩ := obind_some hg
  rw [r_T3c, F12] at en8c
  cases en8c
  obtain ⟨-, hg⟩ := oif_some hg
  obtain ⟨v10c, ev10c, hg⟩ := elet_some hg
  rw [hI_T3c _ _ (by omega)] at ev10c
  rw [b2] at ev10c
  have k_v10c : v10c = nI mc := ev10c
  obtain ⟨-, hg⟩ := oif_some hg
  obtain ⟨-, hg⟩ := oif_some hg
  obtain ⟨n13c, en13c, hg⟩ := obind_some hg
  rw [k_v10c, nI_clamp (by omega)] at en13c
  rw [r_T3c, F13 _ (by omega)] at en13c
  cases en13c
  obtain ⟨-, hg⟩ := oif_some hg
  obtain ⟨v15c, ev15c, hg⟩ := elet_some hg
  rw [hI_T3c _ _ (by omega)] at ev15c
  rw [gG.1] at ev15c
  obtain ⟨v16c, ev16c, hg⟩ := elet_some hg
  obtain ⟨-, hg⟩ := oif_some hg
  have u1 : v16c = v6 := by rw [ev16c, ev15c, ev6, ev5, m0.1]
  rw [u1] at hg
  rcases othr_k hg with ⟨r9, g9, z0⟩ | ⟨r20c, T18c, g9, hg⟩
  · rcases k_number p_T3c g9 fS7 with ⟨z, -⟩ | ⟨z1, z2⟩
    · exact absurd z z0
    · exact .inr ⟨z1, by rw [fin_S7 z2.1]; exact z2⟩
  rcases k_number p_T3c g9 fS7 with ⟨-, q_r20c, lo_r20c, hi_r20c, p_T18c, tf_T18c, mf_T18c⟩ | ⟨z1, -⟩
  rotate_left
  · exact absurd z1 (by decide)
  have r_T18c : T18c.2.2.2.2 = T.2.2.2.2 := (congrArg (fun x => x.2) tf_T18c.2.2.1).trans r_T3c
  have hI_T18c : ∀ m j : Nat, m ≠ 6 → T18c.2.2.1 m j = T.2.2.1 m j := fun m j h6 => by rw [tf_T18c.2.2.2 m j h6, hI_T3c m j h6]
  have mm_T18c := MFq.tr m0 mf_T18c
  obtain ⟨-, hg⟩ := oif_some hg
  obtain ⟨-, hg⟩ := oif_some hg
  obtain ⟨T24c, eT24c, hg⟩ := elet_some hg
  rw [show (0 : Int32).toNatClampNeg = 0 from by decide] at eT24c
  have r_T24c : T24c.2.2.2.2 = T.2.2.2.2 := by rw [eT24c]; exact r_T18c
  have hI_T24c : ∀ m j : Nat, m ≠ 6 → T24c.2.2.1 m j = if m = (s + 5 + mc) ∧ j = 0 then r20c else T.2.2.1 m j := fun m j h6 => by rw [eT24c, ui_get, hI_T18c m j h6]
  have p_T24c := pr_uI (m := (s + 5 + mc)) (k := 0) (v := r20c) p_T18c (by omega)
  rw [← eT24c] at p_T24c
  obtain ⟨-, hg⟩ := oif_some hg
  obtain ⟨v26c, ev26c, hg⟩ := elet_some hg
  rw [hI_T24c _ _ (by omega)] at ev26c
  simp (disch := omega) only [if_neg, if_pos, and_self, and_true, true_and, and_false, false_and, if_true, if_false] at ev26c
  rw [gG.2.1] at ev26c
  obtain ⟨v27c, ev27c, hg⟩ := elet_some hg
  obtain ⟨-, hg⟩ := oif_some hg
  have u2 : v27c = v12 := by rw [ev27c, ev26c, ev12, ev11, mm_T18c.1]
  rw [u2] at hg
  rcases othr_k hg with ⟨r9, g9, z0⟩ | ⟨r31c, T29c, g9, hg⟩
  · rcases k_number p_T24c g9 fS13 with ⟨z, -⟩ | ⟨z1, z2⟩
    · exact absurd z z0
    · exact .inr ⟨z1, by rw [fin_S13 z2.1]; exact z2⟩
  rcases k_number p_T24c g9 fS13 with ⟨-, q_r31c, lo_r31c, hi_r31c, p_T29c, tf_T29c, mf_T29c⟩ | ⟨z1, -⟩
  rotate_left
  · exact absurd z1 (by decide)
  have r_T29c : T29c.2.2.2.2 = T.2.2.2.2 := (congrArg (fun x => x.2) tf_T29c.2.2.1).trans r_T24c
  have hI_T29c : ∀ m j : Nat, m ≠ 6 → T29c.2.2.1 m j = if m = (s + 5 + mc) ∧ j = 0 then r20c else T.2.2.1 m j := fun m j h6 => by rw [tf_T29c.2.2.2 m j h6, hI_T24c m j h6]
  have mm_T29c := MFq.tr mm_T18c mf_T29c
  obtain ⟨-, hg⟩ := oif_some hg
  obtain ⟨-, hg⟩ := oif_some hg
  obtain ⟨T35c, eT35c, hg⟩ := elet_some hg
  rw [show (1 : Int32).toNatClampNeg = 1 from by decide] at eT35c
  have r_T35c : T35c.2.2.2.2 = T.2.2.2.2 := by rw [eT35c]; exact r_T29c
  have hI_T35c : ∀ m j : Nat, m ≠ 6 → T35c.2.2.1 m j = if m = (s + 5 + mc) ∧ j = 1 then r31c else if m = (s + 5 + mc) ∧ j = 0 then r20c else T.2.2.1 m j := fun m j h6 => by rw [eT35c, ui_get, hI_T29c m j h6]
  have p_T35c := pr_uI (m := (s + 5 + mc)) (k := 1) (v := r31c) p_T29c (by omega)
  rw [← eT35c] at p_T35c
  obtain ⟨-, hg⟩ := oif_some hg
  obtain ⟨-, hg⟩ := oif_some hg
  obtain ⟨v38c, ev38c, hg⟩ := elet_some hg
  rw [show (0 : Int32).toNatClampNeg = 0 from by decide] at ev38c
  rw [hI_T35c _ _ (by omega)] at ev38c
  simp (disch := omega) only [if_neg, if_pos, and_self, and_true, true_and, and_false, false_and, if_true, if_false] at ev38c
  rw [ev38c] at hg
  obtain ⟨-, hg⟩ := oif_some hg
  obtain ⟨v40c, ev40c, hg⟩ := elet_some hg
  rw [hI_T35c _ _ (by omega)] at ev40c
  simp (disch := omega) only [if_neg, if_pos, and_self, and_true, true_and, and_false, false_and, if_true, if_false] at ev40c
  rw [gG.1] at ev40c
  obtain ⟨v41c, ev41c, hg⟩ := elet_some hg
  obtain ⟨-, hg⟩ := oif_some hg
  have u3 : v41c = v18 := by rw [ev41c, ev40c, ev18, ev17, mm_T29c.1]
  rw [u3] at hg
  rw [q_r20c] at fS19
  rcases othr_k hg with ⟨r9, g9, z0⟩ | ⟨r45c, T43c, g9, hg⟩
  · rcases k_number p_T35c g9 fS19 with ⟨z, -⟩ | ⟨z1, z2⟩
    · exact absurd z z0
    · exact .inr ⟨z1, by rw [fin_S19 z2.1]; exact z2⟩
  rcases k_number p_T35c g9 fS19 with ⟨-, q_r45c, lo_r45c, hi_r45c, p_T43c, tf_T43c, mf_T43c⟩ | ⟨z1, -⟩
  rotate_left
  · exact absurd z1 (by decide)
  have r_T43c : T43c.2.2.2.2 = T.2.2.2.2 := (congrArg (fun x => x.2) tf_T43c.2.2.1).trans r_T35c
  have hI_T43c : ∀ m j : Nat, m ≠ 6 → T43c.2.2.1 m j = if m = (s + 5 + mc) ∧ j = 1 then r31c else if m = (s + 5 + mc) ∧ j = 0 then r20c else T.2.2.1 m j := fun m j h6 => by rw [tf_T43c.2.2.2 m j h6, hI_T35c m j h6]
  have mm_T43c := MFq.tr mm_T29c mf_T43c
  obtain ⟨-, hg⟩ := oif_some hg
  obtain ⟨-, hg⟩ := oif_some hg
  obtain ⟨T49c, eT49c, hg⟩ := elet_some hg
  rw [show (2 : Int32).toNatClampNeg = 2 from by decide] at eT49c
  have r_T49c : T49c.2.2.2.2 = T.2.2.2.2 := by rw [eT49c]; exact r_T43c
  have hI_T49c : ∀ m j : Nat, m ≠ 6 → T49c.2.2.1 m j = if m = (s + 5 + mc) ∧ j = 2 then r45c else if m = (s + 5 + mc) ∧ j = 1 then r31c else if m = (s + 5 + mc) ∧ j = 0 then r20c else T.2.2.1 m j := fun m j h6 => by rw [eT49c, ui_get, hI_T43c m j h6]
  have p_T49c := pr_uI (m := (s + 5 + mc)) (k := 2) (v := r45c) p_T43c (by omega)
  rw [← eT49c] at p_T49c
  obtain ⟨-, hg⟩ := oif_some hg
  obtain ⟨-, hg⟩ := oif_some hg
  obtain ⟨v52c, ev52c, hg⟩ := elet_some hg
  rw [show (1 : Int32).toNatClampNeg = 1 from by decide] at ev52c
  rw [hI_T49c _ _ (by omega)] at ev52c
  simp (disch := omega) only [if_neg, if_pos, and_self, and_true, true_and, and_false, false_and, if_true, if_false] at ev52c
  rw [ev52c] at hg
  obtain ⟨-, hg⟩ := oif_some hg
  obtain ⟨v54c, ev54c, hg⟩ := elet_some hg
  rw [hI_T49c _ _ (by omega)] at ev54c
  simp (disch := omega) only [if_neg, if_pos, and_self, and_true, true_and, and_false, false_and, if_true, if_false] at ev54c
  rw [gG.2.1] at ev54c
  obtain ⟨v55c, ev55c, hg⟩ := elet_some hg
  obtain ⟨-, hg⟩ := oif_some hg
  have u4 : v55c = v24 := by rw [ev55c, ev54c, ev24, ev23, mm_T43c.1]
  rw [u4] at hg
  rw [q_r31c] at fS25
  rcases othr_k hg with ⟨r9, g9, z0⟩ | ⟨r59c, T57c, g9, hg⟩
  · rcases k_number p_T49c g9 fS25 with ⟨z, -⟩ | ⟨z1, z2⟩
    · exact absurd z z0
    · exact .inr ⟨z1, by rw [fin_S25 z2.1]; exact z2⟩
  rcases k_number p_T49c g9 fS25 with ⟨-, q_r59c, lo_r59c, hi_r59c, p_T57c, tf_T57c, mf_T57c⟩ | ⟨z1, -⟩
  rotate_left
  · exact absurd z1 (by decide)
  have r_T57c : T57c.2.2.2.2 = T.2.2.2.2 := (congrArg (fun x => x.2) tf_T57c.2.2.1).trans r_T49c
  have hI_T57c : ∀ m j : Nat, m ≠ 6 → T57c.2.2.1 m j = if m = (s + 5 + mc) ∧ j = 2 then r45c else if m = (s + 5 + mc) ∧ j = 1 then r31c else if m = (s + 5 + mc) ∧ j = 0 then r20c else T.2.2.1 m j := fun m j h6 => by rw [tf_T57c.2.2.2 m j h6, hI_T49c m j h6]
  have mm_T57c := MFq.tr mm_T43c mf_T57c
  obtain ⟨-, hg⟩ := oif_some hg
  obtain ⟨-, hg⟩ := oif_some hg
  obtain ⟨T63c, eT63c, hg⟩ := elet_some hg
  rw [show (3 : Int32).toNatClampNeg = 3 from by decide] at eT63c
  have r_T63c : T63c.2.2.2.2 = T.2.2.2.2 := by rw [eT63c]; exact r_T57c
  have hI_T63c : ∀ m j : Nat, m ≠ 6 → T63c.2.2.1 m j = if m = (s + 5 + mc) ∧ j = 3 then r59c else if m = (s + 5 + mc) ∧ j = 2 then r45c else if m = (s + 5 + mc) ∧ j = 1 then r31c else if m = (s + 5 + mc) ∧ j = 0 then r20c else T.2.2.1 m j := fun m j h6 => by rw [eT63c, ui_get, hI_T57c m j h6]
  have p_T63c := pr_uI (m := (s + 5 + mc)) (k := 3) (v := r59c) p_T57c (by omega)
  rw [← eT63c] at p_T63c
  obtain ⟨-, hg⟩ := oif_some hg
  obtain ⟨v65c, ev65c, hg⟩ := elet_some hg
  rw [hI_T63c _ _ (by omega)] at ev65c
  simp (disch := omega) only [if_neg, if_pos, and_self, and_true, true_and, and_false, false_and, if_true, if_false] at ev65c
  rw [b2] at ev65c
  have k_v65c : v65c = nI mc := ev65c
  obtain ⟨v66c, ev66c, hg⟩ := elet_some hg
  have k_v66c : v66c = nI (mc + 1) := by rw [ev66c, k_v65c]; exact nI_add (mc) 1
  obtain ⟨-, hg⟩ := oif_some hg
  obtain ⟨T68c, eT68c, hg⟩ := elet_some hg
  have r_T68c : T68c.2.2.2.2 = T.2.2.2.2 := by rw [eT68c]; exact r_T63c
  have hI_T68c : ∀ m j : Nat, m ≠ 6 → T68c.2.2.1 m j = if m = (s + 2) ∧ j = 7 then v66c else if m = (s + 5 + mc) ∧ j = 3 then r59c else if m = (s + 5 + mc) ∧ j = 2 then r45c else if m = (s + 5 + mc) ∧ j = 1 then r31c else if m = (s + 5 + mc) ∧ j = 0 then r20c else T.2.2.1 m j := fun m j h6 => by rw [eT68c, ui_get, hI_T63c m j h6]
  have p_T68c := pr_uI (m := (s + 2)) (k := 7) (v := v66c) p_T63c (by omega)
  rw [← eT68c] at p_T68c
  have g := osome3 hg
  rw [if_pos (by rw [ev29, p_T68c.2.2.1] <;> decide)] at hf
  obtain ⟨v31, ev31, hf⟩ := elet_some hf
  obtain ⟨v32, ev32, hf⟩ := elet_some hf
  obtain ⟨-, hf⟩ := oif_some hf
  obtain ⟨S34, eS34, hf⟩ := elet_some hf
  obtain ⟨v35, ev35, hf⟩ := elet_some hf
  obtain ⟨-, hf⟩ := oif_some hf
  obtain ⟨S37, eS37, hf⟩ := elet_some hf
  obtain ⟨v38, ev38, hf⟩ := elet_some hf
  obtain ⟨-, hf⟩ := oif_some hf
  obtain ⟨S40, eS40, hf⟩ := elet_some hf
  obtain ⟨v41, ev41, hf⟩ := elet_some hf
  obtain ⟨-, hf⟩ := oif_some hf
  obtain ⟨S43, eS43, hf⟩ := elet_some hf
  obtain ⟨v44, ev44, hf⟩ := elet_some hf
  obtain ⟨v45, ev45, hf⟩ := elet_some hf
  obtain ⟨S46, eS46, hf⟩ := elet_some hf
  have k_l1 : v2 = nI mc := ev2
  have hP_S25 : ∀ x : Nat, S25.2.1 11 x = S.2.1 11 x := fun x => by rw [mm_T57c.1]
  have hD_S25 : ∀ x : Nat, S25.2.1 13 x = S.2.1 13 x := fun x => by rw [mm_T57c.1]
  have k_v31 : v31 = nI (4 * mc) := by rw [ev31, k_l1]; rcases (show mc = 0 ∨ mc = 1 ∨ mc = 2 ∨ mc = 3 by omega) with y | y | y | y <;> rw [y] <;> decide
  have k_v32 : v32 = nI (102 + (4 * mc)) := by rw [ev32, k_v31]; exact nI_add 102 (4 * mc)
  rw [k_v32, nI_clamp (by omega)] at eS34
  have hP_S34 : ∀ x : Nat, S34.2.1 11 x = if x = (102 + (4 * mc)) then r10 else S.2.1 11 x := fun x => by rw [eS34, mf_at]; show (if x = (102 + (4 * mc)) then r10 else S25.2.1 11 x) = _; rw [hP_S25]
  have hD_S34 : ∀ x : Nat, S34.2.1 13 x = S.2.1 13 x := fun x => by rw [eS34, mf_ne (by decide), hD_S25]
  have k_v35 : v35 = nI (102 + (4 * mc) + 1) := by rw [ev35, k_v32]; exact nI_add (102 + (4 * mc)) 1
  rw [k_v35, nI_clamp (by omega)] at eS37
  have hP_S37 : ∀ x : Nat, S37.2.1 11 x = if x = (102 + (4 * mc) + 1) then r16 else if x = (102 + (4 * mc)) then r10 else S.2.1 11 x := fun x => by rw [eS37, mf_at]; show (if x = (102 + (4 * mc) + 1) then r16 else S34.2.1 11 x) = _; rw [hP_S34]
  have hD_S37 : ∀ x : Nat, S37.2.1 13 x = S.2.1 13 x := fun x => by rw [eS37, mf_ne (by decide), hD_S34]
  have k_v38 : v38 = nI (102 + (4 * mc) + 2) := by rw [ev38, k_v32]; exact nI_add (102 + (4 * mc)) 2
  rw [k_v38, nI_clamp (by omega)] at eS40
  have hP_S40 : ∀ x : Nat, S40.2.1 11 x = if x = (102 + (4 * mc) + 2) then r22 else if x = (102 + (4 * mc) + 1) then r16 else if x = (102 + (4 * mc)) then r10 else S.2.1 11 x := fun x => by rw [eS40, mf_at]; show (if x = (102 + (4 * mc) + 2) then r22 else S37.2.1 11 x) = _; rw [hP_S37]
  have hD_S40 : ∀ x : Nat, S40.2.1 13 x = S.2.1 13 x := fun x => by rw [eS40, mf_ne (by decide), hD_S37]
  have k_v41 : v41 = nI (102 + (4 * mc) + 3) := by rw [ev41, k_v32]; exact nI_add (102 + (4 * mc)) 3
  rw [k_v41, nI_clamp (by omega)] at eS43
  have hP_S43 : ∀ x : Nat, S43.2.1 11 x = if x = (102 + (4 * mc) + 3) then r28 else if x = (102 + (4 * mc) + 2) then r22 else if x = (102 + (4 * mc) + 1) then r16 else if x = (102 + (4 * mc)) then r10 else S.2.1 11 x := fun x => by rw [eS43, mf_at]; show (if x = (102 + (4 * mc) + 3) then r28 else S40.2.1 11 x) = _; rw [hP_S40]
  have hD_S43 : ∀ x : Nat, S43.2.1 13 x = S.2.1 13 x := fun x => by rw [eS43, mf_ne (by decide), hD_S40]
  rw [hP_S43] at ev44
  (try simp (disch := omega) only [if_neg, if_pos, and_self, and_true, true_and, and_false, false_and, if_true, if_false] at ev44)
  rw [b3] at ev44
  have k_v44 : v44 = nI mc := ev44
  have k_v45 : v45 = nI (mc + 1) := by rw [ev45, k_v44]; exact nI_add (mc) 1
  have hP_S46 : ∀ x : Nat, S46.2.1 11 x = if x = 101 then v45 else if x = (102 + (4 * mc) + 3) then r28 else if x = (102 + (4 * mc) + 2) then r22 else if x = (102 + (4 * mc) + 1) then r16 else if x = (102 + (4 * mc)) then r10 else S.2.1 11 x := fun x => by rw [eS46, mf_at]; show (if x = 101 then v45 else S43.2.1 11 x) = _; rw [hP_S43]
  have hD_S46 : ∀ x : Nat, S46.2.1 13 x = S.2.1 13 x := fun x => by rw [eS46, mf_ne (by decide), hD_S43]
  have p_S34 := pr_mfe p_T68c eS34 (by decide)
  have p_S37 := pr_mfe p_S34 eS37 (by decide)
  have p_S40 := pr_mfe p_S37 eS40 (by decide)
  have p_S43 := pr_mfe p_S40 eS43 (by decide)
  have p_S46 := pr_mfe p_S43 eS46 (by decide)
  have eS := osome1 (show some S46 = some S1 from hf)
  rw [← g.2.2, ← eS]
  exact .inl ⟨g.1.symm, ⟨_, by omega, p_S46⟩, ⟨gH.cg (fun j hj => by rw [hI_T68c _ _ (by omega)]; try simp (disch := omega) only [if_neg, if_pos, and_self, and_true, true_and, and_false, false_and, if_true, if_false]) (fun j hj => by rw [hP_S46]; try simp (disch := omega) only [if_neg, if_pos, and_self, and_true, true_and, and_false, false_and, if_true, if_false]), gM.cg (by rw [hI_T68c _ _ (by omega)]; try simp (disch := omega) only [if_neg, if_pos, and_self, and_true, true_and, and_false, false_and, if_true, if_false]) (fun m k hm hm2 => by rw [hI_T68c _ _ (by omega)]; try simp (disch := omega) only [if_neg, if_pos, and_self, and_true, true_and, and_false, false_and, if_true, if_false]) (fun j hj => by rw [hP_S46]; try simp (disch := omega) only [if_neg, if_pos, and_self, and_true, true_and, and_false, false_and, if_true, if_false]), gG.cg (fun k hk => by rw [hI_T68c _ _ (by omega)]; try simp (disch := omega) only [if_neg, if_pos, and_self, and_true, true_and, and_false, false_and, if_true, if_false]) (fun k => by rw [hI_T68c _ _ (by omega)]; try simp (disch := omega) only [if_neg, if_pos, and_self, and_true, true_and, and_false, false_and, if_true, if_false]) (fun j hj hj2 => by rw [hP_S46]; try simp (disch := omega) only [if_neg, if_pos, and_self, and_true, true_and, and_false, false_and, if_true, if_false]), gS.cg (by rw [hI_T68c _ _ (by omega)]; try simp (disch := omega) only [if_neg, if_pos, and_self, and_true, true_and, and_false, false_and, if_true, if_false]) (fun m k hm hm2 => by rw [hI_T68c _ _ (by omega)]; try simp (disch := omega) only [if_neg, if_pos, and_self, and_true, true_and, and_false, false_and, if_true, if_false]) (fun j hj => by rw [hP_S46]; try simp (disch := omega) only [if_neg, if_pos, and_self, and_true, true_and, and_false, false_and, if_true, if_false]) (fun j hj hj2 => by rw [hD_S46]; try simp (disch := omega) only [if_neg, if_pos, and_self, and_true, true_and, and_false, false_and, if_true, if_false]), gW.cg (by rw [hI_T68c _ _ (by omega)]; try simp (disch := omega) only [if_neg, if_pos, and_self, and_true, true_and, and_false, false_and, if_true, if_false]) (fun k => by rw [hI_T68c _ _ (by omega)]; try simp (disch := omega) only [if_neg, if_pos, and_self, and_true, true_and, and_false, false_and, if_true, if_false]) (fun k => by rw [hI_T68c _ _ (by omega)]; try simp (disch := omega) only [if_neg, if_pos, and_self, and_true, true_and, and_false, false_and, if_true, if_false]) (fun j hj hj2 => by rw [hP_S46]; try simp (disch := omega) only [if_neg, if_pos, and_self, and_true, true_and, and_false, false_and, if_true, if_false]), gF.cg (by rw [hI_T68c _ _ (by omega)]; try simp (disch := omega) only [if_neg, if_pos, and_self, and_true, true_and, and_false, false_and, if_true, if_false]) (by rw [hP_S46]; try simp (disch := omega) only [if_neg, if_pos, and_self, and_true, true_and, and_false, false_and, if_true, if_false]), gT.cg (by rw [hI_T68c _ _ (by omega)]; try simp (disch := omega) only [if_neg, if_pos, and_self, and_true, true_and, and_false, false_and, if_true, if_false]) (fun k => by rw [hI_T68c _ _ (by omega)]; try simp (disch := omega) only [if_neg, if_pos, and_self, and_true, true_and, and_false, false_and, if_true, if_false]) (fun j hj hj2 => by rw [hP_S46]; try simp (disch := omega) only [if_neg, if_pos, and_self, and_true, true_and, and_false, false_and, if_true, if_false]), ⟨mc + 1, by omega, (by rw [hI_T68c _ _ (by omega)]; (try simp (disch := omega) only [if_neg, if_pos, and_self, and_true, true_and, and_false, false_and, if_true, if_false]); try exact k_v66c), (by rw [hP_S46]; (try simp (disch := omega) only [if_neg, if_pos, and_self, and_true, true_and, and_false, false_and, if_true, if_false]); try exact k_v45), fun m hm j hj => if e : m = mc then (by rw [e]; rcases (show j = 0 ∨ j = 1 ∨ j = 2 ∨ j = 3 by omega) with e0 | e0 | e0 | e0 <;> subst e0 <;> rw [hI_T68c _ _ (by omega), hP_S46] <;> (try simp (disch := omega) only [if_neg, if_pos, and_self, and_true, true_and, and_false, false_and, if_true, if_false]) <;> first | done | exact q_r20c.symm | exact q_r31c.symm | exact q_r45c.symm | exact q_r59c.symm) else (by rw [hI_T68c _ _ (by omega), hP_S46]; (try simp (disch := omega) only [if_neg, if_pos, and_self, and_true, true_and, and_false, false_and, if_true, if_false]); try exact b4 m (by omega) j hj)⟩, gD.cg (by rw [hI_T68c _ _ (by omega)]; try simp (disch := omega) only [if_neg, if_pos, and_self, and_true, true_and, and_false, false_and, if_true, if_false]) (fun k => by rw [hI_T68c _ _ (by omega)]; try simp (disch := omega) only [if_neg, if_pos, and_self, and_true, true_and, and_false, false_and, if_true, if_false]) (fun j hj hj2 => by rw [hP_S46]; try simp (disch := omega) only [if_neg, if_pos, and_self, and_true, true_and, and_false, false_and, if_true, if_false]), (fun j hj => by rw [hD_S46]; (try simp (disch := omega) only [if_neg, if_pos, and_self, and_true, true_and, and_false, false_and, if_true, if_false]); try exact gX j hj)⟩, r_T68c⟩
set_option maxHeartbeats 4000000 in
set_option maxRecDepth 10000 in
theorem l_map {b : Nat → Int32} {n c i k s : Nat} {T T1 : AT} {S S1 : MS} {r : Int32} (h : PRq b n c i T S) (hk : kd b n (pst b n i) = 1) (hs : s = 478 ∨ s = 656) (hF : SRF s T) (hC : SCNq s T (S.2.1 11) (S.2.1 13)) (hg : g_X3_parseMap T 6 (s + 2) = some (k, r, T1)) (hf : fr_readMap S = some S1) : LNq b n c i s T T1 S1 k := by
  obtain ⟨gH, gM, gG, gS, gW, gF, gT, gZ, gD, gX⟩ := hC
  obtain ⟨F1, F2, F3, F4, F5, F6, F7, F8, F9, F10, F11, F12, F13, F14, F15⟩ := hF
  unfold g_X3_parseMap at hg
  obtain ⟨-, hg⟩ := oif_some hg
  obtain ⟨v3, ev3, hg⟩ := elet_some hg
  unfold fr_readMap at hf
  obtain ⟨v2, ev2, hf⟩ := elet_some hf
  have key : ∃ (a0 : Int32) (Sa : MS), g_X3_parseMap_b13 T a0 6 6 (s + 2) = some (k, r, T1) ∧ fr_readMap_b15 Sa = some S1 ∧ ((a0 = 0 ∧ Sa = S) ∨ (a0 ≠ 0 ∧ fr_faults S 3 = some Sa)) ∧ (a0 = 0 → True) := by
    by_cases cm : v3 ≤ 0
    · rw [if_pos cm] at hg
      have cr : v2 ≤ 0 ∧ True := by
        have z0 : (0 : Int32).toInt = 0 := by decide
        rw [gG.1] at ev3
        rcases gG.2.2 with ⟨y, -, -⟩ | ⟨y, y1, -⟩
        · rw [ev2, y]; exact ⟨by decide, trivial⟩
        · have := i_le cm; rw [ev3] at this; omega
      rw [if_pos cr.1] at hf
      exact ⟨0, S, hg, hf, .inl ⟨rfl, rfl⟩, fun _ => cr.2⟩
    · rw [if_neg cm] at hg
      have cr : ¬ v2 ≤ 0 := by
        have z0 : (0 : Int32).toInt = 0 := by decide
        rw [gG.1] at ev3
        intro q
        rcases gG.2.2 with ⟨y, y1, -⟩ | ⟨y, y1, -⟩
        · rw [ev3, y1] at cm; exact cm (by decide)
        · have := i_le q; rw [ev2] at this; omega
      rw [if_neg cr] at hf
      obtain ⟨S4, f4, hf⟩ := obind_some hf
      exact ⟨1, S4, hg, hf, .inr ⟨by decide, f4⟩, fun q => absurd q (by decide)⟩
  obtain ⟨a0, Sa, hg, hf, hcase, hmc⟩ := key
  unfold fr_readMap_b15 at hf
  obtain ⟨S2, fS2, hf⟩ := obind_some hf
  obtain ⟨r8, S5, fS5, hf⟩ := obind2_some hf
  obtain ⟨r12, S9, fS9, hf⟩ := obind2_some hf
  obtain ⟨r16, S13, fS13, hf⟩ := obind2_some hf
  obtain ⟨r20, S17, fS17, hf⟩ := obind2_some hf
  obtain ⟨r24, S21, fS21, hf⟩ := obind2_some hf
  obtain ⟨v25, ev25, hf⟩ := elet_some hf
  have fin_S21 : 0 < (S21.1 5).toInt → S1 = S21 := fun q => by rw [if_neg (st_le q ev25)] at hf; exact (osome1 (show some S21 = some S1 from hf)).symm
  have fin_S17 : 0 < (S17.1 5).toInt → S1 = S17 := fun q => by have e := (st_number q fS21); exact (fin_S21 (by rw [e]; exact q)).trans e
  have fin_S13 : 0 < (S13.1 5).toInt → S1 = S13 := fun q => by have e := (st_number q fS17); exact (fin_S17 (by rw [e]; exact q)).trans e
  have fin_S9 : 0 < (S9.1 5).toInt → S1 = S9 := fun q => by have e := (st_number q fS13); exact (fin_S13 (by rw [e]; exact q)).trans e
  have fin_S5 : 0 < (S5.1 5).toInt → S1 = S5 := fun q => by have e := (st_signed q fS9); exact (fin_S9 (by rw [e]; exact q)).trans e
  have fin_S2 : 0 < (S2.1 5).toInt → S1 = S2 := fun q => by have e := (st_signed q fS5); exact (fin_S5 (by rw [e]; exact q)).trans e
  unfold g_X3_parseMap_b13 at hg
  obtain ⟨-, hg⟩ := oif_some hg
  rcases othr_k hg with ⟨r9, g9, z0⟩ | ⟨r5c, T3c, g9, hg⟩
  · rcases k_line h hk (by decide) g9 hcase fS2 with ⟨z, -⟩ | ⟨z1, z2⟩
    · exact absurd z z0
    · exact .inr ⟨z1, by rw [fin_S2 z2.1]; exact z2⟩
  rcases k_line h hk (by decide) g9 hcase fS2 with ⟨-, p_T3c, tf_T3c, m0, za⟩ | ⟨z1, -⟩
  rotate_left
  · exact absurd z1 (by decide)
  have cmc := hmc za
  have r_T3c : T3c.2.2.2.2 = T.2.2.2.2 := congrArg (fun x => x.2) tf_T3c.2.2.1
  have hI_T3c : ∀ m j : Nat, m ≠ 6 → T3c.2.2.1 m j = T.2.2.1 m j := fun m j h6 => by rw [tf_T3c.2.2.2 m j h6]
  obtain ⟨-, hg⟩ := oif_some hg
  rcases othr_k hg with ⟨r9, g9, z0⟩ | ⟨r10c, T8c, g9, hg⟩
  · rcases k_signed p_T3c g9 fS5 with ⟨z, -⟩ | ⟨z1, z2⟩
    · exact absurd z z0
    · exact .inr ⟨z1, by rw [fin_S5 z2.1]; exact z2⟩
  rcases k_signed p_T3c g9 fS5 with ⟨-, q_r10c, ⟨i_T8c, l_T8c, p_T8c⟩, tf_T8c, mf_T8c⟩ | ⟨z1, -⟩
  rotate_left
  · exact absurd z1 (by decide)
  have r_T8c : T8c.2.2.2.2 = T.2.2.2.2 := (congrArg (fun x => x.2) tf_T8c.2.2.1).trans r_T3c
  have hI_T8c : ∀ m j : Nat, m ≠ 6 → T8c.2.2.1 m j = T.2.2.1 m j := fun m j h6 => by rw [tf_T8c.2.2.2 m j h6, hI_T3c m j h6]
  have mm_T8c := MFq.tr m0 mf_T8c
  obtain ⟨-, hg⟩ := oif_some hg
  obtain ⟨T13c, eT13c, hg⟩ := elet_some hg
  have r_T13c : T13c.2.2.2.2 = T.2.2.2.2 := by rw [eT13c]; exact r_T8c
  have hI_T13c : ∀ m j : Nat, m ≠ 6 → T13c.2.2.1 m j = if m = (s + 2) ∧ j = 0 then r10c else T.2.2.1 m j := fun m j h6 => by rw [eT13c, ui_get, hI_T8c m j h6]
  have p_T13c := pr_uI (m := (s + 2)) (k := 0) (v := r10c) p_T8c (by omega)
  rw [← eT13c] at p_T13c
  obtain ⟨-, hg⟩ := oif_some hg
  rcases othr_k hg with ⟨r9, g9, z0⟩ | ⟨r17c, T15c, g9, hg⟩
  · rcases k_signed p_T13c g9 fS9 with ⟨z, -⟩ | ⟨z1, z2⟩
    · exact absurd z z0
    · exact .inr ⟨z1, by rw [fin_S9 z2.1]; exact z2⟩
  rcases k_signed p_T13c g9 fS9 with ⟨-, q_r17c, ⟨i_T15c, l_T15c, p_T15c⟩, tf_T15c, mf_T15c⟩ | ⟨z1, -⟩
  rotate_left
  · exact absurd z1 (by decide)
  have r_T15c : T15c.2.2.2.2 = T.2.2.2.2 := (congrArg (fun x => x.2) tf_T15c.2.2.1).trans r_T13c
  have hI_T15c : ∀ m j : Nat, m ≠ 6 → T15c.2.2.1 m j = if m = (s + 2) ∧ j = 0 then r10c else T.2.2.1 m j := fun m j h6 => by rw [tf_T15c.2.2.2 m j h6, hI_T13c m j h6]
  have mm_T15c := MFq.tr mm_T8c mf_T15c
  obtain ⟨-, hg⟩ := oif_some hg
  obtain ⟨T20c, eT20c, hg⟩ := elet_some hg
  have r_T20c : T20c.2.2.2.2 = T.2.2.2.2 := by rw [eT20c]; exact r_T15c
  have hI_T20c : ∀ m j : Nat, m ≠ 6 → T20c.2.2.1 m j = if m = (s + 2) ∧ j = 1 then r17c else if m = (s + 2) ∧ j = 0 then r10c else T.2.2.1 m j := fun m j h6 => by rw [eT20c, ui_get, hI_T15c m j h6]
  have p_T20c := pr_uI (m := (s + 2)) (k := 1) (v := r17c) p_T15c (by omega)
  rw [← eT20c] at p_T20c
  obtain ⟨-, hg⟩ := oif_some hg
  rcases othr_k hg with ⟨r9, g9, z0⟩ | ⟨r24c, T22c, g9, hg⟩
  · rcases k_number p_T20c g9 fS13 with ⟨z, -⟩ | ⟨z1, z2⟩
    · exact absurd z z0
    · exact .inr ⟨z1, by rw [fin_S13 z2.1]; exact z2⟩
  rcases k_number p_T20c g9 fS13 with ⟨-, q_r24c, lo_r24c, hi_r24c, p_T22c, tf_T22c, mf_T22c⟩ | ⟨z1, -⟩
  rotate_left
  · exact absurd z1 (by decide)
  have r_T22c : T22c.2.2.2.2 = T.2.2.2.2 := (congrArg (fun x => x.2) tf_T22c.2.2.1).trans r_T20c
  have hI_T22c : ∀ m j : Nat, m ≠ 6 → T22c.2.2.1 m j = if m = (s + 2) ∧ j = 1 then r17c else if m = (s + 2) ∧ j = 0 then r10c else T.2.2.1 m j := fun m j h6 => by rw [tf_T22c.2.2.2 m j h6, hI_T20c m j h6]
  have mm_T22c := MFq.tr mm_T15c mf_T22c
  obtain ⟨-, hg⟩ := oif_some hg
  obtain ⟨T27c, eT27c, hg⟩ := elet_some hg
  have r_T27c : T27c.2.2.2.2 = T.2.2.2.2 := by rw [eT27c]; exact r_T22c
  have hI_T27c : ∀ m j : Nat, m ≠ 6 → T27c.2.2.1 m j = if m = (s + 2) ∧ j = 2 then r24c else if m = (s + 2) ∧ j = 1 then r17c else if m = (s + 2) ∧ j = 0 then r10c else T.2.2.1 m j := fun m j h6 => by rw [eT27c, ui_get, hI_T22c m j h6]
  have p_T27c := pr_uI (m := (s + 2)) (k := 2) (v := r24c) p_T22c (by omega)
  rw [← eT27c] at p_T27c
  obtain ⟨-, hg⟩ := oif_some hg
  rcases othr_k hg with ⟨r9, g9, z0⟩ | ⟨r31c, T29c, g9, hg⟩
  · rcases k_number p_T27c g9 fS17 with ⟨z, -⟩ | ⟨z1, z2⟩
    · exact absurd z z0
    · exact .inr ⟨z1, by rw [fin_S17 z2.1]; exact z2⟩
  rcases k_number p_T27c g9 fS17 with ⟨-, q_r31c, lo_r31c, hi_r31c, p_T29c, tf_T29c, mf_T29c⟩ | ⟨z1, -⟩
  rotate_left
  · exact absurd z1 (by decide)
  have r_T29c : T29c.2.2.2.2 = T.2.2.2.2 := (congrArg (fun x => x.2) tf_T29c.2.2.1).trans r_T27c
  have hI_T29c : ∀ m j : Nat, m ≠ 6 → T29c.2.2.1 m j = if m = (s + 2) ∧ j = 2 then r24c else if m = (s + 2) ∧ j = 1 then r17c else if m = (s + 2) ∧ j = 0 then r10c else T.2.2.1 m j := fun m j h6 => by rw [tf_T29c.2.2.2 m j h6, hI_T27c m j h6]
  have mm_T29c := MFq.tr mm_T22c mf_T29c
  obtain ⟨-, hg⟩ := oif_some hg
  rcases othr_k hg with ⟨r9, g9, z0⟩ | ⟨r36c, T34c, g9, hg⟩
  · rcases k_number p_T29c g9 fS21 with ⟨z, -⟩ | ⟨z1, z2⟩
    · exact absurd z z0
    · exact .inr ⟨z1, by rw [fin_S21 z2.1]; exact z2⟩
  rcases k_number p_T29c g9 fS21 with ⟨-, q_r36c, lo_r36c, hi_r36c, p_T34c, tf_T34c, mf_T34c⟩ | ⟨z1, -⟩
  rotate_left
  · exact absurd z1 (by decide)
  have r_T34c : T34c.2.2.2.2 = T.2.2.2.2 := (congrArg (fun x => x.2) tf_T34c.2.2.1).trans r_T29c
  have hI_T34c : ∀ m j : Nat, m ≠ 6 → T34c.2.2.1 m j = if m = (s + 2) ∧ j = 2 then r24c else if m = (s + 2) ∧ j = 1 then r17c else if m = (s + 2) ∧ j = 0 then r10c else T.2.2.1 m j := fun m j h6 => by rw [tf_T34c.2.2.2 m j h6, hI_T29c m j h6]
  have mm_T34c := MFq.tr mm_T29c mf_T34c
  obtain ⟨-, hg⟩ := oif_some hg
  obtain ⟨T39c, o39, hg⟩ := obind_some hg
  unfold g_X1_open at o39
  obtain ⟨-, o39⟩ := oif_some o39
  obtain ⟨T3o, eT3o, o39⟩ := elet_some o39
  have r_T3o : T3o.2.2.2.2 = T.2.2.2.2 := by rw [eT3o]; exact r_T34c
  have hI_T3o : ∀ m j : Nat, m ≠ 6 → T3o.2.2.1 m j = if m = (s + 2) ∧ j = 3 then r31c else if m = (s + 2) ∧ j = 2 then r24c else if m = (s + 2) ∧ j = 1 then r17c else if m = (s + 2) ∧ j = 0 then r10c else T.2.2.1 m j := fun m j h6 => by rw [eT3o, ui_get, hI_T34c m j h6]
  have p_T3o := pr_uI (m := (s + 2)) (k := 3) (v := r31c) p_T34c (by omega)
  rw [← eT3o] at p_T3o
  obtain ⟨-, o39⟩ := oif_some o39
  obtain ⟨T5o, eT5o, o39⟩ := elet_some o39
  have r_T5o : T5o.2.2.2.2 = T.2.2.2.2 := by rw [eT5o]; exact r_T3o
  have hI_T5o : ∀ m j : Nat, m ≠ 6 → T5o.2.2.1 m j = if m = (s + 2) ∧ j = 4 then r36c else if m = (s + 2) ∧ j = 3 then r31c else if m = (s + 2) ∧ j = 2 then r24c else if m = (s + 2) ∧ j = 1 then r17c else if m = (s + 2) ∧ j = 0 then r10c else T.2.2.1 m j := fun m j h6 => by rw [eT5o, ui_get, hI_T3o m j h6]
  have p_T5o := pr_uI (m := (s + 2)) (k := 4) (v := r36c) p_T3o (by omega)
  rw [← eT5o] at p_T5o
  obtain ⟨-, o39⟩ := oif_some o39
  obtain ⟨n7o, en7o, o39⟩ := obind_some o39
  rw [r_T5o, F11] at en7o
  cases en7o
  obtain ⟨v8o, ev8o, o39⟩ := elet_some o39
  obtain ⟨-, o39⟩ := oif_some o39
  obtain ⟨-, o39⟩ := oif_some o39
  obtain ⟨T11o, eT11o, o39⟩ := elet_some o39
  rw [show (2 : Int32).toNatClampNeg = 2 from by decide] at eT11o
  have r_T11o : T11o.2.2.2.2 = T.2.2.2.2 := by rw [eT11o]; exact r_T5o
  have hI_T11o : ∀ m j : Nat, m ≠ 6 → T11o.2.2.1 m j = if m = (s + 3) ∧ j = 2 then v8o else if m = (s + 2) ∧ j = 4 then r36c else if m = (s + 2) ∧ j = 3 then r31c else if m = (s + 2) ∧ j = 2 then r24c else if m = (s + 2) ∧ j = 1 then r17c else if m = (s + 2) ∧ j = 0 then r10c else T.2.2.1 m j := fun m j h6 => by rw [eT11o, ui_get, hI_T5o m j h6]
  have p_T11o := pr_uI (m := (s + 3)) (k := 2) (v := v8o) p_T5o (by omega)
  rw [← eT11o] at p_T11o
  obtain ⟨-, o39⟩ := oif_some o39
  obtain ⟨n13o, en13o, o39⟩ := obind_some o39
  rw [r_T11o, F11] at en13o
  cases en13o
  obtain ⟨v14o, ev14o, o39⟩ := elet_some o39
  obtain ⟨-, o39⟩ := oif_some o39
  obtain ⟨-, o39⟩ := oif_some o39
  obtain ⟨T17o, eT17o, o39⟩ := elet_some o39
  rw [show (3 : Int32).toNatClampNeg = 3 from by decide] at eT17o
  have r_T17o : T17o.2.2.2.2 = T.2.2.2.2 := by rw [eT17o]; exact r_T11o
  have hI_T17o : ∀ m j : Nat, m ≠ 6 → T17o.2.2.1 m j = if m = (s + 3) ∧ j = 3 then v14o else if m = (s + 3) ∧ j = 2 then v8o else if m = (s + 2) ∧ j = 4 then r36c else if m = (s + 2) ∧ j = 3 then r31c else if m = (s + 2) ∧ j = 2 then r24c else if m = (s + 2) ∧ j = 1 then r17c else if m = (s + 2) ∧ j = 0 then r10c else T.2.2.1 m j := fun m j h6 => by rw [eT17o, ui_get, hI_T11o m j h6]
  have p_T17o := pr_uI (m := (s + 3)) (k := 3) (v := v14o) p_T11o (by omega)
  rw [← eT17o] at p_T17o
  have o40 := osome1 o39
  rw [← o40] at hg
  have g := osome3 hg
  rw [if_pos (by rw [ev25, p_T17o.2.2.1] <;> decide)] at hf
  obtain ⟨S27, eS27, hf⟩ := elet_some hf
  obtain ⟨S28, eS28, hf⟩ := elet_some hf
  obtain ⟨S29, eS29, hf⟩ := elet_some hf
  obtain ⟨S30, eS30, hf⟩ := elet_some hf
  obtain ⟨S31, eS31, hf⟩ := elet_some hf
  skip
  have hP_S21 : ∀ x : Nat, S21.2.1 11 x = S.2.1 11 x := fun x => by rw [mm_T34c.1]
  have hD_S21 : ∀ x : Nat, S21.2.1 13 x = S.2.1 13 x := fun x => by rw [mm_T34c.1]
  have hP_S27 : ∀ x : Nat, S27.2.1 11 x = if x = 6 then r8 else S.2.1 11 x := fun x => by rw [eS27, mf_at]; show (if x = 6 then r8 else S21.2.1 11 x) = _; rw [hP_S21]
  have hD_S27 : ∀ x : Nat, S27.2.1 13 x = S.2.1 13 x := fun x => by rw [eS27, mf_ne (by decide), hD_S21]
  have hP_S28 : ∀ x : Nat, S28.2.1 11 x = if x = 7 then r12 else if x = 6 then r8 else S.2.1 11 x := fun x => by rw [eS28, mf_at]; show (if x = 7 then r12 else S27.2.1 11 x) = _; rw [hP_S27]
  have hD_S28 : ∀ x : Nat, S28.2.1 13 x = S.2.1 13 x := fun x => by rw [eS28, mf_ne (by decide), hD_S27]
  have hP_S29 : ∀ x : Nat, S29.2.1 11 x = if x = 8 then r16 else if x = 7 then r12 else if x = 6 then r8 else S.2.1 11 x := fun x => by rw [eS29, mf_at]; show (if x = 8 then r16 else S28.2.1 11 x) = _; rw [hP_S28]
  have hD_S29 : ∀ x : Nat, S29.2.1 13 x = S.2.1 13 x := fun x => by rw [eS29, mf_ne (by decide), hD_S28]
  have hP_S30 : ∀ x : Nat, S30.2.1 11 x = if x = 9 then r20 else if x = 8 then r16 else if x = 7 then r12 else if x = 6 then r8 else S.2.1 11 x := fun x => by rw [eS30, mf_at]; show (if x = 9 then r20 else S29.2.1 11 x) = _; rw [hP_S29]
  have hD_S30 : ∀ x : Nat, S30.2.1 13 x = S.2.1 13 x := fun x => by rw [eS30, mf_ne (by decide), hD_S29]
  have hP_S31 : ∀ x : Nat, S31.2.1 11 x = if x = 10 then r24 else if x = 9 then r20 else if x = 8 then r16 else if x = 7 then r12 else if x = 6 then r8 else S.2.1 11 x := fun x => by rw [eS31, mf_at]; show (if x = 10 then r24 else S30.2.1 11 x) = _; rw [hP_S30]
  have hD_S31 : ∀ x : Nat, S31.2.1 13 x = S.2.1 13 x := fun x => by rw [eS31, mf_ne (by decide), hD_S30]
  have p_S27 := pr_mfe p_T17o eS27 (by decide)
  have p_S28 := pr_mfe p_S27 eS28 (by decide)
  have p_S29 := pr_mfe p_S28 eS29 (by decide)
  have p_S30 := pr_mfe p_S29 eS30 (by decide)
  have p_S31 := pr_mfe p_S30 eS31 (by decide)
  have eS := osome1 (show some S31 = some S1 from hf)
  rw [← g.2.2, ← eS]
  exact .inl ⟨g.1.symm, ⟨_, by omega, p_S31⟩, ⟨gH.cg (fun j hj => by rw [hI_T17o _ _ (by omega)]; try simp (disch := omega) only [if_neg, if_pos, and_self, and_true, true_and, and_false, false_and, if_true, if_false]) (fun j hj => by rw [hP_S31]; try simp (disch := omega) only [if_neg, if_pos, and_self, and_true, true_and, and_false, false_and, if_true, if_false]), gM.cg (by rw [hI_T17o _ _ (by omega)]; try simp (disch := omega) only [if_neg, if_pos, and_self, and_true, true_and, and_false, false_and, if_true, if_false]) (fun m k hm hm2 => by rw [hI_T17o _ _ (by omega)]; try simp (disch := omega) only [if_neg, if_pos, and_self, and_true, true_and, and_false, false_and, if_true, if_false]) (fun j hj => by rw [hP_S31]; try simp (disch := omega) only [if_neg, if_pos, and_self, and_true, true_and, and_false, false_and, if_true, if_false]), ⟨(by rw [hI_T17o _ _ (by omega), hP_S31]; (try simp (disch := omega) only [if_neg, if_pos, and_self, and_true, true_and, and_false, false_and, if_true, if_false]); try exact q_r31c.symm), (by rw [hI_T17o _ _ (by omega), hP_S31]; (try simp (disch := omega) only [if_neg, if_pos, and_self, and_true, true_and, and_false, false_and, if_true, if_false]); try exact q_r36c.symm), .inr ⟨(by rw [hP_S31]; (try simp (disch := omega) only [if_neg, if_pos, and_self, and_true, true_and, and_false, false_and, if_true, if_false]); (try rw [q_r24c]); try exact lo_r24c), (by rw [hP_S31]; (try simp (disch := omega) only [if_neg, if_pos, and_self, and_true, true_and, and_false, false_and, if_true, if_false]); (try rw [q_r31c]); try exact lo_r31c), (by rw [hI_T17o _ _ (by omega), hP_S31]; (try simp (disch := omega) only [if_neg, if_pos, and_self, and_true, true_and, and_false, false_and, if_true, if_false]); try exact q_r10c.symm), (by rw [hI_T17o _ _ (by omega), hP_S31]; (try simp (disch := omega) only [if_neg, if_pos, and_self, and_true, true_and, and_false, false_and, if_true, if_false]); try exact q_r17c.symm), (by rw [hI_T17o _ _ (by omega), hP_S31]; (try simp (disch := omega) only [if_neg, if_pos, and_self, and_true, true_and, and_false, false_and, if_true, if_false]); try exact q_r24c.symm), (by rw [hI_T17o _ _ (by omega), hP_S31]; (try simp (disch := omega) only [if_neg, if_pos, and_self, and_true, true_and, and_false, false_and, if_true, if_false]); (try rw [q_r31c]); try exact ev8o), (by rw [hI_T17o _ _ (by omega), hP_S31]; (try simp (disch := omega) only [if_neg, if_pos, and_self, and_true, true_and, and_false, false_and, if_true, if_false]); (try rw [q_r36c]); try exact ev14o)⟩⟩, gS.cg (by rw [hI_T17o _ _ (by omega)]; try simp (disch := omega) only [if_neg, if_pos, and_self, and_true, true_and, and_false, false_and, if_true, if_false]) (fun m k hm hm2 => by rw [hI_T17o _ _ (by omega)]; try simp (disch := omega) only [if_neg, if_pos, and_self, and_true, true_and, and_false, false_and, if_true, if_false]) (fun j hj => by rw [hP_S31]; try simp (disch := omega) only [if_neg, if_pos, and_self, and_true, true_and, and_false, false_and, if_true, if_false]) (fun j hj hj2 => by rw [hD_S31]; try simp (disch := omega) only [if_neg, if_pos, and_self, and_true, true_and, and_false, false_and, if_true, if_false]), gW.cg (by rw [hI_T17o _ _ (by omega)]; try simp (disch := omega) only [if_neg, if_pos, and_self, and_true, true_and, and_false, false_and, if_true, if_false]) (fun k => by rw [hI_T17o _ _ (by omega)]; try simp (disch := omega) only [if_neg, if_pos, and_self, and_true, true_and, and_false, false_and, if_true, if_false]) (fun k => by rw [hI_T17o _ _ (by omega)]; try simp (disch := omega) only [if_neg, if_pos, and_self, and_true, true_and, and_false, false_and, if_true, if_false]) (fun j hj hj2 => by rw [hP_S31]; try simp (disch := omega) only [if_neg, if_pos, and_self, and_true, true_and, and_false, false_and, if_true, if_false]), gF.cg (by rw [hI_T17o _ _ (by omega)]; try simp (disch := omega) only [if_neg, if_pos, and_self, and_true, true_and, and_false, false_and, if_true, if_false]) (by rw [hP_S31]; try simp (disch := omega) only [if_neg, if_pos, and_self, and_true, true_and, and_false, false_and, if_true, if_false]), gT.cg (by rw [hI_T17o _ _ (by omega)]; try simp (disch := omega) only [if_neg, if_pos, and_self, and_true, true_and, and_false, false_and, if_true, if_false]) (fun k => by rw [hI_T17o _ _ (by omega)]; try simp (disch := omega) only [if_neg, if_pos, and_self, and_true, true_and, and_false, false_and, if_true, if_false]) (fun j hj hj2 => by rw [hP_S31]; try simp (disch := omega) only [if_neg, if_pos, and_self, and_true, true_and, and_false, false_and, if_true, if_false]), gZ.cg (by rw [hI_T17o _ _ (by omega)]; try simp (disch := omega) only [if_neg, if_pos, and_self, and_true, true_and, and_false, false_and, if_true, if_false]) (fun m k hm hm2 => by rw [hI_T17o _ _ (by omega)]; try simp (disch := omega) only [if_neg, if_pos, and_self, and_true, true_and, and_false, false_and, if_true, if_false]) (fun j hj hj2 => by rw [hP_S31]; try simp (disch := omega) only [if_neg, if_pos, and_self, and_true, true_and, and_false, false_and, if_true, if_false]), gD.cg (by rw [hI_T17o _ _ (by omega)]; try simp (disch := omega) only [if_neg, if_pos, and_self, and_true, true_and, and_false, false_and, if_true, if_false]) (fun k => by rw [hI_T17o _ _ (by omega)]; try simp (disch := omega) only [if_neg, if_pos, and_self, and_true, true_and, and_false, false_and, if_true, if_false]) (fun j hj hj2 => by rw [hP_S31]; try simp (disch := omega) only [if_neg, if_pos, and_self, and_true, true_and, and_false, false_and, if_true, if_false]), (fun j hj => by rw [hD_S31]; (try simp (disch := omega) only [if_neg, if_pos, and_self, and_true, true_and, and_false, false_and, if_true, if_false]); try exact gX j hj)⟩, r_T17o⟩
set_option maxHeartbeats 4000000 in
set_option maxRecDepth 10000 in
theorem l_src2 {b : Nat → Int32} {n c i i0 k s mc : Nat} {T Tq T1 : AT} {S Sq S1 : MS} {r s0 l1 l2 l3 l4 l5 l6 l7 l8 l9 : Int32} (pq : PRq b n c i0 Tq Sq) (hi0 : i < i0) (hs : s = 478 ∨ s = 656) (gH : HDg s T (S.2.1 11)) (gM : MICg s T (S.2.1 11)) (gG : GRDg s T (S.2.1 11)) (b2 : T.2.2.1 s 8 = nI mc) (b3 : S.2.1 11 5 = nI mc) (b4 : ∀ k, k < mc → T.2.2.1 (s + 172 + k) 0 = S.2.1 11 (47 + k) ∧ T.2.2.1 (s + 172 + k) 5 = S.2.1 11 (53 + k) ∧ T.2.2.1 (s + 172 + k) 6 = S.2.1 11 (59 + k) ∧ T.2.2.1 (s + 172 + k) 7 = S.2.1 11 (65 + k) ∧ T.2.2.1 (s + 172 + k) 8 = S.2.1 11 (95 + k) ∧ (T.2.2.1 (s + 172 + k) 9 = 0 ∧ S.2.1 13 (25 + k) = 1 ∨ T.2.2.1 (s + 172 + k) 9 = 1 ∧ S.2.1 13 (25 + k) = 0) ∧ T.2.2.1 (s + 172 + k) 1 = S.2.1 13 (31 + k) ∧ T.2.2.1 (s + 172 + k) 2 = S.2.1 13 (37 + k) ∧ T.2.2.1 (s + 172 + k) 3 = S.2.1 13 (43 + k) ∧ T.2.2.1 (s + 172 + k) 4 = S.2.1 13 (49 + k)) (gW : WALg s T (S.2.1 11)) (gF : FADg s T (S.2.1 11)) (gT : TAPg s T (S.2.1 11)) (gZ : ZONg s T (S.2.1 11)) (gD : SHDg s T (S.2.1 11)) (gX : DZg (S.2.1 13)) (cmc : mc < 6) (k_l1 : l1 = nI mc) (rq : Tq.2.2.2.2 = T.2.2.2.2) (mq0 : MFq S Sq) (hIq : ∀ m j : Nat, m ≠ 6 → m ≠ s + 172 + mc → Tq.2.2.1 m j = T.2.2.1 m j) (hw : Tq.2.2.1 (s + 172 + mc) 0 = l2 ∧ Tq.2.2.1 (s + 172 + mc) 1 = l3 ∧ Tq.2.2.1 (s + 172 + mc) 2 = l4 ∧ Tq.2.2.1 (s + 172 + mc) 3 = l5 ∧ Tq.2.2.1 (s + 172 + mc) 4 = l6 ∧ Tq.2.2.1 (s + 172 + mc) 5 = l7 ∧ Tq.2.2.1 (s + 172 + mc) 6 = l8 ∧ Tq.2.2.1 (s + 172 + mc) 7 = l9 ∧ Tq.2.2.1 (s + 172 + mc) 8 = s0 ∧ Tq.2.2.1 (s + 172 + mc) 9 = 0) (hg : g_X3_parseSource_b168 Tq s = some (k, r, T1)) (hf : fr_readSource_b186 Sq s0 l1 l2 l3 l4 l5 l6 l7 l8 l9 = some S1) : LNq b n c i s T T1 S1 k := by
  obtain ⟨w0, w1, w2, w3, w4, w5, w6, w7, w8, w9⟩ := hw
  unfold g_X3_parseSource_b168 at hg
  obtain ⟨-, hg⟩ := oif_some hg
  obtain ⟨cv3, ecv3, hg⟩ := elet_some hg
  rw [hIq _ _ (by omega) (by omega), b2] at ecv3
  obtain ⟨cv4, ecv4, hg⟩ := elet_some hg
  have k_cv4 : cv4 = nI (mc + 1) := by rw [ecv4, ecv3]; exact nI_add mc 1
  obtain ⟨-, hg⟩ := oif_some hg
  obtain ⟨Tz, eTz, hg⟩ := elet_some hg
  have r_Tz : Tz.2.2.2.2 = T.2.2.2.2 := by rw [eTz]; exact rq
  have p_Tz := pr_uI (m := s) (k := 8) (v := cv4) pq (by omega)
  rw [← eTz] at p_Tz
  have hI_Tz : ∀ m j : Nat, m ≠ 6 → m ≠ s + 172 + mc → Tz.2.2.1 m j = if m = s ∧ j = 8 then cv4 else T.2.2.1 m j := fun m j h6 h7 => by rw [eTz, ui_get, hIq m j h6 h7]
  have hN_Tz : ∀ j : Nat, Tz.2.2.1 (s + 172 + mc) j = Tq.2.2.1 (s + 172 + mc) j := fun j => by rw [eTz]; exact ui_ne (.inl (by omega))
  unfold fr_readSource_b186 at hf
  obtain ⟨v2, ev2, hf⟩ := elet_some hf
  rw [if_pos (by rw [ev2, pq.2.2.1]; decide)] at hf
  obtain ⟨v4, ev4, hf⟩ := elet_some hf
  obtain ⟨-, hf⟩ := oif_some hf
  obtain ⟨S6, eS6, hf⟩ := elet_some hf
  obtain ⟨v7, ev7, hf⟩ := elet_some hf
  obtain ⟨-, hf⟩ := oif_some hf
  obtain ⟨S9, eS9, hf⟩ := elet_some hf
  obtain ⟨v10, ev10, hf⟩ := elet_some hf
  obtain ⟨-, hf⟩ := oif_some hf
  obtain ⟨S12, eS12, hf⟩ := elet_some hf
  obtain ⟨v13, ev13, hf⟩ := elet_some hf
  obtain ⟨-, hf⟩ := oif_some hf
  obtain ⟨S15, eS15, hf⟩ := elet_some hf
  obtain ⟨v16, ev16, hf⟩ := elet_some hf
  obtain ⟨-, hf⟩ := oif_some hf
  obtain ⟨S18, eS18, hf⟩ := elet_some hf
  obtain ⟨v19, ev19, hf⟩ := elet_some hf
  obtain ⟨-, hf⟩ := oif_some hf
  obtain ⟨S21, eS21, hf⟩ := elet_some hf
  obtain ⟨v22, ev22, hf⟩ := elet_some hf
  obtain ⟨-, hf⟩ := oif_some hf
  obtain ⟨S24, eS24, hf⟩ := elet_some hf
  obtain ⟨v25, ev25, hf⟩ := elet_some hf
  obtain ⟨-, hf⟩ := oif_some hf
  obtain ⟨S27, eS27, hf⟩ := elet_some hf
  obtain ⟨v28, ev28, hf⟩ := elet_some hf
  obtain ⟨-, hf⟩ := oif_some hf
  obtain ⟨S30, eS30, hf⟩ := elet_some hf
  obtain ⟨v31, ev31, hf⟩ := elet_some hf
  obtain ⟨-, hf⟩ := oif_some hf
  obtain ⟨S33, eS33, hf⟩ := elet_some hf
  obtain ⟨v34, ev34, hf⟩ := elet_some hf
  obtain ⟨v35, ev35, hf⟩ := elet_some hf
  obtain ⟨S36, eS36, hf⟩ := elet_some hf
  have hP_Sq : ∀ x : Nat, Sq.2.1 11 x = S.2.1 11 x := fun x => by rw [mq0.1]
  have hD_Sq : ∀ x : Nat, Sq.2.1 13 x = S.2.1 13 x := fun x => by rw [mq0.1]
  have k_v4 : v4 = nI (95 + mc) := by rw [ev4, k_l1]; exact nI_add 95 (mc)
  rw [k_v4, nI_clamp (by omega)] at eS6
  have hP_S6 : ∀ x : Nat, S6.2.1 11 x = if x = (95 + mc) then s0 else S.2.1 11 x := fun x => by rw [eS6, mf_at]; show (if x = (95 + mc) then s0 else Sq.2.1 11 x) = _; rw [hP_Sq]
  have hD_S6 : ∀ x : Nat, S6.2.1 13 x = S.2.1 13 x := fun x => by rw [eS6, mf_ne (by decide), hD_Sq]
  have k_v7 : v7 = nI (25 + mc) := by rw [ev7, k_l1]; exact nI_add 25 (mc)
  rw [k_v7, nI_clamp (by omega)] at eS9
  have hD_S9 : ∀ x : Nat, S9.2.1 13 x = if x = (25 + mc) then 1 else S.2.1 13 x := fun x => by rw [eS9, mf_at]; show (if x = (25 + mc) then 1 else S6.2.1 13 x) = _; rw [hD_S6]
  have hP_S9 : ∀ x : Nat, S9.2.1 11 x = if x = (95 + mc) then s0 else S.2.1 11 x := fun x => by rw [eS9, mf_ne (by decide), hP_S6]
  have k_v10 : v10 = nI (31 + mc) := by rw [ev10, k_l1]; exact nI_add 31 (mc)
  rw [k_v10, nI_clamp (by omega)] at eS12
  have hD_S12 : ∀ x : Nat, S12.2.1 13 x = if x = (31 + mc) then l3 else if x = (25 + mc) then 1 else S.2.1 13 x := fun x => by rw [eS12, mf_at]; show (if x = (31 + mc) then l3 else S9.2.1 13 x) = _; rw [hD_S9]
  have hP_S12 : ∀ x : Nat, S12.2.1 11 x = if x = (95 + mc) then s0 else S.2.1 11 x := fun x => by rw [eS12, mf_ne (by decide), hP_S9]
  have k_v13 : v13 = nI (37 + mc) := by rw [ev13, k_l1]; exact nI_add 37 (mc)
  rw [k_v13, nI_clamp (by omega)] at eS15
  have hD_S15 : ∀ x : Nat, S15.2.1 13 x = if x = (37 + mc) then l4 else if x = (31 + mc) then l3 else if x = (25 + mc) then 1 else S.2.1 13 x := fun x => by rw [eS15, mf_at]; show (if x = (37 + mc) then l4 else S12.2.1 13 x) = _; rw [hD_S12]
  have hP_S15 : ∀ x : Nat, S15.2.1 11 x = if x = (95 + mc) then s0 else S.2.1 11 x := fun x => by rw [eS15, mf_ne (by decide), hP_S12]
  have k_v16 : v16 = nI (43 + mc) := by rw [ev16, k_l1]; exact nI_add 43 (mc)
  rw [k_v16, nI_clamp (by omega)] at eS18
  have hD_S18 : ∀ x : Nat, S18.2.1 13 x = if x = (43 + mc) then l5 else if x = (37 + mc) then l4 else if x = (31 + mc) then l3 else if x = (25 + mc) then 1 else S.2.1 13 x := fun x => by rw [eS18, mf_at]; show (if x = (43 + mc) then l5 else S15.2.1 13 x) = _; rw [hD_S15]
  have hP_S18 : ∀ x : Nat, S18.2.1 11 x = if x = (95 + mc) then s0 else S.2.1 11 x := fun x => by rw [eS18, mf_ne (by decide), hP_S15]
  have k_v19 : v19 = nI (49 + mc) := by rw [ev19, k_l1]; exact nI_add 49 (mc)
  rw [k_v19, nI_clamp (by omega)] at eS21
  have hD_S21 : ∀ x : Nat, S21.2.1 13 x = if x = (49 + mc) then l6 else if x = (43 + mc) then l5 else if x = (37 + mc) then l4 else if x = (31 + mc) then l3 else if x = (25 + mc) then 1 else S.2.1 13 x := fun x => by rw [eS21, mf_at]; show (if x = (49 + mc) then l6 else S18.2.1 13 x) = _; rw [hD_S18]
  have hP_S21 : ∀ x : Nat, S21.2.1 11 x = if x = (95 + mc) then s0 else S.2.1 11 x := fun x => by rw [eS21, mf_ne (by decide), hP_S18]
  have k_v22 : v22 = nI (47 + mc) := by rw [ev22, k_l1]; exact nI_add 47 (mc)
  rw [k_v22, nI_clamp (by omega)] at eS24
  have hP_S24 : ∀ x : Nat, S24.2.1 11 x = if x = (47 + mc) then l2 else if x = (95 + mc) then s0 else S.2.1 11 x := fun x => by rw [eS24, mf_at]; show (if x = (47 + mc) then l2 else S21.2.1 11 x) = _; rw [hP_S21]
  have hD_S24 : ∀ x : Nat, S24.2.1 13 x = if x = (49 + mc) then l6 else if x = (43 + mc) then l5 else if x = (37 + mc) then l4 else if x = (31 + mc) then l3 else if x = (25 + mc) then 1 else S.2.1 13 x := fun x => by rw [eS24, mf_ne (by decide), hD_S21]
  have k_v25 : v25 = nI (53 + mc) := by rw [ev25, k_l1]; exact nI_add 53 (mc)
  rw [k_v25, nI_clamp (by omega)] at eS27
  have hP_S27 : ∀ x : Nat, S27.2.1 11 x = if x = (53 + mc) then l7 else if x = (47 + mc) then l2 else if x = (95 + mc) then s0 else S.2.1 11 x := fun x => by rw [eS27, mf_at]; show (if x = (53 + mc) then l7 else S24.2.1 11 x) = _; rw [hP_S24]
  have hD_S27 : ∀ x : Nat, S27.2.1 13 x = if x = (49 + mc) then l6 else if x = (43 + mc) then l5 else if x = (37 + mc) then l4 else if x = (31 + mc) then l3 else if x = (25 + mc) then 1 else S.2.1 13 x := fun x => by rw [eS27, mf_ne (by decide), hD_S24]
  have k_v28 : v28 = nI (59 + mc) := by rw [ev28, k_l1]; exact nI_add 59 (mc)
  rw [k_v28, nI_clamp (by omega)] at eS30
  have hP_S30 : ∀ x : Nat, S30.2.1 11 x = if x = (59 + mc) then l8 else if x = (53 + mc) then l7 else if x = (47 + mc) then l2 else if x = (95 + mc) then s0 else S.2.1 11 x := fun x => by rw [eS30, mf_at]; show (if x = (59 + mc) then l8 else S27.2.1 11 x) = _; rw [hP_S27]
  have hD_S30 : ∀ x : Nat, S30.2.1 13 x = if x = (49 + mc) then l6 else if x = (43 + mc) then l5 else if x = (37 + mc) then l4 else if x = (31 + mc) then l3 else if x = (25 + mc) then 1 else S.2.1 13 x := fun x => by rw [eS30, mf_ne (by decide), hD_S27]
  have k_v31 : v31 = nI (65 + mc) := by rw [ev31, k_l1]; exact nI_add 65 (mc)
  rw [k_v31, nI_clamp (by omega)] at eS33
  have hP_S33 : ∀ x : Nat, S33.2.1 11 x = if x = (65 + mc) then l9 else if x = (59 + mc) then l8 else if x = (53 + mc) then l7 else if x = (47 + mc) then l2 else if x = (95 + mc) then s0 else S.2.1 11 x := fun x => by rw [eS33, mf_at]; show (if x = (65 + mc) then l9 else S30.2.1 11 x) = _; rw [hP_S30]
  have hD_S33 : ∀ x : Nat, S33.2.1 13 x = if x = (49 + mc) then l6 else if x = (43 + mc) then l5 else if x = (37 + mc) then l4 else if x = (31 + mc) then l3 else if x = (25 + mc) then 1 else S.2.1 13 x := fun x => by rw [eS33, mf_ne (by decide), hD_S30]
  rw [hP_S33] at ev34
  (try simp (disch := omega) only [if_neg, if_pos, and_self, and_true, true_and, and_false, false_and, if_true, if_false] at ev34)
  rw [b3] at ev34
  have k_v34 : v34 = nI mc := ev34
  have k_v35 : v35 = nI (mc + 1) := by rw [ev35, k_v34]; exact nI_add (mc) 1
  have hP_S36 : ∀ x : Nat, S36.2.1 11 x = if x = 5 then v35 else if x = (65 + mc) then l9 else if x = (59 + mc) then l8 else if x = (53 + mc) then l7 else if x = (47 + mc) then l2 else if x = (95 + mc) then s0 else S.2.1 11 x := fun x => by rw [eS36, mf_at]; show (if x = 5 then v35 else S33.2.1 11 x) = _; rw [hP_S33]
  have hD_S36 : ∀ x : Nat, S36.2.1 13 x = if x = (49 + mc) then l6 else if x = (43 + mc) then l5 else if x = (37 + mc) then l4 else if x = (31 + mc) then l3 else if x = (25 + mc) then 1 else S.2.1 13 x := fun x => by rw [eS36, mf_ne (by decide), hD_S33]
  have p_S6 := pr_mfe p_Tz eS6 (by decide)
  have p_S9 := pr_mfe p_S6 eS9 (by decide)
  have p_S12 := pr_mfe p_S9 eS12 (by decide)
  have p_S15 := pr_mfe p_S12 eS15 (by decide)
  have p_S18 := pr_mfe p_S15 eS18 (by decide)
  have p_S21 := pr_mfe p_S18 eS21 (by decide)
  have p_S24 := pr_mfe p_S21 eS24 (by decide)
  have p_S27 := pr_mfe p_S24 eS27 (by decide)
  have p_S30 := pr_mfe p_S27 eS30 (by decide)
  have p_S33 := pr_mfe p_S30 eS33 (by decide)
  have p_S36 := pr_mfe p_S33 eS36 (by decide)
  have g := osome3 hg
  have eS := osome1 hf
  rw [← g.2.2, ← eS]
  exact .inl ⟨g.1.symm, ⟨_, by omega, p_S36⟩, ⟨gH.cg (fun j hj => by rw [hI_Tz _ _ (by omega) (by omega)]; try simp (disch := omega) only [if_neg, if_pos, and_self, and_true, true_and, and_false, false_and, if_true, if_false]) (fun j hj => by rw [hP_S36]; try simp (disch := omega) only [if_neg, if_pos, and_self, and_true, true_and, and_false, false_and, if_true, if_false]), gM.cg (by rw [hI_Tz _ _ (by omega) (by omega)]; try simp (disch := omega) only [if_neg, if_pos, and_self, and_true, true_and, and_false, false_and, if_true, if_false]) (fun m k hm hm2 => by rw [hI_Tz _ _ (by omega) (by omega)]; try simp (disch := omega) only [if_neg, if_pos, and_self, and_true, true_and, and_false, false_and, if_true, if_false]) (fun j hj => by rw [hP_S36]; try simp (disch := omega) only [if_neg, if_pos, and_self, and_true, true_and, and_false, false_and, if_true, if_false]), gG.cg (fun k hk => by rw [hI_Tz _ _ (by omega) (by omega)]; try simp (disch := omega) only [if_neg, if_pos, and_self, and_true, true_and, and_false, false_and, if_true, if_false]) (fun k => by rw [hI_Tz _ _ (by omega) (by omega)]; try simp (disch := omega) only [if_neg, if_pos, and_self, and_true, true_and, and_false, false_and, if_true, if_false]) (fun j hj hj2 => by rw [hP_S36]; try simp (disch := omega) only [if_neg, if_pos, and_self, and_true, true_and, and_false, false_and, if_true, if_false]), ⟨mc + 1, by omega, (by rw [hI_Tz _ _ (by omega) (by omega)]; (try simp (disch := omega) only [if_neg, if_pos, and_self, and_true, true_and, and_false, false_and, if_true, if_false]); try exact k_cv4), (by rw [hP_S36]; (try simp (disch := omega) only [if_neg, if_pos, and_self, and_true, true_and, and_false, false_and, if_true, if_false]); try exact k_v35), fun k2 hk2 => if e : k2 = mc then ⟨(by rw [e]; rw [hN_Tz, hP_S36]; (try simp (disch := omega) only [if_neg, if_pos, and_self, and_true, true_and, and_false, false_and, if_true, if_false]); try exact w0), (by rw [e]; rw [hN_Tz, hP_S36]; (try simp (disch := omega) only [if_neg, if_pos, and_self, and_true, true_and, and_false, false_and, if_true, if_false]); try exact w5), (by rw [e]; rw [hN_Tz, hP_S36]; (try simp (disch := omega) only [if_neg, if_pos, and_self, and_true, true_and, and_false, false_and, if_true, if_false]); try exact w6), (by rw [e]; rw [hN_Tz, hP_S36]; (try simp (disch := omega) only [if_neg, if_pos, and_self, and_true, true_and, and_false, false_and, if_true, if_false]); try exact w7), (by rw [e]; rw [hN_Tz, hP_S36]; (try simp (disch := omega) only [if_neg, if_pos, and_self, and_true, true_and, and_false, false_and, if_true, if_false]); try exact w8), .inl ⟨(by rw [e]; rw [hN_Tz]; exact w9), (by rw [e]; rw [hD_S36]; try simp (disch := omega) only [if_neg, if_pos, and_self, and_true, true_and, and_false, false_and, if_true, if_false])⟩, (by rw [e]; rw [hN_Tz, hD_S36]; (try simp (disch := omega) only [if_neg, if_pos, and_self, and_true, true_and, and_false, false_and, if_true, if_false]); try exact w1), (by rw [e]; rw [hN_Tz, hD_S36]; (try simp (disch := omega) only [if_neg, if_pos, and_self, and_true, true_and, and_false, false_and, if_true, if_false]); try exact w2), (by rw [e]; rw [hN_Tz, hD_S36]; (try simp (disch := omega) only [if_neg, if_pos, and_self, and_true, true_and, and_false, false_and, if_true, if_false]); try exact w3), (by rw [e]; rw [hN_Tz, hD_S36]; (try simp (disch := omega) only [if_neg, if_pos, and_self, and_true, true_and, and_false, false_and, if_true, if_false]); try exact w4)⟩ else ⟨(by rw [hI_Tz _ _ (by omega) (by omega), hP_S36]; (try simp (disch := omega) only [if_neg, if_pos, and_self, and_true, true_and, and_false, false_and, if_true, if_false]); try exact (b4 k2 (by omega)).1), (by rw [hI_Tz _ _ (by omega) (by omega), hP_S36]; (try simp (disch := omega) only [if_neg, if_pos, and_self, and_true, true_and, and_false, false_and, if_true, if_false]); try exact (b4 k2 (by omega)).2.1), (by rw [hI_Tz _ _ (by omega) (by omega), hP_S36]; (try simp (disch := omega) only [if_neg, if_pos, and_self, and_true, true_and, and_false, false_and, if_true, if_false]); try exact (b4 k2 (by omega)).2.2.1), (by rw [hI_Tz _ _ (by omega) (by omega), hP_S36]; (try simp (disch := omega) only [if_neg, if_pos, and_self, and_true, true_and, and_false, false_and, if_true, if_false]); try exact (b4 k2 (by omega)).2.2.2.1), (by rw [hI_Tz _ _ (by omega) (by omega), hP_S36]; (try simp (disch := omega) only [if_neg, if_pos, and_self, and_true, true_and, and_false, false_and, if_true, if_false]); try exact (b4 k2 (by omega)).2.2.2.2.1), (by rw [hI_Tz _ _ (by omega) (by omega), hD_S36]; (try simp (disch := omega) only [if_neg, if_pos, and_self, and_true, true_and, and_false, false_and, if_true, if_false]); try exact (b4 k2 (by omega)).2.2.2.2.2.1), (by rw [hI_Tz _ _ (by omega) (by omega), hD_S36]; (try simp (disch := omega) only [if_neg, if_pos, and_self, and_true, true_and, and_false, false_and, if_true, if_false]); try exact (b4 k2 (by omega)).2.2.2.2.2.2.1), (by rw [hI_Tz _ _ (by omega) (by omega), hD_S36]; (try simp (disch := omega) only [if_neg, if_pos, and_self, and_true, true_and, and_false, false_and, if_true, if_false]); try exact (b4 k2 (by omega)).2.2.2.2.2.2.2.1), (by rw [hI_Tz _ _ (by omega) (by omega), hD_S36]; (try simp (disch := omega) only [if_neg, if_pos, and_self, and_true, true_and, and_false, false_and, if_true, if_false]); try exact (b4 k2 (by omega)).2.2.2.2.2.2.2.2.1), (by rw [hI_Tz _ _ (by omega) (by omega), hD_S36]; (try simp (disch := omega) only [if_neg, if_pos, and_self, and_true, true_and, and_false, false_and, if_true, if_false]); try exact (b4 k2 (by omega)).2.2.2.2.2.2.2.2.2)⟩⟩, gW.cg (by rw [hI_Tz _ _ (by omega) (by omega)]; try simp (disch := omega) only [if_neg, if_pos, and_self, and_true, true_and, and_false, false_and, if_true, if_false]) (fun k => by rw [hI_Tz _ _ (by omega) (by omega)]; try simp (disch := omega) only [if_neg, if_pos, and_self, and_true, true_and, and_false, false_and, if_true, if_false]) (fun k => by rw [hI_Tz _ _ (by omega) (by omega)]; try simp (disch := omega) only [if_neg, if_pos, and_self, and_true, true_and, and_false, false_and, if_true, if_false]) (fun j hj hj2 => by rw [hP_S36]; try simp (disch := omega) only [if_neg, if_pos, and_self, and_true, true_and, and_false, false_and, if_true, if_false]), gF.cg (by rw [hI_Tz _ _ (by omega) (by omega)]; try simp (disch := omega) only [if_neg, if_pos, and_self, and_true, true_and, and_false, false_and, if_true, if_false]) (by rw [hP_S36]; try simp (disch := omega) only [if_neg, if_pos, and_self, and_true, true_and, and_false, false_and, if_true, if_false]), gT.cg (by rw [hI_Tz _ _ (by omega) (by omega)]; try simp (disch := omega) only [if_neg, if_pos, and_self, and_true, true_and, and_false, false_and, if_true, if_false]) (fun k => by rw [hI_Tz _ _ (by omega) (by omega)]; try simp (disch := omega) only [if_neg, if_pos, and_self, and_true, true_and, and_false, false_and, if_true, if_false]) (fun j hj hj2 => by rw [hP_S36]; try simp (disch := omega) only [if_neg, if_pos, and_self, and_true, true_and, and_false, false_and, if_true, if_false]), gZ.cg (by rw [hI_Tz _ _ (by omega) (by omega)]; try simp (disch := omega) only [if_neg, if_pos, and_self, and_true, true_and, and_false, false_and, if_true, if_false]) (fun m k hm hm2 => by rw [hI_Tz _ _ (by omega) (by omega)]; try simp (disch := omega) only [if_neg, if_pos, and_self, and_true, true_and, and_false, false_and, if_true, if_false]) (fun j hj hj2 => by rw [hP_S36]; try simp (disch := omega) only [if_neg, if_pos, and_self, and_true, true_and, and_false, false_and, if_true, if_false]), gD.cg (by rw [hI_Tz _ _ (by omega) (by omega)]; try simp (disch := omega) only [if_neg, if_pos, and_self, and_true, true_and, and_false, false_and, if_true, if_false]) (fun k => by rw [hI_Tz _ _ (by omega) (by omega)]; try simp (disch := omega) only [if_neg, if_pos, and_self, and_true, true_and, and_false, false_and, if_true, if_false]) (fun j hj hj2 => by rw [hP_S36]; try simp (disch := omega) only [if_neg, if_pos, and_self, and_true, true_and, and_false, false_and, if_true, if_false]), (fun j hj => by rw [hD_S36]; (try simp (disch := omega) only [if_neg, if_pos, and_self, and_true, true_and, and_false, false_and, if_true, if_false]); try exact gX j hj)⟩, r_Tz⟩
theorem st_b186 {S S1 : MS} {s0 l1 l2 l3 l4 l5 l6 l7 l8 l9 : Int32} (q : 0 < (S.1 5).toInt) (hf : fr_readSource_b186 S s0 l1 l2 l3 l4 l5 l6 l7 l8 l9 = some S1) : S1 = S := by
  unfold fr_readSource_b186 at hf
  obtain ⟨v, ev, hf⟩ := elet_some hf
  rw [if_neg (st_le q ev)] at hf
  exact (osome1 hf).symm
theorem st_src2 {S S1 : MS} {r : Int32} {l1 l2 l3 l4 l5 l6 l7 l8 l9 : Int32} (q : 0 < (S.1 5).toInt) (hf : (if r = 0 then (fr_readSource_b186 S 0 l1 l2 l3 l4 l5 l6 l7 l8 l9) else (obind2 (fr_number S 0 199) fun r42 S39 => fr_readSource_b186 S39 r42 l1 l2 l3 l4 l5 l6 l7 l8 l9)) = some S1) : S1 = S := by
  by_cases c : r = 0
  · rw [if_pos c] at hf
    exact st_b186 q hf
  · rw [if_neg c] at hf
    obtain ⟨r42, S39, f, hf⟩ := obind2_some hf
    have e := st_number q f
    rw [e] at hf
    exact st_b186 q hf
theorem st_b86 {S S1 : MS} {l1 l2 : Int32} (q : 0 < (S.1 5).toInt) (hf : fr_readSource_b86 S l1 l2 = some S1) : S1 = S := by
  unfold fr_readSource_b86 at hf
  obtain ⟨S2, f2, hf⟩ := obind_some hf
  rw [st_next q f2] at hf
  obtain ⟨r8, S5, f5, hf⟩ := obind2_some hf
  rw [st_signed q f5] at hf
  obtain ⟨r12, S9, f9, hf⟩ := obind2_some hf
  rw [st_signed q f9] at hf
  obtain ⟨r16, S13, f13, hf⟩ := obind2_some hf
  rw [st_signed q f13] at hf
  obtain ⟨r20, S17, f17, hf⟩ := obind2_some hf
  rw [st_signed q f17] at hf
  obtain ⟨r24, S21, f21, hf⟩ := obind2_some hf
  rw [st_number q f21] at hf
  obtain ⟨r28, S25, f25, hf⟩ := obind2_some hf
  rw [st_number q f25] at hf
  obtain ⟨r32, S29, f29, hf⟩ := obind2_some hf
  rw [st_number q f29] at hf
  obtain ⟨r37, S34, f34, hf⟩ := obind2_some hf
  rw [(st_takes q f34).2] at hf
  exact st_src2 q hf
theorem st_b75 {S S1 : MS} {s0 l1 : Int32} (q : 0 < (S.1 5).toInt) (hf : fr_readSource_b75 S s0 l1 = some S1) : S1 = S := by
  unfold fr_readSource_b75 at hf
  by_cases c : s0 = -1
  · rw [if_pos c] at hf
    obtain ⟨S3, f3, hf⟩ := obind_some hf
    rw [st_faults q f3] at hf
    exact st_b86 q hf
  · rw [if_neg c] at hf
    exact st_b86 q hf
theorem st_source {S S1 : MS} {l1 : Int32} (q : 0 < (S.1 5).toInt) (hf : (obind2 (fr_isWord S (sTx "square")) fun r9 S6 => if r9 = 0 then (obind2 (fr_isWord S6 (sTx "triangle")) fun r15 S12 => if r15 = 0 then (obind2 (fr_isWord S12 (sTx "pulse")) fun r21 S18 => if r21 = 0 then (obind2 (fr_isWord S18 (sTx "noise")) fun r27 S24 => if r27 = 0 then (fr_readSource_b75 S24 (-1) l1) else (fr_readSource_b75 S24 3 l1)) else (fr_readSource_b75 S18 2 l1)) else (fr_readSource_b75 S12 1 l1)) else (fr_readSource_b75 S6 0 l1)) = some S1) : S1 = S := by
  obtain ⟨r9, S6, f6, hf⟩ := obind2_some hf
  rw [if_pos (st_word q f6).1, (st_word q f6).2] at hf
  obtain ⟨r15, S12, f12, hf⟩ := obind2_some hf
  rw [if_pos (st_word q f12).1, (st_word q f12).2] at hf
  obtain ⟨r21, S18, f18, hf⟩ := obind2_some hf
  rw [if_pos (st_word q f18).1, (st_word q f18).2] at hf
  obtain ⟨r27, S24, f24, hf⟩ := obind2_some hf
  rw [if_pos (st_word q f24).1, (st_word q f24).2] at hf
  exact st_b75 q hf
set_option maxHeartbeats 4000000 in
set_option maxRecDepth 10000 in
theorem l_source {b : Nat → Int32} {n c i k s : Nat} {T T1 : AT} {S S1 : MS} {r : Int32} (h : PRq b n c i T S) (hk : kd b n (pst b n i) = 1) (hs : s = 478 ∨ s = 656) (hF : SRF s T) (hC : SCNq s T (S.2.1 11) (S.2.1 13)) (hg : g_X3_parseSource T 6 s = some (k, r, T1)) (hf : fr_readSource S = some S1) : LNq b n c i s T T1 S1 k := by
  obtain ⟨gH, gM, gG, gS, gW, gF, gT, gZ, gD, gX⟩ := hC
  obtain ⟨F1, F2, F3, F4, F5, F6, F7, F8, F9, F10, F11, F12, F13, F14, F15⟩ := hF
  obtain ⟨mc, b1, b2, b3, b4⟩ := gS
  unfold g_X3_parseSource at hg
  obtain ⟨-, hg⟩ := oif_some hg
  obtain ⟨v3, ev3, hg⟩ := elet_some hg
  rw [b2] at ev3
  unfold fr_readSource at hf
  obtain ⟨v2, ev2, hf⟩ := elet_some hf
  rw [b3] at ev2
  have key : ∃ (a0 : Int32) (Sa : MS), g_X3_parseSource_b15 T a0 6 6 s = some (k, r, T1) ∧ fr_readSource_b18 Sa v2 = some S1 ∧ ((a0 = 0 ∧ Sa = S) ∨ (a0 ≠ 0 ∧ fr_faults S 4 = some Sa)) ∧ (a0 = 0 → mc < 6) := by
    by_cases cm : mc < 6
    · rw [if_pos (by rw [ev3]; exact nI_lt (a := mc) (b := 6) cm (by decide))] at hg
      rw [if_neg (fun q => by rw [ev2] at q; have := (nI_eq (a := mc) (b := 6) (by omega) (by decide)).mp q; omega)] at hf
      exact ⟨0, S, hg, hf, .inl ⟨rfl, rfl⟩, fun _ => cm⟩
    · rw [if_neg (by rw [ev3]; exact nI_nlt (a := mc) (b := 6) (by omega) (by omega))] at hg
      rw [if_pos (by rw [ev2, show mc = 6 from by omega]; rfl)] at hf
      obtain ⟨S4, f4, hf⟩ := obind_some hf
      exact ⟨1, S4, hg, hf, .inr ⟨by decide, f4⟩, fun q => absurd q (by decide)⟩
  obtain ⟨a0, Sa, hg, hf, hcase, hmc⟩ := key
  unfold fr_readSource_b18 at hf
  obtain ⟨S2, fS2, hf⟩ := obind_some hf
  unfold g_X3_parseSource_b15 at hg
  obtain ⟨-, hg⟩ := oif_some hg
  have fin_S2 : 0 < (S2.1 5).toInt → S1 = S2 := fun q => st_source q hf
  rcases othr_k hg with ⟨r9, g9, z0⟩ | ⟨r5c, T3c, g9, hg⟩
  · rcases k_line h hk (by decide) g9 hcase fS2 with ⟨z, -⟩ | ⟨z1, z2⟩
    · exact absurd z z0
    · exact .inr ⟨z1, by rw [fin_S2 z2.1]; exact z2⟩
  rcases k_line h hk (by decide) g9 hcase fS2 with ⟨-, p_T3c, tf_T3c, m0, za⟩ | ⟨z1, -⟩
  rotate_left
  · exact absurd z1 (by decide)
  have cmc := hmc za
  obtain ⟨sv, Sb, hf, hsh⟩ := r_shape p_T3c hf
  unfold fr_readSource_b86 at hf
  obtain ⟨S2q, fS2q, hf⟩ := obind_some hf
  obtain ⟨r8q, S5q, fS5q, hf⟩ := obind2_some hf
  obtain ⟨r12q, S9q, fS9q, hf⟩ := obind2_some hf
  obtain ⟨r16q, S13q, fS13q, hf⟩ := obind2_some hf
  obtain ⟨r20q, S17q, fS17q, hf⟩ := obind2_some hf
  obtain ⟨r24q, S21q, fS21q, hf⟩ := obind2_some hf
  obtain ⟨r28q, S25q, fS25q, hf⟩ := obind2_some hf
  obtain ⟨r32q, S29q, fS29q, hf⟩ := obind2_some hf
  obtain ⟨r37q, S34q, fS34q, hf⟩ := obind2_some hf
  have fin_S34q : 0 < (S34q.1 5).toInt → S1 = S34q := fun q => st_src2 q hf
  have fin_S29q : 0 < (S29q.1 5).toInt → S1 = S29q := fun q => by have e := (st_takes q fS34q).2; exact (fin_S34q (by rw [e]; exact q)).trans e
  have fin_S25q : 0 < (S25q.1 5).toInt → S1 = S25q := fun q => by have e := (st_number q fS29q); exact (fin_S29q (by rw [e]; exact q)).trans e
  have fin_S21q : 0 < (S21q.1 5).toInt → S1 = S21q := fun q => by have e := (st_number q fS25q); exact (fin_S25q (by rw [e]; exact q)).trans e
  have fin_S17q : 0 < (S17q.1 5).toInt → S1 = S17q := fun q => by have e := (st_number q fS21q); exact (fin_S21q (by rw [e]; exact q)).trans e
  have fin_S13q : 0 < (S13q.1 5).toInt → S1 = S13q := fun q => by have e := (st_signed q fS17q); exact (fin_S17q (by rw [e]; exact q)).trans e
  have fin_S9q : 0 < (S9q.1 5).toInt → S1 = S9q := fun q => by have e := (st_signed q fS13q); exact (fin_S13q (by rw [e]; exact q)).trans e
  have fin_S5q : 0 < (S5q.1 5).toInt → S1 = S5q := fun q => by have e := (st_signed q fS9q); exact (fin_S9q (by rw [e]; exact q)).trans e
  have fin_S2q : 0 < (S2q.1 5).toInt → S1 = S2q := fun q => by have e := (st_signed q fS5q); exact (fin_S5q (by rw [e]; exact q)).trans e
  have fin_Sb : 0 < (Sb.1 5).toInt → S1 = Sb := fun q => by have e := (st_next q fS2q); exact (fin_S2q (by rw [e]; exact q)).trans e
  have r_T3c : T3c.2.2.2.2 = T.2.2.2.2 := congrArg (fun x => x.2) tf_T3c.2.2.1
  have hI_T3c : ∀ m j : Nat, m ≠ 6 → T3c.2.2.1 m j = T.2.2.1 m j := fun m j h6 => by rw [tf_T3c.2.2.2 m j h6]
  obtain ⟨-, hg⟩ := oif_some hg
  obtain ⟨n8c, en8c, hg⟩ := obind_some hg
  rw [r_T3c, F3] at en8c
  cases en8c
  obtain ⟨-, hg⟩ := oif_some hg
  obtain ⟨v10c, ev10c, hg⟩ := elet_some hg
  rw [hI_T3c _ _ (by omega)] at ev10c
  rw [b2] at ev10c
  have k_v10c : v10c = nI mc := ev10c
  obtain ⟨-, hg⟩ := oif_some hg
  obtain ⟨-, hg⟩ := oif_some hg
  obtain ⟨n13c, en13c, hg⟩ := obind_some hg
  rw [k_v10c, nI_clamp (by omega)] at en13c
  rw [r_T3c, F10 _ (by omega)] at en13c
  cases en13c
  obtain ⟨-, hg⟩ := oif_some hg
  rcases othr_k hg with ⟨r9, g9, z0⟩ | ⟨r17c, T15c, g9, hg⟩
  · rcases k_shape p_T3c g9 hsh fS2q with ⟨z, -⟩ | ⟨z1, z2⟩
    · exact absurd z z0
    · exact .inr ⟨z1, by rw [fin_S2q z2.1]; exact z2⟩
  rcases k_shape p_T3c g9 hsh fS2q with ⟨-, qv, p_T15c, tf_T15c, mf_T15c⟩ | ⟨z1, -⟩
  rotate_left
  · exact absurd z1 (by decide)
  have r_T15c : T15c.2.2.2.2 = T.2.2.2.2 := (congrArg (fun x => x.2) tf_T15c.2.2.1).trans r_T3c
  have hI_T15c : ∀ m j : Nat, m ≠ 6 → T15c.2.2.1 m j = T.2.2.1 m j := fun m j h6 => by rw [tf_T15c.2.2.2 m j h6, hI_T3c m j h6]
  have mm_T15c := MFq.tr m0 mf_T15c
  obtain ⟨-, hg⟩ := oif_some hg
  obtain ⟨T20c, eT20c, hg⟩ := elet_some hg
  have r_T20c : T20c.2.2.2.2 = T.2.2.2.2 := by rw [eT20c]; exact r_T15c
  have hI_T20c : ∀ m j : Nat, m ≠ 6 → T20c.2.2.1 m j = if m = (s + 172 + mc) ∧ j = 0 then r17c else T.2.2.1 m j := fun m j h6 => by rw [eT20c, ui_get, hI_T15c m j h6]
  have p_T20c := pr_uI (m := (s + 172 + mc)) (k := 0) (v := r17c) p_T15c (by omega)
  rw [← eT20c] at p_T20c
  obtain ⟨-, hg⟩ := oif_some hg
  rcases othr_k hg with ⟨r9, g9, z0⟩ | ⟨r24c, T22c, g9, hg⟩
  · rcases k_signed p_T20c g9 fS5q with ⟨z, -⟩ | ⟨z1, z2⟩
    · exact absurd z z0
    · exact .inr ⟨z1, by rw [fin_S5q z2.1]; exact z2⟩
  rcases k_signed p_T20c g9 fS5q with ⟨-, q_r24c, ⟨i_T22c, l_T22c, p_T22c⟩, tf_T22c, mf_T22c⟩ | ⟨z1, -⟩
  rotate_left
  · exact absurd z1 (by decide)
  have r_T22c : T22c.2.2.2.2 = T.2.2.2.2 := (congrArg (fun x => x.2) tf_T22c.2.2.1).trans r_T20c
  have hI_T22c : ∀ m j : Nat, m ≠ 6 → T22c.2.2.1 m j = if m = (s + 172 + mc) ∧ j = 0 then r17c else T.2.2.1 m j := fun m j h6 => by rw [tf_T22c.2.2.2 m j h6, hI_T20c m j h6]
  have mm_T22c := MFq.tr mm_T15c mf_T22c
  obtain ⟨-, hg⟩ := oif_some hg
  obtain ⟨T27c, eT27c, hg⟩ := elet_some hg
  have r_T27c : T27c.2.2.2.2 = T.2.2.2.2 := by rw [eT27c]; exact r_T22c
  have hI_T27c : ∀ m j : Nat, m ≠ 6 → T27c.2.2.1 m j = if m = (s + 172 + mc) ∧ j = 1 then r24c else if m = (s + 172 + mc) ∧ j = 0 then r17c else T.2.2.1 m j := fun m j h6 => by rw [eT27c, ui_get, hI_T22c m j h6]
  have p_T27c := pr_uI (m := (s + 172 + mc)) (k := 1) (v := r24c) p_T22c (by omega)
  rw [← eT27c] at p_T27c
  obtain ⟨-, hg⟩ := oif_some hg
  rcases othr_k hg with ⟨r9, g9, z0⟩ | ⟨r31c, T29c, g9, hg⟩
  · rcases k_signed p_T27c g9 fS9q with ⟨z, -⟩ | ⟨z1, z2⟩
    · exact absurd z z0
    · exact .inr ⟨z1, by rw [fin_S9q z2.1]; exact z2⟩
  rcases k_signed p_T27c g9 fS9q with ⟨-, q_r31c, ⟨i_T29c, l_T29c, p_T29c⟩, tf_T29c, mf_T29c⟩ | ⟨z1, -⟩
  rotate_left
  · exact absurd z1 (by decide)
  have r_T29c : T29c.2.2.2.2 = T.2.2.2.2 := (congrArg (fun x => x.2) tf_T29c.2.2.1).trans r_T27c
  have hI_T29c : ∀ m j : Nat, m ≠ 6 → T29c.2.2.1 m j = if m = (s + 172 + mc) ∧ j = 1 then r24c else if m = (s + 172 + mc) ∧ j = 0 then r17c else T.2.2.1 m j := fun m j h6 => by rw [tf_T29c.2.2.2 m j h6, hI_T27c m j h6]
  have mm_T29c := MFq.tr mm_T22c mf_T29c
  obtain ⟨-, hg⟩ := oif_some hg
  obtain ⟨T34c, eT34c, hg⟩ := elet_some hg
  have r_T34c : T34c.2.2.2.2 = T.2.2.2.2 := by rw [eT34c]; exact r_T29c
  have hI_T34c : ∀ m j : Nat, m ≠ 6 → T34c.2.2.1 m j = if m = (s + 172 + mc) ∧ j = 2 then r31c else if m = (s + 172 + mc) ∧ j = 1 then r24c else if m = (s + 172 + mc) ∧ j = 0 then r17c else T.2.2.1 m j := fun m j h6 => by rw [eT34c, ui_get, hI_T29c m j h6]
  have p_T34c := pr_uI (m := (s + 172 + mc)) (k := 2) (v := r31c) p_T29c (by omega)
  rw [← eT34c] at p_T34c
  obtain ⟨-, hg⟩ := oif_some hg
  rcases othr_k hg with ⟨r9, g9, z0⟩ | ⟨r38c, T36c, g9, hg⟩
  · rcases k_signed p_T34c g9 fS13q with ⟨z, -⟩ | ⟨z1, z2⟩
    · exact absurd z z0
    · exact .inr ⟨z1, by rw [fin_S13q z2.1]; exact z2⟩
  rcases k_signed p_T34c g9 fS13q with ⟨-, q_r38c, ⟨i_T36c, l_T36c, p_T36c⟩, tf_T36c, mf_T36c⟩ | ⟨z1, -⟩
  rotate_left
  · exact absurd z1 (by decide)
  have r_T36c : T36c.2.2.2.2 = T.2.2.2.2 := (congrArg (fun x => x.2) tf_T36c.2.2.1).trans r_T34c
  have hI_T36c : ∀ m j : Nat, m ≠ 6 → T36c.2.2.1 m j = if m = (s + 172 + mc) ∧ j = 2 then r31c else if m = (s + 172 + mc) ∧ j = 1 then r24c else if m = (s + 172 + mc) ∧ j = 0 then r17c else T.2.2.1 m j := fun m j h6 => by rw [tf_T36c.2.2.2 m j h6, hI_T34c m j h6]
  have mm_T36c := MFq.tr mm_T29c mf_T36c
  obtain ⟨-, hg⟩ := oif_some hg
  obtain ⟨T41c, eT41c, hg⟩ := elet_some hg
  have r_T41c : T41c.2.2.2.2 = T.2.2.2.2 := by rw [eT41c]; exact r_T36c
  have hI_T41c : ∀ m j : Nat, m ≠ 6 → T41c.2.2.1 m j = if m = (s + 172 + mc) ∧ j = 3 then r38c else if m = (s + 172 + mc) ∧ j = 2 then r31c else if m = (s + 172 + mc) ∧ j = 1 then r24c else if m = (s + 172 + mc) ∧ j = 0 then r17c else T.2.2.1 m j := fun m j h6 => by rw [eT41c, ui_get, hI_T36c m j h6]
  have p_T41c := pr_uI (m := (s + 172 + mc)) (k := 3) (v := r38c) p_T36c (by omega)
  rw [← eT41c] at p_T41c
  obtain ⟨-, hg⟩ := oif_some hg
  rcases othr_k hg with ⟨r9, g9, z0⟩ | ⟨r45c, T43c, g9, hg⟩
  · rcases k_signed p_T41c g9 fS17q with ⟨z, -⟩ | ⟨z1, z2⟩
    · exact absurd z z0
    · exact .inr ⟨z1, by rw [fin_S17q z2.1]; exact z2⟩
  rcases k_signed p_T41c g9 fS17q with ⟨-, q_r45c, ⟨i_T43c, l_T43c, p_T43c⟩, tf_T43c, mf_T43c⟩ | ⟨z1, -⟩
  rotate_left
  · exact absurd z1 (by decide)
  have r_T43c : T43c.2.2.2.2 = T.2.2.2.2 := (congrArg (fun x => x.2) tf_T43c.2.2.1).trans r_T41c
  have hI_T43c : ∀ m j : Nat, m ≠ 6 → T43c.2.2.1 m j = if m = (s + 172 + mc) ∧ j = 3 then r38c else if m = (s + 172 + mc) ∧ j = 2 then r31c else if m = (s + 172 + mc) ∧ j = 1 then r24c else if m = (s + 172 + mc) ∧ j = 0 then r17c else T.2.2.1 m j := fun m j h6 => by rw [tf_T43c.2.2.2 m j h6, hI_T41c m j h6]
  have mm_T43c := MFq.tr mm_T36c mf_T43c
  obtain ⟨-, hg⟩ := oif_some hg
  obtain ⟨T48c, eT48c, hg⟩ := elet_some hg
  have r_T48c : T48c.2.2.2.2 = T.2.2.2.2 := by rw [eT48c]; exact r_T43c
  have hI_T48c : ∀ m j : Nat, m ≠ 6 → T48c.2.2.1 m j = if m = (s + 172 + mc) ∧ j = 4 then r45c else if m = (s + 172 + mc) ∧ j = 3 then r38c else if m = (s + 172 + mc) ∧ j = 2 then r31c else if m = (s + 172 + mc) ∧ j = 1 then r24c else if m = (s + 172 + mc) ∧ j = 0 then r17c else T.2.2.1 m j := fun m j h6 => by rw [eT48c, ui_get, hI_T43c m j h6]
  have p_T48c := pr_uI (m := (s + 172 + mc)) (k := 4) (v := r45c) p_T43c (by omega)
  rw [← eT48c] at p_T48c
  obtain ⟨-, hg⟩ := oif_some hg
  rcases othr_k hg with ⟨r9, g9, z0⟩ | ⟨r52c, T50c, g9, hg⟩
  · rcases k_number p_T48c g9 fS21q with ⟨z, -⟩ | ⟨z1, z2⟩
    · exact absurd z z0
    · exact .inr ⟨z1, by rw [fin_S21q z2.1]; exact z2⟩
  rcases k_number p_T48c g9 fS21q with ⟨-, q_r52c, lo_r52c, hi_r52c, p_T50c, tf_T50c, mf_T50c⟩ | ⟨z1, -⟩
  rotate_left
  · exact absurd z1 (by decide)
  have r_T50c : T50c.2.2.2.2 = T.2.2.2.2 := (congrArg (fun x => x.2) tf_T50c.2.2.1).trans r_T48c
  have hI_T50c : ∀ m j : Nat, m ≠ 6 → T50c.2.2.1 m j = if m = (s + 172 + mc) ∧ j = 4 then r45c else if m = (s + 172 + mc) ∧ j = 3 then r38c else if m = (s + 172 + mc) ∧ j = 2 then r31c else if m = (s + 172 + mc) ∧ j = 1 then r24c else if m = (s + 172 + mc) ∧ j = 0 then r17c else T.2.2.1 m j := fun m j h6 => by rw [tf_T50c.2.2.2 m j h6, hI_T48c m j h6]
  have mm_T50c := MFq.tr mm_T43c mf_T50c
  obtain ⟨-, hg⟩ := oif_some hg
  obtain ⟨T55c, eT55c, hg⟩ := elet_some hg
  have r_T55c : T55c.2.2.2.2 = T.2.2.2.2 := by rw [eT55c]; exact r_T50c
  have hI_T55c : ∀ m j : Nat, m ≠ 6 → T55c.2.2.1 m j = if m = (s + 172 + mc) ∧ j = 5 then r52c else if m = (s + 172 + mc) ∧ j = 4 then r45c else if m = (s + 172 + mc) ∧ j = 3 then r38c else if m = (s + 172 + mc) ∧ j = 2 then r31c else if m = (s + 172 + mc) ∧ j = 1 then r24c else if m = (s + 172 + mc) ∧ j = 0 then r17c else T.2.2.1 m j := fun m j h6 => by rw [eT55c, ui_get, hI_T50c m j h6]
  have p_T55c := pr_uI (m := (s + 172 + mc)) (k := 5) (v := r52c) p_T50c (by omega)
  rw [← eT55c] at p_T55c
  obtain ⟨-, hg⟩ := oif_some hg
  rcases othr_k hg with ⟨r9, g9, z0⟩ | ⟨r59c, T57c, g9, hg⟩
  · rcases k_number p_T55c g9 fS25q with ⟨z, -⟩ | ⟨z1, z2⟩
    · exact absurd z z0
    · exact .inr ⟨z1, by rw [fin_S25q z2.1]; exact z2⟩
  rcases k_number p_T55c g9 fS25q with ⟨-, q_r59c, lo_r59c, hi_r59c, p_T57c, tf_T57c, mf_T57c⟩ | ⟨z1, -⟩
  rotate_left
  · exact absurd z1 (by decide)
  have r_T57c : T57c.2.2.2.2 = T.2.2.2.2 := (congrArg (fun x => x.2) tf_T57c.2.2.1).trans r_T55c
  have hI_T57c : ∀ m j : Nat, m ≠ 6 → T57c.2.2.1 m j = if m = (s + 172 + mc) ∧ j = 5 then r52c else if m = (s + 172 + mc) ∧ j = 4 then r45c else if m = (s + 172 + mc) ∧ j = 3 then r38c else if m = (s + 172 + mc) ∧ j = 2 then r31c else if m = (s + 172 + mc) ∧ j = 1 then r24c else if m = (s + 172 + mc) ∧ j = 0 then r17c else T.2.2.1 m j := fun m j h6 => by rw [tf_T57c.2.2.2 m j h6, hI_T55c m j h6]
  have mm_T57c := MFq.tr mm_T50c mf_T57c
  obtain ⟨-, hg⟩ := oif_some hg
  obtain ⟨T62c, eT62c, hg⟩ := elet_some hg
  have r_T62c : T62c.2.2.2.2 = T.2.2.2.2 := by rw [eT62c]; exact r_T57c
  have hI_T62c : ∀ m j : Nat, m ≠ 6 → T62c.2.2.1 m j = if m = (s + 172 + mc) ∧ j = 6 then r59c else if m = (s + 172 + mc) ∧ j = 5 then r52c else if m = (s + 172 + mc) ∧ j = 4 then r45c else if m = (s + 172 + mc) ∧ j = 3 then r38c else if m = (s + 172 + mc) ∧ j = 2 then r31c else if m = (s + 172 + mc) ∧ j = 1 then r24c else if m = (s + 172 + mc) ∧ j = 0 then r17c else T.2.2.1 m j := fun m j h6 => by rw [eT62c, ui_get, hI_T57c m j h6]
  have p_T62c := pr_uI (m := (s + 172 + mc)) (k := 6) (v := r59c) p_T57c (by omega)
  rw [← eT62c] at p_T62c
  obtain ⟨-, hg⟩ := oif_some hg
  rcases othr_k hg with ⟨r9, g9, z0⟩ | ⟨r66c, T64c, g9, hg⟩
  · rcases k_number p_T62c g9 fS29q with ⟨z, -⟩ | ⟨z1, z2⟩
    · exact absurd z z0
    · exact .inr ⟨z1, by rw [fin_S29q z2.1]; exact z2⟩
  rcases k_number p_T62c g9 fS29q with ⟨-, q_r66c, lo_r66c, hi_r66c, p_T64c, tf_T64c, mf_T64c⟩ | ⟨z1, -⟩
  rotate_left
  · exact absurd z1 (by decide)
  have r_T64c : T64c.2.2.2.2 = T.2.2.2.2 := (congrArg (fun x => x.2) tf_T64c.2.2.1).trans r_T62c
  have hI_T64c : ∀ m j : Nat, m ≠ 6 → T64c.2.2.1 m j = if m = (s + 172 + mc) ∧ j = 6 then r59c else if m = (s + 172 + mc) ∧ j = 5 then r52c else if m = (s + 172 + mc) ∧ j = 4 then r45c else if m = (s + 172 + mc) ∧ j = 3 then r38c else if m = (s + 172 + mc) ∧ j = 2 then r31c else if m = (s + 172 + mc) ∧ j = 1 then r24c else if m = (s + 172 + mc) ∧ j = 0 then r17c else T.2.2.1 m j := fun m j h6 => by rw [tf_T64c.2.2.2 m j h6, hI_T62c m j h6]
  have mm_T64c := MFq.tr mm_T57c mf_T64c
  obtain ⟨-, hg⟩ := oif_some hg
  obtain ⟨T69c, eT69c, hg⟩ := elet_some hg
  have r_T69c : T69c.2.2.2.2 = T.2.2.2.2 := by rw [eT69c]; exact r_T64c
  have hI_T69c : ∀ m j : Nat, m ≠ 6 → T69c.2.2.1 m j = if m = (s + 172 + mc) ∧ j = 7 then r66c else if m = (s + 172 + mc) ∧ j = 6 then r59c else if m = (s + 172 + mc) ∧ j = 5 then r52c else if m = (s + 172 + mc) ∧ j = 4 then r45c else if m = (s + 172 + mc) ∧ j = 3 then r38c else if m = (s + 172 + mc) ∧ j = 2 then r31c else if m = (s + 172 + mc) ∧ j = 1 then r24c else if m = (s + 172 + mc) ∧ j = 0 then r17c else T.2.2.1 m j := fun m j h6 => by rw [eT69c, ui_get, hI_T64c m j h6]
  have p_T69c := pr_uI (m := (s + 172 + mc)) (k := 7) (v := r66c) p_T64c (by omega)
  rw [← eT69c] at p_T69c
  obtain ⟨-, hg⟩ := oif_some hg
  obtain ⟨T71c, eT71c, hg⟩ := elet_some hg
  have r_T71c : T71c.2.2.2.2 = T.2.2.2.2 := by rw [eT71c]; exact r_T69c
  have hI_T71c : ∀ m j : Nat, m ≠ 6 → T71c.2.2.1 m j = if m = (s + 172 + mc) ∧ j = 8 then 0 else if m = (s + 172 + mc) ∧ j = 7 then r66c else if m = (s + 172 + mc) ∧ j = 6 then r59c else if m = (s + 172 + mc) ∧ j = 5 then r52c else if m = (s + 172 + mc) ∧ j = 4 then r45c else if m = (s + 172 + mc) ∧ j = 3 then r38c else if m = (s + 172 + mc) ∧ j = 2 then r31c else if m = (s + 172 + mc) ∧ j = 1 then r24c else if m = (s + 172 + mc) ∧ j = 0 then r17c else T.2.2.1 m j := fun m j h6 => by rw [eT71c, ui_get, hI_T69c m j h6]
  have p_T71c := pr_uI (m := (s + 172 + mc)) (k := 8) (v := 0) p_T69c (by omega)
  rw [← eT71c] at p_T71c
  obtain ⟨-, hg⟩ := oif_some hg
  obtain ⟨T73c, eT73c, hg⟩ := elet_some hg
  have r_T73c : T73c.2.2.2.2 = T.2.2.2.2 := by rw [eT73c]; exact r_T71c
  have hI_T73c : ∀ m j : Nat, m ≠ 6 → T73c.2.2.1 m j = if m = (s + 172 + mc) ∧ j = 9 then 0 else if m = (s + 172 + mc) ∧ j = 8 then 0 else if m = (s + 172 + mc) ∧ j = 7 then r66c else if m = (s + 172 + mc) ∧ j = 6 then r59c else if m = (s + 172 + mc) ∧ j = 5 then r52c else if m = (s + 172 + mc) ∧ j = 4 then r45c else if m = (s + 172 + mc) ∧ j = 3 then r38c else if m = (s + 172 + mc) ∧ j = 2 then r31c else if m = (s + 172 + mc) ∧ j = 1 then r24c else if m = (s + 172 + mc) ∧ j = 0 then r17c else T.2.2.1 m j := fun m j h6 => by rw [eT73c, ui_get, hI_T71c m j h6]
  have p_T73c := pr_uI (m := (s + 172 + mc)) (k := 9) (v := 0) p_T71c (by omega)
  rw [← eT73c] at p_T73c
  obtain ⟨-, hg⟩ := oif_some hg
  obtain ⟨r78c, T76c, g78, hg⟩ := obind2_some hg
  obtain ⟨t76, d78⟩ := kc_word wl4.2.2.2.2 p_T73c g78
  rw [t76] at hg
  unfold fr_takes at fS34q
  obtain ⟨u1, U1, g79, fS34q⟩ := obind2_some fS34q
  obtain ⟨t77, d79⟩ := kr_word wl4.2.2.2.2 p_T73c g79
  rw [t77] at fS34q
  by_cases cw : WD b n (pst b n (i_T43c + 1 + 1 + 1)) (sTx "from")
  rotate_left
  · have z1 : r78c = 0 := by
      rcases d78 with q | q
      · exact absurd q.2 cw
      · exact q.1
    have z2 : u1 = 0 := by
      rcases d79 with q | q
      · exact absurd q.2 cw
      · exact q.1
    rw [if_pos z1] at hg
    rw [if_pos z2] at fS34q
    unfold fr_takes_b14 at fS34q
    obtain ⟨-, fS34q⟩ := oif_some fS34q
    have g5 := osome2 fS34q
    rw [← g5.1, ← g5.2, if_pos z2] at hf
    exact l_src2 p_T73c (by omega) hs gH gM gG b2 b3 b4 gW gF gT gZ gD gX cmc ev2 r_T73c mm_T64c (fun m j h6 h7 => by rw [hI_T73c m j h6]; try simp (disch := omega) only [if_neg, if_pos, and_self, and_true, true_and, and_false, false_and, if_true, if_false]) ⟨(by rw [hI_T73c _ _ (by omega)]; (try simp (disch := omega) only [if_neg, if_pos, and_self, and_true, true_and, and_false, false_and, if_true, if_false]); try exact qv.symm), (by rw [hI_T73c _ _ (by omega)]; (try simp (disch := omega) only [if_neg, if_pos, and_self, and_true, true_and, and_false, false_and, if_true, if_false]); try exact q_r24c.symm), (by rw [hI_T73c _ _ (by omega)]; (try simp (disch := omega) only [if_neg, if_pos, and_self, and_true, true_and, and_false, false_and, if_true, if_false]); try exact q_r31c.symm), (by rw [hI_T73c _ _ (by omega)]; (try simp (disch := omega) only [if_neg, if_pos, and_self, and_true, true_and, and_false, false_and, if_true, if_false]); try exact q_r38c.symm), (by rw [hI_T73c _ _ (by omega)]; (try simp (disch := omega) only [if_neg, if_pos, and_self, and_true, true_and, and_false, false_and, if_true, if_false]); try exact q_r45c.symm), (by rw [hI_T73c _ _ (by omega)]; (try simp (disch := omega) only [if_neg, if_pos, and_self, and_true, true_and, and_false, false_and, if_true, if_false]); try exact q_r52c.symm), (by rw [hI_T73c _ _ (by omega)]; (try simp (disch := omega) only [if_neg, if_pos, and_self, and_true, true_and, and_false, false_and, if_true, if_false]); try exact q_r59c.symm), (by rw [hI_T73c _ _ (by omega)]; (try simp (disch := omega) only [if_neg, if_pos, and_self, and_true, true_and, and_false, false_and, if_true, if_false]); try exact q_r66c.symm), (by rw [hI_T73c _ _ (by omega)]; (try simp (disch := omega) only [if_neg, if_pos, and_self, and_true, true_and, and_false, false_and, if_true, if_false]); try exact rfl), (by rw [hI_T73c _ _ (by omega)]; (try simp (disch := omega) only [if_neg, if_pos, and_self, and_true, true_and, and_false, false_and, if_true, if_false]); try exact rfl)⟩ hg hf
  · have z1 : r78c = 1 := by
      rcases d78 with q | q
      · exact q.1
      · exact absurd cw q.2
    have z2 : u1 = 1 := by
      rcases d79 with q | q
      · exact q.1
      · exact absurd cw q.2
    rw [if_neg (by rw [z1]; decide)] at hg
    rw [if_neg (by rw [z2]; decide)] at fS34q
    obtain ⟨U7, fU7, fS34q⟩ := obind_some fS34q
    unfold fr_takes_b14 at fS34q
    obtain ⟨-, fS34q⟩ := oif_some fS34q
    have g5 := osome2 fS34q
    rw [← g5.1, ← g5.2, if_neg (by rw [z2]; decide)] at hf
    obtain ⟨pa, ma⟩ := pr_adv p_T73c (by rw [cw.1]; decide) fU7
    obtain ⟨r42, S39, fS39, hf⟩ := obind2_some hf
    obtain ⟨-, hg⟩ := oif_some hg
    obtain ⟨v82, ev82, hg⟩ := elet_some hg
    rw [p_T73c.1.2.2.2.2.2] at ev82
    obtain ⟨v83, ev83, hg⟩ := elet_some hg
    rw [ev82, nI_1] at ev83
    obtain ⟨-, hg⟩ := oif_some hg
    obtain ⟨T85, eT85, hg⟩ := elet_some hg
    rw [← ev83, ← eT85] at pa
    obtain ⟨-, hg⟩ := oif_some hg
    rcases othr_k hg with ⟨r9, g9, z0⟩ | ⟨r89, T87, g9, hg⟩
    · rcases k_number pa g9 fS39 with ⟨z, -⟩ | ⟨z3, z4⟩
      · exact absurd z z0
      · exact .inr ⟨z3, by rw [st_b186 z4.1 hf]; exact z4⟩
    rcases k_number pa g9 fS39 with ⟨-, q_r89, -, -, p_T87, tf_T87, mf_T87⟩ | ⟨z3, -⟩
    rotate_left
    · exact absurd z3 (by decide)
    obtain ⟨-, hg⟩ := oif_some hg
    obtain ⟨T92, eT92, hg⟩ := elet_some hg
    have r_T85 : T85.2.2.2.2 = T.2.2.2.2 := by rw [eT85]; exact r_T73c
    have r_T92 : T92.2.2.2.2 = T.2.2.2.2 := by rw [eT92]; exact (congrArg (fun x => x.2) tf_T87.2.2.1).trans r_T85
    have hI_T92 : ∀ m j : Nat, m ≠ 6 → T92.2.2.1 m j = if m = (s + 172 + mc) ∧ j = 8 then r89 else if m = (s + 172 + mc) ∧ j = 9 then 0 else if m = (s + 172 + mc) ∧ j = 8 then 0 else if m = (s + 172 + mc) ∧ j = 7 then r66c else if m = (s + 172 + mc) ∧ j = 6 then r59c else if m = (s + 172 + mc) ∧ j = 5 then r52c else if m = (s + 172 + mc) ∧ j = 4 then r45c else if m = (s + 172 + mc) ∧ j = 3 then r38c else if m = (s + 172 + mc) ∧ j = 2 then r31c else if m = (s + 172 + mc) ∧ j = 1 then r24c else if m = (s + 172 + mc) ∧ j = 0 then r17c else T.2.2.1 m j := fun m j h6 => by rw [eT92, ui_get, tf_T87.2.2.2 m j h6, eT85, ui_ne (.inl h6), hI_T73c m j h6]
    have p_T92 := pr_uI (m := s + 172 + mc) (k := 8) (v := r89) p_T87 (by omega)
    rw [← eT92] at p_T92
    exact l_src2 p_T92 (by omega) hs gH gM gG b2 b3 b4 gW gF gT gZ gD gX cmc ev2 r_T92 ((MFq.tr mm_T64c ma).tr mf_T87) (fun m j h6 h7 => by rw [hI_T92 m j h6]; try simp (disch := omega) only [if_neg, if_pos, and_self, and_true, true_and, and_false, false_and, if_true, if_false]) ⟨(by rw [hI_T92 _ _ (by omega)]; (try simp (disch := omega) only [if_neg, if_pos, and_self, and_true, true_and, and_false, false_and, if_true, if_false]); try exact qv.symm), (by rw [hI_T92 _ _ (by omega)]; (try simp (disch := omega) only [if_neg, if_pos, and_self, and_true, true_and, and_false, false_and, if_true, if_false]); try exact q_r24c.symm), (by rw [hI_T92 _ _ (by omega)]; (try simp (disch := omega) only [if_neg, if_pos, and_self, and_true, true_and, and_false, false_and, if_true, if_false]); try exact q_r31c.symm), (by rw [hI_T92 _ _ (by omega)]; (try simp (disch := omega) only [if_neg, if_pos, and_self, and_true, true_and, and_false, false_and, if_true, if_false]); try exact q_r38c.symm), (by rw [hI_T92 _ _ (by omega)]; (try simp (disch := omega) only [if_neg, if_pos, and_self, and_true, true_and, and_false, false_and, if_true, if_false]); try exact q_r45c.symm), (by rw [hI_T92 _ _ (by omega)]; (try simp (disch := omega) only [if_neg, if_pos, and_self, and_true, true_and, and_false, false_and, if_true, if_false]); try exact q_r52c.symm), (by rw [hI_T92 _ _ (by omega)]; (try simp (disch := omega) only [if_neg, if_pos, and_self, and_true, true_and, and_false, false_and, if_true, if_false]); try exact q_r59c.symm), (by rw [hI_T92 _ _ (by omega)]; (try simp (disch := omega) only [if_neg, if_pos, and_self, and_true, true_and, and_false, false_and, if_true, if_false]); try exact q_r66c.symm), (by rw [hI_T92 _ _ (by omega)]; (try simp (disch := omega) only [if_neg, if_pos, and_self, and_true, true_and, and_false, false_and, if_true, if_false]); try exact q_r89.symm), (by rw [hI_T92 _ _ (by omega)]; (try simp (disch := omega) only [if_neg, if_pos, and_self, and_true, true_and, and_false, false_and, if_true, if_false]); try exact rfl)⟩ hg hf
set_option maxHeartbeats 4000000 in
set_option maxRecDepth 10000 in
theorem l_fade {b : Nat → Int32} {n c i k s : Nat} {T T1 : AT} {S S1 : MS} {r : Int32} (h : PRq b n c i T S) (hk : kd b n (pst b n i) = 1) (hs : s = 478 ∨ s = 656) (hF : SRF s T) (hC : SCNq s T (S.2.1 11) (S.2.1 13)) (hg : (elet (T.2.2.1 s 12) fun v107 => if v107 ≤ 0 then (g_X3_parseLine_b93 T 0 6 6 s) else (g_X3_parseLine_b93 T 1 6 6 s)) = some (k, r, T1)) (hf : fr_readFade S = some S1) : LNq b n c i s T T1 S1 k := by
  obtain ⟨gH, gM, gG, gS, gW, gF, gT, gZ, gD, gX⟩ := hC
  obtain ⟨F1, F2, F3, F4, F5, F6, F7, F8, F9, F10, F11, F12, F13, F14, F15⟩ := hF
  obtain ⟨v3, ev3, hg⟩ := elet_some hg
  unfold fr_readFade at hf
  obtain ⟨v2, ev2, hf⟩ := elet_some hf
  have key : ∃ (a0 : Int32) (Sa : MS), g_X3_parseLine_b93 T a0 6 6 s = some (k, r, T1) ∧ fr_readFade_b15 Sa = some S1 ∧ ((a0 = 0 ∧ Sa = S) ∨ (a0 ≠ 0 ∧ fr_faults S 3 = some Sa)) ∧ (a0 = 0 → True) := by
    by_cases cm : v3 ≤ 0
    · rw [if_pos cm] at hg
      have cr : v2 ≤ 0 ∧ True := by
        have gF2 : T.2.2.1 s 12 = S.2.1 11 76 := gF
        rw [gF2] at ev3
        rw [ev2, ← ev3]
        exact ⟨cm, trivial⟩
      rw [if_pos cr.1] at hf
      exact ⟨0, S, hg, hf, .inl ⟨rfl, rfl⟩, fun _ => cr.2⟩
    · rw [if_neg cm] at hg
      have cr : ¬ v2 ≤ 0 := by
        have gF2 : T.2.2.1 s 12 = S.2.1 11 76 := gF
        rw [gF2] at ev3
        rw [ev2, ← ev3]
        exact cm
      rw [if_neg cr] at hf
      obtain ⟨S4, f4, hf⟩ := obind_some hf
      exact ⟨1, S4, hg, hf, .inr ⟨by decide, f4⟩, fun q => absurd q (by decide)⟩
  obtain ⟨a0, Sa, hg, hf, hcase, hmc⟩ := key
  unfold fr_readFade_b15 at hf
  obtain ⟨S2, fS2, hf⟩ := obind_some hf
  obtain ⟨r8, S5, fS5, hf⟩ := obind2_some hf
  obtain ⟨v9, ev9, hf⟩ := elet_some hf
  have fin_S5 : 0 < (S5.1 5).toInt → S1 = S5 := fun q => by rw [if_neg (st_ne q ev9)] at hf; exact (osome1 (show some S5 = some S1 from hf)).symm
  have fin_S2 : 0 < (S2.1 5).toInt → S1 = S2 := fun q => by have e := (st_number q fS5); exact (fin_S5 (by rw [e]; exact q)).trans e
  unfold g_X3_parseLine_b93 at hg
  obtain ⟨-, hg⟩ := oif_some hg
  rcases othr_k hg with ⟨r9, g9, z0⟩ | ⟨r5c, T3c, g9, hg⟩
  · rcases k_line h hk (by decide) g9 hcase fS2 with ⟨z, -⟩ | ⟨z1, z2⟩
    · exact absurd z z0
    · exact .inr ⟨z1, by rw [fin_S2 z2.1]; exact z2⟩
  rcases k_line h hk (by decide) g9 hcase fS2 with ⟨-, p_T3c, tf_T3c, m0, za⟩ | ⟨z1, -⟩
  rotate_left
  · exact absurd z1 (by decide)
  have cmc := hmc za
  have r_T3c : T3c.2.2.2.2 = T.2.2.2.2 := congrArg (fun x => x.2) tf_T3c.2.2.1
  have hI_T3c : ∀ m j : Nat, m ≠ 6 → T3c.2.2.1 m j = T.2.2.1 m j := fun m j h6 => by rw [tf_T3c.2.2.2 m j h6]
  obtain ⟨-, hg⟩ := oif_some hg
  rcases othr_k hg with ⟨r9, g9, z0⟩ | ⟨r10c, T8c, g9, hg⟩
  · rcases k_number p_T3c g9 fS5 with ⟨z, -⟩ | ⟨z1, z2⟩
    · exact absurd z z0
    · exact .inr ⟨z1, by rw [fin_S5 z2.1]; exact z2⟩
  rcases k_number p_T3c g9 fS5 with ⟨-, q_r10c, lo_r10c, hi_r10c, p_T8c, tf_T8c, mf_T8c⟩ | ⟨z1, -⟩
  rotate_left
  · exact absurd z1 (by decide)
  have r_T8c : T8c.2.2.2.2 = T.2.2.2.2 := (congrArg (fun x => x.2) tf_T8c.2.2.1).trans r_T3c
  have hI_T8c : ∀ m j : Nat, m ≠ 6 → T8c.2.2.1 m j = T.2.2.1 m j := fun m j h6 => by rw [tf_T8c.2.2.2 m j h6, hI_T3c m j h6]
  have mm_T8c := MFq.tr m0 mf_T8c
  obtain ⟨-, hg⟩ := oif_some hg
  obtain ⟨T13c, eT13c, hg⟩ := elet_some hg
  have r_T13c : T13c.2.2.2.2 = T.2.2.2.2 := by rw [eT13c]; exact r_T8c
  have hI_T13c : ∀ m j : Nat, m ≠ 6 → T13c.2.2.1 m j = if m = s ∧ j = 12 then r10c else T.2.2.1 m j := fun m j h6 => by rw [eT13c, ui_get, hI_T8c m j h6]
  have p_T13c := pr_uI (m := s) (k := 12) (v := r10c) p_T8c (by omega)
  rw [← eT13c] at p_T13c
  unfold g_X3_parseLine_b209 at hg
  have g := osome3 hg
  rw [if_pos (by rw [ev9, p_T13c.2.2.1] <;> decide)] at hf
  obtain ⟨S11, eS11, hf⟩ := elet_some hf
  skip
  have hP_S5 : ∀ x : Nat, S5.2.1 11 x = S.2.1 11 x := fun x => by rw [mm_T8c.1]
  have hD_S5 : ∀ x : Nat, S5.2.1 13 x = S.2.1 13 x := fun x => by rw [mm_T8c.1]
  have hP_S11 : ∀ x : Nat, S11.2.1 11 x = if x = 76 then r8 else S.2.1 11 x := fun x => by rw [eS11, mf_at]; show (if x = 76 then r8 else S5.2.1 11 x) = _; rw [hP_S5]
  have hD_S11 : ∀ x : Nat, S11.2.1 13 x = S.2.1 13 x := fun x => by rw [eS11, mf_ne (by decide), hD_S5]
  have p_S11 := pr_mfe p_T13c eS11 (by decide)
  have eS := osome1 (show some S11 = some S1 from hf)
  rw [← g.2.2, ← eS]
  exact .inl ⟨g.1.symm, ⟨_, by omega, p_S11⟩, ⟨gH.cg (fun j hj => by rw [hI_T13c _ _ (by omega)]; try simp (disch := omega) only [if_neg, if_pos, and_self, and_true, true_and, and_false, false_and, if_true, if_false]) (fun j hj => by rw [hP_S11]; try simp (disch := omega) only [if_neg, if_pos, and_self, and_true, true_and, and_false, false_and, if_true, if_false]), gM.cg (by rw [hI_T13c _ _ (by omega)]; try simp (disch := omega) only [if_neg, if_pos, and_self, and_true, true_and, and_false, false_and, if_true, if_false]) (fun m k hm hm2 => by rw [hI_T13c _ _ (by omega)]; try simp (disch := omega) only [if_neg, if_pos, and_self, and_true, true_and, and_false, false_and, if_true, if_false]) (fun j hj => by rw [hP_S11]; try simp (disch := omega) only [if_neg, if_pos, and_self, and_true, true_and, and_false, false_and, if_true, if_false]), gG.cg (fun k hk => by rw [hI_T13c _ _ (by omega)]; try simp (disch := omega) only [if_neg, if_pos, and_self, and_true, true_and, and_false, false_and, if_true, if_false]) (fun k => by rw [hI_T13c _ _ (by omega)]; try simp (disch := omega) only [if_neg, if_pos, and_self, and_true, true_and, and_false, false_and, if_true, if_false]) (fun j hj hj2 => by rw [hP_S11]; try simp (disch := omega) only [if_neg, if_pos, and_self, and_true, true_and, and_false, false_and, if_true, if_false]), gS.cg (by rw [hI_T13c _ _ (by omega)]; try simp (disch := omega) only [if_neg, if_pos, and_self, and_true, true_and, and_false, false_and, if_true, if_false]) (fun m k hm hm2 => by rw [hI_T13c _ _ (by omega)]; try simp (disch := omega) only [if_neg, if_pos, and_self, and_true, true_and, and_false, false_and, if_true, if_false]) (fun j hj => by rw [hP_S11]; try simp (disch := omega) only [if_neg, if_pos, and_self, and_true, true_and, and_false, false_and, if_true, if_false]) (fun j hj hj2 => by rw [hD_S11]; try simp (disch := omega) only [if_neg, if_pos, and_self, and_true, true_and, and_false, false_and, if_true, if_false]), gW.cg (by rw [hI_T13c _ _ (by omega)]; try simp (disch := omega) only [if_neg, if_pos, and_self, and_true, true_and, and_false, false_and, if_true, if_false]) (fun k => by rw [hI_T13c _ _ (by omega)]; try simp (disch := omega) only [if_neg, if_pos, and_self, and_true, true_and, and_false, false_and, if_true, if_false]) (fun k => by rw [hI_T13c _ _ (by omega)]; try simp (disch := omega) only [if_neg, if_pos, and_self, and_true, true_and, and_false, false_and, if_true, if_false]) (fun j hj hj2 => by rw [hP_S11]; try simp (disch := omega) only [if_neg, if_pos, and_self, and_true, true_and, and_false, false_and, if_true, if_false]), (by unfold FADg; rw [hI_T13c _ _ (by omega), hP_S11]; (try simp (disch := omega) only [if_neg, if_pos, and_self, and_true, true_and, and_false, false_and, if_true, if_false]); try exact q_r10c.symm), gT.cg (by rw [hI_T13c _ _ (by omega)]; try simp (disch := omega) only [if_neg, if_pos, and_self, and_true, true_and, and_false, false_and, if_true, if_false]) (fun k => by rw [hI_T13c _ _ (by omega)]; try simp (disch := omega) only [if_neg, if_pos, and_self, and_true, true_and, and_false, false_and, if_true, if_false]) (fun j hj hj2 => by rw [hP_S11]; try simp (disch := omega) only [if_neg, if_pos, and_self, and_true, true_and, and_false, false_and, if_true, if_false]), gZ.cg (by rw [hI_T13c _ _ (by omega)]; try simp (disch := omega) only [if_neg, if_pos, and_self, and_true, true_and, and_false, false_and, if_true, if_false]) (fun m k hm hm2 => by rw [hI_T13c _ _ (by omega)]; try simp (disch := omega) only [if_neg, if_pos, and_self, and_true, true_and, and_false, false_and, if_true, if_false]) (fun j hj hj2 => by rw [hP_S11]; try simp (disch := omega) only [if_neg, if_pos, and_self, and_true, true_and, and_false, false_and, if_true, if_false]), gD.cg (by rw [hI_T13c _ _ (by omega)]; try simp (disch := omega) only [if_neg, if_pos, and_self, and_true, true_and, and_false, false_and, if_true, if_false]) (fun k => by rw [hI_T13c _ _ (by omega)]; try simp (disch := omega) only [if_neg, if_pos, and_self, and_true, true_and, and_false, false_and, if_true, if_false]) (fun j hj hj2 => by rw [hP_S11]; try simp (disch := omega) only [if_neg, if_pos, and_self, and_true, true_and, and_false, false_and, if_true, if_false]), (fun j hj => by rw [hD_S11]; (try simp (disch := omega) only [if_neg, if_pos, and_self, and_true, true_and, and_false, false_and, if_true, if_false]); try exact gX j hj)⟩, r_T13c⟩
end
section
/-! 20f.more.lean.txt -/
section
variable {b : Nat → Int32} {n c i k s : Nat} {T T1 : AT} {S S1 : MS} {r : Int32}
/-- only the place of the class and the reference's scalars have moved -/
theorem scn_tf {P D : Nat → Int32} (hs : s = 478 ∨ s = 656) (h : TFq T T1) (q : SCNq s T P D) : SCNq s T1 P D := by
  have e : ∀ m j, m ≠ 6 → T1.2.2.1 m j = T.2.2.1 m j := h.2.2.2
  exact ⟨q.1.cg (fun j _ => e _ _ (by omega)) (fun _ _ => rfl), q.2.1.cg (e _ _ (by omega)) (fun m j _ _ => e _ _ (by omega)) (fun _ _ => rfl), q.2.2.1.cg (fun j _ => e _ _ (by omega)) (fun j => e _ _ (by omega)) (fun _ _ _ => rfl), q.2.2.2.1.cg (e _ _ (by omega)) (fun m j _ _ => e _ _ (by omega)) (fun _ _ => rfl) (fun _ _ _ => rfl), q.2.2.2.2.1.cg (e _ _ (by omega)) (fun j => e _ _ (by omega)) (fun j => e _ _ (by omega)) (fun _ _ _ => rfl), q.2.2.2.2.2.1.cg (e _ _ (by omega)) rfl, q.2.2.2.2.2.2.1.cg (e _ _ (by omega)) (fun j => e _ _ (by omega)) (fun _ _ _ => rfl), q.2.2.2.2.2.2.2.1.cg (e _ _ (by omega)) (fun m j _ _ => e _ _ (by omega)) (fun _ _ _ => rfl), q.2.2.2.2.2.2.2.2.1.cg (e _ _ (by omega)) (fun j => e _ _ (by omega)) (fun _ _ _ => rfl), q.2.2.2.2.2.2.2.2.2⟩
theorem nI_of01 {x : Int32} {a : Nat} (h0 : 0 ≤ x.toInt) (h1 : x.toInt ≤ (a : Int) - 1) (ha : a ≤ 2000) : ∃ m : Nat, m < a ∧ x = nI m := by
  refine ⟨x.toInt.toNat, by omega, Int32.toInt_inj.mp ?_⟩
  have e : (nI x.toInt.toNat).toInt = (x.toInt.toNat : Int) := nI_toInt (by omega)
  rw [e]
  omega
theorem nI_m1 {x : Int32} {a : Nat} (h : x = nI a - 1) (ha : a ≤ 2000) : x.toInt = (a : Int) - 1 := by
  have e : (nI a).toInt = (a : Int) := nI_toInt (by omega)
  have z1 : (1 : Int32).toInt = 1 := by decide
  rw [i_sub h (by omega) (by omega), e, z1]
set_option maxHeartbeats 400000 in
theorem l_clock (h : PRq b n c i T S) (hk : kd b n (pst b n i) = 1) (hs : s = 478 ∨ s = 656) (hF : SRF s T) (hC : SCNq s T (S.2.1 11) (S.2.1 13)) (hg : g_X3_parseClock T 6 s = some (k, r, T1)) (hf : fr_readClock S = some S1) : LNq b n c i s T T1 S1 k := by
  have z0 : (0 : Int32).toInt = 0 := by decide
  obtain ⟨gH, ⟨mc, b1, b2, b3, b4, b5⟩, gG, gS, gW, gF, gT, gZ, gD, gX⟩ := hC
  unfold fr_readClock at hf
  obtain ⟨S2, fS2, hf⟩ := obind_some hf
  obtain ⟨v5, ev5, hf⟩ := elet_some hf
  obtain ⟨v6, ev6, hf⟩ := elet_some hf
  obtain ⟨r10, S7, fS7, hf⟩ := obind2_some hf
  obtain ⟨v11, ev11, hf⟩ := elet_some hf
  -- a fault stays
  have fin42 : ∀ {U : MS} {l : Int32}, 0 < (U.1 5).toInt → fr_readClock_b42 U l = some S1 → S1 = U := by
    intro U l q hf
    unfold fr_readClock_b42 at hf
    obtain ⟨U2, f2, hf⟩ := obind_some hf
    rw [st_next q f2] at hf
    obtain ⟨w8, U5, f5, hf⟩ := obind2_some hf
    rw [st_number q f5] at hf
    obtain ⟨w9, e9, hf⟩ := elet_some hf
    rw [if_neg (st_ne q e9)] at hf
    exact (osome1 (show some U = some S1 from hf)).symm
  have fin_S7 : 0 < (S7.1 5).toInt → S1 = S7 := fun q => by
    rw [if_neg (st_ne q ev11)] at hf
    exact fin42 q hf
  have fin_S2 : 0 < (S2.1 5).toInt → S1 = S2 := fun q => by
    have e := st_look q fS7
    exact (fin_S7 (by rw [e]; exact q)).trans e
  unfold g_X3_parseClock at hg
  obtain ⟨-, hg⟩ := oif_some hg
  rcases othr_k hg with ⟨r9, g9, z9⟩ | ⟨r5, T3, g9, hg⟩
  · rcases k_line h hk (by decide) g9 (.inl ⟨rfl, rfl⟩) fS2 with ⟨z, -⟩ | ⟨z1, z2⟩
    · exact absurd z z9
    · exact .inr ⟨z1, by rw [fin_S2 z2.1]; exact z2⟩
  rcases k_line h hk (by decide) g9 (.inl ⟨rfl, rfl⟩) fS2 with ⟨-, p3, t3, m2, -⟩ | ⟨z1, -⟩
  rotate_left
  · exact absurd z1 (by decide)
  have P2 : S2.2 = S.2 := m2.1
  obtain ⟨-, hg⟩ := oif_some hg
  obtain ⟨v8, ev8, hg⟩ := elet_some hg
  rw [t3.2.2.2 _ _ (by omega), b2] at ev8
  obtain ⟨v9, ev9, hg⟩ := elet_some hg
  rw [P2, b3] at ev5
  rw [ev5] at ev6
  rw [ev8] at ev9
  have e69 : v6 = v9 := ev6.trans ev9.symm
  have q9 := nI_m1 ev9 (by omega)
  obtain ⟨-, hg⟩ := oif_some hg
  rw [e69] at fS7
  rcases othr_k hg with ⟨r9, g9, z9⟩ | ⟨r13, T11, g9, hg⟩
  · rcases k_look p3 g9 fS7 with ⟨z, -⟩ | ⟨z1, z2⟩
    · exact absurd z z9
    · exact .inr ⟨z1, by rw [fin_S7 z2.1]; exact z2⟩
  rcases k_look p3 g9 fS7 with ⟨-, qr, lo, hi, k2, e11, e7⟩ | ⟨z1, -⟩
  rotate_left
  · exact absurd z1 (by decide)
  rw [e7] at ev11 hf fin_S7
  rw [p3.2.2.1] at ev11
  rw [if_pos ev11] at hf
  obtain ⟨m, hm, em⟩ := nI_of01 (x := r13) (a := mc) (by omega) (by omega) (by omega)
  obtain ⟨v13, ev13, hf⟩ := elet_some hf
  rw [qr, em] at ev13
  have k13 : v13 = nI (83 + m) := ev13.trans (nI_add 83 m)
  obtain ⟨-, hf⟩ := oif_some hf
  obtain ⟨v15, ev15, hf⟩ := elet_some hf
  rw [k13, nI_clamp (by omega), P2] at ev15
  have t11 : TFq T T11 := by rw [e11]; exact t3.tr tf6
  have r11 : T11.2.2.2.2 = T.2.2.2.2 := congrArg (fun x => x.2) t11.2.2.1
  obtain ⟨-, hg⟩ := oif_some hg
  obtain ⟨n16, en16, hg⟩ := obind_some hg
  rw [r11, hF.1] at en16
  cases en16
  obtain ⟨-, hg⟩ := oif_some hg
  obtain ⟨-, hg⟩ := oif_some hg
  obtain ⟨n19, en19, hg⟩ := obind_some hg
  rw [r11, em, nI_clamp (by omega), hF.2.2.2.2.2.2.2.2.1 m (by omega)] at en19
  cases en19
  obtain ⟨-, hg⟩ := oif_some hg
  obtain ⟨v21, ev21, hg⟩ := elet_some hg
  rw [t11.2.2.2 _ _ (by omega), (b4 m hm).2.2.2, ← ev15] at ev21
  by_cases c0 : v15 ≤ 0
  · rw [if_pos c0] at hf
    rw [ev21, if_pos c0] at hg
    unfold fr_readClock_b42 at hf
    obtain ⟨U2, f2, hf⟩ := obind_some hf
    obtain ⟨p11, m11⟩ := pr_adv p3 (by rw [k2]; decide) f2
    rw [← e11] at p11
    obtain ⟨w8, U5, f5, hf⟩ := obind2_some hf
    obtain ⟨w9, e9, hf⟩ := elet_some hf
    unfold g_X3_parseClock_b41 at hg
    obtain ⟨-, hg⟩ := oif_some hg
    obtain ⟨n3, en3, hg⟩ := obind_some hg
    rw [r11, hF.1] at en3
    cases en3
    obtain ⟨-, hg⟩ := oif_some hg
    obtain ⟨-, hg⟩ := oif_some hg
    obtain ⟨n6, en6, hg⟩ := obind_some hg
    rw [r11, em, nI_clamp (by omega), hF.2.2.2.2.2.2.2.2.1 m (by omega)] at en6
    cases en6
    obtain ⟨-, hg⟩ := oif_some hg
    rcases othr_k hg with ⟨r9, g9, z9⟩ | ⟨r10', T8, g9, hg⟩
    · rcases k_number p11 g9 f5 with ⟨z, -⟩ | ⟨z1, z2⟩
      · exact absurd z z9
      · rw [if_neg (st_ne z2.1 e9)] at hf
        have e := osome1 (show some U5 = some S1 from hf)
        exact .inr ⟨z1, by rw [← e]; exact z2⟩
    rcases k_number p11 g9 f5 with ⟨-, q8, -, -, p8, t8, m8⟩ | ⟨z1, -⟩
    rotate_left
    · exact absurd z1 (by decide)
    obtain ⟨-, hg⟩ := oif_some hg
    obtain ⟨T13, e13, hg⟩ := elet_some hg
    rw [if_pos (e9.trans p8.2.2.1)] at hf
    obtain ⟨w11, e11', hf⟩ := elet_some hf
    rw [qr, em] at e11'
    have k11 : w11 = nI (83 + m) := e11'.trans (nI_add 83 m)
    obtain ⟨-, hf⟩ := oif_some hf
    obtain ⟨U13, e13', hf⟩ := elet_some hf
    rw [k11, nI_clamp (by omega)] at e13'
    have eS := osome1 (show some U13 = some S1 from hf)
    have g := osome3 hg
    rw [← g.2.2, ← eS]
    have hI : ∀ m' j : Nat, m' ≠ 6 → T13.2.2.1 m' j = if m' = s + 160 + m ∧ j = 3 then r10' else T.2.2.1 m' j := fun m' j h6 => by rw [e13, ui_get, t8.2.2.2 m' j h6, t11.2.2.2 m' j h6]
    have PU : U5.2 = S.2 := m8.1.trans (m11.1.trans P2)
    have hP : ∀ x : Nat, U13.2.1 11 x = if x = 83 + m then w8 else S.2.1 11 x := fun x => by rw [e13', mf_at]; show (if x = 83 + m then w8 else U5.2.1 11 x) = _; rw [PU]
    have hD : ∀ x : Nat, U13.2.1 13 x = S.2.1 13 x := fun x => by rw [e13', mf_ne (by decide), PU]
    have p13 := pr_uI (m := s + 160 + m) (k := 3) (v := r10') p8 (by omega)
    rw [← e13] at p13
    have p14 := pr_mfe p13 e13' (by decide)
    have r13 : T13.2.2.2.2 = T.2.2.2.2 := by rw [e13]; exact (congrArg (fun x => x.2) t8.2.2.1).trans r11
    refine .inl ⟨g.1.symm, ⟨_, by omega, p14⟩, ⟨gH.cg (fun j hj => by rw [hI _ _ (by omega)]; simp (disch := omega) only [if_neg, if_pos, and_self, and_true, true_and, and_false, false_and, if_true, if_false]) (fun j hj => by rw [hP]; simp (disch := omega) only [if_neg, if_pos, and_self, and_true, true_and, and_false, false_and, if_true, if_false]), ?_, gG.cg (fun k hk => by rw [hI _ _ (by omega)]; simp (disch := omega) only [if_neg, if_pos, and_self, and_true, true_and, and_false, false_and, if_true, if_false]) (fun k => by rw [hI _ _ (by omega)]; simp (disch := omega) only [if_neg, if_pos, and_self, and_true, true_and, and_false, false_and, if_true, if_false]) (fun j hj hj2 => by rw [hP]; simp (disch := omega) only [if_neg, if_pos, and_self, and_true, true_and, and_false, false_and, if_true, if_false]), gS.cg (by rw [hI _ _ (by omega)]; simp (disch := omega) only [if_neg, if_pos, and_self, and_true, true_and, and_false, false_and, if_true, if_false]) (fun m' k hm hm2 => by rw [hI _ _ (by omega)]; simp (disch := omega) only [if_neg, if_pos, and_self, and_true, true_and, and_false, false_and, if_true, if_false]) (fun j hj => by rw [hP]; simp (disch := omega) only [if_neg, if_pos, and_self, and_true, true_and, and_false, false_and, if_true, if_false]) (fun j _ _ => hD j), gW.cg (by rw [hI _ _ (by omega)]; simp (disch := omega) only [if_neg, if_pos, and_self, and_true, true_and, and_false, false_and, if_true, if_false]) (fun k => by rw [hI _ _ (by omega)]; simp (disch := omega) only [if_neg, if_pos, and_self, and_true, true_and, and_false, false_and, if_true, if_false]) (fun k => by rw [hI _ _ (by omega)]; simp (disch := omega) only [if_neg, if_pos, and_self, and_true, true_and, and_false, false_and, if_true, if_false]) (fun j hj hj2 => by rw [hP]; simp (disch := omega) only [if_neg, if_pos, and_self, and_true, true_and, and_false, false_and, if_true, if_false]), gF.cg (by rw [hI _ _ (by omega)]; simp (disch := omega) only [if_neg, if_pos, and_self, and_true, true_and, and_false, false_and, if_true, if_false]) (by rw [hP]; simp (disch := omega) only [if_neg, if_pos, and_self, and_true, true_and, and_false, false_and, if_true, if_false]), gT.cg (by rw [hI _ _ (by omega)]; simp (disch := omega) only [if_neg, if_pos, and_self, and_true, true_and, and_false, false_and, if_true, if_false]) (fun k => by rw [hI _ _ (by omega)]; simp (disch := omega) only [if_neg, if_pos, and_self, and_true, true_and, and_false, false_and, if_true, if_false]) (fun j hj hj2 => by rw [hP]; simp (disch := omega) only [if_neg, if_pos, and_self, and_true, true_and, and_false, false_and, if_true, if_false]), gZ.cg (by rw [hI _ _ (by omega)]; simp (disch := omega) only [if_neg, if_pos, and_self, and_true, true_and, and_false, false_and, if_true, if_false]) (fun m' k hm hm2 => by rw [hI _ _ (by omega)]; simp (disch := omega) only [if_neg, if_pos, and_self, and_true, true_and, and_false, false_and, if_true, if_false]) (fun j hj hj2 => by rw [hP]; simp (disch := omega) only [if_neg, if_pos, and_self, and_true, true_and, and_false, false_and, if_true, if_false]), gD.cg (by rw [hI _ _ (by omega)]; simp (disch := omega) only [if_neg, if_pos, and_self, and_true, true_and, and_false, false_and, if_true, if_false]) (fun k => by rw [hI _ _ (by omega)]; simp (disch := omega) only [if_neg, if_pos, and_self, and_true, true_and, and_false, false_and, if_true, if_false]) (fun j hj hj2 => by rw [hP]; simp (disch := omega) only [if_neg, if_pos, and_self, and_true, true_and, and_false, false_and, if_true, if_false]), fun j hj => (hD j).trans (gX j hj)⟩, r13⟩
    refine ⟨mc, b1, ?_, ?_, fun m' hm' => ?_, fun m' h1 h2 => ?_⟩
    · rw [hI _ _ (by omega)]; simp (disch := omega) only [if_neg, if_pos, and_self, and_true, true_and, and_false, false_and, if_true, if_false]; exact b2
    · rw [hP]; simp (disch := omega) only [if_neg, if_pos, and_self, and_true, true_and, and_false, false_and, if_true, if_false]; exact b3
    · have q := b4 m' hm'
      refine ⟨?_, ?_, ?_, ?_⟩
      · rw [hI _ _ (by omega), hP]; simp (disch := omega) only [if_neg, if_pos, and_self, and_true, true_and, and_false, false_and, if_true, if_false]; exact q.1
      · rw [hI _ _ (by omega), hP]; simp (disch := omega) only [if_neg, if_pos, and_self, and_true, true_and, and_false, false_and, if_true, if_false]; exact q.2.1
      · rw [hI _ _ (by omega), hP]; simp (disch := omega) only [if_neg, if_pos, and_self, and_true, true_and, and_false, false_and, if_true, if_false]; exact q.2.2.1
      · rw [hI _ _ (by omega), hP]
        by_cases e : m' = m
        · rw [if_pos ⟨by omega, rfl⟩, if_pos (by omega)]; exact q8.symm
        · rw [if_neg (by omega), if_neg (by omega)]; exact q.2.2.2
    · rw [hP, if_neg (by omega)]; exact b5 m' h1 h2
  · rw [if_neg c0] at hf
    rw [ev21, if_neg c0] at hg
    obtain ⟨S17, f17, hf⟩ := obind_some hf
    obtain ⟨-, hg⟩ := oif_some hg
    obtain ⟨v24, ev24, hg⟩ := elet_some hg
    rw [e11, ui_at] at ev24
    obtain ⟨v25, ev25, hg⟩ := elet_some hg
    rw [ev24, nI_pred] at ev25
    rw [ev25, e11] at hg
    obtain ⟨-, hg⟩ := oif_some hg
    have fail : ∀ {k' : Nat} {r' : Int32} {T' : AT}, g_X3_failAt (uI T3 6 1 (nI (i + 1 + 1))) 6 (nI (i + 1)) 3 = some (k', r', T') → k' = 3 ∧ ERq T' S17 := by
      intro k' r' T' g
      obtain ⟨⟨h1, h2, h3, ⟨h4, h5, h6, h7, h8, h9⟩, h10, h11⟩, hh⟩ := p3
      have pq : ∀ j, T3.2.2.1 3 j = (uI T3 6 1 (nI (i + 1 + 1))).2.2.1 3 j := fun j => (ui_ne (.inl (by decide))).symm
      have q := r_fault hh.2.1 f17
      have t2 : TXR (uI T3 6 1 (nI (i + 1 + 1))) := h2
      have t4 : (uI T3 6 1 (nI (i + 1 + 1))).2.2.1 1 5 = nI c := (ui_ne (.inl (by decide))).trans h4
      have t7 : ∀ j, j < c → (uI T3 6 1 (nI (i + 1 + 1))).2.2.1 4 j = nI (pst b n j) := fun j hj => (ui_ne (.inl (by decide))).trans (h7 j hj).2.1
      obtain ⟨a1, a2, a3⟩ := k_failT t2 t4 h6 t7 h10 g
      refine ⟨a1, ?_⟩
      rw [q]
      refine ⟨?_, ?_, ?_⟩
      · rw [mi_ne (by decide), mi_at]; decide
      · rw [mi_ne (by decide), mi_at, a2]
      · rw [mi_at, a3]; exact hh.2.2.2.2.1.symm
    rcases othr_k hg with ⟨r9, g9, -⟩ | ⟨r9, T9, g9, -⟩
    · obtain ⟨a1, a2⟩ := fail g9
      exact .inr ⟨a1, by rw [fin42 a2.1 hf]; exact a2⟩
    · exact absurd (fail g9).1 (by decide)
set_option maxHeartbeats 400000 in
theorem l_off (h : PRq b n c i T S) (hk : kd b n (pst b n i) = 1) (hs : s = 478 ∨ s = 656) (hF : SRF s T) (hC : SCNq s T (S.2.1 11) (S.2.1 13)) (hg : g_X3_parseOff T 6 s = some (k, r, T1)) (hf : fr_readOff S = some S1) : LNq b n c i s T T1 S1 k := by
  have z0 : (0 : Int32).toInt = 0 := by decide
  obtain ⟨gH, gM, gG, ⟨mc, b1, b2, b3, b4⟩, gW, gF, gT, gZ, gD, gX⟩ := hC
  unfold fr_readOff at hf
  obtain ⟨S2, fS2, hf⟩ := obind_some hf
  obtain ⟨v5, ev5, hf⟩ := elet_some hf
  obtain ⟨v6, ev6, hf⟩ := elet_some hf
  obtain ⟨r10, S7, fS7, hf⟩ := obind2_some hf
  obtain ⟨v11, ev11, hf⟩ := elet_some hf
  -- a fault stays
  have fin42 : ∀ {U : MS} {l : Int32}, 0 < (U.1 5).toInt → fr_readOff_b42 U l = some S1 → S1 = U := by
    intro U l q hf
    unfold fr_readOff_b42 at hf
    obtain ⟨U2, f2, hf⟩ := obind_some hf
    rw [st_next q f2] at hf
    obtain ⟨w9, e9, hf⟩ := elet_some hf
    rw [if_neg (st_ne q e9)] at hf
    exact (osome1 (show some U = some S1 from hf)).symm
  have fin_S7 : 0 < (S7.1 5).toInt → S1 = S7 := fun q => by
    rw [if_neg (st_ne q ev11)] at hf
    exact fin42 q hf
  have fin_S2 : 0 < (S2.1 5).toInt → S1 = S2 := fun q => by
    have e := st_look q fS7
    exact (fin_S7 (by rw [e]; exact q)).trans e
  unfold g_X3_parseOff at hg
  obtain ⟨-, hg⟩ := oif_some hg
  rcases othr_k hg with ⟨r9, g9, z9⟩ | ⟨r5, T3, g9, hg⟩
  · rcases k_line h hk (by decide) g9 (.inl ⟨rfl, rfl⟩) fS2 with ⟨z, -⟩ | ⟨z1, z2⟩
    · exact absurd z z9
    · exact .inr ⟨z1, by rw [fin_S2 z2.1]; exact z2⟩
  rcases k_line h hk (by decide) g9 (.inl ⟨rfl, rfl⟩) fS2 with ⟨-, p3, t3, m2, -⟩ | ⟨z1, -⟩
  rotate_left
  · exact absurd z1 (by decide)
  have P2 : S2.2 = S.2 := m2.1
  obtain ⟨-, hg⟩ := oif_some hg
  obtain ⟨v8, ev8, hg⟩ := elet_some hg
  rw [t3.2.2.2 _ _ (by omega), b2] at ev8
  obtain ⟨v9, ev9, hg⟩ := elet_some hg
  rw [P2, b3] at ev5
  rw [ev5] at ev6
  rw [ev8] at ev9
  have e69 : v6 = v9 := ev6.trans ev9.symm
  have q9 := nI_m1 ev9 (by omega)
  obtain ⟨-, hg⟩ := oif_some hg
  rw [e69] at fS7
  rcases othr_k hg with ⟨r9, g9, z9⟩ | ⟨r13, T11, g9, hg⟩
  · rcases k_look p3 g9 fS7 with ⟨z, -⟩ | ⟨z1, z2⟩
    · exact absurd z z9
    · exact .inr ⟨z1, by rw [fin_S7 z2.1]; exact z2⟩
  rcases k_look p3 g9 fS7 with ⟨-, qr, lo, hi, k2, e11, e7⟩ | ⟨z1, -⟩
  rotate_left
  · exact absurd z1 (by decide)
  rw [e7] at ev11 hf fin_S7
  rw [p3.2.2.1] at ev11
  rw [if_pos ev11] at hf
  obtain ⟨m, hm, em⟩ := nI_of01 (x := r13) (a := mc) (by omega) (by omega) (by omega)
  obtain ⟨v13, ev13, hf⟩ := elet_some hf
  rw [qr, em] at ev13
  have k13 : v13 = nI (25 + m) := ev13.trans (nI_add 25 m)
  obtain ⟨-, hf⟩ := oif_some hf
  obtain ⟨v15, ev15, hf⟩ := elet_some hf
  rw [k13, nI_clamp (by omega), P2] at ev15
  have t11 : TFq T T11 := by rw [e11]; exact t3.tr tf6
  have r11 : T11.2.2.2.2 = T.2.2.2.2 := congrArg (fun x => x.2) t11.2.2.1
  obtain ⟨-, hg⟩ := oif_some hg
  obtain ⟨n16, en16, hg⟩ := obind_some hg
  rw [r11, hF.2.2.1] at en16
  cases en16
  obtain ⟨-, hg⟩ := oif_some hg
  obtain ⟨-, hg⟩ := oif_some hg
  obtain ⟨n19, en19, hg⟩ := obind_some hg
  rw [r11, em, nI_clamp (by omega), hF.2.2.2.2.2.2.2.2.2.1 m (by omega)] at en19
  cases en19
  obtain ⟨-, hg⟩ := oif_some hg
  obtain ⟨v21, ev21, hg⟩ := elet_some hg
  rw [t11.2.2.2 _ _ (by omega)] at ev21
  have off := (b4 m hm).2.2.2.2.2.1
  rw [← ev21, ← ev15] at off
  by_cases c0 : v21 = 0
  rotate_left
  · have c15 : v15 = 0 := by
      rcases off with q | q
      · exact absurd q.1 c0
      · exact q.2
    rw [if_pos c15] at hf
    rw [if_neg c0] at hg
    obtain ⟨S17, f17, hf⟩ := obind_some hf
    obtain ⟨-, hg⟩ := oif_some hg
    obtain ⟨v24, ev24, hg⟩ := elet_some hg
    rw [e11, ui_at] at ev24
    obtain ⟨v25, ev25, hg⟩ := elet_some hg
    rw [ev24, nI_pred] at ev25
    rw [ev25, e11] at hg
    obtain ⟨-, hg⟩ := oif_some hg
    have fail : ∀ {k' : Nat} {r' : Int32} {T' : AT}, g_X3_failAt (uI T3 6 1 (nI (i + 1 + 1))) 6 (nI (i + 1)) 3 = some (k', r', T') → k' = 3 ∧ ERq T' S17 := by
      intro k' r' T' g
      obtain ⟨⟨h1, h2, h3, ⟨h4, h5, h6, h7, h8, h9⟩, h10, h11⟩, hh⟩ := p3
      have pq : ∀ j, T3.2.2.1 3 j = (uI T3 6 1 (nI (i + 1 + 1))).2.2.1 3 j := fun j => (ui_ne (.inl (by decide))).symm
      have q := r_fault hh.2.1 f17
      have t2 : TXR (uI T3 6 1 (nI (i + 1 + 1))) := h2
      have t4 : (uI T3 6 1 (nI (i + 1 + 1))).2.2.1 1 5 = nI c := (ui_ne (.inl (by decide))).trans h4
      have t7 : ∀ j, j < c → (uI T3 6 1 (nI (i + 1 + 1))).2.2.1 4 j = nI (pst b n j) := fun j hj => (ui_ne (.inl (by decide))).trans (h7 j hj).2.1
      obtain ⟨a1, a2, a3⟩ := k_failT t2 t4 h6 t7 h10 g
      refine ⟨a1, ?_⟩
      rw [q]
      refine ⟨?_, ?_, ?_⟩
      · rw [mi_ne (by decide), mi_at]; decide
      · rw [mi_ne (by decide), mi_at, a2]
      · rw [mi_at, a3]; exact hh.2.2.2.2.1.symm
    rcases othr_k hg with ⟨r9, g9, -⟩ | ⟨r9, T9, g9, -⟩
    · obtain ⟨a1, a2⟩ := fail g9
      exact .inr ⟨a1, by rw [fin42 a2.1 hf]; exact a2⟩
    · exact absurd (fail g9).1 (by decide)
  · have c15 : ¬ v15 = 0 := by
      rcases off with q | q
      · rw [q.2]; decide
      · rw [c0] at q; exact absurd q.1 (by decide)
    rw [if_neg c15] at hf
    rw [if_pos c0] at hg
    unfold fr_readOff_b42 at hf
    obtain ⟨U2, f2, hf⟩ := obind_some hf
    obtain ⟨p11, m11⟩ := pr_adv p3 (by rw [k2]; decide) f2
    rw [← e11] at p11
    obtain ⟨w9, e9, hf⟩ := elet_some hf
    unfold g_X3_parseOff_b41 at hg
    obtain ⟨-, hg⟩ := oif_some hg
    obtain ⟨n3, en3, hg⟩ := obind_some hg
    rw [r11, hF.2.2.1] at en3
    cases en3
    obtain ⟨-, hg⟩ := oif_some hg
    obtain ⟨-, hg⟩ := oif_some hg
    obtain ⟨n6, en6, hg⟩ := obind_some hg
    rw [r11, em, nI_clamp (by omega), hF.2.2.2.2.2.2.2.2.2.1 m (by omega)] at en6
    cases en6
    obtain ⟨-, hg⟩ := oif_some hg
    obtain ⟨T13, e13, hg⟩ := elet_some hg
    rw [if_pos (e9.trans p11.2.2.1)] at hf
    obtain ⟨w11, e11', hf⟩ := elet_some hf
    rw [qr, em] at e11'
    have k11 : w11 = nI (25 + m) := e11'.trans (nI_add 25 m)
    obtain ⟨-, hf⟩ := oif_some hf
    obtain ⟨U13, e13', hf⟩ := elet_some hf
    rw [k11, nI_clamp (by omega)] at e13'
    have eS := osome1 (show some U13 = some S1 from hf)
    have g := osome3 hg
    rw [← g.2.2, ← eS]
    have hI : ∀ m' j : Nat, m' ≠ 6 → T13.2.2.1 m' j = if m' = s + 172 + m ∧ j = 9 then 1 else T.2.2.1 m' j := fun m' j h6 => by rw [e13, ui_get, t11.2.2.2 m' j h6]
    have PU : U2.2 = S.2 := m11.1.trans P2
    have hP : ∀ x : Nat, U13.2.1 11 x = S.2.1 11 x := fun x => by rw [e13', mf_ne (by decide), PU]
    have hD : ∀ x : Nat, U13.2.1 13 x = if x = 25 + m then 0 else S.2.1 13 x := fun x => by rw [e13', mf_at]; show (if x = 25 + m then 0 else U2.2.1 13 x) = _; rw [PU]
    have p13 := pr_uI (m := s + 172 + m) (k := 9) (v := 1) p11 (by omega)
    rw [← e13] at p13
    have p14 := pr_mfe p13 e13' (by decide)
    have r13 : T13.2.2.2.2 = T.2.2.2.2 := by rw [e13]; exact r11
    have iN : ∀ m' j : Nat, m' ≠ 6 → m' ≠ s + 172 + m ∨ j ≠ 9 → T13.2.2.1 m' j = T.2.2.1 m' j := fun m' j h6 h7 => by rw [hI m' j h6, if_neg (by omega)]
    refine .inl ⟨g.1.symm, ⟨_, by omega, p14⟩, ⟨gH.cg (fun j hj => iN _ _ (by omega) (by omega)) (fun j _ => hP j), gM.cg (iN _ _ (by omega) (by omega)) (fun m' j _ _ => iN _ _ (by omega) (by omega)) (fun j _ => hP j), gG.cg (fun k hk => iN _ _ (by omega) (by omega)) (fun k => iN _ _ (by omega) (by omega)) (fun j _ _ => hP j), ?_, gW.cg (iN _ _ (by omega) (by omega)) (fun k => iN _ _ (by omega) (by omega)) (fun k => iN _ _ (by omega) (by omega)) (fun j _ _ => hP j), gF.cg (iN _ _ (by omega) (by omega)) (hP _), gT.cg (iN _ _ (by omega) (by omega)) (fun k => iN _ _ (by omega) (by omega)) (fun j _ _ => hP j), gZ.cg (iN _ _ (by omega) (by omega)) (fun m' j _ _ => iN _ _ (by omega) (by omega)) (fun j _ _ => hP j), gD.cg (iN _ _ (by omega) (by omega)) (fun k => iN _ _ (by omega) (by omega)) (fun j _ _ => hP j), fun j hj => by rw [hD, if_neg (by omega)]; exact gX j hj⟩, r13⟩
    refine ⟨mc, b1, (iN _ _ (by omega) (by omega)).trans b2, (hP _).trans b3, fun k' hk' => ?_⟩
    have q := b4 k' hk'
    rw [iN (s + 172 + k') 0 (by omega) (by omega), iN (s + 172 + k') 5 (by omega) (by omega), iN (s + 172 + k') 6 (by omega) (by omega), iN (s + 172 + k') 7 (by omega) (by omega), iN (s + 172 + k') 8 (by omega) (by omega), iN (s + 172 + k') 1 (by omega) (by omega), iN (s + 172 + k') 2 (by omega) (by omega), iN (s + 172 + k') 3 (by omega) (by omega), iN (s + 172 + k') 4 (by omega) (by omega), hP, hP, hP, hP, hP, hD (31 + k'), hD (37 + k'), hD (43 + k'), hD (49 + k'), if_neg (show ¬ 31 + k' = 25 + m by omega), if_neg (show ¬ 37 + k' = 25 + m by omega), if_neg (show ¬ 43 + k' = 25 + m by omega), if_neg (show ¬ 49 + k' = 25 + m by omega)]
    refine ⟨q.1, q.2.1, q.2.2.1, q.2.2.2.1, q.2.2.2.2.1, ?_, q.2.2.2.2.2.2⟩
    by_cases e : k' = m
    · subst e
      right
      rw [hI _ _ (by omega), if_pos ⟨rfl, rfl⟩, hD, if_pos rfl]
      exact ⟨rfl, rfl⟩
    · rw [iN _ _ (by omega) (by omega), hD, if_neg (by omega)]
      exact q.2.2.2.2.2.1
end
end
section
/-! 20g.loops.lean.txt -/
section
variable {b : Nat → Int32} {n c i k s : Nat} {T T1 : AT} {S S1 : MS} {r : Int32}
/-- a weight is added on both sides -/
theorem k_shd {a x : Int32} {j : Nat} {w : Nat} {S0 : MS} (hs : s = 478 ∨ s = 656) (hF : SRF s T) (hC : SCNq s T (S.2.1 11) (S.2.1 13)) (hj : S.2.1 11 118 = nI j) (hj2 : j < 12) (ha : g_X6_addShade T s a = some T1) (p : PRq b n c i T S) (e0 : S0 = mf S 11 (upd (S.2.1 11) (119 + j) a)) (e1 : S1 = mf S0 11 (upd (S0.2.1 11) 118 (nI (j + 1)))) : PRq b n c i T1 S1 ∧ SCNq s T1 (S1.2.1 11) (S1.2.1 13) ∧ T1.2.2.2.2 = T.2.2.2.2 ∧ S1.2.1 11 118 = nI (j + 1) := by
  obtain ⟨gH, gM, gG, gS, gW, gF, gT, gZ, ⟨mc, b1, b2, b3, b4⟩, gX⟩ := hC
  have ej : mc = j := by
    rw [hj] at b3
    exact ((nI_eq (by omega) (by omega)).mp b3).symm
  subst ej
  unfold g_X6_addShade at ha
  obtain ⟨-, ha⟩ := oif_some ha
  obtain ⟨v3, e3, ha⟩ := elet_some ha
  rw [b2] at e3
  rw [if_neg (by rw [e3]; intro q; have := (nI_leI (a := 12) (b := mc) (by omega) (by omega)).mp q; omega)] at ha
  obtain ⟨-, ha⟩ := oif_some ha
  obtain ⟨n6, e6, ha⟩ := obind_some ha
  rw [hF.2.2.2.2.2.2.1] at e6
  cases e6
  obtain ⟨-, ha⟩ := oif_some ha
  obtain ⟨v8, e8, ha⟩ := elet_some ha
  rw [b2] at e8
  obtain ⟨-, ha⟩ := oif_some ha
  obtain ⟨-, ha⟩ := oif_some ha
  obtain ⟨T11, e11, ha⟩ := elet_some ha
  rw [e8, nI_clamp (by omega)] at e11
  obtain ⟨-, ha⟩ := oif_some ha
  obtain ⟨v13, e13, ha⟩ := elet_some ha
  rw [e11, ui_ne (by omega), b2] at e13
  obtain ⟨v14, e14, ha⟩ := elet_some ha
  rw [e13, nI_1] at e14
  obtain ⟨-, ha⟩ := oif_some ha
  obtain ⟨T16, e16, ha⟩ := elet_some ha
  have ha := osome1 (show some T16 = some T1 from ha)
  rw [← ha]
  have hI : ∀ m' j : Nat, T16.2.2.1 m' j = if m' = s ∧ j = 16 then nI (mc + 1) else if m' = s + 14 ∧ j = mc then a else T.2.2.1 m' j := fun m' j => by rw [e16, ui_get, e14, e11, ui_get]
  have hP : ∀ x : Nat, S1.2.1 11 x = if x = 118 then nI (mc + 1) else if x = 119 + mc then a else S.2.1 11 x := fun x => by
    rw [e1, mf_at]
    show (if x = 118 then nI (mc + 1) else S0.2.1 11 x) = _
    rw [e0, mf_at]
    rfl
  have hD : ∀ x : Nat, S1.2.1 13 x = S.2.1 13 x := fun x => by rw [e1, mf_ne (by decide), e0, mf_ne (by decide)]
  have iN : ∀ m' j : Nat, (m' ≠ s ∨ j ≠ 16) → m' ≠ s + 14 → T16.2.2.1 m' j = T.2.2.1 m' j := fun m' j h1 h2 => by rw [hI, if_neg (by omega), if_neg (by omega)]
  have pN : ∀ x : Nat, x < 118 → S1.2.1 11 x = S.2.1 11 x := fun x hx => by rw [hP, if_neg (by omega), if_neg (by omega)]
  have p11 := pr_uI (m := s + 14) (k := mc) (v := a) p (by omega)
  rw [← e11] at p11
  have p16 := pr_uI (m := s) (k := 16) (v := v14) p11 (by omega)
  rw [← e16] at p16
  have q0 := pr_mf (a := 11) (f := upd (S.2.1 11) (119 + mc) a) p16 (by decide)
  rw [← e0] at q0
  have q1 := pr_mf (a := 11) (f := upd (S0.2.1 11) 118 (nI (mc + 1))) q0 (by decide)
  rw [← e1] at q1
  refine ⟨q1, ⟨gH.cg (fun j hj => iN _ _ (by omega) (by omega)) (fun j hj => pN _ (by omega)), gM.cg (iN _ _ (by omega) (by omega)) (fun m' j _ _ => iN _ _ (by omega) (by omega)) (fun j hj => pN _ (by omega)), gG.cg (fun k hk => iN _ _ (by omega) (by omega)) (fun k => iN _ _ (by omega) (by omega)) (fun j hj hj2 => pN _ (by omega)), gS.cg (iN _ _ (by omega) (by omega)) (fun m' j _ _ => iN _ _ (by omega) (by omega)) (fun j hj => pN _ (by omega)) (fun j _ _ => hD j), gW.cg (iN _ _ (by omega) (by omega)) (fun k => iN _ _ (by omega) (by omega)) (fun k => iN _ _ (by omega) (by omega)) (fun j hj hj2 => pN _ (by omega)), gF.cg (iN _ _ (by omega) (by omega)) (pN _ (by omega)), gT.cg (iN _ _ (by omega) (by omega)) (fun k => iN _ _ (by omega) (by omega)) (fun j hj hj2 => pN _ (by omega)), gZ.cg (iN _ _ (by omega) (by omega)) (fun m' j _ _ => iN _ _ (by omega) (by omega)) (fun j hj hj2 => pN _ (by omega)), ?_, fun j hj => (hD j).trans (gX j hj)⟩, ?_, ?_⟩
  · refine ⟨mc + 1, by omega, by rw [hI, if_pos ⟨rfl, rfl⟩], by rw [hP, if_pos rfl], fun k hk => ?_⟩
    have hA := hI (s + 14) k
    have hB := hP (119 + k)
    rw [if_neg (by omega)] at hA hB
    rw [hA, hB]
    by_cases e : k = mc
    · rw [if_pos ⟨rfl, e⟩, if_pos (by omega)]
    · rw [if_neg (by omega), if_neg (by omega)]
      exact b4 k (by omega)
  · rw [e16, e11]; rfl
  · rw [hP, if_pos rfl]
theorem k_tap {a : Int32} {j : Nat} {S0 : MS} (hs : s = 478 ∨ s = 656) (hF : SRF s T) (hC : SCNq s T (S.2.1 11) (S.2.1 13)) (hj : S.2.1 11 77 = nI j) (hj2 : j < 5) (ha : g_X6_addTap T s a = some T1) (p : PRq b n c i T S) (e0 : S0 = mf S 11 (upd (S.2.1 11) (78 + j) a)) (e1 : S1 = mf S0 11 (upd (S0.2.1 11) 77 (nI (j + 1)))) : PRq b n c i T1 S1 ∧ SCNq s T1 (S1.2.1 11) (S1.2.1 13) ∧ T1.2.2.2.2 = T.2.2.2.2 ∧ S1.2.1 11 77 = nI (j + 1) := by
  obtain ⟨gH, gM, gG, gS, gW, gF, ⟨mc, b1, b2, b3, b4⟩, gZ, gD, gX⟩ := hC
  have ej : mc = j := by
    rw [hj] at b3
    exact ((nI_eq (by omega) (by omega)).mp b3).symm
  subst ej
  unfold g_X6_addTap at ha
  obtain ⟨-, ha⟩ := oif_some ha
  obtain ⟨v3, e3, ha⟩ := elet_some ha
  rw [b2] at e3
  rw [if_neg (by rw [e3]; intro q; have := (nI_leI (a := 5) (b := mc) (by omega) (by omega)).mp q; omega)] at ha
  obtain ⟨-, ha⟩ := oif_some ha
  obtain ⟨n6, e6, ha⟩ := obind_some ha
  rw [hF.2.2.2.2.2.1] at e6
  cases e6
  obtain ⟨-, ha⟩ := oif_some ha
  obtain ⟨v8, e8, ha⟩ := elet_some ha
  rw [b2] at e8
  obtain ⟨-, ha⟩ := oif_some ha
  obtain ⟨-, ha⟩ := oif_some ha
  obtain ⟨T11, e11, ha⟩ := elet_some ha
  rw [e8, nI_clamp (by omega)] at e11
  obtain ⟨-, ha⟩ := oif_some ha
  obtain ⟨v13, e13, ha⟩ := elet_some ha
  rw [e11, ui_ne (by omega), b2] at e13
  obtain ⟨v14, e14, ha⟩ := elet_some ha
  rw [e13, nI_1] at e14
  obtain ⟨-, ha⟩ := oif_some ha
  obtain ⟨T16, e16, ha⟩ := elet_some ha
  have ha := osome1 (show some T16 = some T1 from ha)
  rw [← ha]
  have hI : ∀ m' j : Nat, T16.2.2.1 m' j = if m' = s ∧ j = 14 then nI (mc + 1) else if m' = s + 13 ∧ j = mc then a else T.2.2.1 m' j := fun m' j => by rw [e16, ui_get, e14, e11, ui_get]
  have hP : ∀ x : Nat, S1.2.1 11 x = if x = 77 then nI (mc + 1) else if x = 78 + mc then a else S.2.1 11 x := fun x => by
    rw [e1, mf_at]
    show (if x = 77 then nI (mc + 1) else S0.2.1 11 x) = _
    rw [e0, mf_at]
    rfl
  have hD : ∀ x : Nat, S1.2.1 13 x = S.2.1 13 x := fun x => by rw [e1, mf_ne (by decide), e0, mf_ne (by decide)]
  have iN : ∀ m' j : Nat, (m' ≠ s ∨ j ≠ 14) → m' ≠ s + 13 → T16.2.2.1 m' j = T.2.2.1 m' j := fun m' j h1 h2 => by rw [hI, if_neg (by omega), if_neg (by omega)]
  have pN : ∀ x : Nat, x < 77 ∨ 83 ≤ x → S1.2.1 11 x = S.2.1 11 x := fun x hx => by rw [hP, if_neg (by omega), if_neg (by omega)]
  have p11 := pr_uI (m := s + 13) (k := mc) (v := a) p (by omega)
  rw [← e11] at p11
  have p16 := pr_uI (m := s) (k := 14) (v := v14) p11 (by omega)
  rw [← e16] at p16
  have q0 := pr_mf (a := 11) (f := upd (S.2.1 11) (78 + mc) a) p16 (by decide)
  rw [← e0] at q0
  have q1 := pr_mf (a := 11) (f := upd (S0.2.1 11) 77 (nI (mc + 1))) q0 (by decide)
  rw [← e1] at q1
  refine ⟨q1, ⟨gH.cg (fun j hj => iN _ _ (by omega) (by omega)) (fun j hj => pN _ (by omega)), gM.cg (iN _ _ (by omega) (by omega)) (fun m' j _ _ => iN _ _ (by omega) (by omega)) (fun j hj => pN _ (by omega)), gG.cg (fun k hk => iN _ _ (by omega) (by omega)) (fun k => iN _ _ (by omega) (by omega)) (fun j hj hj2 => pN _ (by omega)), gS.cg (iN _ _ (by omega) (by omega)) (fun m' j _ _ => iN _ _ (by omega) (by omega)) (fun j hj => pN _ (by omega)) (fun j _ _ => hD j), gW.cg (iN _ _ (by omega) (by omega)) (fun k => iN _ _ (by omega) (by omega)) (fun k => iN _ _ (by omega) (by omega)) (fun j hj hj2 => pN _ (by omega)), gF.cg (iN _ _ (by omega) (by omega)) (pN _ (by omega)), ?_, gZ.cg (iN _ _ (by omega) (by omega)) (fun m' j _ _ => iN _ _ (by omega) (by omega)) (fun j hj hj2 => pN _ (by omega)), gD.cg (iN _ _ (by omega) (by omega)) (fun k => iN _ _ (by omega) (by omega)) (fun j hj hj2 => pN _ (by omega)), fun j hj => (hD j).trans (gX j hj)⟩, ?_, ?_⟩
  · refine ⟨mc + 1, by omega, by rw [hI, if_pos ⟨rfl, rfl⟩], by rw [hP, if_pos rfl], fun k hk => ?_⟩
    have hA := hI (s + 13) k
    have hB := hP (78 + k)
    rw [if_neg (by omega)] at hA hB
    rw [hA, hB]
    by_cases e : k = mc
    · rw [if_pos ⟨rfl, e⟩, if_pos (by omega)]
    · rw [if_neg (by omega), if_neg (by omega)]
      exact b4 k (by omega)
  · rw [e16, e11]; rfl
  · rw [hP, if_pos rfl]
/-- more than fit: the number is out of its bounds, or there are too many -/
theorem k_many {a : Int32} {S2 S3 : MS} (ha : a = 9) (p : PRq b n c i T S) (hg : g_X3_failAsTooMany T 6 a = some (k, r, T1)) (h2 : kd b n (pst b n i) = 2 ∧ (∃ w, fr_look S 0 9 = some (w, S2)) ∨ kd b n (pst b n i) ≠ 2 ∧ S2 = S) (h3 : fr_faults S2 4 = some S3) : k = 3 ∧ ERq T1 S3 := by
  subst ha
  have h11 := p.1.2.2.2.2.2
  have h10 := p.1.2.2.2.2.1
  have q5 := p.2.2.1
  have qt := p.2.2.2.2.2.2.2
  unfold g_X3_failAsTooMany at hg
  obtain ⟨-, hg⟩ := oif_some hg
  obtain ⟨v3, e3, hg⟩ := elet_some hg
  rw [h11] at e3
  obtain ⟨-, hg⟩ := oif_some hg
  obtain ⟨r7, T5, e7, hg⟩ := obind2_some hg
  obtain ⟨k1, k2⟩ := k_kind p e7
  rw [k2] at hg
  have b26 : ∀ {e : Int32} {Sx : MS}, 0 < e.toInt → fr_faults S e = some Sx → g_X3_failAsTooMany_b26 T e v3 6 = some (k, r, T1) → k = 3 ∧ ERq T1 Sx := by
    intro e Sx he hf hg
    unfold g_X3_failAsTooMany_b26 at hg
    obtain ⟨-, hg⟩ := oif_some hg
    rw [e3] at hg
    rcases othr_k hg with ⟨r9, g9, -⟩ | ⟨r9, T9, g9, -⟩
    · exact k_err p h10 rfl he g9 hf
    · exact absurd (k_err p h10 rfl he g9 hf).1 (by decide)
  rcases h2 with ⟨ck, w, hl⟩ | ⟨ck, e⟩
  · rw [if_pos (k1.trans ck)] at hg
    obtain ⟨-, hg⟩ := oif_some hg
    obtain ⟨r13, T11, e13, hg⟩ := obind2_some hg
    obtain ⟨k3, k4⟩ := k_value p e13
    rw [k4] at hg
    unfold fr_look at hl
    obtain ⟨w2, d2, hl⟩ := elet_some hl
    rw [if_pos (by rw [d2, q5]; decide)] at hl
    obtain ⟨w4, d4, hl⟩ := elet_some hl
    rw [if_pos (d4.trans ((tk_num qt).mpr ck))] at hl
    obtain ⟨w6, d6, hl⟩ := elet_some hl
    rw [(qt.2.2.1 ck).2, ← k3] at d6
    obtain ⟨w7, d7, hl⟩ := obind_some hl
    rw [d6] at d7
    have v0 : 0 ≤ r13 := by rw [k3]; exact vf_pos p ck
    rcases tin2 d7 with ⟨c7, c8, c9⟩ | ⟨c7, c8⟩
    · rw [if_pos c9] at hg
      rw [if_neg (by rw [c7]; decide)] at hl
      unfold fr_look_b42 at hl
      obtain ⟨w8, d8, hl⟩ := elet_some hl
      rw [if_pos (by rw [d8, q5]; decide)] at hl
      obtain ⟨w9, d9, hl⟩ := elet_some hl
      have g5 := osome2 (show some (w9, S) = some (w, S2) from hl)
      rw [← g5.2] at h3
      exact b26 (by decide) h3 hg
    · rw [if_neg (fun q => c8 ⟨v0, q⟩)] at hg
      rw [if_pos c7] at hl
      obtain ⟨S10, f10, hl⟩ := obind_some hl
      obtain ⟨a1, a2⟩ := b26 (by decide) f10 hg
      unfold fr_look_b42 at hl
      obtain ⟨w8, d8, hl⟩ := elet_some hl
      rw [if_neg (st_le a2.1 d8)] at hl
      have g5 := osome2 (show some ((0 : Int32), S10) = some (w, S2) from hl)
      rw [← g5.2] at h3
      rw [st_faults a2.1 h3]
      exact ⟨a1, a2⟩
  · rw [if_neg (fun q => ck (k1.symm.trans q))] at hg
    rw [e] at h3
    exact b26 (by decide) h3 hg
theorem st_shade {U : MS} {l : Int32} {kk : MS → Option MS} (q : 0 < (U.1 5).toInt) (hf : fr_readShade_b44 kk U l = some S1) : S1 = U := by
  unfold fr_readShade_b44 at hf
  obtain ⟨U2, f2, hf⟩ := obind_some hf
  rw [st_next q f2] at hf
  obtain ⟨v5, e5, hf⟩ := elet_some hf
  rw [if_neg (st_le q e5)] at hf
  exact (osome1 hf).symm
theorem st_filt {U : MS} {kk : MS → Option MS} (q : 0 < (U.1 5).toInt) (hf : fr_readFilter_b65 kk U = some S1) : S1 = U := by
  unfold fr_readFilter_b65 at hf
  obtain ⟨w5, U2, f2, hf⟩ := obind2_some hf
  rw [st_signed q f2] at hf
  obtain ⟨v5, e5, hf⟩ := elet_some hf
  rw [if_neg (st_le q e5)] at hf
  exact (osome1 hf).symm
/-- the weights behind the first one -/
theorem k_shl (hs : s = 478 ∨ s = 656) : ∀ (f f2 : Nat) {i j k : Nat} {r : Int32} {T T1 : AT} {S S1 : MS}, PRq b n c i T S → SRF s T → SCNq s T (S.2.1 11) (S.2.1 13) → S.2.1 11 118 = nI j → 1 ≤ j → j ≤ 12 → g_X3_parseShade_b30 f T 6 s (nI j) = some (k, r, T1) → (elet (S.1 7) fun v14 => if v14 = 3 then (fr_readShade_b19 f2 S) else (some S)) = some S1 → (k = 0 ∧ (∃ j, i ≤ j ∧ PRq b n c j T1 S1) ∧ SCNq s T1 (S1.2.1 11) (S1.2.1 13) ∧ T1.2.2.2.2 = T.2.2.2.2) ∨ (k = 3 ∧ ERq T1 S1) := by
  intro f
  induction f with
  | zero => intro f2 i j k r T T1 S S1 p hF hC hj h1 h12 hg hf; cases hg
  | succ f ih =>
    intro f2 i j k r T T1 S S1 p hF hC hj h1 h12 hg hf
    have qt := p.2.2.2.2.2.2.2
    unfold g_X3_parseShade_b30 at hg
    rw [if_neg (by intro q; have := (nI_ltI (a := 12) (b := j) (by omega) (by omega)).mp q; omega)] at hg
    obtain ⟨-, hg⟩ := oif_some hg
    obtain ⟨r6, T4, e6, hg⟩ := obind2_some hg
    obtain ⟨k1, k2⟩ := k_kind p e6
    rw [k2] at hg
    obtain ⟨v14, e14, hf⟩ := elet_some hf
    by_cases ck : kd b n (pst b n i) = 2
    · rw [if_pos (k1.trans ck)] at hg
      rw [if_pos (e14.trans ((tk_num qt).mpr ck))] at hf
      cases f2 with
      | zero => cases hf
      | succ f2 =>
        unfold fr_readShade_b19 at hf
        obtain ⟨r5, S2, fS2, hf⟩ := obind2_some hf
        obtain ⟨v6, e6', hf⟩ := elet_some hf
        by_cases c12 : j = 12
        · rw [if_pos (by rw [c12]; rfl)] at hg
          obtain ⟨-, hg⟩ := oif_some hg
          have p118 : S2.2.1 11 118 = S.2.1 11 118 := by
            have := (w_fr_look fS2).2 11 (by decide)
            rw [this]
          rw [if_pos (by rw [e6', p118, hj, c12]; rfl)] at hf
          obtain ⟨S8, f8, hf⟩ := obind_some hf
          right
          rcases othr_k hg with ⟨r9, g9, -⟩ | ⟨r9, T9, g9, -⟩
          · obtain ⟨a1, a2⟩ := k_many rfl p g9 (.inl ⟨ck, r5, fS2⟩) f8
            rw [st_shade a2.1 hf]
            exact ⟨a1, a2⟩
          · exact absurd (k_many rfl p g9 (.inl ⟨ck, r5, fS2⟩) f8).1 (by decide)
        · rw [if_neg (by intro q; exact c12 ((nI_eq (a := j) (b := 12) (by omega) (by decide)).mp q))] at hg
          unfold g_X3_parseShade_b56 at hg
          obtain ⟨-, hg⟩ := oif_some hg
          have p118 : S2.2.1 11 118 = S.2.1 11 118 := by
            have := (w_fr_look fS2).2 11 (by decide)
            rw [this]
          rw [if_neg (by rw [e6', p118, hj]; intro q; exact c12 ((nI_eq (a := j) (b := 12) (by omega) (by decide)).mp q))] at hf
          rcases othr_k hg with ⟨r9, g9, z9⟩ | ⟨r5', T3, g9, hg⟩
          · rcases k_look p g9 fS2 with ⟨z, -⟩ | ⟨z1, z2⟩
            · exact absurd z z9
            · exact .inr ⟨z1, by rw [st_shade z2.1 hf]; exact z2⟩
          rcases k_look p g9 fS2 with ⟨-, qr, -, -, -, e3, e2⟩ | ⟨z1, -⟩
          rotate_left
          · exact absurd z1 (by decide)
          rw [e2] at hf
          unfold fr_readShade_b44 at hf
          obtain ⟨U2, fU2, hf⟩ := obind_some hf
          obtain ⟨p3, m3⟩ := pr_adv p (by rw [ck]; decide) fU2
          rw [← e3] at p3
          obtain ⟨v5, e5, hf⟩ := elet_some hf
          rw [if_pos (by rw [e5, p3.2.2.1]; decide)] at hf
          obtain ⟨v7, e7, hf⟩ := elet_some hf
          rw [m3.1, hj] at e7
          obtain ⟨v8, e8, hf⟩ := elet_some hf
          have k8 : v8 = nI (119 + j) := by rw [e8, e7]; exact nI_add 119 j
          obtain ⟨-, hf⟩ := oif_some hf
          obtain ⟨S10, e10, hf⟩ := elet_some hf
          rw [k8, nI_clamp (by omega), qr] at e10
          obtain ⟨v11, e11, hf⟩ := elet_some hf
          rw [e10, mf_at] at e11
          have e11 : v11 = nI j := by
            rw [e11]
            show (if 118 = 119 + j then r5' else U2.2.1 11 118) = _
            rw [if_neg (by omega), m3.1, hj]
          obtain ⟨v12, e12, hf⟩ := elet_some hf
          rw [e11, nI_1] at e12
          obtain ⟨S13, e13, hf⟩ := elet_some hf
          rw [e12] at e13
          obtain ⟨-, hg⟩ := oif_some hg
          obtain ⟨T8, e8', hg⟩ := obind_some hg
          obtain ⟨v10, e10', hg⟩ := elet_some hg
          have e10' : v10 = nI (j + 1) := e10'.trans (nI_1 j)
          rw [e10'] at hg
          have t3 : TFq T T3 := by rw [e3]; exact tf6
          have r3 : T3.2.2.2.2 = T.2.2.2.2 := congrArg (fun x => x.2) t3.2.2.1
          obtain ⟨a1, a2, a3, a4⟩ := k_shd (w := 0) (x := 0) hs (hF.sub r3) (by rw [m3.1]; exact scn_tf hs t3 hC) (by rw [m3.1]; exact hj) (by omega) e8' p3 e10 e13
          rcases ih f2 a1 (hF.sub (a3.trans r3)) a2 a4 (by omega) (by omega) hg hf with ⟨y1, ⟨j2, y2, y3⟩, y4, y5⟩ | y
          · exact .inl ⟨y1, ⟨j2, by omega, y3⟩, y4, y5.trans (a3.trans r3)⟩
          · exact .inr y
    · rw [if_neg (fun q => ck (k1.symm.trans q))] at hg
      rw [if_neg (fun q => ck ((tk_num qt).mp (e14.symm.trans q)))] at hf
      have g := osome3 (show some ((0 : Nat), (0 : Int32), T) = some (k, r, T1) from hg)
      have ff := osome1 hf
      rw [← ff, ← g.2.2]
      exact .inl ⟨g.1.symm, ⟨i, Nat.le_refl _, p⟩, hC, rfl⟩
set_option maxHeartbeats 400000 in
theorem l_shade (h : PRq b n c i T S) (hk : kd b n (pst b n i) = 1) (hs : s = 478 ∨ s = 656) (hF : SRF s T) (hC : SCNq s T (S.2.1 11) (S.2.1 13)) (hg : g_X3_parseShade T 6 s = some (k, r, T1)) (hf : fr_readShade S = some S1) : LNq b n c i s T T1 S1 k := by
  obtain ⟨mc, b1, b2, b3, b4⟩ := hC.2.2.2.2.2.2.2.2.1
  have z0 : (0 : Int32).toInt = 0 := by decide
  have qm : (nI mc).toInt = (mc : Int) := nI_toInt (by omega)
  unfold g_X3_parseShade at hg
  obtain ⟨-, hg⟩ := oif_some hg
  obtain ⟨v3, ev3, hg⟩ := elet_some hg
  rw [b2] at ev3
  unfold fr_readShade at hf
  obtain ⟨v2, ev2, hf⟩ := elet_some hf
  rw [b3] at ev2
  have key : ∃ (a0 : Int32) (Sa : MS), g_X3_parseShade_b13 T a0 6 6 s = some (k, r, T1) ∧ fr_readShade_b15 Sa = some S1 ∧ ((a0 = 0 ∧ Sa = S) ∨ (a0 ≠ 0 ∧ fr_faults S 3 = some Sa)) ∧ (a0 = 0 → mc = 0) := by
    by_cases cm : nI mc ≤ 0
    · rw [ev3, if_pos cm] at hg
      rw [ev2, if_pos cm] at hf
      have := i_le cm
      exact ⟨0, S, hg, hf, .inl ⟨rfl, rfl⟩, fun _ => by omega⟩
    · rw [ev3, if_neg cm] at hg
      rw [ev2, if_neg cm] at hf
      obtain ⟨S4, f4, hf⟩ := obind_some hf
      exact ⟨1, S4, hg, hf, .inr ⟨by decide, f4⟩, fun q => absurd q (by decide)⟩
  obtain ⟨a0, Sa, hg, hf, hcase, hmc⟩ := key
  unfold fr_readShade_b15 at hf
  obtain ⟨S2, fS2, hf⟩ := obind_some hf
  have fin19 : ∀ (f : Nat) {U : MS}, 0 < (U.1 5).toInt → fr_readShade_b19 f U = some S1 → S1 = U := by
    intro f U q hf
    cases f with
    | zero => cases hf
    | succ f =>
      unfold fr_readShade_b19 at hf
      obtain ⟨w5, U2, f2, hf⟩ := obind2_some hf
      rw [st_look q f2] at hf
      obtain ⟨v6, e6, hf⟩ := elet_some hf
      by_cases cc : v6 = 12
      · rw [if_pos cc] at hf
        obtain ⟨U8, f8, hf⟩ := obind_some hf
        rw [st_faults q f8] at hf
        exact st_shade q hf
      · rw [if_neg cc] at hf
        exact st_shade q hf
  unfold g_X3_parseShade_b13 at hg
  obtain ⟨-, hg⟩ := oif_some hg
  rcases othr_k hg with ⟨r9, g9, z9⟩ | ⟨r5, T3, g9, hg⟩
  · rcases k_line h hk (by decide) g9 hcase fS2 with ⟨z, -⟩ | ⟨z1, z2⟩
    · exact absurd z z9
    · exact .inr ⟨z1, by rw [fin19 _ z2.1 hf]; exact z2⟩
  rcases k_line h hk (by decide) g9 hcase fS2 with ⟨-, p3, t3, m2, za⟩ | ⟨z1, -⟩
  rotate_left
  · exact absurd z1 (by decide)
  have e0 := hmc za
  subst e0
  obtain ⟨-, hg⟩ := oif_some hg
  have hf : fr_readShade_b19 (16383 + 1) S2 = some S1 := hf
  unfold fr_readShade_b19 at hf
  obtain ⟨w5, S3, f3, hf⟩ := obind2_some hf
  obtain ⟨v6, e6, hf⟩ := elet_some hf
  have p118 : S3.2.1 11 118 = nI 0 := by
    have := (w_fr_look f3).2 11 (by decide)
    rw [this, m2.1, b3]
  rw [if_neg (by rw [e6, p118]; decide)] at hf
  rcases othr_k hg with ⟨r9, g9, z9⟩ | ⟨r10, T8, g9, hg⟩
  · rcases k_look p3 g9 f3 with ⟨z, -⟩ | ⟨z1, z2⟩
    · exact absurd z z9
    · exact .inr ⟨z1, by rw [st_shade z2.1 hf]; exact z2⟩
  rcases k_look p3 g9 f3 with ⟨-, qr, -, -, ck, e8, e3⟩ | ⟨z1, -⟩
  rotate_left
  · exact absurd z1 (by decide)
  rw [e3] at hf
  unfold fr_readShade_b44 at hf
  obtain ⟨U2, fU2, hf⟩ := obind_some hf
  obtain ⟨p8, m8⟩ := pr_adv p3 (by rw [ck]; decide) fU2
  rw [← e8] at p8
  have PU : U2.2 = S.2 := m8.1.trans m2.1
  obtain ⟨v5, e5, hf⟩ := elet_some hf
  rw [if_pos (by rw [e5, p8.2.2.1]; decide)] at hf
  obtain ⟨v7, e7, hf⟩ := elet_some hf
  rw [PU, b3] at e7
  obtain ⟨v8, e8', hf⟩ := elet_some hf
  have k8 : v8 = nI (119 + 0) := by rw [e8', e7]; exact nI_add 119 0
  obtain ⟨-, hf⟩ := oif_some hf
  obtain ⟨S10, e10, hf⟩ := elet_some hf
  rw [k8, nI_clamp (by omega), qr] at e10
  obtain ⟨v11, e11, hf⟩ := elet_some hf
  rw [e10, mf_at] at e11
  have e11 : v11 = nI 0 := by
    rw [e11]
    show (if 118 = 119 + 0 then r10 else U2.2.1 11 118) = _
    rw [if_neg (by omega), PU, b3]
  obtain ⟨v12, e12, hf⟩ := elet_some hf
  rw [e11, nI_1] at e12
  obtain ⟨S13, e13, hf⟩ := elet_some hf
  rw [e12] at e13
  obtain ⟨-, hg⟩ := oif_some hg
  obtain ⟨T13, e13', hg⟩ := obind_some hg
  have t8 : TFq T T8 := by rw [e8]; exact t3.tr tf6
  have r8 : T8.2.2.2.2 = T.2.2.2.2 := congrArg (fun x => x.2) t8.2.2.1
  obtain ⟨a1, a2, a3, a4⟩ := k_shd (w := 0) (x := 0) hs (hF.sub r8) (by rw [PU]; exact scn_tf hs t8 hC) (by rw [PU]; exact b3) (by omega) e13' p8 e10 e13
  rcases k_shl hs 16384 16383 a1 (hF.sub (a3.trans r8)) a2 a4 (by omega) (by omega) hg hf with ⟨y1, ⟨j2, y2, y3⟩, y4, y5⟩ | y
  · exact .inl ⟨y1, ⟨j2, by omega, y3⟩, y4, y5.trans (a3.trans r8)⟩
  · exact .inr y
end
end
section
/-! 20h.filt.lean.txt -/
section
variable {b : Nat → Int32} {n c i k s : Nat} {T T1 : AT} {S S1 : MS} {r : Int32}
/-- the taps behind the first one -/
theorem k_fll (hs : s = 478 ∨ s = 656) : ∀ (f f2 : Nat) {i j k : Nat} {r : Int32} {T T1 : AT} {S S1 : MS}, PRq b n c i T S → SRF s T → SCNq s T (S.2.1 11) (S.2.1 13) → S.2.1 11 77 = nI j → 1 ≤ j → j ≤ 5 → g_X3_parseFilter_b31 f T 6 s (nI j) = some (k, r, T1) → (elet (S.1 7) fun v15 => if v15 = 3 then (fr_readFilter_b19 f2 S) else (obind2 (fr_isSignHere S 45) fun r20 S17 => if r20 = 0 then (some S17) else (fr_readFilter_b19 f2 S17))) = some S1 → (k = 0 ∧ (∃ j, i ≤ j ∧ PRq b n c j T1 S1) ∧ SCNq s T1 (S1.2.1 11) (S1.2.1 13) ∧ T1.2.2.2.2 = T.2.2.2.2) ∨ (k = 3 ∧ ERq T1 S1) := by
  intro f
  induction f with
  | zero => intro f2 i j k r T T1 S S1 p hF hC hj h1 h12 hg hf; cases hg
  | succ f ih =>
    intro f2 i j k r T T1 S S1 p hF hC hj h1 h12 hg hf
    have qt := p.2.2.2.2.2.2.2
    -- one more
    have go : (kd b n (pst b n i) = 2 ∨ kd b n (pst b n i) = 3) → g_X3_parseFilter_b52 (g_X3_parseFilter_b31 f) T 6 s (nI j) = some (k, r, T1) → fr_readFilter_b19 f2 S = some S1 → (k = 0 ∧ (∃ j, i ≤ j ∧ PRq b n c j T1 S1) ∧ SCNq s T1 (S1.2.1 11) (S1.2.1 13) ∧ T1.2.2.2.2 = T.2.2.2.2) ∨ (k = 3 ∧ ERq T1 S1) := by
      intro hk hg hf
      cases f2 with
      | zero => cases hf
      | succ f2 =>
        unfold fr_readFilter_b19 at hf
        obtain ⟨v2, e2, hf⟩ := elet_some hf
        rw [hj] at e2
        unfold g_X3_parseFilter_b52 at hg
        by_cases c5 : j = 5
        · rw [if_pos (by rw [c5]; rfl)] at hg
          obtain ⟨-, hg⟩ := oif_some hg
          rw [if_pos (by rw [e2, c5]; rfl)] at hf
          unfold fr_readFilter_b35 at hf
          rw [if_neg (by decide)] at hf
          obtain ⟨v3, e3, hf⟩ := elet_some hf
          have key : ∃ S2 S3, (kd b n (pst b n i) = 2 ∧ (∃ w, fr_look S 0 9 = some (w, S2)) ∨ kd b n (pst b n i) ≠ 2 ∧ S2 = S) ∧ fr_faults S2 4 = some S3 ∧ fr_readFilter_b65 (fr_readFilter_b19 f2) S3 = some S1 := by
            by_cases ck : kd b n (pst b n i) = 2
            · rw [if_pos (e3.trans ((tk_num qt).mpr ck))] at hf
              obtain ⟨r8, S5, f5, hf⟩ := obind2_some hf
              unfold fr_readFilter_b56 at hf
              rw [if_neg (by decide)] at hf
              obtain ⟨S3, f3, hf⟩ := obind_some hf
              exact ⟨S5, S3, .inl ⟨ck, r8, f5⟩, f3, hf⟩
            · rw [if_neg (fun q => ck ((tk_num qt).mp (e3.symm.trans q)))] at hf
              unfold fr_readFilter_b56 at hf
              rw [if_neg (by decide)] at hf
              obtain ⟨S3, f3, hf⟩ := obind_some hf
              exact ⟨S, S3, .inr ⟨ck, rfl⟩, f3, hf⟩
          obtain ⟨S2, S3, a1, a2, a3⟩ := key
          right
          rcases othr_k hg with ⟨r9, g9, -⟩ | ⟨r9, T9, g9, -⟩
          · obtain ⟨y1, y2⟩ := k_many rfl p g9 a1 a2
            rw [st_filt y2.1 a3]
            exact ⟨y1, y2⟩
          · exact absurd (k_many rfl p g9 a1 a2).1 (by decide)
        · rw [if_neg (by intro q; exact c5 ((nI_eq (a := j) (b := 5) (by omega) (by decide)).mp q))] at hg
          rw [if_neg (by rw [e2]; intro q; exact c5 ((nI_eq (a := j) (b := 5) (by omega) (by decide)).mp q))] at hf
          unfold fr_readFilter_b35 at hf
          rw [if_pos rfl] at hf
          unfold fr_readFilter_b56 at hf
          rw [if_pos rfl] at hf
          unfold fr_readFilter_b65 at hf
          obtain ⟨r5, S2, f5, hf⟩ := obind2_some hf
          obtain ⟨v6, e6, hf⟩ := elet_some hf
          unfold g_X3_parseFilter_b63 at hg
          obtain ⟨-, hg⟩ := oif_some hg
          rcases othr_k hg with ⟨r9, g9, z9⟩ | ⟨r5', T3, g9, hg⟩
          · rcases k_signed p g9 f5 with ⟨z, -⟩ | ⟨z1, z2⟩
            · exact absurd z z9
            · rw [if_neg (st_le z2.1 e6)] at hf
              exact .inr ⟨z1, by rw [← osome1 hf]; exact z2⟩
          rcases k_signed p g9 f5 with ⟨-, qr, ⟨i3, l3, p3⟩, t3, m3⟩ | ⟨z1, -⟩
          rotate_left
          · exact absurd z1 (by decide)
          rw [if_pos (by rw [e6, p3.2.2.1]; decide)] at hf
          obtain ⟨v8, e8, hf⟩ := elet_some hf
          rw [m3.1, hj] at e8
          obtain ⟨v9, e9, hf⟩ := elet_some hf
          have k9 : v9 = nI (78 + j) := by rw [e9, e8]; exact nI_add 78 j
          obtain ⟨-, hf⟩ := oif_some hf
          obtain ⟨S11, e11, hf⟩ := elet_some hf
          rw [k9, nI_clamp (by omega), qr] at e11
          obtain ⟨v12, e12, hf⟩ := elet_some hf
          rw [e11, mf_at] at e12
          have e12 : v12 = nI j := by
            rw [e12]
            show (if 77 = 78 + j then r5' else S2.2.1 11 77) = _
            rw [if_neg (by omega), m3.1, hj]
          obtain ⟨v13, e13, hf⟩ := elet_some hf
          rw [e12, nI_1] at e13
          obtain ⟨S14, e14, hf⟩ := elet_some hf
          rw [e13] at e14
          obtain ⟨-, hg⟩ := oif_some hg
          obtain ⟨T8, e8', hg⟩ := obind_some hg
          obtain ⟨v10, e10', hg⟩ := elet_some hg
          have e10' : v10 = nI (j + 1) := e10'.trans (nI_1 j)
          rw [e10'] at hg
          have r3 : T3.2.2.2.2 = T.2.2.2.2 := congrArg (fun x => x.2) t3.2.2.1
          obtain ⟨a1, a2, a3, a4⟩ := k_tap hs (hF.sub r3) (by rw [m3.1]; exact scn_tf hs t3 hC) (by rw [m3.1]; exact hj) (by omega) e8' p3 e11 e14
          rcases ih f2 a1 (hF.sub (a3.trans r3)) a2 a4 (by omega) (by omega) hg hf with ⟨y1, ⟨j2, y2, y3⟩, y4, y5⟩ | y
          · exact .inl ⟨y1, ⟨j2, by omega, y3⟩, y4, y5.trans (a3.trans r3)⟩
          · exact .inr y
    unfold g_X3_parseFilter_b31 at hg
    rw [if_neg (by intro q; have := (nI_ltI (a := 5) (b := j) (by omega) (by omega)).mp q; omega)] at hg
    obtain ⟨-, hg⟩ := oif_some hg
    obtain ⟨r6, T4, e6, hg⟩ := obind2_some hg
    obtain ⟨k1, k2⟩ := k_kind p e6
    rw [k2] at hg
    obtain ⟨v15, e15, hf⟩ := elet_some hf
    by_cases ck : kd b n (pst b n i) = 2
    · rw [if_pos (k1.trans ck)] at hg
      rw [if_pos (e15.trans ((tk_num qt).mpr ck))] at hf
      exact go (.inl ck) hg hf
    · rw [if_neg (fun q => ck (k1.symm.trans q))] at hg
      rw [if_neg (fun q => ck ((tk_num qt).mp (e15.symm.trans q)))] at hf
      obtain ⟨-, hg⟩ := oif_some hg
      obtain ⟨r12, T10, e12, hg⟩ := obind2_some hg
      obtain ⟨k3, k4⟩ := k_kind p e12
      rw [k4] at hg
      obtain ⟨r20, S17, f20, hf⟩ := obind2_some hf
      obtain ⟨g1, g2⟩ := k_here p (.inl rfl) f20
      rw [if_pos rfl] at g2
      rw [g1] at hf
      rcases g2 with ⟨w1, cm⟩ | ⟨w1, cm⟩
      · rw [if_pos (k3.trans cm)] at hg
        rw [if_neg (by rw [w1]; decide)] at hf
        exact go (.inr cm) hg hf
      · rw [if_neg (fun q => cm (k3.symm.trans q))] at hg
        rw [if_pos w1] at hf
        have g := osome3 (show some ((0 : Nat), (0 : Int32), T) = some (k, r, T1) from hg)
        have ff := osome1 hf
        rw [← ff, ← g.2.2]
        exact .inl ⟨g.1.symm, ⟨i, Nat.le_refl _, p⟩, hC, rfl⟩
set_option maxHeartbeats 400000 in
theorem l_filter (h : PRq b n c i T S) (hk : kd b n (pst b n i) = 1) (hs : s = 478 ∨ s = 656) (hF : SRF s T) (hC : SCNq s T (S.2.1 11) (S.2.1 13)) (hg : g_X3_parseFilter T 6 s = some (k, r, T1)) (hf : fr_readFilter S = some S1) : LNq b n c i s T T1 S1 k := by
  obtain ⟨mc, b1, b2, b3, b4⟩ := hC.2.2.2.2.2.2.1
  have z0 : (0 : Int32).toInt = 0 := by decide
  have qm : (nI mc).toInt = (mc : Int) := nI_toInt (by omega)
  unfold g_X3_parseFilter at hg
  obtain ⟨-, hg⟩ := oif_some hg
  obtain ⟨v3, ev3, hg⟩ := elet_some hg
  rw [b2] at ev3
  unfold fr_readFilter at hf
  obtain ⟨v2, ev2, hf⟩ := elet_some hf
  rw [b3] at ev2
  have key : ∃ (a0 : Int32) (Sa : MS), g_X3_parseFilter_b13 T a0 6 6 s = some (k, r, T1) ∧ fr_readFilter_b15 Sa = some S1 ∧ ((a0 = 0 ∧ Sa = S) ∨ (a0 ≠ 0 ∧ fr_faults S 3 = some Sa)) ∧ (a0 = 0 → mc = 0) := by
    by_cases cm : nI mc ≤ 0
    · rw [ev3, if_pos cm] at hg
      rw [ev2, if_pos cm] at hf
      have := i_le cm
      exact ⟨0, S, hg, hf, .inl ⟨rfl, rfl⟩, fun _ => by omega⟩
    · rw [ev3, if_neg cm] at hg
      rw [ev2, if_neg cm] at hf
      obtain ⟨S4, f4, hf⟩ := obind_some hf
      exact ⟨1, S4, hg, hf, .inr ⟨by decide, f4⟩, fun q => absurd q (by decide)⟩
  obtain ⟨a0, Sa, hg, hf, hcase, hmc⟩ := key
  unfold fr_readFilter_b15 at hf
  obtain ⟨S2, fS2, hf⟩ := obind_some hf
  have fin56 : ∀ (f : Nat) {U : MS} {l : Int32}, 0 < (U.1 5).toInt → fr_readFilter_b56 (fr_readFilter_b19 f) U l = some S1 → S1 = U := by
    intro f U l q hf
    unfold fr_readFilter_b56 at hf
    by_cases cc : l = 0
    · rw [if_pos cc] at hf
      exact st_filt q hf
    · rw [if_neg cc] at hf
      obtain ⟨U3, f3, hf⟩ := obind_some hf
      rw [st_faults q f3] at hf
      exact st_filt q hf
  have fin35 : ∀ (f : Nat) {U : MS} {l : Int32}, 0 < (U.1 5).toInt → fr_readFilter_b35 (fr_readFilter_b19 f) U l = some S1 → S1 = U := by
    intro f U l q hf
    unfold fr_readFilter_b35 at hf
    by_cases cc : l = 0
    · rw [if_pos cc] at hf
      exact fin56 f q hf
    · rw [if_neg cc] at hf
      obtain ⟨v3, e3, hf⟩ := elet_some hf
      by_cases c3 : v3 = 3
      · rw [if_pos c3] at hf
        obtain ⟨r8, U5, f5, hf⟩ := obind2_some hf
        rw [st_look q f5] at hf
        exact fin56 f q hf
      · rw [if_neg c3] at hf
        exact fin56 f q hf
  have fin19 : ∀ (f : Nat) {U : MS}, 0 < (U.1 5).toInt → fr_readFilter_b19 f U = some S1 → S1 = U := by
    intro f U q hf
    cases f with
    | zero => cases hf
    | succ f =>
      unfold fr_readFilter_b19 at hf
      obtain ⟨v6, e6, hf⟩ := elet_some hf
      by_cases cc : v6 = 5
      · rw [if_pos cc] at hf
        exact fin35 f q hf
      · rw [if_neg cc] at hf
        exact fin35 f q hf
  unfold g_X3_parseFilter_b13 at hg
  obtain ⟨-, hg⟩ := oif_some hg
  rcases othr_k hg with ⟨r9, g9, z9⟩ | ⟨r5, T3, g9, hg⟩
  · rcases k_line h hk (by decide) g9 hcase fS2 with ⟨z, -⟩ | ⟨z1, z2⟩
    · exact absurd z z9
    · exact .inr ⟨z1, by rw [fin19 _ z2.1 hf]; exact z2⟩
  rcases k_line h hk (by decide) g9 hcase fS2 with ⟨-, p3, t3, m2, za⟩ | ⟨z1, -⟩
  rotate_left
  · exact absurd z1 (by decide)
  have e0 := hmc za
  subst e0
  obtain ⟨-, hg⟩ := oif_some hg
  have hf : fr_readFilter_b19 (16383 + 1) S2 = some S1 := hf
  unfold fr_readFilter_b19 at hf
  obtain ⟨v6, e6, hf⟩ := elet_some hf
  rw [m2.1, b3] at e6
  rw [if_neg (by rw [e6]; decide)] at hf
  unfold fr_readFilter_b35 at hf
  rw [if_pos rfl] at hf
  unfold fr_readFilter_b56 at hf
  rw [if_pos rfl] at hf
  unfold fr_readFilter_b65 at hf
  obtain ⟨w5, S5, f5, hf⟩ := obind2_some hf
  obtain ⟨v7, e7, hf⟩ := elet_some hf
  rcases othr_k hg with ⟨r9, g9, z9⟩ | ⟨r10, T8, g9, hg⟩
  · rcases k_signed p3 g9 f5 with ⟨z, -⟩ | ⟨z1, z2⟩
    · exact absurd z z9
    · rw [if_neg (st_le z2.1 e7)] at hf
      exact .inr ⟨z1, by rw [← osome1 hf]; exact z2⟩
  rcases k_signed p3 g9 f5 with ⟨-, qr, ⟨i8, l8, p8⟩, t8, m8⟩ | ⟨z1, -⟩
  rotate_left
  · exact absurd z1 (by decide)
  rw [if_pos (by rw [e7, p8.2.2.1]; decide)] at hf
  have PU : S5.2 = S.2 := m8.1.trans m2.1
  obtain ⟨v8, e8, hf⟩ := elet_some hf
  rw [PU, b3] at e8
  obtain ⟨v9, e9, hf⟩ := elet_some hf
  have k9 : v9 = nI (78 + 0) := by rw [e9, e8]; exact nI_add 78 0
  obtain ⟨-, hf⟩ := oif_some hf
  obtain ⟨S11, e11, hf⟩ := elet_some hf
  rw [k9, nI_clamp (by omega), qr] at e11
  obtain ⟨v12, e12, hf⟩ := elet_some hf
  rw [e11, mf_at] at e12
  have e12 : v12 = nI 0 := by
    rw [e12]
    show (if 77 = 78 + 0 then r10 else S5.2.1 11 77) = _
    rw [if_neg (by omega), PU, b3]
  obtain ⟨v13, e13, hf⟩ := elet_some hf
  rw [e12, nI_1] at e13
  obtain ⟨S14, e14, hf⟩ := elet_some hf
  rw [e13] at e14
  obtain ⟨-, hg⟩ := oif_some hg
  obtain ⟨T13, e13', hg⟩ := obind_some hg
  have t38 : TFq T T8 := t3.tr t8
  have r8 : T8.2.2.2.2 = T.2.2.2.2 := congrArg (fun x => x.2) t38.2.2.1
  obtain ⟨a1, a2, a3, a4⟩ := k_tap hs (hF.sub r8) (by rw [PU]; exact scn_tf hs t38 hC) (by rw [PU]; exact b3) (by omega) e13' p8 e11 e14
  rcases k_fll hs 16384 16383 a1 (hF.sub (a3.trans r8)) a2 a4 (by omega) (by omega) hg hf with ⟨y1, ⟨j2, y2, y3⟩, y4, y5⟩ | y
  · exact .inl ⟨y1, ⟨j2, by omega, y3⟩, y4, y5.trans (a3.trans r8)⟩
  · exact .inr y
end
end
section
/-! 20i.text.lean.txt -/
section
variable {b : Nat → Int32} {n c i k s : Nat} {T T1 : AT} {S S1 : MS} {r : Int32}
theorem wl15 : ["camera", "distance", "step", "samples", "limit", "mic", "map", "source", "wall", "fade", "filter", "clock", "zone", "shade", "off"].all (fun w => Nat.ble (sTx w).1 8) = true := by decide +kernel
theorem wl_of {w : String} (h : w ∈ ["camera", "distance", "step", "samples", "limit", "mic", "map", "source", "wall", "fade", "filter", "clock", "zone", "shade", "off"]) : (sTx w).1 ≤ 8 := Nat.le_of_ble_eq_true (List.all_eq_true.mp wl15 w h)
theorem er_st (h : ERq T S) (e : S1.1 = S.1) : ERq T S1 := by
  unfold ERq at h ⊢
  rw [e]
  exact h
/-- a keyword and its number -/
theorem k_gauge {tx : Nat × (Nat → Int32)} {a0 a1 r2 : Int32} (ht : tx.1 ≤ 8) (h : PRq b n c i T S) (hf : fr_gauge S tx a0 a1 = some (r2, S1)) : (∀ (k : Nat) (r : Int32) (Ta : AT), g_X3_takeWord T tx 6 = some (k, r, Ta) → (k = 3 ∧ ERq Ta S1) ∨ (k = 0 ∧ ∀ (k' : Nat) (r' : Int32) (Tb : AT), g_X3_number Ta 6 a0 a1 = some (k', r', Tb) → (k' = 3 ∧ ERq Tb S1) ∨ (k' = 0 ∧ r2 = r' ∧ (∃ j, i < j ∧ PRq b n c j Tb S1) ∧ TFq T Tb ∧ MFq S S1))) := by
  intro k r Ta hg
  unfold fr_gauge at hf
  obtain ⟨S2, f2, hf⟩ := obind_some hf
  obtain ⟨r8, S5, f5, hf⟩ := obind2_some hf
  have ff := osome2 hf
  rw [← ff.2]
  rcases k_take ht h hg f2 with ⟨k0, ⟨j, hj, p⟩, t, m⟩ | ⟨k3, e⟩
  · refine .inr ⟨k0, fun k' r' Tb hg2 => ?_⟩
    rcases k_number p hg2 f5 with ⟨y1, y2, -, -, y3, y4, y5⟩ | ⟨y1, y2⟩
    · exact .inr ⟨y1, ff.1.symm.trans y2, ⟨j + 1, by omega, y3⟩, t.tr y4, m.tr y5⟩
    · exact .inl ⟨y1, y2⟩
  · exact .inl ⟨k3, by rw [st_number e.1 f5]; exact e⟩
theorem scn0_uI {P D : Nat → Int32} {j : Nat} {v : Int32} (hs : s = 478 ∨ s = 656) (hj : j < 4) (q : SCN0 s T P D) (P1 : Nat → Int32) (hP : ∀ x, 4 ≤ x → P1 x = P x) : SCN0 s (uI T s j v) P1 D := by
  have e : ∀ m x, m ≠ s ∨ 4 ≤ x → (uI T s j v).2.2.1 m x = T.2.2.1 m x := fun m x h => ui_ne (by omega)
  exact ⟨q.1.cg (e _ _ (by omega)) (fun m j _ _ => e _ _ (by omega)) (fun x _ => hP x (by omega)), q.2.1.cg (fun j _ => e _ _ (by omega)) (fun j => e _ _ (by omega)) (fun x _ _ => hP x (by omega)), q.2.2.1.cg (e _ _ (by omega)) (fun m j _ _ => e _ _ (by omega)) (fun x _ => hP x (by omega)) (fun _ _ _ => rfl), q.2.2.2.1.cg (e _ _ (by omega)) (fun j => e _ _ (by omega)) (fun j => e _ _ (by omega)) (fun x _ _ => hP x (by omega)), q.2.2.2.2.1.cg (e _ _ (by omega)) (hP _ (by omega)), q.2.2.2.2.2.1.cg (e _ _ (by omega)) (fun j => e _ _ (by omega)) (fun x _ _ => hP x (by omega)), q.2.2.2.2.2.2.1.cg (e _ _ (by omega)) (fun m j _ _ => e _ _ (by omega)) (fun x _ _ => hP x (by omega)), q.2.2.2.2.2.2.2.1.cg (e _ _ (by omega)) (fun j => e _ _ (by omega)) (fun x _ _ => hP x (by omega)), q.2.2.2.2.2.2.2.2⟩
theorem scn0_tf {P D : Nat → Int32} (hs : s = 478 ∨ s = 656) (h : TFq T T1) (q : SCN0 s T P D) : SCN0 s T1 P D := by
  have e : ∀ m j, m ≠ 6 → T1.2.2.1 m j = T.2.2.1 m j := h.2.2.2
  exact ⟨q.1.cg (e _ _ (by omega)) (fun m j _ _ => e _ _ (by omega)) (fun _ _ => rfl), q.2.1.cg (fun j _ => e _ _ (by omega)) (fun j => e _ _ (by omega)) (fun _ _ _ => rfl), q.2.2.1.cg (e _ _ (by omega)) (fun m j _ _ => e _ _ (by omega)) (fun _ _ => rfl) (fun _ _ _ => rfl), q.2.2.2.1.cg (e _ _ (by omega)) (fun j => e _ _ (by omega)) (fun j => e _ _ (by omega)) (fun _ _ _ => rfl), q.2.2.2.2.1.cg (e _ _ (by omega)) rfl, q.2.2.2.2.2.1.cg (e _ _ (by omega)) (fun j => e _ _ (by omega)) (fun _ _ _ => rfl), q.2.2.2.2.2.2.1.cg (e _ _ (by omega)) (fun m j _ _ => e _ _ (by omega)) (fun _ _ _ => rfl), q.2.2.2.2.2.2.2.1.cg (e _ _ (by omega)) (fun j => e _ _ (by omega)) (fun _ _ _ => rfl), q.2.2.2.2.2.2.2.2⟩
/-- the word, the number, what is written: one of the four of the first line -/
theorem k_head {tx : Nat × (Nat → Int32)} {a0 a1 r2 : Int32} {x : Nat} {S2 : MS} (hs : s = 478 ∨ s = 656) (hx : x < 4) (ht : tx.1 ≤ 8) (h : PRq b n c i T S) (hC : SCN0 s T (S.2.1 11) (S.2.1 13)) (hf : fr_gauge S tx a0 a1 = some (r2, S1)) (e2 : S2 = mf S1 11 (upd (S1.2.1 11) x r2)) : (∀ (k : Nat) (r : Int32) (Ta : AT), g_X3_takeWord T tx 6 = some (k, r, Ta) → (k = 3 ∧ ERq Ta S2) ∨ (k = 0 ∧ ∀ (k' : Nat) (r' : Int32) (Tb : AT), g_X3_number Ta 6 a0 a1 = some (k', r', Tb) → (k' = 3 ∧ ERq Tb S2) ∨ (k' = 0 ∧ ∀ (Tc : AT), Tc = uI Tb s x r' → (∃ j, i < j ∧ PRq b n c j Tc S2) ∧ SCN0 s Tc (S2.2.1 11) (S2.2.1 13) ∧ Tc.2.2.2.2 = T.2.2.2.2 ∧ Tc.2.2.1 s x = S2.2.1 11 x ∧ (∀ y, y ≠ x → Tc.2.2.1 s y = T.2.2.1 s y) ∧ ∀ y, y ≠ x → S2.2.1 11 y = S.2.1 11 y))) := by
  intro k r Ta hg
  have s2 : S2.1 = S1.1 := by rw [e2]; rfl
  rcases k_gauge ht h hf _ _ _ hg with ⟨k3, e⟩ | ⟨k0, kk⟩
  · exact .inl ⟨k3, er_st e s2⟩
  refine .inr ⟨k0, fun k' r' Tb hg2 => ?_⟩
  rcases kk _ _ _ hg2 with ⟨k3, e⟩ | ⟨k0', er, ⟨j, hj, p⟩, t, m⟩
  · exact .inl ⟨k3, er_st e s2⟩
  refine .inr ⟨k0', fun Tc ec => ?_⟩
  have pc := pr_uI (m := s) (k := x) (v := r') p (by omega)
  rw [← ec] at pc
  have pd := pr_mf (a := 11) (f := upd (S1.2.1 11) x r2) pc (by decide)
  rw [← e2] at pd
  have hP : ∀ y, S2.2.1 11 y = if y = x then r2 else S.2.1 11 y := fun y => by
    rw [e2, mf_at]
    show (if y = x then r2 else S1.2.1 11 y) = _
    rw [m.1]
  have hD : S2.2.1 13 = S.2.1 13 := by rw [e2, mf_ne (by decide), m.1]
  refine ⟨⟨j, hj, pd⟩, ?_, ?_, ?_, fun y hy => ?_, fun y hy => ?_⟩
  · rw [ec, hD]
    exact scn0_uI hs hx (scn0_tf hs t hC) _ (fun y hy => by rw [hP, if_neg (by omega)])
  · rw [ec]; exact congrArg (fun x => x.2) t.2.2.1
  · rw [ec, ui_at, hP, if_pos rfl, er]
  · rw [ec, ui_ne (.inr hy)]; exact t.2.2.2 _ _ (by omega)
  · rw [hP, if_neg hy]
theorem st_g {tx : Nat × (Nat → Int32)} {a0 a1 r2 : Int32} {x : Nat} {S2 : MS} (q : 0 < (S.1 5).toInt) (hf : fr_gauge S tx a0 a1 = some (r2, S1)) (e2 : S2 = mf S1 11 (upd (S1.2.1 11) x r2)) : S2.1 = S.1 := by
  rw [e2, st_gauge q hf]
  rfl
set_option maxHeartbeats 400000 in
theorem l_head (h : PRq b n c i T S) (hs : s = 478 ∨ s = 656) (hC : SCN0 s T (S.2.1 11) (S.2.1 13)) (hg : g_X3_parseHead T 6 s = some (k, r, T1)) (hf : fr_readFirst S = some S1) : LNq b n c i s T T1 S1 k := by
  unfold fr_readFirst at hf
  obtain ⟨S3, f3, hf⟩ := obind_some hf
  obtain ⟨r10, S7, f7, hf⟩ := obind2_some hf
  obtain ⟨S11, e11, hf⟩ := elet_some hf
  obtain ⟨r16, S13, f13, hf⟩ := obind2_some hf
  obtain ⟨S17, e17, hf⟩ := elet_some hf
  obtain ⟨r22, S19, f19, hf⟩ := obind2_some hf
  obtain ⟨S23, e23, hf⟩ := elet_some hf
  obtain ⟨r28, S25, f25, hf⟩ := obind2_some hf
  obtain ⟨S29, e29, hf⟩ := elet_some hf
  rw [← osome1 hf]
  have n23 : 0 < (S23.1 5).toInt → S29.1 = S23.1 := fun q => st_g q f25 e29
  have n17 : 0 < (S17.1 5).toInt → S29.1 = S17.1 := fun q => by
    have e := st_g q f19 e23
    exact (n23 (by rw [e]; exact q)).trans e
  have n11 : 0 < (S11.1 5).toInt → S29.1 = S11.1 := fun q => by
    have e := st_g q f13 e17
    exact (n17 (by rw [e]; exact q)).trans e
  have n3 : 0 < (S3.1 5).toInt → S29.1 = S3.1 := fun q => by
    have e := st_g q f7 e11
    exact (n11 (by rw [e]; exact q)).trans e
  unfold g_X3_parseHead at hg
  obtain ⟨-, hg⟩ := oif_some hg
  rcases othr_k hg with ⟨r9, g9, z9⟩ | ⟨r6, T4, g9, hg⟩
  · rcases k_take (wl_of (by decide)) h g9 f3 with ⟨z, -⟩ | ⟨z1, z2⟩
    · exact absurd z z9
    · exact .inr ⟨z1, er_st z2 (n3 z2.1)⟩
  rcases k_take (wl_of (by decide)) h g9 f3 with ⟨-, ⟨i4, l4, p4⟩, t4, m4⟩ | ⟨z1, -⟩
  rotate_left
  · exact absurd z1 (by decide)
  have C4 : SCN0 s T4 (S3.2.1 11) (S3.2.1 13) := by rw [m4.1]; exact scn0_tf hs t4 hC
  have R4 : T4.2.2.2.2 = T.2.2.2.2 := congrArg (fun x => x.2) t4.2.2.1
  obtain ⟨-, hg⟩ := oif_some hg
  have H1 := k_head hs (x := 0) (by decide) (wl_of (by decide)) p4 C4 f7 e11
  rcases othr_k hg with ⟨r9, g9, z9⟩ | ⟨r12, T10, g9, hg⟩
  · rcases H1 _ _ _ g9 with ⟨z1, z2⟩ | ⟨z, -⟩
    · exact .inr ⟨z1, er_st z2 (n11 z2.1)⟩
    · exact absurd z z9
  rcases H1 _ _ _ g9 with ⟨z1, -⟩ | ⟨-, H1⟩
  · exact absurd z1 (by decide)
  obtain ⟨-, hg⟩ := oif_some hg
  rcases othr_k hg with ⟨r9, g9, z9⟩ | ⟨r17, T15, g9, hg⟩
  · rcases H1 _ _ _ g9 with ⟨z1, z2⟩ | ⟨z, -⟩
    · exact .inr ⟨z1, er_st z2 (n11 z2.1)⟩
    · exact absurd z z9
  rcases H1 _ _ _ g9 with ⟨z1, -⟩ | ⟨-, H1⟩
  · exact absurd z1 (by decide)
  obtain ⟨-, hg⟩ := oif_some hg
  obtain ⟨T20, e20, hg⟩ := elet_some hg
  obtain ⟨⟨i5, l5, p5⟩, C5, R5, v5, o5, w5⟩ := H1 _ e20
  obtain ⟨-, hg⟩ := oif_some hg
  have H2 := k_head hs (x := 1) (by decide) (wl_of (by decide)) p5 C5 f13 e17
  rcases othr_k hg with ⟨r9, g9, z9⟩ | ⟨r25, T23, g9, hg⟩
  · rcases H2 _ _ _ g9 with ⟨z1, z2⟩ | ⟨z, -⟩
    · exact .inr ⟨z1, er_st z2 (n17 z2.1)⟩
    · exact absurd z z9
  rcases H2 _ _ _ g9 with ⟨z1, -⟩ | ⟨-, H2⟩
  · exact absurd z1 (by decide)
  obtain ⟨-, hg⟩ := oif_some hg
  rcases othr_k hg with ⟨r9, g9, z9⟩ | ⟨r30, T28, g9, hg⟩
  · rcases H2 _ _ _ g9 with ⟨z1, z2⟩ | ⟨z, -⟩
    · exact .inr ⟨z1, er_st z2 (n17 z2.1)⟩
    · exact absurd z z9
  rcases H2 _ _ _ g9 with ⟨z1, -⟩ | ⟨-, H2⟩
  · exact absurd z1 (by decide)
  obtain ⟨-, hg⟩ := oif_some hg
  obtain ⟨T33, e33, hg⟩ := elet_some hg
  obtain ⟨⟨i6, l6, p6⟩, C6, R6, v6, o6, w6⟩ := H2 _ e33
  obtain ⟨-, hg⟩ := oif_some hg
  have H3 := k_head hs (x := 2) (by decide) (wl_of (by decide)) p6 C6 f19 e23
  rcases othr_k hg with ⟨r9, g9, z9⟩ | ⟨r38, T36, g9, hg⟩
  · rcases H3 _ _ _ g9 with ⟨z1, z2⟩ | ⟨z, -⟩
    · exact .inr ⟨z1, er_st z2 (n23 z2.1)⟩
    · exact absurd z z9
  rcases H3 _ _ _ g9 with ⟨z1, -⟩ | ⟨-, H3⟩
  · exact absurd z1 (by decide)
  obtain ⟨-, hg⟩ := oif_some hg
  rcases othr_k hg with ⟨r9, g9, z9⟩ | ⟨r43, T41, g9, hg⟩
  · rcases H3 _ _ _ g9 with ⟨z1, z2⟩ | ⟨z, -⟩
    · exact .inr ⟨z1, er_st z2 (n23 z2.1)⟩
    · exact absurd z z9
  rcases H3 _ _ _ g9 with ⟨z1, -⟩ | ⟨-, H3⟩
  · exact absurd z1 (by decide)
  obtain ⟨-, hg⟩ := oif_some hg
  obtain ⟨T46, e46, hg⟩ := elet_some hg
  obtain ⟨⟨i7, l7, p7⟩, C7, R7, v7, o7, w7⟩ := H3 _ e46
  obtain ⟨-, hg⟩ := oif_some hg
  have H4 := k_head hs (x := 3) (by decide) (wl_of (by decide)) p7 C7 f25 e29
  rcases othr_k hg with ⟨r9, g9, z9⟩ | ⟨r51, T49, g9, hg⟩
  · rcases H4 _ _ _ g9 with ⟨z1, z2⟩ | ⟨z, -⟩
    · exact .inr ⟨z1, z2⟩
    · exact absurd z z9
  rcases H4 _ _ _ g9 with ⟨z1, -⟩ | ⟨-, H4⟩
  · exact absurd z1 (by decide)
  obtain ⟨-, hg⟩ := oif_some hg
  rcases othr_k hg with ⟨r9, g9, z9⟩ | ⟨r56, T54, g9, hg⟩
  · rcases H4 _ _ _ g9 with ⟨z1, z2⟩ | ⟨z, -⟩
    · exact .inr ⟨z1, z2⟩
    · exact absurd z z9
  rcases H4 _ _ _ g9 with ⟨z1, -⟩ | ⟨-, H4⟩
  · exact absurd z1 (by decide)
  obtain ⟨-, hg⟩ := oif_some hg
  obtain ⟨T59, e59, hg⟩ := elet_some hg
  obtain ⟨⟨i8, l8, p8⟩, C8, R8, v8, o8, w8⟩ := H4 _ e59
  have g := osome3 hg
  rw [← g.2.2]
  refine .inl ⟨g.1.symm, ⟨i8, by omega, p8⟩, ⟨⟨?_, ?_, ?_, v8⟩, C8⟩, R8.trans (R7.trans (R6.trans (R5.trans R4)))⟩
  · rw [o8 0 (by decide), o7 0 (by decide), o6 0 (by decide), v5, w8 0 (by decide), w7 0 (by decide), w6 0 (by decide)]
  · rw [o8 1 (by decide), o7 1 (by decide), v6, w8 1 (by decide), w7 1 (by decide)]
  · rw [o8 2 (by decide), v7, w8 2 (by decide)]
end
end
section
/-! 20j.line.lean.txt -/
section
variable {b : Nat → Int32} {n c i k s : Nat} {T T1 : AT} {S S1 : MS} {r : Int32}
theorem wq10 : [("mic", "map"), ("mic", "source"), ("mic", "wall"), ("mic", "fade"), ("mic", "filter"), ("mic", "clock"), ("mic", "zone"), ("mic", "shade"), ("mic", "off"), ("map", "source"), ("map", "wall"), ("map", "fade"), ("map", "filter"), ("map", "clock"), ("map", "zone"), ("map", "shade"), ("map", "off"), ("source", "wall"), ("source", "fade"), ("source", "filter"), ("source", "clock"), ("source", "zone"), ("source", "shade"), ("source", "off"), ("wall", "fade"), ("wall", "filter"), ("wall", "clock"), ("wall", "zone"), ("wall", "shade"), ("wall", "off"), ("fade", "filter"), ("fade", "clock"), ("fade", "zone"), ("fade", "shade"), ("fade", "off"), ("filter", "clock"), ("filter", "zone"), ("filter", "shade"), ("filter", "off"), ("clock", "zone"), ("clock", "shade"), ("clock", "off"), ("zone", "shade"), ("zone", "off"), ("shade", "off"), ("map", "mic"), ("source", "mic"), ("wall", "mic"), ("fade", "mic"), ("filter", "mic"), ("clock", "mic"), ("zone", "mic"), ("shade", "mic"), ("off", "mic"), ("source", "map"), ("wall", "map"), ("fade", "map"), ("filter", "map"), ("clock", "map"), ("zone", "map"), ("shade", "map"), ("off", "map"), ("wall", "source"), ("fade", "source"), ("filter", "source"), ("clock", "source"), ("zone", "source"), ("shade", "source"), ("off", "source"), ("fade", "wall"), ("filter", "wall"), ("clock", "wall"), ("zone", "wall"), ("shade", "wall"), ("off", "wall"), ("filter", "fade"), ("clock", "fade"), ("zone", "fade"), ("shade", "fade"), ("off", "fade"), ("clock", "filter"), ("zone", "filter"), ("shade", "filter"), ("off", "filter"), ("zone", "clock"), ("shade", "clock"), ("off", "clock"), ("shade", "zone"), ("off", "zone"), ("off", "shade")].all (fun p => wxq (sTx p.1) (sTx p.2)) = true := by decide +kernel
theorem wx10 {u v : String} {p : Nat} (h : (u, v) ∈ [("mic", "map"), ("mic", "source"), ("mic", "wall"), ("mic", "fade"), ("mic", "filter"), ("mic", "clock"), ("mic", "zone"), ("mic", "shade"), ("mic", "off"), ("map", "source"), ("map", "wall"), ("map", "fade"), ("map", "filter"), ("map", "clock"), ("map", "zone"), ("map", "shade"), ("map", "off"), ("source", "wall"), ("source", "fade"), ("source", "filter"), ("source", "clock"), ("source", "zone"), ("source", "shade"), ("source", "off"), ("wall", "fade"), ("wall", "filter"), ("wall", "clock"), ("wall", "zone"), ("wall", "shade"), ("wall", "off"), ("fade", "filter"), ("fade", "clock"), ("fade", "zone"), ("fade", "shade"), ("fade", "off"), ("filter", "clock"), ("filter", "zone"), ("filter", "shade"), ("filter", "off"), ("clock", "zone"), ("clock", "shade"), ("clock", "off"), ("zone", "shade"), ("zone", "off"), ("shade", "off"), ("map", "mic"), ("source", "mic"), ("wall", "mic"), ("fade", "mic"), ("filter", "mic"), ("clock", "mic"), ("zone", "mic"), ("shade", "mic"), ("off", "mic"), ("source", "map"), ("wall", "map"), ("fade", "map"), ("filter", "map"), ("clock", "map"), ("zone", "map"), ("shade", "map"), ("off", "map"), ("wall", "source"), ("fade", "source"), ("filter", "source"), ("clock", "source"), ("zone", "source"), ("shade", "source"), ("off", "source"), ("fade", "wall"), ("filter", "wall"), ("clock", "wall"), ("zone", "wall"), ("shade", "wall"), ("off", "wall"), ("filter", "fade"), ("clock", "fade"), ("zone", "fade"), ("shade", "fade"), ("off", "fade"), ("clock", "filter"), ("zone", "filter"), ("shade", "filter"), ("off", "filter"), ("zone", "clock"), ("shade", "clock"), ("off", "clock"), ("shade", "zone"), ("off", "zone"), ("off", "shade")]) (a : WD b n p (sTx u)) : ¬ WD b n p (sTx v) := wx (List.all_eq_true.mp wq10 _ h) a
theorem thr_end {T1 : AT} {x : Option (Nat × Int32 × AT)} (h : othr x 0 (fun _ U => g_X3_parseLine_b209 U) = some (k, r, T1)) : ∃ r9, x = some (k, r9, T1) := by
  rcases othr_k h with ⟨r9, g, -⟩ | ⟨r9, U, g, h⟩
  · exact ⟨r9, g⟩
  · have q := osome3 (show some ((0 : Nat), (0 : Int32), U) = some (k, r, T1) from h)
    rw [← q.1, ← q.2.2]
    exact ⟨r9, g⟩
set_option maxHeartbeats 400000 in
theorem c_line (h : PRq b n c i T S) (hF : SRF s T) (hg : g_X3_parseLine T 6 s = some (k, r, T1)) : (WD b n (pst b n i) (sTx "mic") ∧ ∃ r9, g_X3_parseMic T 6 s = some (k, r9, T1)) ∨ (WD b n (pst b n i) (sTx "map") ∧ ∃ r9, g_X3_parseMap T 6 (s + 2) = some (k, r9, T1)) ∨ (WD b n (pst b n i) (sTx "source") ∧ ∃ r9, g_X3_parseSource T 6 s = some (k, r9, T1)) ∨ (WD b n (pst b n i) (sTx "wall") ∧ ∃ r9, g_X3_parseWall T 6 s = some (k, r9, T1)) ∨ (WD b n (pst b n i) (sTx "fade") ∧ ∃ r9, (elet (T.2.2.1 s 12) fun v107 => if v107 ≤ 0 then (g_X3_parseLine_b93 T 0 6 6 s) else (g_X3_parseLine_b93 T 1 6 6 s)) = some (k, r9, T1)) ∨ (WD b n (pst b n i) (sTx "filter") ∧ ∃ r9, g_X3_parseFilter T 6 s = some (k, r9, T1)) ∨ (WD b n (pst b n i) (sTx "clock") ∧ ∃ r9, g_X3_parseClock T 6 s = some (k, r9, T1)) ∨ (WD b n (pst b n i) (sTx "zone") ∧ ∃ r9, g_X3_parseZone T 6 (s + 2) = some (k, r9, T1)) ∨ (WD b n (pst b n i) (sTx "shade") ∧ ∃ r9, g_X3_parseShade T 6 s = some (k, r9, T1)) ∨ (WD b n (pst b n i) (sTx "off") ∧ ∃ r9, g_X3_parseOff T 6 s = some (k, r9, T1)) ∨ ((¬ WD b n (pst b n i) (sTx "mic") ∧ ¬ WD b n (pst b n i) (sTx "map") ∧ ¬ WD b n (pst b n i) (sTx "source") ∧ ¬ WD b n (pst b n i) (sTx "wall") ∧ ¬ WD b n (pst b n i) (sTx "fade") ∧ ¬ WD b n (pst b n i) (sTx "filter") ∧ ¬ WD b n (pst b n i) (sTx "clock") ∧ ¬ WD b n (pst b n i) (sTx "zone") ∧ ¬ WD b n (pst b n i) (sTx "shade") ∧ ¬ WD b n (pst b n i) (sTx "off")) ∧ ∃ r9, g_X3_failAt T 6 (nI i) 1 = some (k, r9, T1)) := by
  unfold g_X3_parseLine at hg
  obtain ⟨-, hg⟩ := oif_some hg
  obtain ⟨r0, U0, e0, hg⟩ := obind2_some hg
  obtain ⟨t0, d0⟩ := kc_word (wl_of (by decide)) h e0
  rw [t0] at hg
  rcases d0 with ⟨z, d0⟩ | ⟨z, d0⟩
  · rw [if_neg (by rw [z]; decide)] at hg
    obtain ⟨-, hg⟩ := oif_some hg
    obtain ⟨r9, hg⟩ := thr_end hg
    exact .inl ⟨d0, r9, hg⟩
  rw [if_pos z] at hg
  obtain ⟨-, hg⟩ := oif_some hg
  obtain ⟨r1, U1, e1, hg⟩ := obind2_some hg
  obtain ⟨t1, d1⟩ := kc_word (wl_of (by decide)) h e1
  rw [t1] at hg
  rcases d1 with ⟨z, d1⟩ | ⟨z, d1⟩
  · rw [if_neg (by rw [z]; decide)] at hg
    obtain ⟨-, hg⟩ := oif_some hg
    obtain ⟨n9, e9, hg⟩ := obind_some hg
    rw [hF.2.1] at e9
    cases e9
    obtain ⟨-, hg⟩ := oif_some hg
    obtain ⟨r9, hg⟩ := thr_end hg
    exact .inr (.inl ⟨d1, r9, hg⟩)
  rw [if_pos z] at hg
  obtain ⟨-, hg⟩ := oif_some hg
  obtain ⟨r2, U2, e2, hg⟩ := obind2_some hg
  obtain ⟨t2, d2⟩ := kc_word (wl_of (by decide)) h e2
  rw [t2] at hg
  rcases d2 with ⟨z, d2⟩ | ⟨z, d2⟩
  · rw [if_neg (by rw [z]; decide)] at hg
    obtain ⟨-, hg⟩ := oif_some hg
    obtain ⟨r9, hg⟩ := thr_end hg
    exact .inr (.inr (.inl ⟨d2, r9, hg⟩))
  rw [if_pos z] at hg
  obtain ⟨-, hg⟩ := oif_some hg
  obtain ⟨r3, U3, e3, hg⟩ := obind2_some hg
  obtain ⟨t3, d3⟩ := kc_word (wl_of (by decide)) h e3
  rw [t3] at hg
  rcases d3 with ⟨z, d3⟩ | ⟨z, d3⟩
  · rw [if_neg (by rw [z]; decide)] at hg
    obtain ⟨-, hg⟩ := oif_some hg
    obtain ⟨r9, hg⟩ := thr_end hg
    exact .inr (.inr (.inr (.inl ⟨d3, r9, hg⟩)))
  rw [if_pos z] at hg
  obtain ⟨-, hg⟩ := oif_some hg
  obtain ⟨r4, U4, e4, hg⟩ := obind2_some hg
  obtain ⟨t4, d4⟩ := kc_word (wl_of (by decide)) h e4
  rw [t4] at hg
  rcases d4 with ⟨z, d4⟩ | ⟨z, d4⟩
  · rw [if_neg (by rw [z]; decide)] at hg
    obtain ⟨-, hg⟩ := oif_some hg
    exact .inr (.inr (.inr (.inr (.inl ⟨d4, r, hg⟩))))
  rw [if_pos z] at hg
  obtain ⟨-, hg⟩ := oif_some hg
  obtain ⟨r5, U5, e5, hg⟩ := obind2_some hg
  obtain ⟨t5, d5⟩ := kc_word (wl_of (by decide)) h e5
  rw [t5] at hg
  rcases d5 with ⟨z, d5⟩ | ⟨z, d5⟩
  · rw [if_neg (by rw [z]; decide)] at hg
    obtain ⟨-, hg⟩ := oif_some hg
    obtain ⟨r9, hg⟩ := thr_end hg
    exact .inr (.inr (.inr (.inr (.inr (.inl ⟨d5, r9, hg⟩)))))
  rw [if_pos z] at hg
  obtain ⟨-, hg⟩ := oif_some hg
  obtain ⟨r6, U6, e6, hg⟩ := obind2_some hg
  obtain ⟨t6, d6⟩ := kc_word (wl_of (by decide)) h e6
  rw [t6] at hg
  rcases d6 with ⟨z, d6⟩ | ⟨z, d6⟩
  · rw [if_neg (by rw [z]; decide)] at hg
    obtain ⟨-, hg⟩ := oif_some hg
    obtain ⟨r9, hg⟩ := thr_end hg
    exact .inr (.inr (.inr (.inr (.inr (.inr (.inl ⟨d6, r9, hg⟩))))))
  rw [if_pos z] at hg
  obtain ⟨-, hg⟩ := oif_some hg
  obtain ⟨r7, U7, e7, hg⟩ := obind2_some hg
  obtain ⟨t7, d7⟩ := kc_word (wl_of (by decide)) h e7
  rw [t7] at hg
  rcases d7 with ⟨z, d7⟩ | ⟨z, d7⟩
  · rw [if_neg (by rw [z]; decide)] at hg
    obtain ⟨-, hg⟩ := oif_some hg
    obtain ⟨n9, e9, hg⟩ := obind_some hg
    rw [hF.2.1] at e9
    cases e9
    obtain ⟨-, hg⟩ := oif_some hg
    obtain ⟨r9, hg⟩ := thr_end hg
    exact .inr (.inr (.inr (.inr (.inr (.inr (.inr (.inl ⟨d7, r9, hg⟩)))))))
  rw [if_pos z] at hg
  obtain ⟨-, hg⟩ := oif_some hg
  obtain ⟨r8, U8, e8, hg⟩ := obind2_some hg
  obtain ⟨t8, d8⟩ := kc_word (wl_of (by decide)) h e8
  rw [t8] at hg
  rcases d8 with ⟨z, d8⟩ | ⟨z, d8⟩
  · rw [if_neg (by rw [z]; decide)] at hg
    obtain ⟨-, hg⟩ := oif_some hg
    obtain ⟨r9, hg⟩ := thr_end hg
    exact .inr (.inr (.inr (.inr (.inr (.inr (.inr (.inr (.inl ⟨d8, r9, hg⟩))))))))
  rw [if_pos z] at hg
  obtain ⟨-, hg⟩ := oif_some hg
  obtain ⟨r9, U9, e9, hg⟩ := obind2_some hg
  obtain ⟨t9, d9⟩ := kc_word (wl_of (by decide)) h e9
  rw [t9] at hg
  rcases d9 with ⟨z, d9⟩ | ⟨z, d9⟩
  · rw [if_neg (by rw [z]; decide)] at hg
    obtain ⟨-, hg⟩ := oif_some hg
    obtain ⟨r9, hg⟩ := thr_end hg
    exact .inr (.inr (.inr (.inr (.inr (.inr (.inr (.inr (.inr (.inl ⟨d9, r9, hg⟩)))))))))
  rw [if_pos z] at hg
  obtain ⟨-, hg⟩ := oif_some hg
  obtain ⟨v73, e73, hg⟩ := elet_some hg
  rw [h.1.2.2.2.2.2] at e73
  rw [e73] at hg
  obtain ⟨-, hg⟩ := oif_some hg
  obtain ⟨r9, hg⟩ := thr_end hg
  exact .inr (.inr (.inr (.inr (.inr (.inr (.inr (.inr (.inr (.inr (⟨⟨d0, d1, d2, d3, d4, d5, d6, d7, d8, d9⟩, r9, hg⟩))))))))))
set_option maxHeartbeats 400000 in
theorem r_line (h : PRq b n c i T S) (hf : fr_readLine S = some S1) : (WD b n (pst b n i) (sTx "wall") ∧ fr_readWall S = some S1) ∨ (WD b n (pst b n i) (sTx "fade") ∧ fr_readFade S = some S1) ∨ (WD b n (pst b n i) (sTx "filter") ∧ fr_readFilter S = some S1) ∨ (WD b n (pst b n i) (sTx "clock") ∧ fr_readClock S = some S1) ∨ (WD b n (pst b n i) (sTx "zone") ∧ fr_readZone S = some S1) ∨ (WD b n (pst b n i) (sTx "shade") ∧ fr_readShade S = some S1) ∨ (WD b n (pst b n i) (sTx "off") ∧ fr_readOff S = some S1) ∨ (WD b n (pst b n i) (sTx "mic") ∧ fr_readMic S = some S1) ∨ (WD b n (pst b n i) (sTx "map") ∧ fr_readMap S = some S1) ∨ (WD b n (pst b n i) (sTx "source") ∧ fr_readSource S = some S1) ∨ ((¬ WD b n (pst b n i) (sTx "wall") ∧ ¬ WD b n (pst b n i) (sTx "fade") ∧ ¬ WD b n (pst b n i) (sTx "filter") ∧ ¬ WD b n (pst b n i) (sTx "clock") ∧ ¬ WD b n (pst b n i) (sTx "zone") ∧ ¬ WD b n (pst b n i) (sTx "shade") ∧ ¬ WD b n (pst b n i) (sTx "off") ∧ ¬ WD b n (pst b n i) (sTx "mic") ∧ ¬ WD b n (pst b n i) (sTx "map") ∧ ¬ WD b n (pst b n i) (sTx "source")) ∧ fr_faults S 1 = some S1) := by
  unfold fr_readLine at hf
  obtain ⟨r0, U0, e0, hf⟩ := obind2_some hf
  obtain ⟨t0, d0⟩ := kr_word (wl_of (by decide)) h e0
  rw [t0] at hf
  rcases d0 with ⟨z, d0⟩ | ⟨z, d0⟩
  · rw [if_neg (by rw [z]; decide)] at hf
    obtain ⟨V, f9, hf⟩ := obind_some hf
    have q := osome1 (show some V = some S1 from hf)
    rw [q] at f9
    exact .inl ⟨d0, f9⟩
  rw [if_pos z] at hf
  obtain ⟨r1, U1, e1, hf⟩ := obind2_some hf
  obtain ⟨t1, d1⟩ := kr_word (wl_of (by decide)) h e1
  rw [t1] at hf
  rcases d1 with ⟨z, d1⟩ | ⟨z, d1⟩
  · rw [if_neg (by rw [z]; decide)] at hf
    obtain ⟨V, f9, hf⟩ := obind_some hf
    have q := osome1 (show some V = some S1 from hf)
    rw [q] at f9
    exact .inr (.inl ⟨d1, f9⟩)
  rw [if_pos z] at hf
  obtain ⟨r2, U2, e2, hf⟩ := obind2_some hf
  obtain ⟨t2, d2⟩ := kr_word (wl_of (by decide)) h e2
  rw [t2] at hf
  rcases d2 with ⟨z, d2⟩ | ⟨z, d2⟩
  · rw [if_neg (by rw [z]; decide)] at hf
    obtain ⟨V, f9, hf⟩ := obind_some hf
    have q := osome1 (show some V = some S1 from hf)
    rw [q] at f9
    exact .inr (.inr (.inl ⟨d2, f9⟩))
  rw [if_pos z] at hf
  obtain ⟨r3, U3, e3, hf⟩ := obind2_some hf
  obtain ⟨t3, d3⟩ := kr_word (wl_of (by decide)) h e3
  rw [t3] at hf
  rcases d3 with ⟨z, d3⟩ | ⟨z, d3⟩
  · rw [if_neg (by rw [z]; decide)] at hf
    obtain ⟨V, f9, hf⟩ := obind_some hf
    have q := osome1 (show some V = some S1 from hf)
    rw [q] at f9
    exact .inr (.inr (.inr (.inl ⟨d3, f9⟩)))
  rw [if_pos z] at hf
  obtain ⟨r4, U4, e4, hf⟩ := obind2_some hf
  obtain ⟨t4, d4⟩ := kr_word (wl_of (by decide)) h e4
  rw [t4] at hf
  rcases d4 with ⟨z, d4⟩ | ⟨z, d4⟩
  · rw [if_neg (by rw [z]; decide)] at hf
    obtain ⟨V, f9, hf⟩ := obind_some hf
    have q := osome1 (show some V = some S1 from hf)
    rw [q] at f9
    exact .inr (.inr (.inr (.inr (.inl ⟨d4, f9⟩))))
  rw [if_pos z] at hf
  obtain ⟨r5, U5, e5, hf⟩ := obind2_some hf
  obtain ⟨t5, d5⟩ := kr_word (wl_of (by decide)) h e5
  rw [t5] at hf
  rcases d5 with ⟨z, d5⟩ | ⟨z, d5⟩
  · rw [if_neg (by rw [z]; decide)] at hf
    obtain ⟨V, f9, hf⟩ := obind_some hf
    have q := osome1 (show some V = some S1 from hf)
    rw [q] at f9
    exact .inr (.inr (.inr (.inr (.inr (.inl ⟨d5, f9⟩)))))
  rw [if_pos z] at hf
  obtain ⟨r6, U6, e6, hf⟩ := obind2_some hf
  obtain ⟨t6, d6⟩ := kr_word (wl_of (by decide)) h e6
  rw [t6] at hf
  rcases d6 with ⟨z, d6⟩ | ⟨z, d6⟩
  · rw [if_neg (by rw [z]; decide)] at hf
    obtain ⟨V, f9, hf⟩ := obind_some hf
    have q := osome1 (show some V = some S1 from hf)
    rw [q] at f9
    exact .inr (.inr (.inr (.inr (.inr (.inr (.inl ⟨d6, f9⟩))))))
  rw [if_pos z] at hf
  obtain ⟨r7, U7, e7, hf⟩ := obind2_some hf
  obtain ⟨t7, d7⟩ := kr_word (wl_of (by decide)) h e7
  rw [t7] at hf
  rcases d7 with ⟨z, d7⟩ | ⟨z, d7⟩
  · rw [if_neg (by rw [z]; decide)] at hf
    obtain ⟨V, f9, hf⟩ := obind_some hf
    have q := osome1 (show some V = some S1 from hf)
    rw [q] at f9
    exact .inr (.inr (.inr (.inr (.inr (.inr (.inr (.inl ⟨d7, f9⟩)))))))
  rw [if_pos z] at hf
  obtain ⟨r8, U8, e8, hf⟩ := obind2_some hf
  obtain ⟨t8, d8⟩ := kr_word (wl_of (by decide)) h e8
  rw [t8] at hf
  rcases d8 with ⟨z, d8⟩ | ⟨z, d8⟩
  · rw [if_neg (by rw [z]; decide)] at hf
    obtain ⟨V, f9, hf⟩ := obind_some hf
    have q := osome1 (show some V = some S1 from hf)
    rw [q] at f9
    exact .inr (.inr (.inr (.inr (.inr (.inr (.inr (.inr (.inl ⟨d8, f9⟩))))))))
  rw [if_pos z] at hf
  obtain ⟨r9, U9, e9, hf⟩ := obind2_some hf
  obtain ⟨t9, d9⟩ := kr_word (wl_of (by decide)) h e9
  rw [t9] at hf
  rcases d9 with ⟨z, d9⟩ | ⟨z, d9⟩
  · rw [if_neg (by rw [z]; decide)] at hf
    obtain ⟨V, f9, hf⟩ := obind_some hf
    have q := osome1 (show some V = some S1 from hf)
    rw [q] at f9
    exact .inr (.inr (.inr (.inr (.inr (.inr (.inr (.inr (.inr (.inl ⟨d9, f9⟩)))))))))
  rw [if_pos z] at hf
  obtain ⟨V, f9, hf⟩ := obind_some hf
  have q := osome1 (show some V = some S1 from hf)
  rw [q] at f9
  exact .inr (.inr (.inr (.inr (.inr (.inr (.inr (.inr (.inr (.inr (⟨⟨d0, d1, d2, d3, d4, d5, d6, d7, d8, d9⟩, f9⟩))))))))))
set_option maxHeartbeats 400000 in
theorem l_line (h : PRq b n c i T S) (hs : s = 478 ∨ s = 656) (hF : SRF s T) (hC : SCNq s T (S.2.1 11) (S.2.1 13)) (hg : g_X3_parseLine T 6 s = some (k, r, T1)) (hf : fr_readLine S = some S1) : LNq b n c i s T T1 S1 k := by
  have cl := c_line h hF hg
  have rl := r_line h hf
  have e_mic : WD b n (pst b n i) (sTx "mic") → fr_readMic S = some S1 := fun d => by
    rcases rl with ⟨f, q⟩ | ⟨f, q⟩ | ⟨f, q⟩ | ⟨f, q⟩ | ⟨f, q⟩ | ⟨f, q⟩ | ⟨f, q⟩ | ⟨f, q⟩ | ⟨f, q⟩ | ⟨f, q⟩ | ⟨f, -⟩
    · exact absurd f (wx10 (by decide) d)
    · exact absurd f (wx10 (by decide) d)
    · exact absurd f (wx10 (by decide) d)
    · exact absurd f (wx10 (by decide) d)
    · exact absurd f (wx10 (by decide) d)
    · exact absurd f (wx10 (by decide) d)
    · exact absurd f (wx10 (by decide) d)
    · exact q
    · exact absurd f (wx10 (by decide) d)
    · exact absurd f (wx10 (by decide) d)
    · exact absurd d f.2.2.2.2.2.2.2.1
  have e_map : WD b n (pst b n i) (sTx "map") → fr_readMap S = some S1 := fun d => by
    rcases rl with ⟨f, q⟩ | ⟨f, q⟩ | ⟨f, q⟩ | ⟨f, q⟩ | ⟨f, q⟩ | ⟨f, q⟩ | ⟨f, q⟩ | ⟨f, q⟩ | ⟨f, q⟩ | ⟨f, q⟩ | ⟨f, -⟩
    · exact absurd f (wx10 (by decide) d)
    · exact absurd f (wx10 (by decide) d)
    · exact absurd f (wx10 (by decide) d)
    · exact absurd f (wx10 (by decide) d)
    · exact absurd f (wx10 (by decide) d)
    · exact absurd f (wx10 (by decide) d)
    · exact absurd f (wx10 (by decide) d)
    · exact absurd f (wx10 (by decide) d)
    · exact q
    · exact absurd f (wx10 (by decide) d)
    · exact absurd d f.2.2.2.2.2.2.2.2.1
  have e_source : WD b n (pst b n i) (sTx "source") → fr_readSource S = some S1 := fun d => by
    rcases rl with ⟨f, q⟩ | ⟨f, q⟩ | ⟨f, q⟩ | ⟨f, q⟩ | ⟨f, q⟩ | ⟨f, q⟩ | ⟨f, q⟩ | ⟨f, q⟩ | ⟨f, q⟩ | ⟨f, q⟩ | ⟨f, -⟩
    · exact absurd f (wx10 (by decide) d)
    · exact absurd f (wx10 (by decide) d)
    · exact absurd f (wx10 (by decide) d)
    · exact absurd f (wx10 (by decide) d)
    · exact absurd f (wx10 (by decide) d)
    · exact absurd f (wx10 (by decide) d)
    · exact absurd f (wx10 (by decide) d)
    · exact absurd f (wx10 (by decide) d)
    · exact absurd f (wx10 (by decide) d)
    · exact q
    · exact absurd d f.2.2.2.2.2.2.2.2.2
  have e_wall : WD b n (pst b n i) (sTx "wall") → fr_readWall S = some S1 := fun d => by
    rcases rl with ⟨f, q⟩ | ⟨f, q⟩ | ⟨f, q⟩ | ⟨f, q⟩ | ⟨f, q⟩ | ⟨f, q⟩ | ⟨f, q⟩ | ⟨f, q⟩ | ⟨f, q⟩ | ⟨f, q⟩ | ⟨f, -⟩
    · exact q
    · exact absurd f (wx10 (by decide) d)
    · exact absurd f (wx10 (by decide) d)
    · exact absurd f (wx10 (by decide) d)
    · exact absurd f (wx10 (by decide) d)
    · exact absurd f (wx10 (by decide) d)
    · exact absurd f (wx10 (by decide) d)
    · exact absurd f (wx10 (by decide) d)
    · exact absurd f (wx10 (by decide) d)
    · exact absurd f (wx10 (by decide) d)
    · exact absurd d f.1
  have e_fade : WD b n (pst b n i) (sTx "fade") → fr_readFade S = some S1 := fun d => by
    rcases rl with ⟨f, q⟩ | ⟨f, q⟩ | ⟨f, q⟩ | ⟨f, q⟩ | ⟨f, q⟩ | ⟨f, q⟩ | ⟨f, q⟩ | ⟨f, q⟩ | ⟨f, q⟩ | ⟨f, q⟩ | ⟨f, -⟩
    · exact absurd f (wx10 (by decide) d)
    · exact q
    · exact absurd f (wx10 (by decide) d)
    · exact absurd f (wx10 (by decide) d)
    · exact absurd f (wx10 (by decide) d)
    · exact absurd f (wx10 (by decide) d)
    · exact absurd f (wx10 (by decide) d)
    · exact absurd f (wx10 (by decide) d)
    · exact absurd f (wx10 (by decide) d)
    · exact absurd f (wx10 (by decide) d)
    · exact absurd d f.2.1
  have e_filter : WD b n (pst b n i) (sTx "filter") → fr_readFilter S = some S1 := fun d => by
    rcases rl with ⟨f, q⟩ | ⟨f, q⟩ | ⟨f, q⟩ | ⟨f, q⟩ | ⟨f, q⟩ | ⟨f, q⟩ | ⟨f, q⟩ | ⟨f, q⟩ | ⟨f, q⟩ | ⟨f, q⟩ | ⟨f, -⟩
    · exact absurd f (wx10 (by decide) d)
    · exact absurd f (wx10 (by decide) d)
    · exact q
    · exact absurd f (wx10 (by decide) d)
    · exact absurd f (wx10 (by decide) d)
    · exact absurd f (wx10 (by decide) d)
    · exact absurd f (wx10 (by decide) d)
    · exact absurd f (wx10 (by decide) d)
    · exact absurd f (wx10 (by decide) d)
    · exact absurd f (wx10 (by decide) d)
    · exact absurd d f.2.2.1
  have e_clock : WD b n (pst b n i) (sTx "clock") → fr_readClock S = some S1 := fun d => by
    rcases rl with ⟨f, q⟩ | ⟨f, q⟩ | ⟨f, q⟩ | ⟨f, q⟩ | ⟨f, q⟩ | ⟨f, q⟩ | ⟨f, q⟩ | ⟨f, q⟩ | ⟨f, q⟩ | ⟨f, q⟩ | ⟨f, -⟩
    · exact absurd f (wx10 (by decide) d)
    · exact absurd f (wx10 (by decide) d)
    · exact absurd f (wx10 (by decide) d)
    · exact q
    · exact absurd f (wx10 (by decide) d)
    · exact absurd f (wx10 (by decide) d)
    · exact absurd f (wx10 (by decide) d)
    · exact absurd f (wx10 (by decide) d)
    · exact absurd f (wx10 (by decide) d)
    · exact absurd f (wx10 (by decide) d)
    · exact absurd d f.2.2.2.1
  have e_zone : WD b n (pst b n i) (sTx "zone") → fr_readZone S = some S1 := fun d => by
    rcases rl with ⟨f, q⟩ | ⟨f, q⟩ | ⟨f, q⟩ | ⟨f, q⟩ | ⟨f, q⟩ | ⟨f, q⟩ | ⟨f, q⟩ | ⟨f, q⟩ | ⟨f, q⟩ | ⟨f, q⟩ | ⟨f, -⟩
    · exact absurd f (wx10 (by decide) d)
    · exact absurd f (wx10 (by decide) d)
    · exact absurd f (wx10 (by decide) d)
    · exact absurd f (wx10 (by decide) d)
    · exact q
    · exact absurd f (wx10 (by decide) d)
    · exact absurd f (wx10 (by decide) d)
    · exact absurd f (wx10 (by decide) d)
    · exact absurd f (wx10 (by decide) d)
    · exact absurd f (wx10 (by decide) d)
    · exact absurd d f.2.2.2.2.1
  have e_shade : WD b n (pst b n i) (sTx "shade") → fr_readShade S = some S1 := fun d => by
    rcases rl with ⟨f, q⟩ | ⟨f, q⟩ | ⟨f, q⟩ | ⟨f, q⟩ | ⟨f, q⟩ | ⟨f, q⟩ | ⟨f, q⟩ | ⟨f, q⟩ | ⟨f, q⟩ | ⟨f, q⟩ | ⟨f, -⟩
    · exact absurd f (wx10 (by decide) d)
    · exact absurd f (wx10 (by decide) d)
    · exact absurd f (wx10 (by decide) d)
    · exact absurd f (wx10 (by decide) d)
    · exact absurd f (wx10 (by decide) d)
    · exact q
    · exact absurd f (wx10 (by decide) d)
    · exact absurd f (wx10 (by decide) d)
    · exact absurd f (wx10 (by decide) d)
    · exact absurd f (wx10 (by decide) d)
    · exact absurd d f.2.2.2.2.2.1
  have e_off : WD b n (pst b n i) (sTx "off") → fr_readOff S = some S1 := fun d => by
    rcases rl with ⟨f, q⟩ | ⟨f, q⟩ | ⟨f, q⟩ | ⟨f, q⟩ | ⟨f, q⟩ | ⟨f, q⟩ | ⟨f, q⟩ | ⟨f, q⟩ | ⟨f, q⟩ | ⟨f, q⟩ | ⟨f, -⟩
    · exact absurd f (wx10 (by decide) d)
    · exact absurd f (wx10 (by decide) d)
    · exact absurd f (wx10 (by decide) d)
    · exact absurd f (wx10 (by decide) d)
    · exact absurd f (wx10 (by decide) d)
    · exact absurd f (wx10 (by decide) d)
    · exact q
    · exact absurd f (wx10 (by decide) d)
    · exact absurd f (wx10 (by decide) d)
    · exact absurd f (wx10 (by decide) d)
    · exact absurd d f.2.2.2.2.2.2.1
  rcases cl with ⟨d, r9, hg⟩ | ⟨d, r9, hg⟩ | ⟨d, r9, hg⟩ | ⟨d, r9, hg⟩ | ⟨d, r9, hg⟩ | ⟨d, r9, hg⟩ | ⟨d, r9, hg⟩ | ⟨d, r9, hg⟩ | ⟨d, r9, hg⟩ | ⟨d, r9, hg⟩ | ⟨d, r9, hg⟩
  · exact l_mic h d.1 hs hF hC hg (e_mic d)
  · exact l_map h d.1 hs hF hC hg (e_map d)
  · exact l_source h d.1 hs hF hC hg (e_source d)
  · exact l_wall h d.1 hs hF hC hg (e_wall d)
  · exact l_fade h d.1 hs hF hC hg (e_fade d)
  · exact l_filter h d.1 hs hF hC hg (e_filter d)
  · exact l_clock h d.1 hs hF hC hg (e_clock d)
  · exact l_zone h d.1 hs hF hC hg (e_zone d)
  · exact l_shade h d.1 hs hF hC hg (e_shade d)
  · exact l_off h d.1 hs hF hC hg (e_off d)
  · rcases rl with ⟨f, -⟩ | ⟨f, -⟩ | ⟨f, -⟩ | ⟨f, -⟩ | ⟨f, -⟩ | ⟨f, -⟩ | ⟨f, -⟩ | ⟨f, -⟩ | ⟨f, -⟩ | ⟨f, -⟩ | ⟨-, f⟩
    · exact absurd f d.2.2.2.1
    · exact absurd f d.2.2.2.2.1
    · exact absurd f d.2.2.2.2.2.1
    · exact absurd f d.2.2.2.2.2.2.1
    · exact absurd f d.2.2.2.2.2.2.2.1
    · exact absurd f d.2.2.2.2.2.2.2.2.1
    · exact absurd f d.2.2.2.2.2.2.2.2.2
    · exact absurd f d.1
    · exact absurd f d.2.1
    · exact absurd f d.2.2.1
    · exact .inr (k_err h h.1.2.2.2.2.1 rfl (by decide) hg f)
end
end
section
/-! 20k.parse.lean.txt -/
section
variable {b : Nat → Int32} {n c i k s : Nat} {T T1 : AT} {S S1 : MS} {r : Int32}
/-- the outcome of a text -/
def TXq (s : Nat) (T T1 : AT) (S1 : MS) (k : Nat) : Prop := (k = 0 ∧ SCNq s T1 (S1.2.1 11) (S1.2.1 13) ∧ T1.2.2.2.2 = T.2.2.2.2 ∧ T1.2.2.1 6 2 = 0 ∧ T1.2.2.1 6 3 = -1 ∧ S1.1 5 = 0 ∧ S1.1 6 = -1 ∧ S1.2.1 11 4 ≠ 0 ∧ S1.2.1 11 8 ≠ 0) ∨ (k = 3 ∧ ERq T1 S1)
theorem st_b92 (q : 0 < (S.1 5).toInt) (hf : fr_readText_b92 S = some S1) : S1 = S := by
  have fin : fr_readText_b111 S = some S1 → S1 = S := fun hf => by
    unfold fr_readText_b111 at hf
    obtain ⟨S2, f2, hf⟩ := obind_some hf
    rw [st_faults q f2] at hf
    exact (osome1 (show some S = some S1 from hf)).symm
  unfold fr_readText_b92 at hf
  obtain ⟨v2, e2, hf⟩ := elet_some hf
  by_cases c1 : v2 = 0
  · rw [if_pos c1] at hf
    exact fin hf
  · rw [if_neg c1] at hf
    obtain ⟨v4, e4, hf⟩ := elet_some hf
    by_cases c2 : v4 = 0
    · rw [if_pos c2] at hf
      exact fin hf
    · rw [if_neg c2] at hf
      exact (osome1 (show some S = some S1 from hf)).symm
theorem st_b52 : ∀ f : Nat, 0 < (S.1 5).toInt → fr_readText_b52 f S = some S1 → S1 = S := by
  intro f q hf
  cases f with
  | zero => cases hf
  | succ f =>
    unfold fr_readText_b52 at hf
    obtain ⟨r5, S2, f5, hf⟩ := obind2_some hf
    obtain ⟨k1, k2⟩ := st_here q f5
    rw [if_pos k1, k2] at hf
    obtain ⟨v7, e7, hf⟩ := elet_some hf
    rw [if_neg (st_ne q e7)] at hf
    exact st_b92 q hf
/-- the end of a text: a camera must have microphones and a map -/
theorem k_end (h : PRq b n c i T S) (hs : s = 478 ∨ s = 656) (hF : SRF s T) (hC : SCNq s T (S.2.1 11) (S.2.1 13)) (hg : g_X3_parse_b81 T 6 s = some (k, r, T1)) (hf : fr_readText_b92 S = some S1) : TXq s T T1 S1 k := by
  have h11 := h.1.2.2.2.2.2
  have h10 := h.1.2.2.2.2.1
  have hC2 := hC
  obtain ⟨gH, ⟨mc, b1, b2, b3, b4, b5⟩, gG, -⟩ := hC
  have fail : g_X3_parse_b98 T 6 = some (k, r, T1) → fr_readText_b111 S = some S1 → TXq s T T1 S1 k := by
    intro hg hf
    unfold g_X3_parse_b98 at hg
    obtain ⟨-, hg⟩ := oif_some hg
    obtain ⟨v3, e3, hg⟩ := elet_some hg
    rw [h11] at e3
    rw [e3] at hg
    obtain ⟨-, hg⟩ := oif_some hg
    unfold fr_readText_b111 at hf
    obtain ⟨S2, f2, hf⟩ := obind_some hf
    rw [← osome1 (show some S2 = some S1 from hf)]
    right
    rcases othr_k hg with ⟨r9, g9, -⟩ | ⟨r9, T9, g9, -⟩
    · exact k_err h h10 rfl (by decide) g9 f2
    · exact absurd (k_err h h10 rfl (by decide) g9 f2).1 (by decide)
  unfold g_X3_parse_b81 at hg
  obtain ⟨-, hg⟩ := oif_some hg
  obtain ⟨v3, e3, hg⟩ := elet_some hg
  rw [b2, ← b3] at e3
  unfold fr_readText_b92 at hf
  obtain ⟨v2, e2, hf⟩ := elet_some hf
  rw [← e3] at e2
  by_cases c1 : v3 = 0
  · rw [if_pos c1] at hg
    rw [if_pos (e2.trans c1)] at hf
    exact fail hg hf
  rw [if_neg c1] at hg
  rw [if_neg (fun q => c1 (e2.symm.trans q))] at hf
  obtain ⟨-, hg⟩ := oif_some hg
  obtain ⟨n6, e6, hg⟩ := obind_some hg
  rw [hF.2.1] at e6
  cases e6
  obtain ⟨-, hg⟩ := oif_some hg
  obtain ⟨v8, e8, hg⟩ := elet_some hg
  rw [gG.1] at e8
  obtain ⟨v4, e4, hf⟩ := elet_some hf
  by_cases c2 : v8 = 0
  · rw [if_pos c2] at hg
    have c4 : v4 = 0 := by
      rw [e4]
      rcases gG.2.2 with ⟨y, -, -⟩ | ⟨-, y, -⟩
      · exact y
      · rw [← e8, c2] at y; exact absurd y (by decide)
    rw [if_pos c4] at hf
    exact fail hg hf
  · rw [if_neg c2] at hg
    have c4 : ¬ v4 = 0 := by
      rw [e4]
      rcases gG.2.2 with ⟨-, y, -⟩ | ⟨y, -, -⟩
      · rw [y] at e8; exact absurd e8 c2
      · intro q; rw [q] at y; exact absurd y (by decide)
    rw [if_neg c4] at hf
    have ff := osome1 (show some S = some S1 from hf)
    unfold g_X3_parse_b107 at hg
    obtain ⟨-, hg⟩ := oif_some hg
    obtain ⟨T3, e3', hg⟩ := elet_some hg
    obtain ⟨-, hg⟩ := oif_some hg
    obtain ⟨T5, e5, hg⟩ := elet_some hg
    have g := osome3 hg
    have t : TFq T T5 := by rw [e5, e3']; exact tf6.tr tf6
    rw [← g.2.2, ← ff]
    refine .inl ⟨g.1.symm, scn_tf hs t hC2, congrArg (fun x => x.2) t.2.2.1, ?_, ?_, h.2.2.1, h.2.2.2.1, ?_, ?_⟩
    · rw [e5, ui_ne (.inr (by decide)), e3', ui_at]
    · rw [e5, ui_at]
    · rw [← e3]; exact c1
    · rw [← e4]; exact c4
theorem k_textl (hs : s = 478 ∨ s = 656) : ∀ (f f2 : Nat) {i l k : Nat} {r : Int32} {T T1 : AT} {S S1 : MS}, PRq b n c i T S → SRF s T → SCNq s T (S.2.1 11) (S.2.1 13) → l ≤ i → g_X3_parse_b24 f T 6 s (nI l) = some (k, r, T1) → fr_readText_b52 f2 S = some S1 → TXq s T T1 S1 k := by
  intro f
  induction f with
  | zero => intro f2 i l k r T T1 S S1 p hF hC hl hg hf; cases hg
  | succ f ih =>
    intro f2 i l k r T T1 S S1 p hF hC hl hg hf
    cases f2 with
    | zero => cases hf
    | succ f2 =>
      have qt := p.2.2.2.2.2.2.2
      have h10 := p.1.2.2.2.2.1
      have h11 := p.1.2.2.2.2.2
      have hc := p.1.2.2.2.1.2.2.1
      unfold g_X3_parse_b24 at hg
      obtain ⟨-, hg⟩ := oif_some hg
      obtain ⟨n3, e3, hg⟩ := obind_some hg
      rw [p.1.2.1.2.2.2.2.1] at e3
      cases e3
      obtain ⟨-, hg⟩ := oif_some hg
      obtain ⟨v5, e5, hg⟩ := elet_some hg
      rw [p.1.2.2.2.1.1] at e5
      rw [if_neg (by rw [e5]; intro q; have := (nI_leI (by omega) (by omega)).mp q; omega)] at hg
      obtain ⟨-, hg⟩ := oif_some hg
      obtain ⟨r10, T8, e8, hg⟩ := obind2_some hg
      obtain ⟨k1, k2⟩ := k_kind p e8
      rw [k2] at hg
      unfold fr_readText_b52 at hf
      obtain ⟨r5, S2, f5, hf⟩ := obind2_some hf
      obtain ⟨g1, g2⟩ := k_here p (.inr rfl) f5
      rw [if_neg (by decide)] at g2
      rw [g1] at hf
      by_cases k5 : kd b n (pst b n i) = 5
      · rw [if_pos (k1.trans k5)] at hg
        have w1 : r5 = 0 := by
          rcases g2 with ⟨-, q⟩ | ⟨q, -⟩
          · rw [k5] at q; exact absurd q (by decide)
          · exact q
        rw [if_pos w1] at hf
        obtain ⟨v7, e7, hf⟩ := elet_some hf
        rw [if_pos (e7.trans p.2.2.1)] at hf
        obtain ⟨v9, e9, hf⟩ := elet_some hf
        rw [if_pos (e9.trans ((tk_end qt).mpr k5))] at hf
        exact k_end p hs hF hC hg hf
      rw [if_neg (fun q => k5 (k1.symm.trans q))] at hg
      obtain ⟨-, hg⟩ := oif_some hg
      obtain ⟨r16, T14, e14, hg⟩ := obind2_some hg
      obtain ⟨k3, k4⟩ := k_kind p e14
      rw [k4] at hg
      rcases g2 with ⟨w1, km⟩ | ⟨w1, km⟩
      · rw [if_pos (k3.trans km)] at hg
        rw [if_neg (by rw [w1]; decide)] at hf
        obtain ⟨S14, f14, hf⟩ := obind_some hf
        obtain ⟨S17, f17, hf⟩ := obind_some hf
        unfold g_X3_parse_b60 at hg
        obtain ⟨-, hg⟩ := oif_some hg
        obtain ⟨v3, e3, hg⟩ := elet_some hg
        rw [h11] at e3
        obtain ⟨v4, e4, hg⟩ := elet_some hg
        rw [e3, nI_1] at e4
        obtain ⟨-, hg⟩ := oif_some hg
        obtain ⟨T6, e6, hg⟩ := elet_some hg
        obtain ⟨p6, m6⟩ := pr_adv p k5 f14
        rw [← e4, ← e6] at p6
        have t6 : TFq T T6 := by rw [e6]; exact tf6
        have r6 : T6.2.2.2.2 = T.2.2.2.2 := congrArg (fun x => x.2) t6.2.2.1
        have C6 : SCNq s T6 (S14.2.1 11) (S14.2.1 13) := by rw [m6.1]; exact scn_tf hs t6 hC
        obtain ⟨-, hg⟩ := oif_some hg
        rcases othr_k hg with ⟨r9, g9, z9⟩ | ⟨r9, T9, g9, hg⟩
        · rcases l_line p6 hs (hF.sub r6) C6 g9 f17 with ⟨z, -⟩ | ⟨z1, z2⟩
          · exact absurd z z9
          · exact .inr ⟨z1, by rw [st_b52 _ z2.1 hf]; exact z2⟩
        rcases l_line p6 hs (hF.sub r6) C6 g9 f17 with ⟨-, ⟨j, hj, p9⟩, C9, r9'⟩ | ⟨z1, -⟩
        rotate_left
        · exact absurd z1 (by decide)
        obtain ⟨v12, e12, hg⟩ := elet_some hg
        have e12 : v12 = nI (l + 1) := e12.trans (nI_1 l)
        rw [e12] at hg
        rcases ih f2 p9 (hF.sub (r9'.trans r6)) C9 (by omega) hg hf with ⟨y1, y2, y3, y4⟩ | y
        · exact .inl ⟨y1, y2, y3.trans (r9'.trans r6), y4⟩
        · exact .inr y
      · rw [if_neg (fun q => km (k3.symm.trans q))] at hg
        rw [if_pos w1] at hf
        obtain ⟨v7, e7, hf⟩ := elet_some hf
        rw [if_pos (e7.trans p.2.2.1)] at hf
        obtain ⟨v9, e9, hf⟩ := elet_some hf
        rw [if_neg (fun q => k5 ((tk_end qt).mp (e9.symm.trans q)))] at hf
        obtain ⟨S11, f11, hf⟩ := obind_some hf
        obtain ⟨-, hg⟩ := oif_some hg
        obtain ⟨v20, e20, hg⟩ := elet_some hg
        rw [h11] at e20
        rw [e20] at hg
        obtain ⟨-, hg⟩ := oif_some hg
        right
        rcases othr_k hg with ⟨r9, g9, -⟩ | ⟨r9, T9, g9, -⟩
        · obtain ⟨a1, a2⟩ := k_err p h10 rfl (by decide) g9 f11
          rw [st_b92 a2.1 hf]
          exact ⟨a1, a2⟩
        · exact absurd (k_err p h10 rfl (by decide) g9 f11).1 (by decide)
/-- the reference's plan and draft are made zero -/
theorem r_zero2 : ∀ (f : Nat) {l : Nat} {S : MS}, l ≤ 2455 → (∀ x, x < l → S.2.1 13 x = 0) → fr_readText_b24 f S (nI l) = some S1 → ∃ U V W, U.1 = S.1 ∧ (∀ a, a ≠ 13 → U.2.1 a = S.2.1 a) ∧ (∀ x, x < 2455 → U.2.1 13 x = 0) ∧ fr_nextToken U = some V ∧ fr_readFirst V = some W ∧ fr_readText_b52 16384 W = some S1 := by
  intro f
  induction f with
  | zero => intro l S hl hz hf; cases hf
  | succ f ih =>
    intro l S hl hz hf
    unfold fr_readText_b24 at hf
    by_cases c1 : (2455 : Int32) ≤ nI l
    · rw [if_pos c1] at hf
      have := (nI_leI (a := 2455) (b := l) (by omega) (by omega)).mp c1
      obtain ⟨V, f3, hf⟩ := obind_some hf
      obtain ⟨W, f6, hf⟩ := obind_some hf
      exact ⟨S, V, W, rfl, fun _ _ => rfl, fun x hx => hz x (by omega), f3, f6, hf⟩
    · rw [if_neg c1] at hf
      have c1 : l < 2455 := Nat.lt_of_not_le (fun q => c1 ((nI_leI (a := 2455) (b := l) (by omega) (by omega)).mpr q))
      obtain ⟨-, hf⟩ := oif_some hf
      obtain ⟨S10, e10, hf⟩ := elet_some hf
      rw [nI_clamp (by omega)] at e10
      obtain ⟨v11, e11, hf⟩ := elet_some hf
      have e11 : v11 = nI (l + 1) := e11.trans (nI_1 l)
      rw [e11] at hf
      obtain ⟨U, V, W, a1, a2, a3⟩ := ih (S := S10) (by omega) (fun x hx => by
        rw [e10, mf_at]
        show (if x = l then (0 : Int32) else S.2.1 13 x) = 0
        by_cases e : x = l
        · rw [if_pos e]
        · rw [if_neg e]; exact hz x (by omega)) hf
      exact ⟨U, V, W, a1.trans (by rw [e10]; rfl), fun a ha => (a2 a ha).trans (by rw [e10, mf_ne ha]), a3⟩
theorem r_zero1 : ∀ (f : Nat) {l : Nat} {S : MS}, l ≤ 131 → (∀ x, x < l → S.2.1 11 x = 0) → fr_readText_b2 f S (nI l) = some S1 → ∃ U V W, U.1 = S.1 ∧ (∀ a, a ≠ 13 → a ≠ 11 → U.2.1 a = S.2.1 a) ∧ (∀ x, x < 131 → U.2.1 11 x = 0) ∧ (∀ x, x < 2455 → U.2.1 13 x = 0) ∧ fr_nextToken U = some V ∧ fr_readFirst V = some W ∧ fr_readText_b52 16384 W = some S1 := by
  intro f
  induction f with
  | zero => intro l S hl hz hf; cases hf
  | succ f ih =>
    intro l S hl hz hf
    unfold fr_readText_b2 at hf
    by_cases c1 : (131 : Int32) ≤ nI l
    · rw [if_pos c1] at hf
      have := (nI_leI (a := 131) (b := l) (by omega) (by omega)).mp c1
      obtain ⟨U, V, W, a1, a2, a3, a4⟩ := r_zero2 16384 (l := 0) (by omega) (fun x hx => absurd hx (Nat.not_lt_zero x)) hf
      exact ⟨U, V, W, a1, fun a h1 h2 => a2 a h1, fun x hx => by rw [a2 11 (by decide)]; exact hz x (by omega), a3, a4⟩
    · rw [if_neg c1] at hf
      have c1 : l < 131 := Nat.lt_of_not_le (fun q => c1 ((nI_leI (a := 131) (b := l) (by omega) (by omega)).mpr q))
      obtain ⟨-, hf⟩ := oif_some hf
      obtain ⟨S4, e4, hf⟩ := elet_some hf
      rw [nI_clamp (by omega)] at e4
      obtain ⟨v5, e5, hf⟩ := elet_some hf
      have e5 : v5 = nI (l + 1) := e5.trans (nI_1 l)
      rw [e5] at hf
      obtain ⟨U, V, W, a1, a2, a3⟩ := ih (S := S4) (by omega) (fun x hx => by
        rw [e4, mf_at]
        show (if x = l then (0 : Int32) else S.2.1 11 x) = 0
        by_cases e : x = l
        · rw [if_pos e]
        · rw [if_neg e]; exact hz x (by omega)) hf
      exact ⟨U, V, W, a1.trans (by rw [e4]; rfl), fun a h1 h2 => (a2 a h1 h2).trans (by rw [e4, mf_ne h2]), a3⟩
set_option maxHeartbeats 400000 in
theorem l_parse (hs : s = 478 ∨ s = 656) (hR : TXR T) (hF : SRF s T) (hB : BYq b T) (hn : n ≤ 1000) (hb : S.2.1 1 = b) (h3 : S.1 3 = nI n) (h4 : S.1 4 = 0) (h5 : S.1 5 = 0) (h6 : S.1 6 = -1) (hg : g_X3_parse T 6 (nI n) s = some (k, r, T1)) (hf : fr_readText S = some S1) : TXq s T T1 S1 k := by
  unfold fr_readText at hf
  obtain ⟨U, V, W, u1, u2, uP, uD, fV, fW, hf⟩ := r_zero1 16384 (l := 0) (by omega) (fun x hx => absurd hx (Nat.not_lt_zero x)) hf
  unfold g_X3_parse at hg
  obtain ⟨-, hg⟩ := oif_some hg
  obtain ⟨n3, e3, hg⟩ := obind_some hg
  rw [hR.2.2.2.2.1] at e3
  cases e3
  obtain ⟨-, hg⟩ := oif_some hg
  obtain ⟨T5, e5, hg⟩ := obind_some hg
  obtain ⟨kp, c, tk⟩ := q_cut hR hB hn e5
  obtain ⟨-, hg⟩ := oif_some hg
  obtain ⟨T8, e8, hg⟩ := elet_some hg
  obtain ⟨-, hg⟩ := oif_some hg
  obtain ⟨T10, e10, hg⟩ := obind_some hg
  obtain ⟨-, hg⟩ := oif_some hg
  have R5 : T5.2.2.2.2 = T.2.2.2.2 := congrArg (fun x => x.2) kp.2.2.1
  have R8 : T8.2.2.2.2 = T.2.2.2.2 := by rw [e8]; exact R5
  -- clear
  unfold g_X6_clear at e10
  obtain ⟨-, e10⟩ := oif_some e10
  obtain ⟨n3, en3, e10⟩ := obind_some e10
  rw [R8, hF.2.1] at en3
  cases en3
  obtain ⟨-, e10⟩ := oif_some e10
  obtain ⟨A5, a5, e10⟩ := obind_some e10
  unfold g_X1_clear at a5
  obtain ⟨-, a5⟩ := oif_some a5
  obtain ⟨B3, b3, a5⟩ := elet_some a5
  obtain ⟨-, a5⟩ := oif_some a5
  obtain ⟨B5, b5, a5⟩ := elet_some a5
  obtain ⟨-, a5⟩ := oif_some a5
  obtain ⟨B7, b7, a5⟩ := elet_some a5
  have a5 := osome1 a5
  rw [← a5] at e10
  obtain ⟨-, e10⟩ := oif_some e10
  obtain ⟨C8, c8, e10⟩ := elet_some e10
  obtain ⟨-, e10⟩ := oif_some e10
  obtain ⟨C10, c10, e10⟩ := elet_some e10
  obtain ⟨-, e10⟩ := oif_some e10
  obtain ⟨C12, c12, e10⟩ := elet_some e10
  obtain ⟨-, e10⟩ := oif_some e10
  obtain ⟨C14, c14, e10⟩ := elet_some e10
  obtain ⟨-, e10⟩ := oif_some e10
  obtain ⟨C16, c16, e10⟩ := elet_some e10
  obtain ⟨-, e10⟩ := oif_some e10
  obtain ⟨C18, c18, e10⟩ := elet_some e10
  have e10 := osome1 e10
  rw [← e10] at hg
  have hI : ∀ m j : Nat, C18.2.2.1 m j = if m = s ∧ j = 16 then 0 else if m = s ∧ j = 14 then 0 else if m = s ∧ j = 12 then 0 else if m = s ∧ j = 11 then 0 else if m = s ∧ j = 8 then 0 else if m = s ∧ j = 5 then 0 else if m = s + 2 ∧ j = 7 then 0 else if m = s + 2 ∧ j = 4 then 0 else if m = s + 2 ∧ j = 3 then 0 else if m = 6 ∧ j = 1 then 0 else T5.2.2.1 m j := fun m j => by
    rw [c18, ui_get, c16, ui_get, c14, ui_get, c12, ui_get, c10, ui_get, c8, ui_get, b7, ui_get, b5, ui_get, b3, ui_get, e8, ui_get]
  have hlow : ∀ m j : Nat, m < 6 → C18.2.2.1 m j = T5.2.2.1 m j := fun m j hm => by
    rw [hI]
    simp (disch := omega) only [if_neg, if_pos, and_self, and_true, true_and, and_false, false_and, if_true, if_false]
  have R18 : C18.2.2.2.2 = T.2.2.2.2 := by rw [c18, c16, c14, c12, c10, c8, b7, b5, b3]; exact R8
  have S18 : C18.2.1 = T.2.1 := by rw [c18, c16, c14, c12, c10, c8, b7, b5, b3, e8]; exact kp.2.1
  have hR18 : TXR C18 := by
    unfold TXR at hR ⊢
    rw [R18, S18]
    exact hR
  obtain ⟨k1, k2, k3, k4, k5, k6⟩ := tk
  have tk18 : TKS b n C18 c := ⟨(hlow 1 5 (by decide)).trans k1, k2, k3, fun i hi => by rw [hlow 3 i (by decide), hlow 4 i (by decide), hlow 5 i (by decide)]; exact k4 i hi, k5, k6⟩
  obtain ⟨m, a8, a4, at_⟩ := r_next (b := b) (n := n) (p := 0) ((u2 1 (by decide) (by decide)).trans hb) (by rw [u1]; exact h3) (by rw [u1]; exact h4) (Nat.zero_le _) hn (by rw [u1]; exact h5) fV
  have p0 : PRq b n c 0 C18 V := by
    refine ⟨⟨hn, hR18, fun j hj => (hlow 2 j (by decide)).trans ((kp.by hB) j hj), tk18, by omega, ?_⟩, ?_, ?_, ?_, ?_, a8, a4, at_⟩
    · rw [hI]
      simp (disch := omega) only [if_neg, if_pos, and_self, and_true, true_and, and_false, false_and, if_true, if_false]
      rfl
    · rw [m.1]; exact (u2 1 (by decide) (by decide)).trans hb
    · rw [m.2 5 (by decide) (by decide) (by decide) (by decide), u1]; exact h5
    · rw [m.2 6 (by decide) (by decide) (by decide) (by decide), u1]; exact h6
    · rw [m.2 3 (by decide) (by decide) (by decide) (by decide), u1]; exact h3
  have z : ∀ x, x < 131 → V.2.1 11 x = 0 := fun x hx => by rw [m.1]; exact uP x hx
  have zD : ∀ x, x < 2455 → V.2.1 13 x = 0 := fun x hx => by rw [m.1]; exact uD x hx
  have f16 : ∀ j, j = 5 ∨ j = 8 ∨ j = 11 ∨ j = 12 ∨ j = 14 ∨ j = 16 → C18.2.2.1 s j = 0 := fun j hj => by
    rw [hI]
    rcases hj with e | e | e | e | e | e <;> subst e <;> simp (disch := omega) only [if_neg, if_pos, and_self, and_true, true_and, and_false, false_and, if_true, if_false]
  have g3 : C18.2.2.1 (s + 2) 3 = 0 := by rw [hI]; simp (disch := omega) only [if_neg, if_pos, and_self, and_true, true_and, and_false, false_and, if_true, if_false]
  have g4 : C18.2.2.1 (s + 2) 4 = 0 := by rw [hI]; simp (disch := omega) only [if_neg, if_pos, and_self, and_true, true_and, and_false, false_and, if_true, if_false]
  have g7 : C18.2.2.1 (s + 2) 7 = 0 := by rw [hI]; simp (disch := omega) only [if_neg, if_pos, and_self, and_true, true_and, and_false, false_and, if_true, if_false]
  have C0 : SCN0 s C18 (V.2.1 11) (V.2.1 13) := by
    refine ⟨⟨0, by omega, f16 5 (by omega), z 4 (by omega), fun m hm => absurd hm (Nat.not_lt_zero m), fun m _ hm => z _ (by omega)⟩, ⟨g3.trans (z 9 (by omega)).symm, g4.trans (z 10 (by omega)).symm, .inl ⟨z 8 (by omega), z 9 (by omega), z 10 (by omega)⟩⟩, ⟨0, by omega, f16 8 (by omega), z 5 (by omega), fun k hk => absurd hk (Nat.not_lt_zero k)⟩, ⟨0, by omega, f16 11 (by omega), z 71 (by omega), fun k hk => absurd hk (Nat.not_lt_zero k)⟩, (f16 12 (by omega)).trans (z 76 (by omega)).symm, ⟨0, by omega, f16 14 (by omega), z 77 (by omega), fun k hk => absurd hk (Nat.not_lt_zero k)⟩, ⟨0, by omega, g7, z 101 (by omega), fun k hk => absurd hk (Nat.not_lt_zero k)⟩, ⟨0, by omega, f16 16 (by omega), z 118 (by omega), fun k hk => absurd hk (Nat.not_lt_zero k)⟩, fun j hj => zD j (by omega)⟩
  rcases othr_k hg with ⟨r9, g9, z9⟩ | ⟨r15, T13, g9, hg⟩
  · rcases l_head p0 hs C0 g9 fW with ⟨y, -⟩ | ⟨y1, y2⟩
    · exact absurd y z9
    · exact .inr ⟨y1, by rw [st_b52 _ y2.1 hf]; exact y2⟩
  rcases l_head p0 hs C0 g9 fW with ⟨-, ⟨j, hj, p13⟩, C13, R13⟩ | ⟨y, -⟩
  rotate_left
  · exact absurd y (by decide)
  rcases k_textl hs 16384 16384 (l := 0) p13 (hF.sub (R13.trans R18)) C13 (Nat.zero_le _) hg hf with ⟨y1, y2, y3, y4⟩ | y
  · exact .inl ⟨y1, y2, y3.trans (R13.trans R18), y4⟩
  · exact .inr y
end
end
section
/-! 21a.rel1.lean.txt -/
/-! what class and reference hold alike between calls, as far as a loaded text goes -/
section
variable {T T1 : AT} {S S1 : MS} {P P1 : Nat → Int32} {s : Nat}
def SRP (s : Nat) (T : AT) (P : Nat → Int32) : Prop := ∃ c : Nat, c ≤ 6 ∧ T.2.2.1 s 8 = nI c ∧ P 5 = nI c ∧ ∀ k, k < c → T.2.2.1 (s + 172 + k) 0 = P (47 + k) ∧ T.2.2.1 (s + 172 + k) 5 = P (53 + k) ∧ T.2.2.1 (s + 172 + k) 6 = P (59 + k) ∧ T.2.2.1 (s + 172 + k) 7 = P (65 + k) ∧ T.2.2.1 (s + 172 + k) 8 = P (95 + k)
def SCE (s : Nat) (T : AT) (P : Nat → Int32) : Prop := HDg s T P ∧ MICg s T P ∧ GRDg s T P ∧ SRP s T P ∧ WALg s T P ∧ FADg s T P ∧ TAPg s T P ∧ ZONg s T P ∧ SHDg s T P
theorem sce_of {D : Nat → Int32} (h : SCNq s T P D) : SCE s T P := by
  obtain ⟨gH, gM, gG, ⟨c, b1, b2, b3, b4⟩, gW, gF, gT, gZ, gD, -⟩ := h
  exact ⟨gH, gM, gG, ⟨c, b1, b2, b3, fun k hk => ⟨(b4 k hk).1, (b4 k hk).2.1, (b4 k hk).2.2.1, (b4 k hk).2.2.2.1, (b4 k hk).2.2.2.2.1⟩⟩, gW, gF, gT, gZ, gD⟩
/-- the cells of a scene are the same -/
def SEQ (s : Nat) (T T1 : AT) : Prop := (∀ j, j < 18 → T1.2.2.1 s j = T.2.2.1 s j) ∧ (∀ j, j < 8 → T1.2.2.1 (s + 2) j = T.2.2.1 (s + 2) j) ∧ (∀ j, T1.2.2.1 (s + 3) j = T.2.2.1 (s + 3) j) ∧ (∀ m j, s + 5 ≤ m → m < s + 9 → T1.2.2.1 m j = T.2.2.1 m j) ∧ (∀ m j, s + 11 ≤ m → m < s + 15 → T1.2.2.1 m j = T.2.2.1 m j) ∧ (∀ m j, s + 160 ≤ m → m < s + 172 → j < 4 → T1.2.2.1 m j = T.2.2.1 m j) ∧ ∀ m j, s + 172 ≤ m → m < s + 178 → j < 10 → T1.2.2.1 m j = T.2.2.1 m j
theorem sce_eq (h : SCE s T P) (q : SEQ s T T1) (hP : ∀ x, x < 131 → P1 x = P x) : SCE s T1 P1 := by
  obtain ⟨gH, ⟨mc, m1, m2, m3, m4, m5⟩, gG, ⟨c, b1, b2, b3, b4⟩, gW, gF, gT, gZ, gD⟩ := h
  obtain ⟨q1, q2, q3, q4, q5, q6, q7⟩ := q
  refine ⟨gH.cg (fun j _ => q1 j (by omega)) (fun j _ => hP j (by omega)), ⟨mc, m1, (q1 5 (by decide)).trans m2, (hP 4 (by decide)).trans m3, fun m hm => ?_, fun m h1 h2 => (hP _ (by omega)).trans (m5 m h1 h2)⟩, gG.cg (fun k _ => q2 k (by omega)) q3 (fun j _ _ => hP j (by omega)), ⟨c, b1, (q1 8 (by decide)).trans b2, (hP 5 (by decide)).trans b3, fun k hk => ?_⟩, gW.cg (q1 11 (by decide)) (fun k => q5 _ _ (by omega) (by omega)) (fun k => q5 _ _ (by omega) (by omega)) (fun j _ _ => hP j (by omega)), gF.cg (q1 12 (by decide)) (hP _ (by decide)), gT.cg (q1 14 (by decide)) (fun k => q5 _ _ (by omega) (by omega)) (fun j _ _ => hP j (by omega)), gZ.cg (q2 7 (by decide)) (fun m j a b => q4 m j a b) (fun j _ _ => hP j (by omega)), gD.cg (q1 16 (by decide)) (fun k => q5 _ _ (by omega) (by omega)) (fun j _ _ => hP j (by omega))⟩
  · rw [q6 _ 0 (by omega) (by omega) (by decide), q6 _ 1 (by omega) (by omega) (by decide), q6 _ 2 (by omega) (by omega) (by decide), q6 _ 3 (by omega) (by omega) (by decide), hP (11 + m) (by omega), hP (23 + m) (by omega), hP (35 + m) (by omega), hP (83 + m) (by omega)]
    exact m4 m hm
  · rw [q7 _ 0 (by omega) (by omega) (by decide), q7 _ 5 (by omega) (by omega) (by decide), q7 _ 6 (by omega) (by omega) (by decide), q7 _ 7 (by omega) (by omega) (by decide), q7 _ 8 (by omega) (by omega) (by decide), hP (47 + k) (by omega), hP (53 + k) (by omega), hP (59 + k) (by omega), hP (65 + k) (by omega), hP (95 + k) (by omega)]
    exact b4 k hk
def scodes : List Nat := (List.range 18).map (192 + ·) ++ (List.range 8).map (32 + ·) ++ (List.range 4).map (64 + ·) ++ (List.range 10).map (224 + ·) ++ [1888, 1760, 1792, 1824, 1856]
set_option maxRecDepth 100000 in
theorem srole : [478, 656].all (fun s => Nat.beq (aR0 s) 6 && Nat.beq (aR0 (s + 2)) 1 && Nat.beq (aR0 (s + 3)) 59 && (List.range 4).all (fun k => Nat.beq (aR0 (s + 5 + k)) 59) && Nat.beq (aR0 (s + 11)) 55 && Nat.beq (aR0 (s + 12)) 56 && Nat.beq (aR0 (s + 13)) 57 && Nat.beq (aR0 (s + 14)) 58 && (List.range 12).all (fun k => Nat.beq (aR0 (s + 160 + k)) 2) && (List.range 6).all (fun k => Nat.beq (aR0 (s + 172 + k)) 7)) = true := by decide +kernel
theorem sro (hs : s = 478 ∨ s = 656) : aR0 s = 6 ∧ aR0 (s + 2) = 1 ∧ aR0 (s + 3) = 59 ∧ (∀ k, k < 4 → aR0 (s + 5 + k) = 59) ∧ aR0 (s + 11) = 55 ∧ aR0 (s + 12) = 56 ∧ aR0 (s + 13) = 57 ∧ aR0 (s + 14) = 58 ∧ (∀ k, k < 12 → aR0 (s + 160 + k) = 2) ∧ ∀ k, k < 6 → aR0 (s + 172 + k) = 7 := by
  have h := List.all_eq_true.mp srole s (by rcases hs with e | e <;> rw [e] <;> decide)
  simp only [Bool.and_eq_true] at h
  obtain ⟨⟨⟨⟨⟨⟨⟨⟨⟨h0, h1⟩, h2⟩, h3⟩, h4⟩, h5⟩, h6⟩, h7⟩, h8⟩, h9⟩ := h
  exact ⟨Nat.eq_of_beq_eq_true h0, Nat.eq_of_beq_eq_true h1, Nat.eq_of_beq_eq_true h2, fun k hk => Nat.eq_of_beq_eq_true (a_fin (p := fun k => Nat.beq (aR0 (s + 5 + k)) 59) h3 hk), Nat.eq_of_beq_eq_true h4, Nat.eq_of_beq_eq_true h5, Nat.eq_of_beq_eq_true h6, Nat.eq_of_beq_eq_true h7, fun k hk => Nat.eq_of_beq_eq_true (a_fin (p := fun k => Nat.beq (aR0 (s + 160 + k)) 2) h8 hk), fun k hk => Nat.eq_of_beq_eq_true (a_fin (p := fun k => Nat.beq (aR0 (s + 172 + k)) 7) h9 hk)⟩
theorem sc_in {W : List Nat} (c : scodes.all (fun x => !(W.contains x)) = true) {x : Nat} (hx : x ∈ scodes) : W.contains x = false := by
  have h := List.all_eq_true.mp c x hx
  cases e : W.contains x with
  | false => rfl
  | true => rw [e] at h; cases h
theorem fw_seq {W : List Nat} (h : FW aR0 W T T1) (c : scodes.all (fun x => !(W.contains x)) = true) (hs : s = 478 ∨ s = 656) : SEQ s T T1 := by
  obtain ⟨r0, r1, r2, r3, r4, r5, r6, r7, r8, r9⟩ := sro hs
  have k0 : ∀ j, j < 18 → 192 + j ∈ scodes := fun j hj => List.mem_append_left _ (List.mem_append_left _ (List.mem_append_left _ (List.mem_append_left _ (List.mem_map.mpr ⟨j, List.mem_range.mpr hj, rfl⟩))))
  have k1 : ∀ j, j < 8 → 32 + j ∈ scodes := fun j hj => List.mem_append_left _ (List.mem_append_left _ (List.mem_append_left _ (List.mem_append_right _ (List.mem_map.mpr ⟨j, List.mem_range.mpr hj, rfl⟩))))
  have k2 : ∀ j, j < 4 → 64 + j ∈ scodes := fun j hj => List.mem_append_left _ (List.mem_append_left _ (List.mem_append_right _ (List.mem_map.mpr ⟨j, List.mem_range.mpr hj, rfl⟩)))
  have k7 : ∀ j, j < 10 → 224 + j ∈ scodes := fun j hj => List.mem_append_left _ (List.mem_append_right _ (List.mem_map.mpr ⟨j, List.mem_range.mpr hj, rfl⟩))
  have ka : ∀ x, x ∈ [1888, 1760, 1792, 1824, 1856] → x ∈ scodes := fun x hx => List.mem_append_right _ hx
  refine ⟨fun j hj => h _ _ ?_, fun j hj => h _ _ ?_, fun j => h _ _ ?_, fun m j a b => h _ _ ?_, fun m j a b => h _ _ ?_, fun m j a b d => h _ _ ?_, fun m j a b d => h _ _ ?_⟩
  · rw [r0]; exact sc_in c (k0 j hj)
  · rw [r1]; exact sc_in c (k1 j hj)
  · rw [r2]; exact sc_in c (ka 1888 (by decide))
  · have q := r3 (m - (s + 5)) (by omega)
    rw [show s + 5 + (m - (s + 5)) = m from by omega] at q
    rw [q]; exact sc_in c (ka 1888 (by decide))
  · rcases (show m = s + 11 ∨ m = s + 12 ∨ m = s + 13 ∨ m = s + 14 by omega) with e | e | e | e <;> rw [e]
    · rw [r4]; exact sc_in c (ka 1760 (by decide))
    · rw [r5]; exact sc_in c (ka 1792 (by decide))
    · rw [r6]; exact sc_in c (ka 1824 (by decide))
    · rw [r7]; exact sc_in c (ka 1856 (by decide))
  · have q := r8 (m - (s + 160)) (by omega)
    rw [show s + 160 + (m - (s + 160)) = m from by omega] at q
    rw [q]; exact sc_in c (k2 j d)
  · have q := r9 (m - (s + 172)) (by omega)
    rw [show s + 172 + (m - (s + 172)) = m from by omega] at q
    rw [q]; exact sc_in c (k7 j d)
/-- where the references lead: all but rows of Wides lead where they led at first; scene and spare may have changed places -/
def CRF (T : AT) : Prop := (∀ n, n ≠ 0 → sta aR0 1586 n → isRW (aR0 n) = false → ∀ k, T.2.2.2.2 n k = (arf n).getD k none) ∧ (∀ k, k ≠ 14 → k ≠ 15 → T.2.2.2.2 0 k = (arf 0).getD k none) ∧ (T.2.2.2.2 0 14 = some 478 ∧ T.2.2.2.2 0 15 = some 656 ∨ T.2.2.2.2 0 14 = some 656 ∧ T.2.2.2.2 0 15 = some 478)
def okc (n : Nat) : Bool := Nat.blt 0 n && Nat.blt n 1586 && !(Nat.beq (aR0 n) 99) && !(Nat.beq (aR0 n) 30) && !(isRW (aR0 n))
theorem CRF.at (h : CRF T) (n : Nat) (d : okc n = true) (k : Nat) : T.2.2.2.2 n k = (arf n).getD k none := by
  unfold okc at d
  simp only [Bool.and_eq_true] at d
  obtain ⟨⟨⟨⟨d0, d1⟩, d2⟩, d3⟩, d4⟩ := d
  refine h.1 n (fun e => by rw [e] at d0; cases d0) ⟨Nat.le_of_ble_eq_true d1, (fun e => by rw [e] at d2; cases d2), (fun e => by rw [e] at d3; cases d3)⟩ ?_ k
  cases e : isRW (aR0 n) with
  | false => rfl
  | true => rw [e] at d4; cases d4
set_option maxRecDepth 100000 in
theorem srf_dec : [478, 656].all (fun s => [s, s + 1, s + 2, s + 4, s + 10, s + 15].all okc && decide ((arf s).getD 4 none = some (s + 1)) && decide ((arf s).getD 6 none = some (s + 2)) && decide ((arf s).getD 7 none = some (s + 10)) && decide ((arf s).getD 9 none = some (s + 11)) && decide ((arf s).getD 10 none = some (s + 12)) && decide ((arf s).getD 13 none = some (s + 13)) && decide ((arf s).getD 15 none = some (s + 14)) && decide ((arf s).getD 17 none = some (s + 15)) && (List.range 12).all (fun i => decide ((arf (s + 1)).getD i none = some (s + 160 + i))) && (List.range 6).all (fun i => decide ((arf (s + 10)).getD i none = some (s + 172 + i))) && decide ((arf (s + 2)).getD 5 none = some (s + 3)) && decide ((arf (s + 2)).getD 6 none = some (s + 4)) && (List.range 4).all (fun i => decide ((arf (s + 4)).getD i none = some (s + 5 + i))) && decide ((arf (s + 2)).getD 8 none = some (s + 9)) && (List.range 144).all (fun c => decide ((arf (s + 15)).getD c none = some (s + 16 + c)))) = true := by decide +kernel
theorem CRF.srf (h : CRF T) (hs : s = 478 ∨ s = 656) : SRF s T := by
  have d := List.all_eq_true.mp srf_dec s (by rcases hs with e | e <;> rw [e] <;> decide)
  simp only [Bool.and_eq_true, decide_eq_true_eq] at d
  obtain ⟨⟨⟨⟨⟨⟨⟨⟨⟨⟨⟨⟨⟨⟨⟨d0, d1⟩, d2⟩, d3⟩, d4⟩, d5⟩, d6⟩, d7⟩, d8⟩, d9⟩, d10⟩, d11⟩, d12⟩, d13⟩, d14⟩, d15⟩ := d
  have o := fun n (hn : n ∈ [s, s + 1, s + 2, s + 4, s + 10, s + 15]) => h.at n (List.all_eq_true.mp d0 n hn)
  have o0 := o s (by simp)
  have o1 := o (s + 1) (by simp)
  have o2 := o (s + 2) (by simp)
  have o4 := o (s + 4) (by simp)
  have o10 := o (s + 10) (by simp)
  have o15 := o (s + 15) (by simp)
  unfold SRF
  exact ⟨(o0 _).trans d1, (o0 _).trans d2, (o0 _).trans d3, (o0 _).trans d4, (o0 _).trans d5, (o0 _).trans d6, (o0 _).trans d7, (o0 _).trans d8, fun i hi => (o1 i).trans (of_decide_eq_true (a_fin (p := fun i => decide ((arf (s + 1)).getD i none = some (s + 160 + i))) d9 hi)), fun i hi => (o10 i).trans (of_decide_eq_true (a_fin (p := fun i => decide ((arf (s + 10)).getD i none = some (s + 172 + i))) d10 hi)), (o2 _).trans d11, (o2 _).trans d12, fun i hi => (o4 i).trans (of_decide_eq_true (a_fin (p := fun i => decide ((arf (s + 4)).getD i none = some (s + 5 + i))) d13 hi)), (o2 _).trans d14, fun i hi => (o15 i).trans (of_decide_eq_true (a_fin (p := fun i => decide ((arf (s + 15)).getD i none = some (s + 16 + i))) d15 hi))⟩
set_option maxRecDepth 100000 in
theorem txr_dec : okc 1 = true ∧ okc 6 = true ∧ (arf 1).getD 0 none = some 2 ∧ (arf 1).getD 2 none = some 3 ∧ (arf 1).getD 3 none = some 4 ∧ (arf 1).getD 4 none = some 5 ∧ (arf 6).getD 0 none = some 1 ∧ (arf 0).getD 0 none = some 1 ∧ (arf 0).getD 1 none = some 6 ∧ aR0 3 = 42 := by decide +kernel
theorem CRF.txr (h : CRF T) (hV : IV aR0 1586 aK1 aK2 T) : TXR T := by
  obtain ⟨a1, a6, b1, b2, b3, b4, b5, -, -, b8⟩ := txr_dec
  exact ⟨(h.at 1 a1 _).trans b1, (h.at 1 a1 _).trans b2, (h.at 1 a1 _).trans b3, (h.at 1 a1 _).trans b4, (h.at 6 a6 _).trans b5, (hV.2.1 3 (iv_sta hV b8 (by decide) (by decide))).trans (by rw [b8]; rfl)⟩
set_option maxRecDepth 100000 in
theorem sh107 : (List.range 1586).all (fun n => isRW (aR0 n) || !(Nat.beq (shp (aR0 n)).1 107)) = true := by decide +kernel
theorem crf_gr (h : CRF T) (hV : IV aR0 1586 aK1 aK2 T) (hg : GR T T1) : CRF T1 := by
  have st : ∀ n, sta aR0 1586 n → isRW (aR0 n) = false → ∀ k, T1.2.2.2.2 n k = T.2.2.2.2 n k := fun n hs hr k => by
    refine hg.2 n k (Nat.lt_of_lt_of_le hs.1 hV.1.2.2) ?_
    have d := a_fin sh107 hs.1
    rw [hr, Bool.false_or] at d
    rw [hV.2.1 n hs]
    intro e
    rw [e] at d
    cases d
  obtain ⟨-, -, -, r0⟩ := (show aR0 1 = 9 ∧ aR0 2 = 41 ∧ aR0 6 = 3 ∧ aR0 0 = 11 from by decide +kernel)
  have e0 : ∀ k, T1.2.2.2.2 0 k = T.2.2.2.2 0 k := st 0 (iv_sta hV r0 (by decide) (by decide)) (by rw [r0]; rfl)
  refine ⟨fun n hn hs hr k => (st n hs hr k).trans (h.1 n hn hs hr k), fun k a b => (e0 k).trans (h.2.1 k a b), ?_⟩
  rw [e0 14, e0 15]
  exact h.2.2
def RSq (T : AT) (S : MS) : Prop := ∃ s, (s = 478 ∨ s = 656) ∧ T.2.2.2.2 0 14 = some s ∧ (S.1 20 = 1 ∧ SCE s T (S.2.1 10) ∧ S.2.1 10 4 ≠ 0 ∧ S.2.1 10 8 ≠ 0 ∨ S.1 20 = 0 ∧ T.2.2.1 s 2 = 0 ∧ T.2.2.1 s 5 = 0 ∧ T.2.2.1 s 8 = 0 ∧ T.2.2.1 (s + 2) 3 = 0 ∧ T.2.2.1 (s + 2) 4 = 0 ∧ T.2.2.1 (s + 2) 7 = 0)
def BYr (T : AT) (S : MS) : Prop := T.2.2.1 1 1 = S.1 2 ∧ ∀ k, k < 1000 → T.2.2.1 2 k = S.2.1 1 k
def R1 (T : AT) (S : MS) : Prop := CRF T ∧ BYr T S ∧ T.2.2.1 6 2 = S.1 5 ∧ T.2.2.1 6 3 = S.1 6 ∧ RSq T S
theorem rrole : aR0 1 = 9 ∧ aR0 2 = 41 ∧ aR0 6 = 3 ∧ aR0 0 = 11 := by decide +kernel
def FKq (S S1 : MS) : Prop := S1.1 2 = S.1 2 ∧ S1.1 5 = S.1 5 ∧ S1.1 6 = S.1 6 ∧ S1.1 20 = S.1 20 ∧ S1.2.1 1 = S.2.1 1 ∧ S1.2.1 10 = S.2.1 10
def okW (W : List Nat) : Bool := scodes.all (fun x => !(W.contains x)) && !(W.contains 289) && !(W.contains 1312) && !(W.contains 98) && !(W.contains 99)
theorem con_f {W : List Nat} {x : Nat} (h : (!(W.contains x)) = true) : W.contains x = false := by
  cases e : W.contains x with
  | false => rfl
  | true => rw [e] at h; cases h
theorem rs_eq (hs : s = 478 ∨ s = 656) (q : SEQ s T T1) (hP : ∀ x, x < 131 → S1.2.1 10 x = S.2.1 10 x) (h20 : S1.1 20 = S.1 20) (h14 : T1.2.2.2.2 0 14 = some s) (h : S.1 20 = 1 ∧ SCE s T (S.2.1 10) ∧ S.2.1 10 4 ≠ 0 ∧ S.2.1 10 8 ≠ 0 ∨ S.1 20 = 0 ∧ T.2.2.1 s 2 = 0 ∧ T.2.2.1 s 5 = 0 ∧ T.2.2.1 s 8 = 0 ∧ T.2.2.1 (s + 2) 3 = 0 ∧ T.2.2.1 (s + 2) 4 = 0 ∧ T.2.2.1 (s + 2) 7 = 0) : RSq T1 S1 := by
  refine ⟨s, hs, h14, ?_⟩
  rcases h with ⟨a, b, c, d⟩ | ⟨a, b2, b5, b8, g3, g4, g7⟩
  · exact .inl ⟨h20.trans a, sce_eq b q hP, by rw [hP 4 (by decide)]; exact c, by rw [hP 8 (by decide)]; exact d⟩
  · exact .inr ⟨h20.trans a, (q.1 2 (by decide)).trans b2, (q.1 5 (by decide)).trans b5, (q.1 8 (by decide)).trans b8, (q.2.1 3 (by decide)).trans g3, (q.2.1 4 (by decide)).trans g4, (q.2.1 7 (by decide)).trans g7⟩
theorem r1_keep {W : List Nat} (h : R1 T S) (hV : IV aR0 1586 aK1 aK2 T) (hw : FW aR0 W T T1) (c : okW W = true) (hg : GR T T1) (hf : FKq S S1) : R1 T1 S1 := by
  obtain ⟨hc, ⟨hl, hb⟩, h5, h6, s, hs, h14, hr⟩ := h
  unfold okW at c
  simp only [Bool.and_eq_true] at c
  obtain ⟨⟨⟨⟨c0, c1⟩, c2⟩, c3⟩, c4⟩ := c
  obtain ⟨r1, r2, r6, r0⟩ := rrole
  have e14 : T1.2.2.2.2 0 14 = T.2.2.2.2 0 14 := by
    refine hg.2 0 14 (Nat.lt_of_lt_of_le (by decide) hV.1.2.2) ?_
    rw [hV.2.1 0 (iv_sta hV r0 (by decide) (by decide)), r0]
    decide
  refine ⟨crf_gr hc hV hg, ⟨?_, fun k hk => ?_⟩, ?_, ?_, rs_eq hs (fw_seq hw c0 hs) (fun x _ => by rw [hf.2.2.2.2.2]) hf.2.2.2.1 (e14.trans h14) hr⟩
  · rw [hw 1 1 (by rw [r1]; exact con_f c1), hf.1]; exact hl
  · rw [hw 2 k (by rw [r2]; exact con_f c2), hf.2.2.2.2.1]; exact hb k hk
  · rw [hw 6 2 (by rw [r6]; exact con_f c3), hf.2.1]; exact h5
  · rw [hw 6 3 (by rw [r6]; exact con_f c4), hf.2.2.1]; exact h6
end
end
section
/-! 21b.load.lean.txt -/
/-! append and load keep what class and reference hold alike -/
section
variable {T T1 : AT} {S S1 : MS} {s : Nat}
theorem sh_bv (x : BitVec 32) (m : Nat) (hm : m ≤ 24) : (x >>> m) &&& 255#32 = (x.sshiftRight m) &&& 255#32 := by
  refine BitVec.eq_of_getLsbD_eq (fun i hi => ?_)
  rw [BitVec.getLsbD_and, BitVec.getLsbD_and, BitVec.getLsbD_ushiftRight, BitVec.getLsbD_sshiftRight]
  by_cases h : i < 8
  · rw [if_pos (by omega), show decide (32 ≤ i) = false from decide_eq_false (by omega)]
    rfl
  · have e : (255#32).getLsbD i = false := (show ∀ i, i < 32 → 8 ≤ i → (255#32).getLsbD i = false by decide) i hi (by omega)
    rw [e, Bool.and_false, Bool.and_false]
theorem sh_eq (w l : Int32) (h : l = 24 ∨ l = 16 ∨ l = 8 ∨ l = 0) : ((w.toUInt32 >>> (l.toUInt32 &&& Int32.toUInt32 31)).toInt32) &&& 255 = (w >>> (l &&& 31)) &&& 255 := by
  rcases h with e | e | e | e <;> subst e
  · exact Int32.toBitVec_inj.mp (sh_bv w.toBitVec 24 (by decide))
  · exact Int32.toBitVec_inj.mp (sh_bv w.toBitVec 16 (by decide))
  · exact Int32.toBitVec_inj.mp (sh_bv w.toBitVec 8 (by decide))
  · exact Int32.toBitVec_inj.mp (sh_bv w.toBitVec 0 (by decide))
theorem k_four1 : ∀ (j f f2 : Nat) {T T1 : AT} {S S1 : MS} {w l : Int32}, j ≤ 4 → l.toInt = 8 * (j : Int) - 8 → T.2.2.2.2 1 0 = some 2 → BYr T S → g_X9_addWord_b3 f T 1 w l = some T1 → fr_four_b3 f2 S w l = some S1 → BYr T1 S1 ∧ T1.2.2.2.2 = T.2.2.2.2 := by
  have z0 : (0 : Int32).toInt = 0 := by decide
  have z8 : (Int32.ofInt (-8) : Int32).toInt = -8 := by decide
  intro j
  induction j with
  | zero =>
    intro f f2 T T1 S S1 w l hj hl hR hB hg hf
    have c : l < 0 := Int32.lt_iff_toInt_lt.mpr (by omega)
    cases f with
    | zero => cases hg
    | succ f =>
      cases f2 with
      | zero => cases hf
      | succ f2 =>
        unfold g_X9_addWord_b3 at hg
        unfold fr_four_b3 at hf
        rw [if_pos c] at hg hf
        rw [← osome1 hg, ← osome1 hf]
        exact ⟨hB, rfl⟩
  | succ j ih =>
    intro f f2 T T1 S S1 w l hj hl hR hB hg hf
    have c : ¬ l < 0 := fun q => by have := i_lt q; omega
    cases f with
    | zero => cases hg
    | succ f =>
      cases f2 with
      | zero => cases hf
      | succ f2 =>
        unfold g_X9_addWord_b3 at hg
        unfold fr_four_b3 at hf
        rw [if_neg c] at hg hf
        obtain ⟨v3, e3, hf⟩ := elet_some hf
        obtain ⟨v4, e4, hf⟩ := elet_some hf
        obtain ⟨v5, e5, hf⟩ := elet_some hf
        obtain ⟨i3, hf⟩ := oif_some hf
        obtain ⟨k3, k4⟩ := inb_k i3
        obtain ⟨S7, e7, hf⟩ := elet_some hf
        obtain ⟨v8, e8, hf⟩ := elet_some hf
        obtain ⟨v9, e9, hf⟩ := elet_some hf
        obtain ⟨S10, e10, hf⟩ := elet_some hf
        obtain ⟨v11, e11, hf⟩ := elet_some hf
        obtain ⟨-, hg⟩ := oif_some hg
        obtain ⟨u4, d4, hg⟩ := elet_some hg
        have d4' : u4 = v3 := d4.trans (hB.1.trans e3.symm)
        rw [if_neg (by rw [d4', k3]; intro q; have := (nI_leI (a := 1000) (by omega) (by omega)).mp q; omega)] at hg
        obtain ⟨-, hg⟩ := oif_some hg
        obtain ⟨n7, en7, hg⟩ := obind_some hg
        rw [hR] at en7
        cases en7
        obtain ⟨-, hg⟩ := oif_some hg
        obtain ⟨u9, d9, hg⟩ := elet_some hg
        have d9' : u9 = v3 := d9.trans (hB.1.trans e3.symm)
        obtain ⟨u10, d10, hg⟩ := elet_some hg
        obtain ⟨u11, d11, hg⟩ := elet_some hg
        obtain ⟨-, hg⟩ := oif_some hg
        obtain ⟨-, hg⟩ := oif_some hg
        obtain ⟨T14, d14, hg⟩ := elet_some hg
        obtain ⟨-, hg⟩ := oif_some hg
        obtain ⟨u16, d16, hg⟩ := elet_some hg
        obtain ⟨u17, d17, hg⟩ := elet_some hg
        obtain ⟨-, hg⟩ := oif_some hg
        obtain ⟨T19, d19, hg⟩ := elet_some hg
        unfold g_X9_addWord_b43 at hg
        obtain ⟨u2, d2, hg⟩ := elet_some hg
        have el : u2 = v11 := d2.trans e11.symm
        rw [← el] at hf
        have sh : u11 = v5 := by
          rw [d11, d10, e5, e4]
          refine sh_eq w l ?_
          rcases (show j = 0 ∨ j = 1 ∨ j = 2 ∨ j = 3 by omega) with q | q | q | q <;> subst q
          · exact .inr (.inr (.inr (Int32.toInt_inj.mp (by omega))))
          · exact .inr (.inr (.inl (Int32.toInt_inj.mp (by have : (8 : Int32).toInt = 8 := by decide
                                                           omega))))
          · exact .inr (.inl (Int32.toInt_inj.mp (by have : (16 : Int32).toInt = 16 := by decide
                                                     omega)))
          · exact .inl (Int32.toInt_inj.mp (by have : (24 : Int32).toInt = 24 := by decide
                                               omega))
        have q2 : u2.toInt = 8 * (j : Int) - 8 := by
          rw [d2]
          exact (i_add rfl (by omega) (by omega)).trans (by omega)
        have hB19 : BYr T19 S10 := by
          refine ⟨?_, fun k hk => ?_⟩
          · rw [d19, ui_at, d17, d16, d14, ui_ne (.inl (by decide)), hB.1, e10, mi_at, e9, e8, e7]
            rfl
          · rw [d19, ui_ne (.inl (by decide)), d14, ui_get, e10, e7]
            show _ = (mf S 1 (upd (S.2.1 1) v3.toNatClampNeg v5)).2.1 1 k
            rw [mf_at]
            show _ = if k = v3.toNatClampNeg then v5 else S.2.1 1 k
            rw [d9', sh]
            by_cases e : k = v3.toNatClampNeg
            · rw [if_pos ⟨rfl, e⟩, if_pos e]
            · rw [if_neg (fun q => e q.2), if_neg e]
              exact hB.2 k hk
        have r19 : T19.2.2.2.2 = T.2.2.2.2 := by rw [d19, d14]; rfl
        obtain ⟨a1, a2⟩ := ih f f2 (by omega) q2 (by rw [r19]; exact hR) hB19 hg hf
        exact ⟨a1, a2.trans r19⟩
theorem k_four {w : Int32} (hR : T.2.2.2.2 1 0 = some 2) (hB : BYr T S) (hg : g_X9_addWord T 1 w = some T1) (hf : fr_four S w = some S1) : BYr T1 S1 ∧ T1.2.2.2.2 = T.2.2.2.2 := k_four1 4 16384 16384 (by decide) (by decide) hR hB hg hf
theorem by_mi {k : Nat} {v : Int32} (h : BYr T S) (hk : k ≠ 2) : BYr T (mi S k v) := ⟨h.1.trans (mi_ne (Ne.symm hk)).symm, h.2⟩
theorem k_append {a0 a1 a2 a3 a4 r1 r2 : Int32} (h0 : T.2.2.2.2 0 0 = some 1) (hR : T.2.2.2.2 1 0 = some 2) (hB : BYr T S) (hg : g_X11_append T 0 a0 a1 a2 a3 a4 = some (r1, T1)) (hf : fr_append S a0 a1 a2 a3 a4 = some (r2, S1)) : r1 = r2 ∧ BYr T1 S1 ∧ T1.2.2.2.2 = T.2.2.2.2 := by
  unfold g_X11_append at hg
  obtain ⟨-, hg⟩ := oif_some hg
  obtain ⟨n3, e3, hg⟩ := obind_some hg
  rw [h0] at e3
  cases e3
  obtain ⟨-, hg⟩ := oif_some hg
  obtain ⟨v5, e5, hg⟩ := elet_some hg
  obtain ⟨v6, e6, hg⟩ := elet_some hg
  unfold fr_append at hf
  obtain ⟨S2, f2, hf⟩ := elet_some hf
  obtain ⟨w3, d3, hf⟩ := elet_some hf
  obtain ⟨w4, d4, hf⟩ := elet_some hf
  have hB2 : BYr T S2 := by rw [f2]; exact by_mi hB (by decide)
  have e64 : v6 = w4 := by rw [e6, d4, e5, d3, hB2.1]
  rw [← e64] at hf
  by_cases c : v6 ≤ 1000
  · rw [if_pos c] at hg hf
    obtain ⟨S6, f6, hf⟩ := obind_some hf
    obtain ⟨S9, f9, hf⟩ := obind_some hf
    obtain ⟨S12, f12, hf⟩ := obind_some hf
    obtain ⟨S15, f15, hf⟩ := obind_some hf
    obtain ⟨S18, f18, hf⟩ := obind_some hf
    obtain ⟨w21, d21, hf⟩ := elet_some hf
    obtain ⟨-, hg⟩ := oif_some hg
    obtain ⟨n9, e9, hg⟩ := obind_some hg
    rw [h0] at e9
    cases e9
    obtain ⟨-, hg⟩ := oif_some hg
    obtain ⟨T11, g11, hg⟩ := obind_some hg
    obtain ⟨b11, r11⟩ := k_four hR hB2 g11 f6
    obtain ⟨-, hg⟩ := oif_some hg
    obtain ⟨n14, e14, hg⟩ := obind_some hg
    rw [r11, h0] at e14
    cases e14
    obtain ⟨-, hg⟩ := oif_some hg
    obtain ⟨T16, g16, hg⟩ := obind_some hg
    obtain ⟨b16, r16⟩ := k_four (by rw [r11]; exact hR) b11 g16 f9
    have r16 := r16.trans r11
    obtain ⟨-, hg⟩ := oif_some hg
    obtain ⟨n19, e19, hg⟩ := obind_some hg
    rw [r16, h0] at e19
    cases e19
    obtain ⟨-, hg⟩ := oif_some hg
    obtain ⟨T21, g21, hg⟩ := obind_some hg
    obtain ⟨b21, r21⟩ := k_four (by rw [r16]; exact hR) b16 g21 f12
    have r21 := r21.trans r16
    obtain ⟨-, hg⟩ := oif_some hg
    obtain ⟨n24, e24, hg⟩ := obind_some hg
    rw [r21, h0] at e24
    cases e24
    obtain ⟨-, hg⟩ := oif_some hg
    obtain ⟨T26, g26, hg⟩ := obind_some hg
    obtain ⟨b26, r26⟩ := k_four (by rw [r21]; exact hR) b21 g26 f15
    have r26 := r26.trans r21
    obtain ⟨-, hg⟩ := oif_some hg
    obtain ⟨n29, e29, hg⟩ := obind_some hg
    rw [r26, h0] at e29
    cases e29
    obtain ⟨-, hg⟩ := oif_some hg
    obtain ⟨T31, g31, hg⟩ := obind_some hg
    obtain ⟨b31, r31⟩ := k_four (by rw [r26]; exact hR) b26 g31 f18
    have r31 := r31.trans r26
    obtain ⟨-, hg⟩ := oif_some hg
    obtain ⟨n34, e34, hg⟩ := obind_some hg
    rw [r31, h0] at e34
    cases e34
    obtain ⟨-, hg⟩ := oif_some hg
    obtain ⟨v36, e36, hg⟩ := elet_some hg
    have g := osome2 hg
    have ff := osome2 hf
    rw [← g.1, ← g.2, ← ff.1, ← ff.2]
    exact ⟨by rw [e36, d21, b31.1], b31, r31⟩
  · rw [if_neg c] at hg hf
    have g := osome2 hg
    have ff := osome2 hf
    rw [← g.1, ← g.2, ← ff.1, ← ff.2]
    exact ⟨rfl, hB2, rfl⟩
/-- a part of the cells alone: the rest is of no known role -/
theorem iv_sub {R Rp : Nat → Nat} {B K1 K2 : Nat} (h : IV R B K1 K2 T) (hR : ∀ n, Rp n = R n ∨ Rp n = 30) (hcl : ∀ n k, Rp n ≠ 30 → rtg (Rp n) k ≠ 99 → ∀ q, T.2.2.2.2 n k = some q → Rp q = R q) : IV Rp B (T.1 + zt Rp T w1 B) (sg T + zt Rp T wC B) T := by
  have e : ∀ n, Rp n ≠ 30 → Rp n = R n := fun n q => (hR n).resolve_right q
  have st : ∀ n, sta Rp B n → sta R B n ∧ Rp n = R n := fun n q => by
    have a := e n q.2.2
    exact ⟨⟨q.1, by rw [← a]; exact q.2.1, by rw [← a]; exact q.2.2⟩, a⟩
  refine ⟨⟨fun n a d => h.1.1 n (by rw [← e n d]; exact a) (by rw [← e n d]; exact d), ⟨fun n a m d => ?_, fun n hn => ?_⟩, h.1.2.2⟩, fun n hs => ?_, fun n k hs hk => ?_, fun n k hs => ?_, fun n hs hW q hq p hp => ?_, fun n p r hs hW hr => ?_, rfl, rfl⟩
  · exact h.1.2.1.1 n (by rw [← e n (by rw [a]; decide)]; exact a) m (by rw [← e m (by rw [d]; decide)]; exact d)
  · rcases hR n with q | q
    · rw [q]; exact h.1.2.1.2 n hn
    · exact q
  · rw [(st n hs).2]; exact h.2.1 n (st n hs).1
  · have a := (st n hs).2
    obtain ⟨q, e1, e2, e3⟩ := h.2.2.1 n k (st n hs).1 (by rw [← a]; exact hk)
    exact ⟨q, e1, e2, by rw [hcl n k hs.2.2 hk q e1, e3, a]⟩
  · rw [(st n hs).2]; exact h.2.2.2.1 n k (st n hs).1
  · have a := (st n hs).2
    rw [a] at hW ⊢
    exact h.2.2.2.2.1 n (st n hs).1 hW q hq p hp
  · have a := (st n hs).2
    rw [a] at hW ⊢
    exact h.2.2.2.2.2.1 n p r (st n hs).1 hW hr
def pR (s n : Nat) : Nat := bif Nat.blt 0 n && Nat.blt n 7 then aR0 n else bif Nat.ble s n && Nat.blt n (s + 178) then aR0 n else 30
theorem pR_or (s n : Nat) : pR s n = aR0 n ∨ pR s n = 30 := by
  unfold pR
  cases Nat.blt 0 n && Nat.blt n 7 with
  | true => exact .inl rfl
  | false =>
    cases Nat.ble s n && Nat.blt n (s + 178) with
    | true => exact .inl rfl
    | false => exact .inr rfl
set_option maxRecDepth 100000 in
set_option maxHeartbeats 4000000 in
theorem pR_cl : [478, 656].all (fun s => ((List.range 6).map (· + 1) ++ (List.range 178).map (s + ·)).all (fun n => Nat.beq (aR0 n) 30 || (okc n && (List.range 150).all (fun k => Nat.beq (rtg (aR0 n) k) 99 || (match (arf n).getD k none with | some q => decide (pR s q = aR0 q) | none => true))))) = true := by decide +kernel
theorem iv_pR (h : CRF T) (hV : IV aR0 1586 aK1 aK2 T) (hs : s = 478 ∨ s = 656) : IV (pR s) 1586 (T.1 + zt (pR s) T w1 1586) (sg T + zt (pR s) T wC 1586) T := by
  refine iv_sub hV (pR_or s) (fun n k hn hk q hq => ?_)
  have d := List.all_eq_true.mp pR_cl s (by rcases hs with e | e <;> rw [e] <;> decide)
  have hm : n ∈ (List.range 6).map (· + 1) ++ (List.range 178).map (s + ·) := by
    unfold pR at hn
    cases c1 : Nat.blt 0 n && Nat.blt n 7 with
    | true =>
      obtain ⟨a, b⟩ := (Bool.and_eq_true _ _).mp c1
      have a := Nat.le_of_ble_eq_true a
      have b := Nat.le_of_ble_eq_true b
      exact List.mem_append_left _ (List.mem_map.mpr ⟨n - 1, List.mem_range.mpr (by omega), by omega⟩)
    | false =>
      rw [c1] at hn
      cases c2 : Nat.ble s n && Nat.blt n (s + 178) with
      | true =>
        obtain ⟨a, b⟩ := (Bool.and_eq_true _ _).mp c2
        have a := Nat.le_of_ble_eq_true a
        have b := Nat.le_of_ble_eq_true b
        exact List.mem_append_right _ (List.mem_map.mpr ⟨n - s, List.mem_range.mpr (by omega), by omega⟩)
      | false => rw [c2] at hn; exact absurd rfl hn
  have d := List.all_eq_true.mp d n hm
  have en : pR s n = aR0 n := (pR_or s n).resolve_right hn
  rw [en] at hn hk
  have d : (Nat.beq (aR0 n) 30 || (okc n && (List.range 150).all (fun k => Nat.beq (rtg (aR0 n) k) 99 || (match (arf n).getD k none with | some q => decide (pR s q = aR0 q) | none => true)))) = true := d
  rw [nbeq hn, Bool.false_or] at d
  obtain ⟨d1, d2⟩ := (Bool.and_eq_true _ _).mp d
  by_cases h150 : k < 150
  · have d3 := a_fin (p := fun k => Nat.beq (rtg (aR0 n) k) 99 || (match (arf n).getD k none with | some q => decide (pR s q = aR0 q) | none => true)) d2 h150
    have d3 : (Nat.beq (rtg (aR0 n) k) 99 || (match (arf n).getD k none with | some q => decide (pR s q = aR0 q) | none => true)) = true := d3
    rw [nbeq hk, Bool.false_or, ← h.at n d1 k, hq] at d3
    exact of_decide_eq_true d3
  · exact absurd (rtg_hi (Nat.not_lt.mp h150)) hk
/-- outside of its scene the parser writes nothing but the text's tokens and its own fields -/
theorem parse_out {n : Int32} {k : Nat} {r : Int32} (h : CRF T) (hV : IV aR0 1586 aK1 aK2 T) (hs : s = 478 ∨ s = 656) (h0 : 0 ≤ n.toInt) (h1 : n.toInt ≤ 1000) (hg : g_X3_parse T 6 n s = some (k, r, T1)) : (∀ m j, 7 ≤ m → (m < s ∨ s + 178 ≤ m) → T1.2.2.1 m j = T.2.2.1 m j) ∧ (∀ j, T1.2.2.1 2 j = T.2.2.1 2 j) ∧ T1.2.2.1 1 1 = T.2.2.1 1 1 ∧ IV aR0 1586 aK1 aK2 T1 := by
  obtain ⟨e1, e2, e6, e0⟩ := rrole
  have rs := (sro hs).1
  have p6 : pR s 6 = 3 := by rw [show pR s 6 = aR0 6 from rfl]; exact e6
  have ps : pR s s = 6 := by
    rw [show pR s s = aR0 s from by rcases hs with e | e <;> rw [e] <;> rfl]
    exact rs
  have c := tgo (cs_X3_parse (R := pR s) T 6 n s (iv_pR h hV hs) p6 ps ⟨h0, h1⟩) hg
  have c0 := tgo (cs_X3_parse T 6 n s hV e6 rs ⟨h0, h1⟩) hg
  have f := c.1.2
  refine ⟨fun m j hm ho => f m j ?_, fun j => f 2 j ?_, f 1 1 ?_, c0.1.1⟩
  · have q : pR s m = 30 := by
      unfold pR
      have a : (Nat.blt 0 m && Nat.blt m 7) = false := by
        cases e : Nat.blt m 7 with
        | false => exact Bool.and_false _
        | true => have := Nat.le_of_ble_eq_true e; omega
      have b : (Nat.ble s m && Nat.blt m (s + 178)) = false := by
        cases e : Nat.ble s m with
        | false => rfl
        | true =>
          cases e2 : Nat.blt m (s + 178) with
          | false => rfl
          | true =>
            have := Nat.le_of_ble_eq_true e
            have := Nat.le_of_ble_eq_true e2
            omega
      rw [a, b]
      rfl
    rw [q]
    rfl
  · rw [show pR s 2 = aR0 2 from rfl, e2]; rfl
  · rw [show pR s 1 = aR0 1 from rfl, e1]; rfl
/-! what the reference does behind its parser -/
theorem r_cp : ∀ (f : Nat) {l : Nat} {r : Int32} {S : MS}, l ≤ 131 → (∀ x, x < l → S.2.1 10 x = S.2.1 11 x) → fr_load_b67 f S (nI l) = some (r, S1) → ∃ U V, U.1 = S.1 ∧ (∀ a, a ≠ 10 → U.2.1 a = S.2.1 a) ∧ (∀ x, x < 131 → U.2.1 10 x = S.2.1 11 x) ∧ fr_copy_13_12 U 0 0 = some V ∧ fr_load_b107 16384 V 0 = some (r, S1) := by
  intro f
  induction f with
  | zero => intro l r S hl hz hf; cases hf
  | succ f ih =>
    intro l r S hl hz hf
    unfold fr_load_b67 at hf
    by_cases c1 : (131 : Int32) ≤ nI l
    · rw [if_pos c1] at hf
      have := (nI_leI (a := 131) (b := l) (by omega) (by omega)).mp c1
      obtain ⟨V, f3, hf⟩ := obind_some hf
      exact ⟨S, V, rfl, fun _ _ => rfl, fun x hx => hz x (by omega), f3, hf⟩
    · rw [if_neg c1] at hf
      have c1 : l < 131 := Nat.lt_of_not_le (fun q => c1 ((nI_leI (a := 131) (b := l) (by omega) (by omega)).mpr q))
      obtain ⟨-, hf⟩ := oif_some hf
      obtain ⟨v7, e7, hf⟩ := elet_some hf
      rw [nI_clamp (by omega)] at e7
      obtain ⟨-, hf⟩ := oif_some hf
      obtain ⟨S9, e9, hf⟩ := elet_some hf
      rw [nI_clamp (by omega)] at e9
      obtain ⟨v10, e10, hf⟩ := elet_some hf
      have e10 : v10 = nI (l + 1) := e10.trans (nI_1 l)
      rw [e10] at hf
      have n11 : S9.2.1 11 = S.2.1 11 := by rw [e9, mf_ne (by decide)]
      obtain ⟨U, V, a1, a2, a3, a4⟩ := ih (S := S9) (by omega) (fun x hx => by
        rw [n11, e9, mf_at]
        show (if x = l then v7 else S.2.1 10 x) = _
        by_cases e : x = l
        · rw [if_pos e, e7, e]
        · rw [if_neg e]; exact hz x (by omega)) hf
      exact ⟨U, V, a1.trans (by rw [e9]; rfl), fun a ha => (a2 a ha).trans (by rw [e9, mf_ne ha]), fun x hx => (a3 x hx).trans (by rw [n11]), a4⟩
def ZQ (r : Int32) (S1 : MS) : Prop := r = S1.2.1 10 9 * S1.2.1 10 10 ∧ S1.1 20 = 1
theorem z_168 {r : Int32} {k : MS → Int32 → Option (Int32 × MS)} (hk : ∀ S l, k S l = some (r, S1) → ZQ r S1) : ∀ (f : Nat) {S : MS} {l2 l3 : Int32}, fr_load_b168 k f S l2 l3 = some (r, S1) → ZQ r S1 := by
  intro f
  induction f with
  | zero => intro S l2 l3 hf; cases hf
  | succ f ih =>
    intro S l2 l3 hf
    unfold fr_load_b168 at hf
    obtain ⟨v2, e2, hf⟩ := elet_some hf
    by_cases c : v2 ≤ l3
    · rw [if_pos c] at hf
      obtain ⟨v4, e4, hf⟩ := elet_some hf
      exact hk _ _ hf
    · rw [if_neg c] at hf
      obtain ⟨v5, e5, hf⟩ := elet_some hf
      obtain ⟨v6, e6, hf⟩ := elet_some hf
      obtain ⟨r10, S7, f7, hf⟩ := obind2_some hf
      obtain ⟨r14, S11, f11, hf⟩ := obind2_some hf
      obtain ⟨r18, S15, f15, hf⟩ := obind2_some hf
      obtain ⟨-, hf⟩ := oif_some hf
      obtain ⟨S20, e20, hf⟩ := elet_some hf
      obtain ⟨v21, e21, hf⟩ := elet_some hf
      exact ih hf
theorem z_158 {r : Int32} : ∀ (f : Nat) {S : MS} {l : Int32}, fr_load_b158 f S l = some (r, S1) → ZQ r S1 := by
  intro f
  induction f with
  | zero => intro S l hf; cases hf
  | succ f ih =>
    intro S l hf
    unfold fr_load_b158 at hf
    obtain ⟨r5, S2, f2, hf⟩ := obind2_some hf
    by_cases c : r5 ≤ l
    · rw [if_pos c] at hf
      obtain ⟨S7, f7, hf⟩ := obind_some hf
      obtain ⟨S10, e10, hf⟩ := elet_some hf
      obtain ⟨S11, e11, hf⟩ := elet_some hf
      obtain ⟨S12, e12, hf⟩ := elet_some hf
      obtain ⟨S13, e13, hf⟩ := elet_some hf
      obtain ⟨r17, S14, f14, hf⟩ := obind2_some hf
      have ff := osome2 hf
      unfold fr_cellCount at f14
      obtain ⟨v2, d2, f14⟩ := elet_some f14
      obtain ⟨v3, d3, f14⟩ := elet_some f14
      obtain ⟨v4, d4, f14⟩ := elet_some f14
      have g := osome2 f14
      rw [← ff.1, ← ff.2, ← g.1, ← g.2]
      exact ⟨by rw [d4, d2, d3], by rw [e13, mi_ne (by decide), e12, e11]; show S10.1 20 = 1; rw [e10, mi_at]⟩
    · rw [if_neg c] at hf
      exact z_168 (fun S l h => ih h) 16384 hf
theorem z_107 {r : Int32} : ∀ (f : Nat) {S : MS} {l : Int32}, fr_load_b107 f S l = some (r, S1) → ZQ r S1 := by
  intro f
  induction f with
  | zero => intro S l hf; cases hf
  | succ f ih =>
    intro S l hf
    have h149 : ∀ {U : MS} {a b c : Int32}, fr_load_b149 (fr_load_b107 f) U a b c = some (r, S1) → ZQ r S1 := by
      intro U a b c hf
      unfold fr_load_b149 at hf
      obtain ⟨-, hf⟩ := oif_some hf
      obtain ⟨S3, e3, hf⟩ := elet_some hf
      obtain ⟨v4, e4, hf⟩ := elet_some hf
      exact ih hf
    unfold fr_load_b107 at hf
    obtain ⟨v2, e2, hf⟩ := elet_some hf
    by_cases c : v2 ≤ l
    · rw [if_pos c] at hf
      exact z_158 16384 hf
    · rw [if_neg c] at hf
      obtain ⟨v4, e4, hf⟩ := elet_some hf
      obtain ⟨v5, e5, hf⟩ := elet_some hf
      by_cases c2 : v5 ≤ l
      · rw [if_pos c2] at hf
        exact h149 hf
      · rw [if_neg c2] at hf
        obtain ⟨v7, e7, hf⟩ := elet_some hf
        obtain ⟨-, hf⟩ := oif_some hf
        obtain ⟨v9, e9, hf⟩ := elet_some hf
        exact h149 hf
end
set_option maxHeartbeats 1000000 in
theorem w3_fr_load_b168 {k158 : MS → Int32 → Option (Int32 × MS)} {r1 : Int32} {S1 : MS} (hk158 : ∀ (x0 : MS) (x1 : Int32), k158 x0 x1 = some (r1, S1) → FK [19, 20] [12, 17, 18, 23] x0 S1) : ∀ n : Nat, ∀ (S : MS) (y1 : Int32) (y2 : Int32), fr_load_b168 k158 n S y1 y2 = some (r1, S1) → FK [19, 20] [12, 17, 18, 23] S S1 := by
  intro n
  induction n with
  | zero =>
    intro S y1 y2 h
    have h : (none : Option (Int32 × MS)) = some (r1, S1) := h
    cases h
  | succ n ih =>
    intro S l2 l3 h
    have p0 : FK [19, 20] [12, 17, 18, 23] S S := FK.rf
    unfold fr_load_b168 at h
    obtain ⟨v2, ev2, h⟩ := elet_some h
    rcases oif_or h with ⟨-, h⟩ | ⟨-, h⟩
    · have h := h
      obtain ⟨v4, ev4, h⟩ := elet_some h
      exact p0.tr (hk158 _ _ h)
    · have h := h
      obtain ⟨v5, ev5, h⟩ := elet_some h
      obtain ⟨v6, ev6, h⟩ := elet_some h
      obtain ⟨r10, S7, eS7, h⟩ := obind2_some h
      have p1 : FK [19, 20] [12, 17, 18, 23] S S7 := p0.tr ((w_fr_centre eS7).w (by decide))
      obtain ⟨r14, S11, eS11, h⟩ := obind2_some h
      have p2 : FK [19, 20] [12, 17, 18, 23] S S11 := p1.tr ((w_fr_centre eS11).w (by decide))
      obtain ⟨r18, S15, eS15, h⟩ := obind2_some h
      have p3 : FK [19, 20] [12, 17, 18, 23] S S15 := p2.tr ((w_fr_delayFrom eS15).w (by decide))
      have h := (oif_some h).2
      obtain ⟨S20, eS20, h⟩ := elet_some h
      have p4 : FK [19, 20] [12, 17, 18, 23] S S20 := p3.tr (by rw [eS20]; exact fw_mf (by decide))
      obtain ⟨v21, ev21, h⟩ := elet_some h
      exact p4.tr (ih _ _ _ h)
set_option maxHeartbeats 1000000 in
theorem w3_fr_load_b158 {r1 : Int32} {S1 : MS} : ∀ n : Nat, ∀ (S : MS) (y1 : Int32), fr_load_b158 n S y1 = some (r1, S1) → FK [19, 20] [12, 17, 18, 23] S S1 := by
  intro n
  induction n with
  | zero =>
    intro S y1 h
    have h : (none : Option (Int32 × MS)) = some (r1, S1) := h
    cases h
  | succ n ih =>
    intro S l2 h
    have p0 : FK [19, 20] [12, 17, 18, 23] S S := FK.rf
    unfold fr_load_b158 at h
    obtain ⟨r5, S2, eS2, h⟩ := obind2_some h
    have p1 : FK [19, 20] [12, 17, 18, 23] S S2 := p0.tr ((w_fr_cellCount eS2).w (by decide))
    rcases oif_or h with ⟨-, h⟩ | ⟨-, h⟩
    · have h := h
      obtain ⟨S7, eS7, h⟩ := obind_some h
      have p2 : FK [19, 20] [12, 17, 18, 23] S S7 := p1.tr ((w_fr_records_12 eS7).w (by decide))
      obtain ⟨S10, eS10, h⟩ := elet_some h
      have p3 : FK [19, 20] [12, 17, 18, 23] S S10 := p2.tr (by rw [eS10]; exact fw_mi (by decide))
      obtain ⟨S11, eS11, h⟩ := elet_some h
      have p4 : FK [19, 20] [12, 17, 18, 23] S S11 := p3.tr (by rw [eS11]; exact fw_mf (by decide))
      obtain ⟨S12, eS12, h⟩ := elet_some h
      have p5 : FK [19, 20] [12, 17, 18, 23] S S12 := p4.tr (by rw [eS12]; exact fw_mf (by decide))
      obtain ⟨S13, eS13, h⟩ := elet_some h
      have p6 : FK [19, 20] [12, 17, 18, 23] S S13 := p5.tr (by rw [eS13]; exact fw_mi (by decide))
      obtain ⟨r17, S14, eS14, h⟩ := obind2_some h
      have p7 : FK [19, 20] [12, 17, 18, 23] S S14 := p6.tr ((w_fr_cellCount eS14).w (by decide))
      rw [← (osome2 h).2]
      exact p7
    · have h := h
      exact p1.tr (w3_fr_load_b168 ih _ _ _ _ h)
set_option maxHeartbeats 1000000 in
theorem w3_fr_load_b149 {k107 : MS → Int32 → Option (Int32 × MS)} {s0 : Int32} {s1 : Int32} {l2 : Int32} {S : MS} {r1 : Int32} {S1 : MS} (hk107 : ∀ (x0 : MS) (x1 : Int32), k107 x0 x1 = some (r1, S1) → FK [19, 20] [12, 17, 18, 23] x0 S1) (h : fr_load_b149 k107 S s0 s1 l2 = some (r1, S1)) : FK [19, 20] [12, 17, 18, 23] S S1 := by
  have p0 : FK [19, 20] [12, 17, 18, 23] S S := FK.rf
  unfold fr_load_b149 at h
  have h := (oif_some h).2
  obtain ⟨S3, eS3, h⟩ := elet_some h
  have p1 : FK [19, 20] [12, 17, 18, 23] S S3 := p0.tr (by rw [eS3]; exact fw_mf (by decide))
  obtain ⟨v4, ev4, h⟩ := elet_some h
  exact p1.tr (hk107 _ _ h)
set_option maxHeartbeats 1000000 in
theorem w3_fr_load_b107 {r1 : Int32} {S1 : MS} : ∀ n : Nat, ∀ (S : MS) (y1 : Int32), fr_load_b107 n S y1 = some (r1, S1) → FK [19, 20] [12, 17, 18, 23] S S1 := by
  intro n
  induction n with
  | zero =>
    intro S y1 h
    have h : (none : Option (Int32 × MS)) = some (r1, S1) := h
    cases h
  | succ n ih =>
    intro S l2 h
    have p0 : FK [19, 20] [12, 17, 18, 23] S S := FK.rf
    unfold fr_load_b107 at h
    obtain ⟨v2, ev2, h⟩ := elet_some h
    rcases oif_or h with ⟨-, h⟩ | ⟨-, h⟩
    · have h := h
      exact p0.tr (w3_fr_load_b158  _ _ _ h)
    · have h := h
      obtain ⟨v4, ev4, h⟩ := elet_some h
      obtain ⟨v5, ev5, h⟩ := elet_some h
      rcases oif_or h with ⟨-, h⟩ | ⟨-, h⟩
      · have h := h
        exact p0.tr (w3_fr_load_b149 ih h)
      · have h := h
        obtain ⟨v7, ev7, h⟩ := elet_some h
        have h := (oif_some h).2
        obtain ⟨v9, ev9, h⟩ := elet_some h
        exact p0.tr (w3_fr_load_b149 ih h)
end
