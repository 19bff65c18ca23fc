/-! a table gets its second part; clearing; the class's beam -/
section
variable {T T1 T0 : AT} {P A : Nat → Int32} {o x y z d dl xs : Nat} {c4 n2 : Nat} {D : Nat → Int32}
theorem c_w40 {k5 : AT → Nat → Int32 → Int32 → Option AT} {N : Nat} (h1 : T0.2.2.2.2 o 1 = some (o + 1)) (hx : T0.2.2.2.2 (o + 1) 0 = some x) (hy : T0.2.2.2.2 (o + 1) 1 = some y) (hxy : x ≠ y) (hN : T0.2.2.1 o 0 = nI N) (hl : N ≤ 7200) : ∀ (f j : Nat) {T : AT}, j ≤ N → LQ T0 T → (∀ m k, m ≠ x → m ≠ y → T.2.2.2.1 m k = T0.2.2.2.1 m k) → (∀ k, j ≤ k → T.2.2.2.1 x k = T0.2.2.2.1 x k) → (∀ k, k < j → 0 ≤ (T0.2.2.2.1 x k).toInt → (T0.2.2.2.1 x k).toInt < 268435456 → V2 T x y k (T0.2.2.2.1 x k).toInt) → g_X10_widenTo_b40 k5 f T o 2 1 (nI j) = some T1 → ∃ T2, LQ T0 T2 ∧ (∀ m k, m ≠ x → m ≠ y → T2.2.2.2.1 m k = T0.2.2.2.1 m k) ∧ (∀ k, k < N → 0 ≤ (T0.2.2.2.1 x k).toInt → (T0.2.2.2.1 x k).toInt < 268435456 → V2 T2 x y k (T0.2.2.2.1 x k).toInt) ∧ k5 (uI T2 o 2 2) o 2 2 = some T1 := by
  intro f
  induction f with
  | zero => intro j T hj hq ho hr hv h; cases h
  | succ f ih =>
    intro j T hj hq ho hr hv h
    have kj : (nI j).toNatClampNeg = j := nI_clamp (by omega)
    unfold g_X10_widenTo_b40 at h
    obtain ⟨-, h⟩ := oif_some h
    obtain ⟨v3, d3, h⟩ := elet_some h
    rw [hq.2.2.1, hN] at d3
    rcases oif_or h with ⟨q, h⟩ | ⟨q, h⟩
    · rw [d3] at q
      have q2 := (nI_leI (a := N) (by omega) (by omega)).mp q
      obtain ⟨v5, d5, h⟩ := elet_some h
      obtain ⟨-, h⟩ := oif_some h
      obtain ⟨T7, e7, h⟩ := elet_some h
      obtain ⟨v8, d8, h⟩ := elet_some h
      have e5 : v5 = 2 := by rw [d5]; decide
      have e8 : v8 = 2 := by rw [d8]; decide
      rw [e7, e5, e8] at h
      exact ⟨T, hq, ho, fun k hk a b => hv k (by omega) a b, h⟩
    · rw [d3] at q
      have q2 : ¬ N ≤ j := fun z => q ((nI_leI (a := N) (by omega) (by omega)).mpr z)
      obtain ⟨-, h⟩ := oif_some h
      obtain ⟨n10, en, h⟩ := obind_some h
      rw [hq.2.2.2, h1] at en
      cases en
      obtain ⟨v11, d11, h⟩ := elet_some h
      have e11 : v11 = 0 := by rw [d11]; decide
      obtain ⟨-, h⟩ := oif_some h
      obtain ⟨-, h⟩ := oif_some h
      obtain ⟨n14, en, h⟩ := obind_some h
      rw [e11, show (0 : Int32).toNatClampNeg = 0 from rfl, hq.2.2.2, hx] at en
      cases en
      obtain ⟨-, h⟩ := oif_some h
      obtain ⟨-, h⟩ := oif_some h
      obtain ⟨v17, d17, h⟩ := elet_some h
      rw [kj, hr j (Nat.le_refl j)] at d17
      obtain ⟨-, h⟩ := oif_some h
      obtain ⟨n19, en, h⟩ := obind_some h
      rw [hq.2.2.2, h1] at en
      cases en
      obtain ⟨v20, d20, h⟩ := elet_some h
      have e20 : v20 = 0 := by rw [d20]; decide
      obtain ⟨-, h⟩ := oif_some h
      obtain ⟨-, h⟩ := oif_some h
      obtain ⟨n23, en, h⟩ := obind_some h
      rw [e20, show (0 : Int32).toNatClampNeg = 0 from rfl, hq.2.2.2, hx] at en
      cases en
      obtain ⟨v24, d24, h⟩ := elet_some h
      obtain ⟨-, h⟩ := oif_some h
      obtain ⟨-, h⟩ := oif_some h
      obtain ⟨T27, e27, h⟩ := elet_some h
      have l27 : LQ T T27 := by rw [e27]; exact lq_uJ
      obtain ⟨-, h⟩ := oif_some h
      obtain ⟨n29, en, h⟩ := obind_some h
      rw [l27.2.2.2, hq.2.2.2, h1] at en
      cases en
      obtain ⟨-, h⟩ := oif_some h
      obtain ⟨-, h⟩ := oif_some h
      obtain ⟨n32, en, h⟩ := obind_some h
      rw [show (1 : Int32).toNatClampNeg = 1 from rfl, l27.2.2.2, hq.2.2.2, hy] at en
      cases en
      obtain ⟨v33, d33, h⟩ := elet_some h
      obtain ⟨-, h⟩ := oif_some h
      obtain ⟨-, h⟩ := oif_some h
      obtain ⟨T36, e36, h⟩ := elet_some h
      have l36 : LQ T27 T36 := by rw [e36]; exact lq_uJ
      obtain ⟨v37, d37, h⟩ := elet_some h
      rw [show v37 = nI (j + 1) from d37.trans (nI_p1 j)] at h
      have at36 : ∀ m k, T36.2.2.2.1 m k = if m = y ∧ k = j then v33 else if m = x ∧ k = j then v24 else T.2.2.2.1 m k := by
        intro m k
        rw [e36, kj, uj_get, e27, kj, uj_get]
      refine ih (j + 1) (by omega) ((hq.tr l27).tr l36) (fun m k hmx hmy => ?_) (fun k hk => ?_) (fun k hk a b => ?_) h
      · rw [at36, if_neg (fun w => hmy w.1), if_neg (fun w => hmx w.1)]
        exact ho m k hmx hmy
      · rw [at36, if_neg (by omega), if_neg (by omega)]
        exact hr k (by omega)
      · by_cases e : k = j
        · rw [e] at a b ⊢
          have q17 : v17.toInt = (T0.2.2.2.1 x j).toInt := by rw [d17]
          have q24 := l_and d24 (by omega)
          have q33 := l_shr d33
          have ax : T36.2.2.2.1 x j = v24 := by rw [at36, if_neg (fun w => hxy w.1), if_pos ⟨rfl, rfl⟩]
          have ay : T36.2.2.2.1 y j = v33 := by rw [at36, if_pos ⟨rfl, rfl⟩]
          unfold V2
          rw [ax, ay]
          omega
        · have ax : T36.2.2.2.1 x k = T.2.2.2.1 x k := by rw [at36, if_neg (fun w => e w.2), if_neg (fun w => e w.2)]
          have ay : T36.2.2.2.1 y k = T.2.2.2.1 y k := by rw [at36, if_neg (fun w => e w.2), if_neg (fun w => e w.2)]
          unfold V2
          rw [ax, ay]
          exact hv k (by omega) a b
/-- the second part comes -/
theorem c_widen2 {N : Nat} (hw : W1 T o x) (hN : T.2.2.1 o 0 = nI N) (hl : N ≤ 7200) (hc : RC T) (hi : RI T) (hs : (T.2.1 x).1 = 101) (hg : g_X10_widenTo T o 2 = some T1) : ∃ y, U2 T1 o x y ∧ (T1.2.1 y).1 = 101 ∧ (∀ m k, m ≠ o ∨ k ≠ 2 → T1.2.2.1 m k = T.2.2.1 m k) ∧ (∀ m j, m ≠ o + 1 ∨ j ≠ 1 → T1.2.2.2.2 m j = T.2.2.2.2 m j) ∧ (∀ m k, m < T.1 → m ≠ x → m ≠ y → T1.2.2.2.1 m k = T.2.2.2.1 m k) ∧ ∀ k, k < N → 0 ≤ (T.2.2.2.1 x k).toInt → (T.2.2.2.1 x k).toInt < 268435456 → V2 T1 x y k (T.2.2.2.1 x k).toInt := by
  obtain ⟨h1, hx, hu⟩ := id hw
  unfold g_X10_widenTo at hg
  obtain ⟨-, hg⟩ := oif_some hg
  obtain ⟨v3, d3, hg⟩ := elet_some hg
  rw [hu] at d3
  rw [d3, show (16384 : Nat) = 16382 + 1 + 1 from rfl] at hg
  have fin : ∀ {U : AT} {y : Nat}, U.2.2.2.2 o 1 = some (o + 1) → U.2.2.2.2 (o + 1) 0 = some x → U.2.2.2.2 (o + 1) 1 = some y → x ≠ y → (U.2.1 y).1 = 101 → U.2.2.1 = T.2.2.1 → (∀ m j, m ≠ o + 1 ∨ j ≠ 1 → U.2.2.2.2 m j = T.2.2.2.2 m j) → (∀ m k, m < T.1 → U.2.2.2.1 m k = T.2.2.2.1 m k) → x < T.1 → g_X10_widenTo_b38 (g_X10_widenTo_b5 (16382 + 1)) U o 2 1 = some T1 → ∃ y, U2 T1 o x y ∧ (T1.2.1 y).1 = 101 ∧ (∀ m k, m ≠ o ∨ k ≠ 2 → T1.2.2.1 m k = T.2.2.1 m k) ∧ (∀ m j, m ≠ o + 1 ∨ j ≠ 1 → T1.2.2.2.2 m j = T.2.2.2.2 m j) ∧ (∀ m k, m < T.1 → m ≠ x → m ≠ y → T1.2.2.2.1 m k = T.2.2.2.1 m k) ∧ ∀ k, k < N → 0 ≤ (T.2.2.2.1 x k).toInt → (T.2.2.2.1 x k).toInt < 268435456 → V2 T1 x y k (T.2.2.2.1 x k).toInt := by
    intro U y u1 u2 u3 hxy us ui ur ul hxT h
    unfold g_X10_widenTo_b38 at h
    obtain ⟨T2, l2, o2, v2, h⟩ := c_w40 (T0 := U) u1 u2 u3 hxy (by rw [ui]; exact hN) hl 16384 0 (Nat.zero_le _) LQ.rf (fun _ _ _ _ => rfl) (fun _ _ => rfl) (fun k hk => absurd hk (Nat.not_lt_zero k)) h
    unfold g_X10_widenTo_b5 g_X10_widenTo_b108 at h
    rw [if_pos (by decide)] at h
    have e := osome1 h
    have ux : ∀ k, U.2.2.2.1 x k = T.2.2.2.1 x k := fun k => ul x k hxT
    refine ⟨y, ⟨?_, ?_, ?_, ?_, hxy⟩, ?_, fun m k hmk => ?_, fun m j hmj => ?_, fun m k hm hmx hmy => ?_, fun k hk a b => ?_⟩
    · rw [← e]; show T2.2.2.2.2 o 1 = _; rw [l2.2.2.2]; exact u1
    · rw [← e]; show T2.2.2.2.2 (o + 1) 0 = _; rw [l2.2.2.2]; exact u2
    · rw [← e]; show T2.2.2.2.2 (o + 1) 1 = _; rw [l2.2.2.2]; exact u3
    · rw [← e]; exact ui_at
    · rw [← e]; show (T2.2.1 y).1 = 101; rw [l2.2.1]; exact us
    · rw [← e, ui_ne hmk, l2.2.2.1, ui]
    · rw [← e]; show T2.2.2.2.2 m j = _; rw [l2.2.2.2]; exact ur m j hmj
    · rw [← e]; show T2.2.2.2.1 m k = _; rw [o2 m k hmx hmy, ul m k hm]
    · have q := v2 k hk (by rw [ux]; exact a) (by rw [ux]; exact b)
      rw [ux] at q
      rw [← e]
      exact q
  unfold g_X10_widenTo_b5 at hg
  rw [if_neg (by decide), if_neg (by decide)] at hg
  obtain ⟨-, hg⟩ := oif_some hg
  obtain ⟨n5, en, hg⟩ := obind_some hg
  rw [h1] at en
  cases en
  obtain ⟨-, hg⟩ := oif_some hg
  obtain ⟨-, hg⟩ := oif_some hg
  obtain ⟨n8, e8, hg⟩ := obind_some hg
  rw [show (1 : Int32).toNatClampNeg = 1 from rfl] at e8
  obtain ⟨g9, hg⟩ := oif_some hg
  obtain ⟨v10, d10, hg⟩ := elet_some hg
  have hxT := hc _ _ _ hx
  rcases oif_or hg with ⟨q, hg⟩ | ⟨q, hg⟩
  · obtain ⟨-, hg⟩ := oif_some hg
    obtain ⟨n13, en, hg⟩ := obind_some hg
    rw [h1] at en
    cases en
    obtain ⟨-, hg⟩ := oif_some hg
    obtain ⟨v15, d15, hg⟩ := elet_some hg
    obtain ⟨-, hg⟩ := oif_some hg
    obtain ⟨T17, e17, hg⟩ := elet_some hg
    unfold g_X10_widenTo_b37 at hg
    obtain ⟨-, hg⟩ := oif_some hg
    obtain ⟨-, hg⟩ := oif_some hg
    obtain ⟨g5, hg⟩ := oif_some hg
    obtain ⟨T5, e5, hg⟩ := elet_some hg
    rw [show (1 : Int32).toNatClampNeg = 1 from rfl] at e5
    have ur : ∀ m j, T5.2.2.2.2 m j = if m = o + 1 ∧ j = 1 then some T.1 else T.2.2.2.2 m j := by
      intro m j
      rw [e5, ur_get, e17]
      rfl
    refine fin (U := T5) (y := T.1) ?_ ?_ ?_ (by omega) (by rw [e5]; exact (aA_k g5).2.1) ?_ (fun m j hmj => ?_) (fun m k hm => ?_) hxT hg
    · rw [ur, if_neg (by omega)]; exact h1
    · rw [ur, if_neg (by omega)]; exact hx
    · rw [ur, if_pos ⟨rfl, rfl⟩]
    · rw [e5, e17]; rfl
    · rw [ur, if_neg (by omega)]
    · rw [e5, e17]
      show va_up T.2.2.2.1 T.1 (fun _ => 0) m k = _
      rw [va_up_ne _ _ (by omega)]
  · refine fin (U := T) (y := n8) h1 hx e8 (fun w => ?_) (aA_k g9).2.1 rfl (fun _ _ _ => rfl) (fun _ _ _ => rfl) hxT hg
    rw [← w] at e8
    have q := hi _ _ _ _ _ hx e8 hs
    exact absurd q.2 (by decide)
theorem c_widenS {v : Int32} (h : ¬ (T.2.2.1 o 2).toInt < v.toInt) (hg : g_X10_widenTo T o v = some T1) : T1 = T := by
  unfold g_X10_widenTo at hg
  obtain ⟨-, hg⟩ := oif_some hg
  obtain ⟨v3, d3, hg⟩ := elet_some hg
  rw [show (16384 : Nat) = 16383 + 1 from rfl] at hg
  unfold g_X10_widenTo_b5 g_X10_widenTo_b108 at hg
  rw [if_pos (Int32.le_iff_toInt_le.mpr (by rw [d3]; omega))] at hg
  exact (osome1 hg).symm
theorem c_clear2 {i : Int32} (hu : U2 T o x y) (hg : g_X10_clear T o i = some T1) : LQ T T1 ∧ V2 T1 x y i.toNatClampNeg 0 ∧ LE T T1 x y i.toNatClampNeg := by
  obtain ⟨u1, u2, u3, u4, u5⟩ := hu
  unfold g_X10_clear at hg
  rw [show (16384 : Nat) = 16381 + 1 + 1 + 1 from rfl] at hg
  unfold g_X10_clear_b2 at hg
  obtain ⟨-, hg⟩ := oif_some hg
  obtain ⟨v3, d3, hg⟩ := elet_some hg
  rw [u4] at d3
  rw [if_neg (by rw [d3]; decide)] at hg
  obtain ⟨-, hg⟩ := oif_some hg
  obtain ⟨n6, en, hg⟩ := obind_some hg
  rw [u1] at en
  cases en
  obtain ⟨-, hg⟩ := oif_some hg
  obtain ⟨-, hg⟩ := oif_some hg
  obtain ⟨n9, en, hg⟩ := obind_some hg
  rw [show (0 : Int32).toNatClampNeg = 0 from rfl, u2] at en
  cases en
  obtain ⟨-, hg⟩ := oif_some hg
  obtain ⟨-, hg⟩ := oif_some hg
  obtain ⟨T12, e12, hg⟩ := elet_some hg
  have l12 : LQ T T12 := by rw [e12]; exact lq_uJ
  obtain ⟨v13, d13, hg⟩ := elet_some hg
  have e13 : v13 = 1 := by rw [d13]; decide
  rw [e13] at hg
  unfold g_X10_clear_b2 at hg
  obtain ⟨-, hg⟩ := oif_some hg
  obtain ⟨w3, f3, hg⟩ := elet_some hg
  rw [l12.2.2.1, u4] at f3
  rw [if_neg (by rw [f3]; decide)] at hg
  obtain ⟨-, hg⟩ := oif_some hg
  obtain ⟨n6, en, hg⟩ := obind_some hg
  rw [l12.2.2.2, u1] at en
  cases en
  obtain ⟨-, hg⟩ := oif_some hg
  obtain ⟨-, hg⟩ := oif_some hg
  obtain ⟨n9, en, hg⟩ := obind_some hg
  rw [show (1 : Int32).toNatClampNeg = 1 from rfl, l12.2.2.2, u3] at en
  cases en
  obtain ⟨-, hg⟩ := oif_some hg
  obtain ⟨-, hg⟩ := oif_some hg
  obtain ⟨T22, e22, hg⟩ := elet_some hg
  have l22 : LQ T12 T22 := by rw [e22]; exact lq_uJ
  obtain ⟨w13, f13, hg⟩ := elet_some hg
  have g13 : w13 = 2 := by rw [f13]; decide
  rw [g13] at hg
  unfold g_X10_clear_b2 at hg
  obtain ⟨-, hg⟩ := oif_some hg
  obtain ⟨y3, p3, hg⟩ := elet_some hg
  rw [l22.2.2.1, l12.2.2.1, u4] at p3
  rw [if_pos (by rw [p3]; decide)] at hg
  rw [← osome1 hg]
  have at22 : ∀ m j, T22.2.2.2.1 m j = if m = y ∧ j = i.toNatClampNeg then 0 else if m = x ∧ j = i.toNatClampNeg then 0 else T.2.2.2.1 m j := by
    intro m j
    rw [e22, uj_get, e12, uj_get]
  have z0 : (0 : Int64).toInt = 0 := by decide
  refine ⟨l12.tr l22, ?_, fun m j hmj => ?_⟩
  · unfold V2
    rw [at22, at22, if_neg (fun w => u5 w.1), if_pos ⟨rfl, rfl⟩, if_pos ⟨rfl, rfl⟩]
    omega
  · rw [at22, if_neg (fun w => by rcases hmj with q | q; exact q.2 w.1; exact q w.2), if_neg (fun w => by rcases hmj with q | q; exact q.1 w.1; exact q w.2)]
/-- a beam as a whole number -/
def bmS (A D : Nat → Int32) (n2 t : Nat) : Nat → Int
  | 0 => 0
  | m + 1 => bmS A D n2 t m + (if A (1 + m) = 0 ∧ t + (D m).toNatClampNeg < n2 then (A (13 + m)).toInt * (A (55 + 200 * m + (t + (D m).toNatClampNeg))).toInt else 0)
def SMr (A : Nat → Int32) (c4 n2 : Nat) : Prop := (∀ m, m < c4 → 0 ≤ (A (13 + m)).toInt ∧ (A (13 + m)).toInt ≤ 9) ∧ ∀ m u, m < c4 → u < n2 → -9999 ≤ (A (55 + 200 * m + u)).toInt ∧ (A (55 + 200 * m + u)).toInt ≤ 9999
theorem mul9 {w a : Int} (h0 : 0 ≤ w) (h1 : w ≤ 9) (a0 : -9999 ≤ a) (a1 : a ≤ 9999) : -89991 ≤ w * a ∧ w * a ≤ 89991 := by
  rcases (show w = 0 ∨ w = 1 ∨ w = 2 ∨ w = 3 ∨ w = 4 ∨ w = 5 ∨ w = 6 ∨ w = 7 ∨ w = 8 ∨ w = 9 by omega) with e | e | e | e | e | e | e | e | e | e <;> rw [e] <;> omega
theorem bm_rg (hr : SMr A c4 n2) {t : Nat} : ∀ m, m ≤ c4 → -(89991 * (m : Int)) ≤ bmS A D n2 t m ∧ bmS A D n2 t m ≤ 89991 * (m : Int) := by
  intro m
  induction m with
  | zero =>
    intro _
    refine ⟨?_, ?_⟩
    · show -(89991 * ((0 : Nat) : Int)) ≤ 0
      decide
    · show (0 : Int) ≤ 89991 * ((0 : Nat) : Int)
      decide
  | succ m ih =>
    intro hm
    have q := ih (by omega)
    show -(89991 * ((m + 1 : Nat) : Int)) ≤ bmS A D n2 t m + _ ∧ bmS A D n2 t m + _ ≤ 89991 * ((m + 1 : Nat) : Int)
    by_cases c : A (1 + m) = 0 ∧ t + (D m).toNatClampNeg < n2
    · rw [if_pos c]
      have a := hr.1 m (by omega)
      have b := hr.2 m (t + (D m).toNatClampNeg) (by omega) c.2
      have p := mul9 a.1 a.2 b.1 b.2
      generalize (A (13 + m)).toInt * (A (55 + 200 * m + (t + (D m).toNatClampNeg))).toInt = k at p ⊢
      omega
    · rw [if_neg c]
      omega
/-- the class's state d has what the row A has -/
def SVa (T : AT) (d xs : Nat) (P A : Nat → Int32) (c4 n2 : Nat) : Prop := T.2.2.1 d 0 = P 4 ∧ T.2.2.1 d 1 = P 2 ∧ (∀ m, m < c4 → T.2.2.1 (d + 1) m = A (1 + m) ∧ T.2.2.1 (d + 2) m = A (13 + m)) ∧ ∀ m u, m < c4 → u < n2 → T.2.2.2.1 xs (200 * m + u) = (A (55 + 200 * m + u)).toInt64
def DLs (T : AT) (dl : Nat) (D : Nat → Int32) (c4 : Nat) : Prop := ∀ m, m < c4 → T.2.2.1 dl m = D m ∧ 0 ≤ (D m).toInt ∧ (D m).toInt ≤ 65535
theorem c_weighted {t : Nat} {r : Int64} (hc : CRF T) (hd : d ∈ sds) (e4 : P 4 = nI c4) (l4 : c4 ≤ 12) (e2 : P 2 = nI n2) (l2 : n2 ≤ 200) (hS : SVa T d xs P A c4 n2) (hr : SMr A c4 n2) (hD : DLs T dl D c4) (ht : t < 200) (hg : g_X8_weighted T d xs dl (nI t) = some (r, T1)) : T1 = T ∧ r.toInt = bmS A D n2 t c4 := by
  obtain ⟨r3, r4, -⟩ := sd_rf hc hd
  obtain ⟨s0, s1, s2, s3⟩ := hS
  have tI : (nI t).toInt = (t : Int) := nI_toInt (by omega)
  have lp : ∀ (n m : Nat) {u : Int64}, m ≤ c4 → u.toInt = bmS A D n2 t m → g_X8_weighted_b6 n T d xs dl (nI t) u (nI m) = some (r, T1) → T1 = T ∧ r.toInt = bmS A D n2 t c4 := by
    intro n
    induction n with
    | zero => intro m u hm hu h; cases h
    | succ n ih =>
      intro m u hm hu h
      have mI : (nI m).toInt = (m : Int) := nI_toInt (by omega)
      have km : (nI m).toNatClampNeg = m := nI_clamp (by omega)
      have b70 : ∀ {w : Int64}, m < c4 → w.toInt = bmS A D n2 t (m + 1) → g_X8_weighted_b70 (g_X8_weighted_b6 n) T d xs dl (nI t) w (nI m) = some (r, T1) → T1 = T ∧ r.toInt = bmS A D n2 t c4 := by
        intro w hm hw h
        unfold g_X8_weighted_b70 at h
        obtain ⟨v2, d2, h⟩ := elet_some h
        rw [show v2 = nI (m + 1) from d2.trans (nI_p1 m)] at h
        exact ih (m + 1) (by omega) hw h
      unfold g_X8_weighted_b6 at h
      obtain ⟨-, h⟩ := oif_some h
      obtain ⟨v3, d3, h⟩ := elet_some h
      rw [s0, e4] at d3
      rcases oif_or h with ⟨q, h⟩ | ⟨q, h⟩
      · rw [d3] at q
        have q2 := (nI_leI (a := c4) (by omega) (by omega)).mp q
        rw [← (osome2 h).1, ← (osome2 h).2, hu, show m = c4 by omega]
        exact ⟨rfl, rfl⟩
      · rw [d3] at q
        have q2 : ¬ c4 ≤ m := fun z => q ((nI_leI (a := c4) (by omega) (by omega)).mpr z)
        obtain ⟨D1, D2, D3⟩ := hD m (by omega)
        obtain ⟨a1, a2⟩ := s2 m (by omega)
        have kD := i_cl D2
        have i2 : (nI n2).toInt = (n2 : Int) := nI_toInt (by omega)
        have z0 : (0 : Int32).toInt = 0 := by decide
        obtain ⟨-, h⟩ := oif_some h
        obtain ⟨-, h⟩ := oif_some h
        obtain ⟨v7, d7, h⟩ := elet_some h
        rw [km, D1] at d7
        obtain ⟨v8, d8, h⟩ := elet_some h
        have q7 : v7.toInt = (D m).toInt := by rw [d7]
        have q8 := i_add d8 (by omega) (by omega)
        obtain ⟨-, h⟩ := oif_some h
        obtain ⟨n10, en, h⟩ := obind_some h
        rw [r3] at en
        cases en
        obtain ⟨-, h⟩ := oif_some h
        obtain ⟨-, h⟩ := oif_some h
        obtain ⟨v13, d13, h⟩ := elet_some h
        rw [km, a1] at d13
        have no : ¬ (A (1 + m) = 0 ∧ t + (D m).toNatClampNeg < n2) → u.toInt = bmS A D n2 t (m + 1) := fun c => by
          show _ = bmS A D n2 t m + _
          rw [if_neg c, Int.add_zero]
          exact hu
        rcases oif_or h with ⟨c, h⟩ | ⟨c, h⟩
        · rcases oif_or h with ⟨c2, h⟩ | ⟨c2, h⟩
          · have c2 := i_lt c2
            omega
          · obtain ⟨-, h⟩ := oif_some h
            obtain ⟨v17, d17, h⟩ := elet_some h
            rw [s1, e2] at d17
            rcases oif_or h with ⟨c3, h⟩ | ⟨c3, h⟩
            · have c3 := i_le c3
              rw [d17] at c3
              exact b70 (by omega) (no (fun w => by have := w.2; omega)) h
            · have c3 := i_nle c3
              rw [d17] at c3
              obtain ⟨-, h⟩ := oif_some h
              obtain ⟨n20, en, h⟩ := obind_some h
              rw [r4] at en
              cases en
              obtain ⟨-, h⟩ := oif_some h
              obtain ⟨-, h⟩ := oif_some h
              obtain ⟨v23, d23, h⟩ := elet_some h
              rw [km, a2] at d23
              obtain ⟨v24, d24, h⟩ := elet_some h
              obtain ⟨r25, g25, h⟩ := obind_some h
              unfold g_X8_placeOf at g25
              obtain ⟨u2, h2, g25⟩ := elet_some g25
              obtain ⟨u3, h3, g25⟩ := elet_some g25
              have w8 : (nI (t + (D m).toNatClampNeg)).toInt = ((t + (D m).toNatClampNeg : Nat) : Int) := nI_toInt (by omega)
              have e8 : v8 = nI (t + (D m).toNatClampNeg) := Int32.toInt_inj.mp (by rw [q8, w8]; omega)
              have k25 : r25 = nI (200 * m + (t + (D m).toNatClampNeg)) := by
                rw [← osome1 g25, h3, h2, e8, Int32.mul_comm, ← nI_add (200 * m) (t + (D m).toNatClampNeg), ← nI_mulk]
                rfl
              obtain ⟨-, h⟩ := oif_some h
              obtain ⟨-, h⟩ := oif_some h
              obtain ⟨v29, d29, h⟩ := elet_some h
              rw [k25, nI_clamp (by omega), s3 m _ (by omega) (by omega)] at d29
              obtain ⟨v30, d30, h⟩ := elet_some h
              obtain ⟨v31, d31, h⟩ := elet_some h
              have a := hr.1 m (by omega)
              have b := hr.2 m (t + (D m).toNatClampNeg) (by omega) (by omega)
              have p := mul9 a.1 a.2 b.1 b.2
              have q24 : v24.toInt = (A (13 + m)).toInt := by rw [d24, Int32.toInt_toInt64, d23]
              have q29 : v29.toInt = (A (55 + 200 * m + (t + (D m).toNatClampNeg))).toInt := by rw [d29, Int32.toInt_toInt64]
              have q30 : v30.toInt = (A (13 + m)).toInt * (A (55 + 200 * m + (t + (D m).toNatClampNeg))).toInt := by
                rw [l_mul d30 (by rw [q24, q29]; omega) (by rw [q24, q29]; omega), q24, q29]
              have bm := bm_rg (D := D) hr (t := t) m (by omega)
              have q31 := l_add d31 (by omega) (by omega)
              refine b70 (by omega) ?_ h
              show _ = bmS A D n2 t m + _
              rw [if_pos ⟨d13.symm.trans c, by omega⟩, q31, hu, q30]
        · exact b70 (by omega) (no (fun w => c (d13.trans w.1))) h
  unfold g_X8_weighted at hg
  exact lp 16384 0 (Nat.zero_le _) (show (0 : Int64).toInt = 0 by decide) hg
/-- the beam at t, made in one part -/
theorem c_focus {t : Nat} (hc : CRF T) (hd : d ∈ sds) (e4 : P 4 = nI c4) (l4 : c4 ≤ 12) (e2 : P 2 = nI n2) (l2 : n2 ≤ 200) (hw : W1 T (d + 8) xs) (hS : SVa T d xs P A c4 n2) (hr : SMr A c4 n2) (hD : DLs T dl D c4) (hdl : dl < 242 ∨ 430 ≤ dl ∧ dl < 834) (ht : t < 200) (hb1 : T.2.2.2.2 (d + 51) 1 = some (d + 52)) (hb : T.2.2.2.2 (d + 52) 0 = some z) (hzx : z ≠ xs) (hg : g_X8_focus T d dl (nI t) = some T1) : (∃ w : Int64, w.toInt = bmS A D n2 t c4 ∧ T1 = uJ (uI T (d + 51) 2 1) z 0 w) ∧ W1 T1 (d + 51) z := by
  have si := sd_in hd
  obtain ⟨r3, r4, r5, r6, r7, r8, r9, r10, r11⟩ := sd_rf hc hd
  unfold g_X8_focus at hg
  obtain ⟨-, hg⟩ := oif_some hg
  obtain ⟨n3, en, hg⟩ := obind_some hg
  rw [r11] at en
  cases en
  obtain ⟨-, hg⟩ := oif_some hg
  obtain ⟨T5, g5, hg⟩ := obind_some hg
  unfold g_X10_narrow at g5
  obtain ⟨-, g5⟩ := oif_some g5
  obtain ⟨T3, e3, g5⟩ := elet_some g5
  have e5 : T5 = uI T (d + 51) 2 1 := by rw [← osome1 g5, e3]
  have hc5 : CRF T5 := crf_eq hc (by rw [e5]; rfl)
  have i5 : ∀ m k, m ≠ d + 51 → T5.2.2.1 m k = T.2.2.1 m k := fun m k h => by rw [e5]; exact ui_ne (.inl h)
  have f5 : T5.2.2.2.2 = T.2.2.2.2 := by rw [e5]; rfl
  have j5 : T5.2.2.2.1 = T.2.2.2.1 := by rw [e5]; rfl
  obtain ⟨-, hg⟩ := oif_some hg
  obtain ⟨n8, en, hg⟩ := obind_some hg
  rw [f5, r11] at en
  cases en
  obtain ⟨-, hg⟩ := oif_some hg
  obtain ⟨n10, en, hg⟩ := obind_some hg
  rw [f5, r10] at en
  cases en
  obtain ⟨-, hg⟩ := oif_some hg
  obtain ⟨v12, d12, hg⟩ := elet_some hg
  rw [i5 _ _ (by omega), hw.2.2] at d12
  obtain ⟨-, hg⟩ := oif_some hg
  obtain ⟨T14, g14, hg⟩ := obind_some hg
  have u5 : T5.2.2.1 (d + 51) 2 = 1 := by rw [e5]; exact ui_at
  have e14 := c_widenS (by rw [u5, d12]; decide) g14
  rw [e14] at hg
  unfold g_X8_focus_b21 at hg
  rw [show (16384 : Nat) = 16382 + 1 + 1 from rfl] at hg
  unfold g_X8_focus_b23 at hg
  obtain ⟨-, hg⟩ := oif_some hg
  obtain ⟨n3, en, hg⟩ := obind_some hg
  rw [f5, r10] at en
  cases en
  obtain ⟨-, hg⟩ := oif_some hg
  obtain ⟨w5, f5', hg⟩ := elet_some hg
  rw [i5 _ _ (by omega), hw.2.2] at f5'
  rw [if_neg (by rw [f5']; decide)] at hg
  obtain ⟨-, hg⟩ := oif_some hg
  obtain ⟨n13, en, hg⟩ := obind_some hg
  rw [f5, r11] at en
  cases en
  obtain ⟨-, hg⟩ := oif_some hg
  obtain ⟨n15, en, hg⟩ := obind_some hg
  rw [f5, hb1] at en
  cases en
  obtain ⟨-, hg⟩ := oif_some hg
  obtain ⟨-, hg⟩ := oif_some hg
  obtain ⟨n18, en, hg⟩ := obind_some hg
  rw [show (0 : Int32).toNatClampNeg = 0 from rfl, f5, hb] at en
  cases en
  obtain ⟨-, hg⟩ := oif_some hg
  obtain ⟨n20, en, hg⟩ := obind_some hg
  rw [f5, r10] at en
  cases en
  obtain ⟨-, hg⟩ := oif_some hg
  obtain ⟨n22, en, hg⟩ := obind_some hg
  rw [f5, hw.1] at en
  cases en
  obtain ⟨-, hg⟩ := oif_some hg
  obtain ⟨-, hg⟩ := oif_some hg
  obtain ⟨n25, en, hg⟩ := obind_some hg
  rw [show (0 : Int32).toNatClampNeg = 0 from rfl, f5, hw.2.1] at en
  cases en
  obtain ⟨-, hg⟩ := oif_some hg
  obtain ⟨r29, T27, g27, hg⟩ := obind2_some hg
  have S5 : SVa T5 d xs P A c4 n2 := ⟨by rw [i5 _ _ (by omega)]; exact hS.1, by rw [i5 _ _ (by omega)]; exact hS.2.1, fun m hm => by rw [i5 _ _ (by omega), i5 _ _ (by omega)]; exact hS.2.2.1 m hm, fun m u hm hu => by rw [j5]; exact hS.2.2.2 m u hm hu⟩
  have D5 : DLs T5 dl D c4 := fun m hm => by rw [i5 _ _ (by omega)]; exact hD m hm
  obtain ⟨e27, q27⟩ := c_weighted hc5 hd e4 l4 e2 l2 S5 hr D5 ht g27
  rw [e27] at hg
  obtain ⟨-, hg⟩ := oif_some hg
  obtain ⟨-, hg⟩ := oif_some hg
  obtain ⟨T33, e33, hg⟩ := elet_some hg
  rw [show (0 : Int32).toNatClampNeg = 0 from rfl] at e33
  have l33 : LQ T5 T33 := by rw [e33]; exact lq_uJ
  have w5 : W1 T5 (d + 51) z := ⟨by rw [f5]; exact hb1, by rw [f5]; exact hb, u5⟩
  obtain ⟨v34, d34, hg⟩ := elet_some hg
  unfold g_X8_focus_b23 at hg
  obtain ⟨-, hg⟩ := oif_some hg
  obtain ⟨n3, en, hg⟩ := obind_some hg
  rw [l33.2.2.2, f5, r10] at en
  cases en
  obtain ⟨-, hg⟩ := oif_some hg
  obtain ⟨y5, p5, hg⟩ := elet_some hg
  rw [l33.2.2.1, i5 _ _ (by omega), hw.2.2] at p5
  rw [if_pos (by rw [p5, d34]; decide)] at hg
  obtain ⟨-, hg⟩ := oif_some hg
  obtain ⟨n8, en, hg⟩ := obind_some hg
  rw [l33.2.2.2, f5, r11] at en
  cases en
  obtain ⟨-, hg⟩ := oif_some hg
  obtain ⟨T10, g10, hg⟩ := obind_some hg
  unfold g_X8_focus_b74 at hg
  have bm := bm_rg (D := D) hr (t := t) c4 (Nat.le_refl _)
  have e10 := c_settle1 (w5.lq l33) (by rw [show (0 : Int32).toNatClampNeg = 0 from rfl, e33, uj_get, if_pos ⟨rfl, rfl⟩]; omega) g10
  rw [← osome1 hg, e10]
  exact ⟨⟨r29, q27, by rw [e33, e5]⟩, w5.lq l33⟩
end
