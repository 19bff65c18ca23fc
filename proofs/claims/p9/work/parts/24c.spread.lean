/-! spread, window, alias: sums over the microphones that are heard -/
section
variable {T T1 : AT} {S S1 : MS} {k1 : Nat} {r1 r2 : Int32}
/-- the row dl of the class holds the delays D, and both know alike who is muted -/
def HR (T : AT) (S : MS) (dl : Nat) (D : Nat → Int32) : Prop := T.2.2.1 242 0 = S.2.1 10 4 ∧ (S.2.1 10 4).toInt ≤ 12 ∧ (∀ m : Nat, (m : Int) < (S.2.1 10 4).toInt → T.2.2.1 243 m = S.2.1 12 (1 + m) ∧ T.2.2.1 dl m = D m) ∧ T.2.2.2.2 242 3 = some 243
def act (S : MS) (m : Nat) : Prop := S.2.1 12 (1 + m) = 0
def SPg (S : MS) (D : Nat → Int32) (a r : Int32) (j : Nat) : Prop := a.toInt ≤ r.toInt ∧ (∀ m : Nat, j ≤ m → (m : Int) < (S.2.1 10 4).toInt → act S m → (D m).toInt ≤ r.toInt) ∧ (r = a ∨ ∃ m : Nat, j ≤ m ∧ (m : Int) < (S.2.1 10 4).toInt ∧ act S m ∧ r = D m)
def SPs (S : MS) (D : Nat → Int32) (a r : Int32) (j : Nat) : Prop := r.toInt ≤ a.toInt ∧ (∀ m : Nat, j ≤ m → (m : Int) < (S.2.1 10 4).toInt → act S m → r.toInt ≤ (D m).toInt) ∧ (r = a ∨ ∃ m : Nat, j ≤ m ∧ (m : Int) < (S.2.1 10 4).toInt ∧ act S m ∧ r = D m)
theorem SPg.skip {D : Nat → Int32} {a r : Int32} {j : Nat} (h : SPg S D a r (j + 1)) (n : ¬ act S j) : SPg S D a r j := by
  refine ⟨h.1, fun m h1 h2 h3 => h.2.1 m ?_ h2 h3, h.2.2.imp id (fun ⟨m, h1, h2⟩ => ⟨m, by omega, h2⟩)⟩
  by_cases q : m = j
  · rw [q] at h3; exact absurd h3 n
  · omega
theorem SPg.take {D : Nat → Int32} {a b r : Int32} {j : Nat} (h : SPg S D b r (j + 1)) (hj : (j : Int) < (S.2.1 10 4).toInt) (n : act S j) (e : b = if a < D j then D j else a) : SPg S D a r j := by
  have q := i_ilt e
  refine ⟨by have := h.1; omega, fun m h1 h2 h3 => ?_, ?_⟩
  · by_cases q2 : m = j
    · rw [q2]; have := h.1; omega
    · exact h.2.1 m (by omega) h2 h3
  · rcases h.2.2 with z | ⟨m, h1, h2⟩
    · rw [z, e]
      by_cases c : a < D j
      · rw [if_pos c]; exact .inr ⟨j, Nat.le_refl j, hj, n, rfl⟩
      · rw [if_neg c]; exact .inl rfl
    · exact .inr ⟨m, by omega, h2⟩
theorem SPs.skip {D : Nat → Int32} {a r : Int32} {j : Nat} (h : SPs S D a r (j + 1)) (n : ¬ act S j) : SPs S D a r j := by
  refine ⟨h.1, fun m h1 h2 h3 => h.2.1 m ?_ h2 h3, h.2.2.imp id (fun ⟨m, h1, h2⟩ => ⟨m, by omega, h2⟩)⟩
  by_cases q : m = j
  · rw [q] at h3; exact absurd h3 n
  · omega
theorem SPs.take {D : Nat → Int32} {a b r : Int32} {j : Nat} (h : SPs S D b r (j + 1)) (hj : (j : Int) < (S.2.1 10 4).toInt) (n : act S j) (e : b = if D j < a then D j else a) : SPs S D a r j := by
  have q := i_ilt e
  refine ⟨by have := h.1; omega, fun m h1 h2 h3 => ?_, ?_⟩
  · by_cases q2 : m = j
    · rw [q2]; have := h.1; omega
    · exact h.2.1 m (by omega) h2 h3
  · rcases h.2.2 with z | ⟨m, h1, h2⟩
    · rw [z, e]
      by_cases c : D j < a
      · rw [if_pos c]; exact .inr ⟨j, Nat.le_refl j, hj, n, rfl⟩
      · rw [if_neg c]; exact .inl rfl
    · exact .inr ⟨m, by omega, h2⟩
theorem SPg.end {D : Nat → Int32} {a : Int32} {j : Nat} (h : (S.2.1 10 4).toInt ≤ j) : SPg S D a a j := ⟨Int.le_refl _, fun m h1 h2 _ => by omega, .inl rfl⟩
theorem SPs.end {D : Nat → Int32} {a : Int32} {j : Nat} (h : (S.2.1 10 4).toInt ≤ j) : SPs S D a a j := ⟨Int.le_refl _, fun m h1 h2 _ => by omega, .inl rfl⟩
theorem SPg.uniq {D : Nat → Int32} {a r1 r2 : Int32} {j : Nat} (h : SPg S D a r1 j) (k : SPg S D a r2 j) : r1 = r2 := by
  have h1 := h.1
  have k1 := k.1
  rcases h.2.2 with z | ⟨m, q1, q2, q3, q4⟩
  · rcases k.2.2 with y | ⟨n, p1, p2, p3, p4⟩
    · rw [z, y]
    · have w := h.2.1 n p1 p2 p3
      have z := i_eq z
      have p4 := i_eq p4
      exact Int32.toInt_inj.mp (by omega)
  · have q4 := i_eq q4
    have w := k.2.1 m q1 q2 q3
    rcases k.2.2 with y | ⟨n, p1, p2, p3, p4⟩
    · have y := i_eq y
      exact Int32.toInt_inj.mp (by omega)
    · have p4 := i_eq p4
      have a1 := h.2.1 n p1 p2 p3
      exact Int32.toInt_inj.mp (by omega)
/-- two folds from above with a heard microphone agree, where both starts are not below -/
theorem SPs.uniq {D : Nat → Int32} {a b r1 r2 : Int32} {j m0 : Nat} (h : SPs S D a r1 j) (k : SPs S D b r2 j) (h0 : j ≤ m0 ∧ (m0 : Int) < (S.2.1 10 4).toInt ∧ act S m0) (ha : ∀ m : Nat, j ≤ m → (m : Int) < (S.2.1 10 4).toInt → act S m → (D m).toInt ≤ a.toInt) (hb : ∀ m : Nat, j ≤ m → (m : Int) < (S.2.1 10 4).toInt → act S m → (D m).toInt ≤ b.toInt) : r1 = r2 := by
  have att : ∀ {a r : Int32}, SPs S D a r j → (∀ m : Nat, j ≤ m → (m : Int) < (S.2.1 10 4).toInt → act S m → (D m).toInt ≤ a.toInt) → ∃ m : Nat, j ≤ m ∧ (m : Int) < (S.2.1 10 4).toInt ∧ act S m ∧ r = D m := by
    intro a r h ha
    rcases h.2.2 with z | z
    · have z := i_eq z
      have w1 := h.2.1 m0 h0.1 h0.2.1 h0.2.2
      have w2 := ha m0 h0.1 h0.2.1 h0.2.2
      exact ⟨m0, h0.1, h0.2.1, h0.2.2, Int32.toInt_inj.mp (by omega)⟩
    · exact z
  obtain ⟨m, q1, q2, q3, q4⟩ := att h ha
  obtain ⟨n, p1, p2, p3, p4⟩ := att k hb
  have a1 := h.2.1 n p1 p2 p3
  have a2 := k.2.1 m q1 q2 q3
  have q4 := i_eq q4
  have p4 := i_eq p4
  exact Int32.toInt_inj.mp (by omega)
theorem c_great {dl : Nat} {D : Nat → Int32} (hR : HR T S dl D) : ∀ (f j : Nat) {a r : Int32}, j ≤ 12 → g_X8_greatestDelay_b4 f T 242 dl a (nI j) = some (r, T1) → T1 = T ∧ SPg S D a r j := by
  obtain ⟨e0, p4, hm, r3⟩ := hR
  intro f
  induction f with
  | zero => intro j a r hj h; cases h
  | succ f ih =>
    intro j a r hj h
    have jI : (nI j).toInt = (j : Int) := nI_toInt (by omega)
    have kj : (nI j).toNatClampNeg = j := nI_clamp (by omega)
    unfold g_X8_greatestDelay_b4 at h
    obtain ⟨-, h⟩ := oif_some h
    obtain ⟨v3, e3, h⟩ := elet_some h
    rw [e0] at e3
    rcases oif_or h with ⟨c, h⟩ | ⟨c, h⟩
    · have c := i_le c
      have f := osome2 h
      rw [← f.1, ← f.2]
      exact ⟨rfl, SPg.end (by rw [← e3]; omega)⟩
    · have c := i_nle c
      rw [e3] at c
      obtain ⟨hm1, hm2⟩ := hm j (by omega)
      obtain ⟨-, h⟩ := oif_some h
      obtain ⟨n6, en, h⟩ := obind_some h
      rw [r3] at en
      cases en
      obtain ⟨-, h⟩ := oif_some h
      obtain ⟨-, h⟩ := oif_some h
      obtain ⟨v9, e9, h⟩ := elet_some h
      rw [kj, hm1] at e9
      rcases oif_or h with ⟨c9, h⟩ | ⟨c9, h⟩
      · obtain ⟨-, h⟩ := oif_some h
        obtain ⟨-, h⟩ := oif_some h
        obtain ⟨v13, e13, h⟩ := elet_some h
        obtain ⟨v14, e14, h⟩ := elet_some h
        rw [kj, hm2] at e13
        unfold g_X8_greatestDelay_b29 at h
        obtain ⟨v2, e2, h⟩ := elet_some h
        rw [show v2 = nI (j + 1) from e2.trans (nI_p1 j)] at h
        obtain ⟨a1, a2⟩ := ih (j + 1) (by omega) h
        exact ⟨a1, a2.take (by omega) (e9.symm.trans c9) (by rw [e14, e13])⟩
      · unfold g_X8_greatestDelay_b29 at h
        obtain ⟨v2, e2, h⟩ := elet_some h
        rw [show v2 = nI (j + 1) from e2.trans (nI_p1 j)] at h
        obtain ⟨a1, a2⟩ := ih (j + 1) (by omega) h
        exact ⟨a1, a2.skip (fun q => c9 (e9.trans q))⟩
theorem c_small {dl : Nat} {D : Nat → Int32} (hR : HR T S dl D) : ∀ (f j : Nat) {a r : Int32}, j ≤ 12 → g_X8_smallestDelay_b8 f T 242 dl a (nI j) = some (r, T1) → T1 = T ∧ SPs S D a r j := by
  obtain ⟨e0, p4, hm, r3⟩ := hR
  intro f
  induction f with
  | zero => intro j a r hj h; cases h
  | succ f ih =>
    intro j a r hj h
    have jI : (nI j).toInt = (j : Int) := nI_toInt (by omega)
    have kj : (nI j).toNatClampNeg = j := nI_clamp (by omega)
    unfold g_X8_smallestDelay_b8 at h
    obtain ⟨-, h⟩ := oif_some h
    obtain ⟨v3, e3, h⟩ := elet_some h
    rw [e0] at e3
    rcases oif_or h with ⟨c, h⟩ | ⟨c, h⟩
    · have c := i_le c
      have f := osome2 h
      rw [← f.1, ← f.2]
      exact ⟨rfl, SPs.end (by rw [← e3]; omega)⟩
    · have c := i_nle c
      rw [e3] at c
      obtain ⟨hm1, hm2⟩ := hm j (by omega)
      obtain ⟨-, h⟩ := oif_some h
      obtain ⟨n6, en, h⟩ := obind_some h
      rw [r3] at en
      cases en
      obtain ⟨-, h⟩ := oif_some h
      obtain ⟨-, h⟩ := oif_some h
      obtain ⟨v9, e9, h⟩ := elet_some h
      rw [kj, hm1] at e9
      rcases oif_or h with ⟨c9, h⟩ | ⟨c9, h⟩
      · obtain ⟨-, h⟩ := oif_some h
        obtain ⟨-, h⟩ := oif_some h
        obtain ⟨v13, e13, h⟩ := elet_some h
        obtain ⟨v14, e14, h⟩ := elet_some h
        rw [kj, hm2] at e13
        unfold g_X8_smallestDelay_b33 at h
        obtain ⟨v2, e2, h⟩ := elet_some h
        rw [show v2 = nI (j + 1) from e2.trans (nI_p1 j)] at h
        obtain ⟨a1, a2⟩ := ih (j + 1) (by omega) h
        exact ⟨a1, a2.take (by omega) (e9.symm.trans c9) (by rw [e14, e13])⟩
      · unfold g_X8_smallestDelay_b33 at h
        obtain ⟨v2, e2, h⟩ := elet_some h
        rw [show v2 = nI (j + 1) from e2.trans (nI_p1 j)] at h
        obtain ⟨a1, a2⟩ := ih (j + 1) (by omega) h
        exact ⟨a1, a2.skip (fun q => c9 (e9.trans q))⟩
/-- is one heard, in the reference -/
theorem h_act {j : Nat} {r : Int32} (hj : j < 12) (hf : fr_hears_12 S (nI j) = some (r, S1)) : S1 = S ∧ (r = 1 ∧ act S j ∨ r = 0 ∧ ¬ act S j) := by
  have jI : (nI j).toInt = (j : Int) := nI_toInt (by omega)
  have kj : (nI j).toNatClampNeg = j := nI_clamp (by omega)
  obtain ⟨e, q⟩ := r_hears (by omega) (by omega) hf
  rw [kj] at q
  refine ⟨e, ?_⟩
  by_cases c : S.2.1 12 (1 + j) = 0
  · rw [if_pos c] at q; exact .inl ⟨q, c⟩
  · rw [if_neg c] at q; exact .inr ⟨q, c⟩
theorem r_count (p4 : (S.2.1 10 4).toInt ≤ 12) : ∀ (f j : Nat) {a r : Int32}, j ≤ 12 → 0 ≤ a.toInt → a.toInt ≤ j → fr_activeCount_b4 f S a (nI j) = some (r, S1) → S1 = S ∧ a.toInt ≤ r.toInt ∧ (r.toInt = a.toInt ∧ (∀ m : Nat, j ≤ m → (m : Int) < (S.2.1 10 4).toInt → ¬ act S m) ∨ a.toInt < r.toInt ∧ ∃ m : Nat, j ≤ m ∧ (m : Int) < (S.2.1 10 4).toInt ∧ act S m) := by
  have z1 : (1 : Int32).toInt = 1 := by decide
  have z0 : (0 : Int32).toInt = 0 := by decide
  intro f
  induction f with
  | zero => intro j a r hj h0 h1 h; cases h
  | succ f ih =>
    intro j a r hj h0 h1 h
    have jI : (nI j).toInt = (j : Int) := nI_toInt (by omega)
    unfold fr_activeCount_b4 at h
    obtain ⟨v2, e2, h⟩ := elet_some h
    rcases oif_or h with ⟨c, h⟩ | ⟨c, h⟩
    · have c := i_le c
      rw [e2] at c
      have f := osome2 h
      rw [← f.1, ← f.2]
      exact ⟨rfl, Int.le_refl _, .inl ⟨rfl, fun m x y => by omega⟩⟩
    · have c := i_nle c
      rw [e2] at c
      obtain ⟨r7, S4, f4, h⟩ := obind2_some h
      obtain ⟨e4, q4⟩ := h_act (by omega) f4
      rw [e4] at h
      rcases oif_or h with ⟨z, h⟩ | ⟨z, h⟩
      · unfold fr_activeCount_b32 at h
        obtain ⟨w2, d2, h⟩ := elet_some h
        obtain ⟨w3, d3, h⟩ := elet_some h
        rw [show w3 = nI (j + 1) from d3.trans (nI_p1 j)] at h
        have q2 := i_add d2 (by omega) (by omega)
        obtain ⟨a1, a2, a3⟩ := ih (j + 1) (by omega) (by omega) (by omega) h
        have na : ¬ act S j := by
          rcases q4 with ⟨q, -⟩ | ⟨-, q⟩
          · rw [q] at z; exact absurd z (by decide)
          · exact q
        refine ⟨a1, by omega, ?_⟩
        rcases a3 with ⟨x, y⟩ | ⟨x, m, y1, y2⟩
        · refine .inl ⟨by omega, fun m m1 m2 => ?_⟩
          by_cases q : m = j
          · rw [q]; exact na
          · exact y m (by omega) m2
        · exact .inr ⟨by omega, m, by omega, y2⟩
      · unfold fr_activeCount_b32 at h
        obtain ⟨w2, d2, h⟩ := elet_some h
        obtain ⟨w3, d3, h⟩ := elet_some h
        rw [show w3 = nI (j + 1) from d3.trans (nI_p1 j)] at h
        have q2 := i_add d2 (by omega) (by omega)
        obtain ⟨a1, a2, a3⟩ := ih (j + 1) (by omega) (by omega) (by omega) h
        have na : act S j := by
          rcases q4 with ⟨-, q⟩ | ⟨q, -⟩
          · exact q
          · exact absurd q z
        exact ⟨a1, by omega, .inr ⟨by omega, j, Nat.le_refl j, by omega, na⟩⟩
theorem r_spr {D : Nat → Int32} {c : Nat} (hc : c < 144) (p4 : (S.2.1 10 4).toInt ≤ 12) (hD : ∀ m : Nat, (m : Int) < (S.2.1 10 4).toInt → S.2.1 17 (12 * c + m) = D m) : ∀ (f j : Nat) {a b r : Int32}, j ≤ 12 → fr_spread_b30 f S (nI c) a b (nI j) = some (r, S1) → S1 = S ∧ ∃ x y, r = y - x ∧ SPs S D a x j ∧ SPg S D b y j := by
  intro f
  induction f with
  | zero => intro j a b r hj h; cases h
  | succ f ih =>
    intro j a b r hj h
    have jI : (nI j).toInt = (j : Int) := nI_toInt (by omega)
    unfold fr_spread_b30 at h
    obtain ⟨v2, e2, h⟩ := elet_some h
    rcases oif_or h with ⟨cc, h⟩ | ⟨cc, h⟩
    · have cc := i_le cc
      rw [e2] at cc
      obtain ⟨v4, e4, h⟩ := elet_some h
      have f := osome2 h
      rw [← f.1, ← f.2]
      exact ⟨rfl, a, b, e4, SPs.end (by omega), SPg.end (by omega)⟩
    · have cc := i_nle cc
      rw [e2] at cc
      obtain ⟨r8, S5, f5, h⟩ := obind2_some h
      obtain ⟨e5, q5⟩ := h_act (by omega) f5
      rw [e5] at h
      rcases oif_or h with ⟨z, h⟩ | ⟨z, h⟩
      · unfold fr_spread_b91 at h
        obtain ⟨w2, d2, h⟩ := elet_some h
        rw [show w2 = nI (j + 1) from d2.trans (nI_p1 j)] at h
        obtain ⟨a1, x, y, a2, a3, a4⟩ := ih (j + 1) (by omega) h
        have na : ¬ act S j := by
          rcases q5 with ⟨q, -⟩ | ⟨-, q⟩
          · rw [q] at z; exact absurd z (by decide)
          · exact q
        exact ⟨a1, x, y, a2, a3.skip na, a4.skip na⟩
      · obtain ⟨v10, e10, h⟩ := elet_some h
        obtain ⟨v11, e11, h⟩ := elet_some h
        obtain ⟨-, h⟩ := oif_some h
        obtain ⟨v13, e13, h⟩ := elet_some h
        obtain ⟨v14, e14, h⟩ := elet_some h
        obtain ⟨v15, e15, h⟩ := elet_some h
        obtain ⟨v16, e16, h⟩ := elet_some h
        obtain ⟨-, h⟩ := oif_some h
        obtain ⟨v18, e18, h⟩ := elet_some h
        obtain ⟨v19, e19, h⟩ := elet_some h
        unfold fr_spread_b91 at h
        obtain ⟨w2, d2, h⟩ := elet_some h
        rw [show w2 = nI (j + 1) from d2.trans (nI_p1 j)] at h
        obtain ⟨a1, x, y, a2, a3, a4⟩ := ih (j + 1) (by omega) h
        have na : act S j := by
          rcases q5 with ⟨-, q⟩ | ⟨q, -⟩
          · exact q
          · exact absurd q z
        have k11 : v11 = nI (12 * c + j) := by rw [e11, e10, ← nI_add, ← nI_mulk]; rfl
        have k16 : v16 = nI (12 * c + j) := by rw [e16, e15, ← nI_add, ← nI_mulk]; rfl
        have k13 : v13 = D j := by rw [e13, k11, nI_clamp (by omega)]; exact hD j (by omega)
        have k18 : v18 = D j := by rw [e18, k16, nI_clamp (by omega)]; exact hD j (by omega)
        exact ⟨a1, x, y, a2, a3.take (by omega) na (by rw [e14, k13]), a4.take (by omega) na (by rw [e19, k18])⟩
/-- row and state of a cell, for the sums -/
theorem hr_of {c : Nat} (hP : PL (S.2.1 10)) (q20 : S.1 20 = 1) (h : R2 T S) {s : Nat} (h14 : T.2.2.2.2 0 14 = some s) (hc : (c : Int) < (S.2.1 10 9 * S.2.1 10 10).toInt) : HR T S (s + 16 + c) (fun m => S.2.1 17 (12 * c + m)) := by
  obtain ⟨a, b, -, -⟩ := h.2.2.2 q20
  refine ⟨a.1, (pl_4 hP).2, fun m hm => ⟨?_, b s h14 c m hc hm⟩, (sd_rf h.1.1 d242).1⟩
  have q := (a.2.2.2.1 m hm).1
  rw [Nat.zero_add] at q
  exact q
theorem r2h_spread {a0 : Int32} (hV : IV aR0 1586 aK1 aK2 T) (hJ : JJ S) (h : R2 T S) (hg : g_X11_spread T 0 a0 = some (k1, r1, T1)) (hf : fr_spread S a0 = some (r2, S1)) : S1.1 0 = vck 1 2 0 k1 ∧ (vck 1 2 0 k1 = 0 → k1 = 0 ∧ r1 = r2) := by
  have z0 : (0 : Int32).toInt = 0 := by decide
  unfold fr_spread at hf
  obtain ⟨r5, S2, f5, hf⟩ := obind2_some hf
  obtain ⟨r9, S6, f9, hf⟩ := obind2_some hf
  have eS := (r_cell f5).1
  rw [eS] at f9
  unfold g_X11_spread at hg
  obtain ⟨-, hg⟩ := oif_some hg
  have no : ∀ {U : MS} {w : Int32}, U = mi S 0 w → fr_spread_b19 U = some (r2, S1) → S1.1 0 = w ∧ r2 = 0 := by
    intro U w e hf
    unfold fr_spread_b19 at hf
    rw [← (osome2 hf).2, ← (osome2 hf).1, e, mi_at]
    exact ⟨rfl, rfl⟩
  rcases othr_k hg with ⟨rc, gc, hc⟩ | ⟨rc, Tc, gc, hg⟩
  · obtain ⟨-, ⟨q, -⟩ | ⟨q, q20⟩⟩ := p_cam h.1 gc
    · exact absurd q hc
    · obtain ⟨e, er⟩ := ask_0 q20 f9
      rw [if_pos er] at hf
      rw [q, (no e hf).1]
      exact ⟨rfl, fun q => absurd q (by decide)⟩
  · obtain ⟨eT, ⟨-, q20⟩ | ⟨q, -⟩⟩ := p_cam h.1 gc
    case inr => exact absurd q (by decide)
    rw [eT] at hg
    have hP := r_pl hJ q20
    have p4 := pl_4 hP
    obtain ⟨p1, p2, p3, -⟩ := pl_cell hP
    obtain ⟨-, hg⟩ := oif_some hg
    rcases othr_k hg with ⟨rc2, gc2, hc⟩ | ⟨rc2, Tc2, gc2, hg⟩
    · obtain ⟨-, ⟨q, -⟩ | ⟨q, qc⟩⟩ := p_cell h.1 q20 gc2
      · exact absurd q hc
      · rcases (q_cell hP f5).2 with ⟨-, z⟩ | ⟨z, -⟩
        · exact absurd z qc
        · rw [z] at f9
          obtain ⟨e, er⟩ := ask_2 q20 f9
          rw [if_pos er] at hf
          rw [q, (no e hf).1]
          exact ⟨rfl, fun q => absurd q (by decide)⟩
    · obtain ⟨eT2, ⟨-, qc⟩ | ⟨q, -⟩⟩ := p_cell h.1 q20 gc2
      case inr => exact absurd q (by decide)
      rw [eT2] at hg
      rcases (q_cell hP f5).2 with ⟨z, -⟩ | ⟨-, z⟩
      case inr => exact absurd qc z
      rw [z] at f9
      obtain ⟨e, er⟩ := ask_1 q20 f9
      rw [if_neg (by rw [er]; decide)] at hf
      obtain ⟨s, hs, h14, hF, b, -⟩ := r1_sce h.1 q20
      have ka := i_cl qc.1
      obtain ⟨c, hc144, ec⟩ := nI_of01 (x := a0) (a := 144) (by omega) (by omega) (by omega)
      have kc : a0.toNatClampNeg = c := by rw [ec]; exact nI_clamp (by omega)
      have cI : a0.toInt = (c : Int) := by rw [ec]; exact nI_toInt (by omega)
      have hR := hr_of hP q20 h h14 (c := c) (by omega)
      have hR6 : HR T S6 (s + 16 + c) (fun m => S.2.1 17 (12 * c + m)) := by rw [e]; exact hR
      obtain ⟨-, hg⟩ := oif_some hg
      obtain ⟨n13, en, hg⟩ := obind_some hg
      rw [h14] at en
      cases en
      obtain ⟨-, hg⟩ := oif_some hg
      obtain ⟨n15, en, hg⟩ := obind_some hg
      have e7' : T.2.2.2.2 s 17 = some (s + 15) := by unfold SRF at hF; exact hF.2.2.2.2.2.2.2.1
      rw [e7'] at en
      cases en
      obtain ⟨-, hg⟩ := oif_some hg
      obtain ⟨-, hg⟩ := oif_some hg
      obtain ⟨n18, en, hg⟩ := obind_some hg
      have e10 : T.2.2.2.2 (s + 15) c = some (s + 16 + c) := by unfold SRF at hF; exact hF.2.2.2.2.2.2.2.2.2.2.2.2.2.2 _ hc144
      rw [kc, e10] at en
      cases en
      obtain ⟨-, hg⟩ := oif_some hg
      obtain ⟨n20, en, hg⟩ := obind_some hg
      rw [(c_fld h.1.1).2.1] at en
      cases en
      obtain ⟨-, hg⟩ := oif_some hg
      obtain ⟨r24, T22, g22, hg⟩ := obind2_some hg
      unfold g_X8_greatestDelay at g22
      obtain ⟨e22, sg⟩ := c_great hR6 16384 0 (by decide) g22
      rw [e22] at hg
      obtain ⟨-, hg⟩ := oif_some hg
      obtain ⟨n27, en, hg⟩ := obind_some hg
      rw [(c_fld h.1.1).2.1] at en
      cases en
      obtain ⟨-, hg⟩ := oif_some hg
      obtain ⟨r31, T29, g29, hg⟩ := obind2_some hg
      unfold g_X8_smallestDelay at g29
      obtain ⟨-, g29⟩ := oif_some g29
      obtain ⟨x5, T3, g3, g29⟩ := obind2_some g29
      unfold g_X8_greatestDelay at g3
      obtain ⟨e3, sg'⟩ := c_great hR6 16384 0 (by decide) g3
      rw [e3] at g29
      obtain ⟨e29, ss⟩ := c_small hR6 16384 0 (by decide) g29
      obtain ⟨v33, e33, hg⟩ := elet_some hg
      have g := osome3 hg
      have eq5 := sg'.uniq sg
      rw [eq5] at ss
      obtain ⟨r14, S11, f11, hf⟩ := obind2_some hf
      unfold fr_activeCount at f11
      obtain ⟨e11, -, q11⟩ := r_count (S := S6) (by rw [e]; exact p4.2) 16384 0 (by decide) (by decide) (by decide) f11
      rw [e11] at hf
      rw [← g.1, ← g.2.1, e33]
      rcases oif_or hf with ⟨c14, hf⟩ | ⟨c14, hf⟩
      · obtain ⟨n1, n2⟩ := no e hf
        rw [n1, n2]
        refine ⟨rfl, fun _ => ⟨rfl, ?_⟩⟩
        have none : ∀ m : Nat, 0 ≤ m → (m : Int) < (S6.2.1 10 4).toInt → ¬ act S6 m := by
          rcases q11 with ⟨-, q⟩ | ⟨q, -⟩
          · exact q
          · rw [c14] at q; omega
        have g0 : r24 = 0 := by
          rcases sg.2.2 with q | ⟨m, q1, q2, q3, -⟩
          · exact q
          · exact absurd q3 (none m q1 q2)
        have s0 : r31 = r24 := by
          rcases ss.2.2 with q | ⟨m, q1, q2, q3, -⟩
          · exact q
          · exact absurd q3 (none m q1 q2)
        rw [s0, g0]
        rfl
      · rw [ec] at hf
        obtain ⟨e1, x, y, exy, hx, hy⟩ := r_spr (S := S6) (D := fun m => S.2.1 17 (12 * c + m)) hc144 (by rw [e]; exact p4.2) (fun m _ => by rw [e]; rfl) 16384 0 (by decide) hf
        rw [e1, e, mi_at]
        refine ⟨rfl, fun _ => ⟨rfl, ?_⟩⟩
        have ey : y = r24 := hy.uniq sg
        obtain ⟨m0, h0⟩ : ∃ m : Nat, 0 ≤ m ∧ (m : Int) < (S6.2.1 10 4).toInt ∧ act S6 m := by
          rcases q11 with ⟨q, -⟩ | ⟨-, q⟩
          · exact absurd (Int32.toInt_inj.mp q) c14
          · exact q
        have i17 : ∀ m : Nat, (S.2.1 17 (12 * c + m)).toInt ≤ 65535 := fun m => ((jj_ib hJ).2.2.2.2.2.2.1 (12 * c + m)).2
        have ex : x = r31 := hx.uniq ss h0 (fun m _ _ _ => by
          have := i17 m
          have z : (2147483647 : Int32).toInt = 2147483647 := by decide
          show (S.2.1 17 (12 * c + m)).toInt ≤ _
          omega) (fun m a b d => sg.2.1 m a b d)
        rw [exy, ey, ex]
end
