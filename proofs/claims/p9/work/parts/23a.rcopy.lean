/-! the reference's copies of a state: what stands where behind them -/
theorem x_copy_12_15_b3 {o1 o3 : Nat} (h1 : o1 + 2455 ≤ 2455) (h3 : o3 + 2455 ≤ 14730) {S0 S1 : MS} : ∀ (f l : Nat) {S : MS}, l ≤ 2455 → S.2.1 12 = S0.2.1 12 → (∀ x, S.2.1 15 x = if o3 ≤ x ∧ x < o3 + l then S0.2.1 12 (o1 + (x - o3)) else S0.2.1 15 x) → fr_copy_12_15_b3 f S (nI o1) (nI o3) (nI l) = some S1 → ∀ x, S1.2.1 15 x = if o3 ≤ x ∧ x < o3 + 2455 then S0.2.1 12 (o1 + (x - o3)) else S0.2.1 15 x := by
  intro f
  induction f with
  | zero => intro l S hl hA hB h; cases h
  | succ f ih =>
    intro l S hl hA hB h
    unfold fr_copy_12_15_b3 at h
    by_cases c : l = 2455
    · subst c
      rw [if_pos (show (2455 : Int32) ≤ nI 2455 from by decide)] at h
      rw [← osome1 h]
      exact hB
    · rw [if_neg (fun q => c (by have := (nI_leI (a := 2455) (by decide) (by omega)).mp q; omega))] at h
      obtain ⟨v3, e3, h⟩ := elet_some h
      obtain ⟨v4, e4, h⟩ := elet_some h
      obtain ⟨-, h⟩ := oif_some h
      obtain ⟨v6, e6, h⟩ := elet_some h
      obtain ⟨-, h⟩ := oif_some h
      obtain ⟨S8, e8, h⟩ := elet_some h
      obtain ⟨v9, e9, h⟩ := elet_some h
      have k3 : v3.toNatClampNeg = o3 + l := by rw [e3, nI_add, nI_clamp (by omega)]
      have k4 : v4.toNatClampNeg = o1 + l := by rw [e4, nI_add, nI_clamp (by omega)]
      rw [show v9 = nI (l + 1) from e9.trans (nI_p1 l)] at h
      refine ih (l + 1) (by omega) ?_ (fun x => ?_) h
      · rw [e8, mf_ne (by decide)]; exact hA
      · rw [e8, mf_at, k3]
        show (if x = o3 + l then v6 else S.2.1 15 x) = _
        by_cases q : x = o3 + l
        · rw [if_pos q, if_pos (by omega), e6, k4, hA, show o1 + (x - o3) = o1 + l from by omega]
        · rw [if_neg q, hB x]
          by_cases p : o3 ≤ x ∧ x < o3 + l
          · rw [if_pos p, if_pos (by omega)]
          · rw [if_neg p, if_neg (by omega)]
theorem x_copy_12_15 {o1 o3 : Nat} {S S1 : MS} (h1 : o1 + 2455 ≤ 2455) (h3 : o3 + 2455 ≤ 14730) (h : fr_copy_12_15 S (nI o1) (nI o3) = some S1) : ∀ x, S1.2.1 15 x = if o3 ≤ x ∧ x < o3 + 2455 then S.2.1 12 (o1 + (x - o3)) else S.2.1 15 x :=
  x_copy_12_15_b3 h1 h3 16384 0 (by decide) rfl (fun x => (if_neg (by omega)).symm) h
theorem x_copy_15_12_b3 {o1 o3 : Nat} (h1 : o1 + 2455 ≤ 14730) (h3 : o3 + 2455 ≤ 2455) {S0 S1 : MS} : ∀ (f l : Nat) {S : MS}, l ≤ 2455 → S.2.1 15 = S0.2.1 15 → (∀ x, S.2.1 12 x = if o3 ≤ x ∧ x < o3 + l then S0.2.1 15 (o1 + (x - o3)) else S0.2.1 12 x) → fr_copy_15_12_b3 f S (nI o1) (nI o3) (nI l) = some S1 → ∀ x, S1.2.1 12 x = if o3 ≤ x ∧ x < o3 + 2455 then S0.2.1 15 (o1 + (x - o3)) else S0.2.1 12 x := by
  intro f
  induction f with
  | zero => intro l S hl hA hB h; cases h
  | succ f ih =>
    intro l S hl hA hB h
    unfold fr_copy_15_12_b3 at h
    by_cases c : l = 2455
    · subst c
      rw [if_pos (show (2455 : Int32) ≤ nI 2455 from by decide)] at h
      rw [← osome1 h]
      exact hB
    · rw [if_neg (fun q => c (by have := (nI_leI (a := 2455) (by decide) (by omega)).mp q; omega))] at h
      obtain ⟨v3, e3, h⟩ := elet_some h
      obtain ⟨v4, e4, h⟩ := elet_some h
      obtain ⟨-, h⟩ := oif_some h
      obtain ⟨v6, e6, h⟩ := elet_some h
      obtain ⟨-, h⟩ := oif_some h
      obtain ⟨S8, e8, h⟩ := elet_some h
      obtain ⟨v9, e9, h⟩ := elet_some h
      have k3 : v3.toNatClampNeg = o3 + l := by rw [e3, nI_add, nI_clamp (by omega)]
      have k4 : v4.toNatClampNeg = o1 + l := by rw [e4, nI_add, nI_clamp (by omega)]
      rw [show v9 = nI (l + 1) from e9.trans (nI_p1 l)] at h
      refine ih (l + 1) (by omega) ?_ (fun x => ?_) h
      · rw [e8, mf_ne (by decide)]; exact hA
      · rw [e8, mf_at, k3]
        show (if x = o3 + l then v6 else S.2.1 12 x) = _
        by_cases q : x = o3 + l
        · rw [if_pos q, if_pos (by omega), e6, k4, hA, show o1 + (x - o3) = o1 + l from by omega]
        · rw [if_neg q, hB x]
          by_cases p : o3 ≤ x ∧ x < o3 + l
          · rw [if_pos p, if_pos (by omega)]
          · rw [if_neg p, if_neg (by omega)]
theorem x_copy_15_12 {o1 o3 : Nat} {S S1 : MS} (h1 : o1 + 2455 ≤ 14730) (h3 : o3 + 2455 ≤ 2455) (h : fr_copy_15_12 S (nI o1) (nI o3) = some S1) : ∀ x, S1.2.1 12 x = if o3 ≤ x ∧ x < o3 + 2455 then S.2.1 15 (o1 + (x - o3)) else S.2.1 12 x :=
  x_copy_15_12_b3 h1 h3 16384 0 (by decide) rfl (fun x => (if_neg (by omega)).symm) h
theorem x_copy_12_16_b3 {o1 o3 : Nat} (h1 : o1 + 2455 ≤ 2455) (h3 : o3 + 2455 ≤ 4910) {S0 S1 : MS} : ∀ (f l : Nat) {S : MS}, l ≤ 2455 → S.2.1 12 = S0.2.1 12 → (∀ x, S.2.1 16 x = if o3 ≤ x ∧ x < o3 + l then S0.2.1 12 (o1 + (x - o3)) else S0.2.1 16 x) → fr_copy_12_16_b3 f S (nI o1) (nI o3) (nI l) = some S1 → ∀ x, S1.2.1 16 x = if o3 ≤ x ∧ x < o3 + 2455 then S0.2.1 12 (o1 + (x - o3)) else S0.2.1 16 x := by
  intro f
  induction f with
  | zero => intro l S hl hA hB h; cases h
  | succ f ih =>
    intro l S hl hA hB h
    unfold fr_copy_12_16_b3 at h
    by_cases c : l = 2455
    · subst c
      rw [if_pos (show (2455 : Int32) ≤ nI 2455 from by decide)] at h
      rw [← osome1 h]
      exact hB
    · rw [if_neg (fun q => c (by have := (nI_leI (a := 2455) (by decide) (by omega)).mp q; omega))] at h
      obtain ⟨v3, e3, h⟩ := elet_some h
      obtain ⟨v4, e4, h⟩ := elet_some h
      obtain ⟨-, h⟩ := oif_some h
      obtain ⟨v6, e6, h⟩ := elet_some h
      obtain ⟨-, h⟩ := oif_some h
      obtain ⟨S8, e8, h⟩ := elet_some h
      obtain ⟨v9, e9, h⟩ := elet_some h
      have k3 : v3.toNatClampNeg = o3 + l := by rw [e3, nI_add, nI_clamp (by omega)]
      have k4 : v4.toNatClampNeg = o1 + l := by rw [e4, nI_add, nI_clamp (by omega)]
      rw [show v9 = nI (l + 1) from e9.trans (nI_p1 l)] at h
      refine ih (l + 1) (by omega) ?_ (fun x => ?_) h
      · rw [e8, mf_ne (by decide)]; exact hA
      · rw [e8, mf_at, k3]
        show (if x = o3 + l then v6 else S.2.1 16 x) = _
        by_cases q : x = o3 + l
        · rw [if_pos q, if_pos (by omega), e6, k4, hA, show o1 + (x - o3) = o1 + l from by omega]
        · rw [if_neg q, hB x]
          by_cases p : o3 ≤ x ∧ x < o3 + l
          · rw [if_pos p, if_pos (by omega)]
          · rw [if_neg p, if_neg (by omega)]
theorem x_copy_12_16 {o1 o3 : Nat} {S S1 : MS} (h1 : o1 + 2455 ≤ 2455) (h3 : o3 + 2455 ≤ 4910) (h : fr_copy_12_16 S (nI o1) (nI o3) = some S1) : ∀ x, S1.2.1 16 x = if o3 ≤ x ∧ x < o3 + 2455 then S.2.1 12 (o1 + (x - o3)) else S.2.1 16 x :=
  x_copy_12_16_b3 h1 h3 16384 0 (by decide) rfl (fun x => (if_neg (by omega)).symm) h
theorem x_copy_16_12_b3 {o1 o3 : Nat} (h1 : o1 + 2455 ≤ 4910) (h3 : o3 + 2455 ≤ 2455) {S0 S1 : MS} : ∀ (f l : Nat) {S : MS}, l ≤ 2455 → S.2.1 16 = S0.2.1 16 → (∀ x, S.2.1 12 x = if o3 ≤ x ∧ x < o3 + l then S0.2.1 16 (o1 + (x - o3)) else S0.2.1 12 x) → fr_copy_16_12_b3 f S (nI o1) (nI o3) (nI l) = some S1 → ∀ x, S1.2.1 12 x = if o3 ≤ x ∧ x < o3 + 2455 then S0.2.1 16 (o1 + (x - o3)) else S0.2.1 12 x := by
  intro f
  induction f with
  | zero => intro l S hl hA hB h; cases h
  | succ f ih =>
    intro l S hl hA hB h
    unfold fr_copy_16_12_b3 at h
    by_cases c : l = 2455
    · subst c
      rw [if_pos (show (2455 : Int32) ≤ nI 2455 from by decide)] at h
      rw [← osome1 h]
      exact hB
    · rw [if_neg (fun q => c (by have := (nI_leI (a := 2455) (by decide) (by omega)).mp q; omega))] at h
      obtain ⟨v3, e3, h⟩ := elet_some h
      obtain ⟨v4, e4, h⟩ := elet_some h
      obtain ⟨-, h⟩ := oif_some h
      obtain ⟨v6, e6, h⟩ := elet_some h
      obtain ⟨-, h⟩ := oif_some h
      obtain ⟨S8, e8, h⟩ := elet_some h
      obtain ⟨v9, e9, h⟩ := elet_some h
      have k3 : v3.toNatClampNeg = o3 + l := by rw [e3, nI_add, nI_clamp (by omega)]
      have k4 : v4.toNatClampNeg = o1 + l := by rw [e4, nI_add, nI_clamp (by omega)]
      rw [show v9 = nI (l + 1) from e9.trans (nI_p1 l)] at h
      refine ih (l + 1) (by omega) ?_ (fun x => ?_) h
      · rw [e8, mf_ne (by decide)]; exact hA
      · rw [e8, mf_at, k3]
        show (if x = o3 + l then v6 else S.2.1 12 x) = _
        by_cases q : x = o3 + l
        · rw [if_pos q, if_pos (by omega), e6, k4, hA, show o1 + (x - o3) = o1 + l from by omega]
        · rw [if_neg q, hB x]
          by_cases p : o3 ≤ x ∧ x < o3 + l
          · rw [if_pos p, if_pos (by omega)]
          · rw [if_neg p, if_neg (by omega)]
theorem x_copy_16_12 {o1 o3 : Nat} {S S1 : MS} (h1 : o1 + 2455 ≤ 4910) (h3 : o3 + 2455 ≤ 2455) (h : fr_copy_16_12 S (nI o1) (nI o3) = some S1) : ∀ x, S1.2.1 12 x = if o3 ≤ x ∧ x < o3 + 2455 then S.2.1 16 (o1 + (x - o3)) else S.2.1 12 x :=
  x_copy_16_12_b3 h1 h3 16384 0 (by decide) rfl (fun x => (if_neg (by omega)).symm) h
theorem x_copy_12_14_b3 {o1 o3 : Nat} (h1 : o1 + 2455 ≤ 2455) (h3 : o3 + 2455 ≤ 2455) {S0 S1 : MS} : ∀ (f l : Nat) {S : MS}, l ≤ 2455 → S.2.1 12 = S0.2.1 12 → (∀ x, S.2.1 14 x = if o3 ≤ x ∧ x < o3 + l then S0.2.1 12 (o1 + (x - o3)) else S0.2.1 14 x) → fr_copy_12_14_b3 f S (nI o1) (nI o3) (nI l) = some S1 → ∀ x, S1.2.1 14 x = if o3 ≤ x ∧ x < o3 + 2455 then S0.2.1 12 (o1 + (x - o3)) else S0.2.1 14 x := by
  intro f
  induction f with
  | zero => intro l S hl hA hB h; cases h
  | succ f ih =>
    intro l S hl hA hB h
    unfold fr_copy_12_14_b3 at h
    by_cases c : l = 2455
    · subst c
      rw [if_pos (show (2455 : Int32) ≤ nI 2455 from by decide)] at h
      rw [← osome1 h]
      exact hB
    · rw [if_neg (fun q => c (by have := (nI_leI (a := 2455) (by decide) (by omega)).mp q; omega))] at h
      obtain ⟨v3, e3, h⟩ := elet_some h
      obtain ⟨v4, e4, h⟩ := elet_some h
      obtain ⟨-, h⟩ := oif_some h
      obtain ⟨v6, e6, h⟩ := elet_some h
      obtain ⟨-, h⟩ := oif_some h
      obtain ⟨S8, e8, h⟩ := elet_some h
      obtain ⟨v9, e9, h⟩ := elet_some h
      have k3 : v3.toNatClampNeg = o3 + l := by rw [e3, nI_add, nI_clamp (by omega)]
      have k4 : v4.toNatClampNeg = o1 + l := by rw [e4, nI_add, nI_clamp (by omega)]
      rw [show v9 = nI (l + 1) from e9.trans (nI_p1 l)] at h
      refine ih (l + 1) (by omega) ?_ (fun x => ?_) h
      · rw [e8, mf_ne (by decide)]; exact hA
      · rw [e8, mf_at, k3]
        show (if x = o3 + l then v6 else S.2.1 14 x) = _
        by_cases q : x = o3 + l
        · rw [if_pos q, if_pos (by omega), e6, k4, hA, show o1 + (x - o3) = o1 + l from by omega]
        · rw [if_neg q, hB x]
          by_cases p : o3 ≤ x ∧ x < o3 + l
          · rw [if_pos p, if_pos (by omega)]
          · rw [if_neg p, if_neg (by omega)]
theorem x_copy_12_14 {o1 o3 : Nat} {S S1 : MS} (h1 : o1 + 2455 ≤ 2455) (h3 : o3 + 2455 ≤ 2455) (h : fr_copy_12_14 S (nI o1) (nI o3) = some S1) : ∀ x, S1.2.1 14 x = if o3 ≤ x ∧ x < o3 + 2455 then S.2.1 12 (o1 + (x - o3)) else S.2.1 14 x :=
  x_copy_12_14_b3 h1 h3 16384 0 (by decide) rfl (fun x => (if_neg (by omega)).symm) h
theorem x_copy_13_12_b3 {o1 o3 : Nat} (h1 : o1 + 2455 ≤ 2455) (h3 : o3 + 2455 ≤ 2455) {S0 S1 : MS} : ∀ (f l : Nat) {S : MS}, l ≤ 2455 → S.2.1 13 = S0.2.1 13 → (∀ x, S.2.1 12 x = if o3 ≤ x ∧ x < o3 + l then S0.2.1 13 (o1 + (x - o3)) else S0.2.1 12 x) → fr_copy_13_12_b3 f S (nI o1) (nI o3) (nI l) = some S1 → ∀ x, S1.2.1 12 x = if o3 ≤ x ∧ x < o3 + 2455 then S0.2.1 13 (o1 + (x - o3)) else S0.2.1 12 x := by
  intro f
  induction f with
  | zero => intro l S hl hA hB h; cases h
  | succ f ih =>
    intro l S hl hA hB h
    unfold fr_copy_13_12_b3 at h
    by_cases c : l = 2455
    · subst c
      rw [if_pos (show (2455 : Int32) ≤ nI 2455 from by decide)] at h
      rw [← osome1 h]
      exact hB
    · rw [if_neg (fun q => c (by have := (nI_leI (a := 2455) (by decide) (by omega)).mp q; omega))] at h
      obtain ⟨v3, e3, h⟩ := elet_some h
      obtain ⟨v4, e4, h⟩ := elet_some h
      obtain ⟨-, h⟩ := oif_some h
      obtain ⟨v6, e6, h⟩ := elet_some h
      obtain ⟨-, h⟩ := oif_some h
      obtain ⟨S8, e8, h⟩ := elet_some h
      obtain ⟨v9, e9, h⟩ := elet_some h
      have k3 : v3.toNatClampNeg = o3 + l := by rw [e3, nI_add, nI_clamp (by omega)]
      have k4 : v4.toNatClampNeg = o1 + l := by rw [e4, nI_add, nI_clamp (by omega)]
      rw [show v9 = nI (l + 1) from e9.trans (nI_p1 l)] at h
      refine ih (l + 1) (by omega) ?_ (fun x => ?_) h
      · rw [e8, mf_ne (by decide)]; exact hA
      · rw [e8, mf_at, k3]
        show (if x = o3 + l then v6 else S.2.1 12 x) = _
        by_cases q : x = o3 + l
        · rw [if_pos q, if_pos (by omega), e6, k4, hA, show o1 + (x - o3) = o1 + l from by omega]
        · rw [if_neg q, hB x]
          by_cases p : o3 ≤ x ∧ x < o3 + l
          · rw [if_pos p, if_pos (by omega)]
          · rw [if_neg p, if_neg (by omega)]
theorem x_copy_13_12 {o1 o3 : Nat} {S S1 : MS} (h1 : o1 + 2455 ≤ 2455) (h3 : o3 + 2455 ≤ 2455) (h : fr_copy_13_12 S (nI o1) (nI o3) = some S1) : ∀ x, S1.2.1 12 x = if o3 ≤ x ∧ x < o3 + 2455 then S.2.1 13 (o1 + (x - o3)) else S.2.1 12 x :=
  x_copy_13_12_b3 h1 h3 16384 0 (by decide) rfl (fun x => (if_neg (by omega)).symm) h
