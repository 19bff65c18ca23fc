/-! load: the reference's loops behind its parser -/
section
variable {S S1 : MS} {P : Nat → Int32}
/-- the reference's last steps of a load, from a state with the table laid -/
def TLq (W S1 : MS) : Prop := ∃ S7, fr_records_12 W = some S7 ∧ S1.2.1 12 = S7.2.1 12 ∧ S1.2.1 17 = W.2.1 17 ∧ S1.1 19 = 0 ∧ S1.1 20 = 1 ∧ S1.2.1 18 0 = 0 ∧ S1.2.1 18 1 = 0
def TBq (P : Nat → Int32) (W : MS) : Prop := ∀ d m : Nat, (d : Int) < (P 9 * P 10).toInt → (m : Int) < (P 4).toInt → RV P m (CX P d) (CY P d) (W.2.1 17 (12 * d + m))
theorem x_168 {c : Nat} {r : Int32} {k : MS → Int32 → Option (Int32 × MS)} {G : MS → Prop} (hP : PL P) (hc : c < 144) (hk : ∀ {S : MS}, S.2.1 10 = P → (∀ d m : Nat, d < c + 1 → (m : Int) < (P 4).toInt → RV P m (CX P d) (CY P d) (S.2.1 17 (12 * d + m))) → ∀ A, S.2.1 12 = A → k S (nI (c + 1)) = some (r, S1) → ∃ W, W.2.1 10 = P ∧ W.2.1 12 = A ∧ TBq P W ∧ TLq W S1) : ∀ (f j : Nat) {S : MS}, j ≤ 12 → S.2.1 10 = P → (∀ d m : Nat, d < c → (m : Int) < (P 4).toInt → RV P m (CX P d) (CY P d) (S.2.1 17 (12 * d + m))) → (∀ m : Nat, m < j → RV P m (CX P c) (CY P c) (S.2.1 17 (12 * c + m))) → ∀ A, S.2.1 12 = A → fr_load_b168 k f S (nI c) (nI j) = some (r, S1) → ∃ W, W.2.1 10 = P ∧ W.2.1 12 = A ∧ TBq P W ∧ TLq W S1 := by
  have p4 := pl_4 hP
  intro f
  induction f with
  | zero => intro j S hj e10 hd hm A eA h; cases h
  | succ f ih =>
    intro j S hj e10 hd hm A eA h
    have jI : (nI j).toInt = (j : Int) := nI_toInt (by omega)
    unfold fr_load_b168 at h
    obtain ⟨v2, e2, h⟩ := elet_some h
    rw [e10] at e2
    rcases oif_or h with ⟨cc, h⟩ | ⟨cc, h⟩
    · have cc := i_le cc
      rw [e2] at cc
      obtain ⟨v4, e4, h⟩ := elet_some h
      rw [show v4 = nI (c + 1) from e4.trans (nI_p1 c)] at h
      refine hk e10 (fun d m h1 h2 => ?_) A eA h
      by_cases q : d = c
      · rw [q]; exact hm m (by omega)
      · exact hd d m (by omega) h2
    · have cc := i_nle cc
      rw [e2] at cc
      obtain ⟨v5, e5, h⟩ := elet_some h
      obtain ⟨v6, e6, h⟩ := elet_some h
      obtain ⟨r10, S7, f7, h⟩ := obind2_some h
      obtain ⟨a7, q7⟩ := r_cx f7
      rw [a7] at h
      obtain ⟨r14, S11, f11, h⟩ := obind2_some h
      obtain ⟨a11, q11⟩ := r_cy f11
      rw [a11] at h
      obtain ⟨r18, S15, f15, h⟩ := obind2_some h
      obtain ⟨a15, q15⟩ := r_rv (by omega) f15
      rw [a15] at h
      obtain ⟨-, h⟩ := oif_some h
      obtain ⟨S20, e20, h⟩ := elet_some h
      obtain ⟨v21, e21, h⟩ := elet_some h
      rw [show v21 = nI (j + 1) from e21.trans (nI_p1 j)] at h
      rw [e10] at q7 q11 q15
      rw [q7, q11] at q15
      have k6 : v6 = nI (12 * c + j) := by rw [e6, e5, ← nI_add, ← nI_mulk]; rfl
      rw [k6, nI_clamp (by omega)] at e20
      have g17 : ∀ x, S20.2.1 17 x = if x = 12 * c + j then r18 else S.2.1 17 x := fun x => by rw [e20, mf_at]; rfl
      refine ih (j + 1) (by omega) (by rw [e20, mf_ne (by decide)]; exact e10) (fun d m h1 h2 => ?_) (fun m h1 => ?_) A (by rw [e20, mf_ne (by decide)]; exact eA) h
      · rw [g17, if_neg (by omega)]; exact hd d m h1 h2
      · rw [g17]
        by_cases q : m = j
        · rw [q, if_pos rfl]; exact q15
        · rw [if_neg (by omega)]; exact hm m (by omega)
theorem x_158 {r : Int32} (hP : PL P) : ∀ (f c : Nat) {S : MS}, (c : Int) ≤ (P 9 * P 10).toInt → S.2.1 10 = P → (∀ d m : Nat, d < c → (m : Int) < (P 4).toInt → RV P m (CX P d) (CY P d) (S.2.1 17 (12 * d + m))) → ∀ A, S.2.1 12 = A → fr_load_b158 f S (nI c) = some (r, S1) → ∃ W, W.2.1 10 = P ∧ W.2.1 12 = A ∧ TBq P W ∧ TLq W S1 := by
  obtain ⟨-, -, pc2, -⟩ := pl_cell (S := (fun _ => 0, fun _ => P, fun _ _ => 0)) hP
  have pc2 : (P 9 * P 10).toInt ≤ 144 := pc2
  intro f
  induction f with
  | zero => intro c S _ _ _ _ _ h; cases h
  | succ f ih =>
    intro c S hc e10 hd A eA h
    have cI : (nI c).toInt = (c : Int) := nI_toInt (by omega)
    unfold fr_load_b158 at h
    obtain ⟨r5, S2, f5, h⟩ := obind2_some h
    unfold fr_cellCount at f5
    obtain ⟨v2, d2, f5⟩ := elet_some f5
    obtain ⟨v3, d3, f5⟩ := elet_some f5
    obtain ⟨v4, d4, f5⟩ := elet_some f5
    have g := osome2 f5
    rw [← g.1, ← g.2, d4, d2, d3, e10] at h
    rcases oif_or h with ⟨cc, h⟩ | ⟨cc, h⟩
    · have cc := i_le cc
      obtain ⟨S7, f7, h⟩ := obind_some h
      obtain ⟨S10, e10', h⟩ := elet_some h
      obtain ⟨S11, e11, h⟩ := elet_some h
      obtain ⟨S12, e12, h⟩ := elet_some h
      obtain ⟨S13, e13, h⟩ := elet_some h
      obtain ⟨r17, S14, f14, h⟩ := obind2_some h
      unfold fr_cellCount at f14
      obtain ⟨w2, t2, f14⟩ := elet_some f14
      obtain ⟨w3, t3, f14⟩ := elet_some f14
      obtain ⟨w4, t4, f14⟩ := elet_some f14
      have k7 := w_fr_records_12 f7
      have eS : S1 = S13 := by rw [← (osome2 h).2, ← (osome2 f14).2]
      refine ⟨S, e10, eA, fun d m h1 h2 => hd d m (by omega) h2, S7, f7, ?_, ?_, ?_, ?_, ?_, ?_⟩
      · rw [eS, e13, e12, e11, e10']
        rfl
      · rw [eS, e13, e12, e11, e10']
        exact k7.2 17 (by decide)
      · rw [eS, e13, mi_at]
      · rw [eS, e13, e12, e11, e10']
        rfl
      · rw [eS, e13, e12, e11]
        rfl
      · rw [eS, e13, e12]
        rfl
    · have cc := i_nle cc
      exact x_168 (G := fun _ => True) hP (by omega) (fun {S} a b A eA q => ih (c + 1) (by omega) a b A eA q) 16384 0 (by decide) e10 hd (fun m hm => absurd hm (Nat.not_lt_zero m)) A eA h
/-- the weights, then the table -/
theorem x_107 {r : Int32} (hP : PL P) {V : MS} : ∀ (f j : Nat) {S : MS}, (j : Int) ≤ (P 4).toInt → S.2.1 10 = P → (∀ x : Nat, x < 55 → S.2.1 12 x = if 13 ≤ x ∧ x < 13 + j then (if (x : Int) < 13 + (P 118).toInt then P (119 + (x - 13)) else 1) else V.2.1 12 x) → fr_load_b107 f S (nI j) = some (r, S1) → ∃ W, W.2.1 10 = P ∧ (∀ x : Nat, x < 55 → W.2.1 12 x = if 13 ≤ x ∧ (x : Int) < 13 + (P 4).toInt then (if (x : Int) < 13 + (P 118).toInt then P (119 + (x - 13)) else 1) else V.2.1 12 x) ∧ TBq P W ∧ TLq W S1 := by
  have p4 := pl_4 hP
  have p118 := pl_118 hP
  intro f
  induction f with
  | zero => intro j S _ _ _ h; cases h
  | succ f ih =>
    intro j S hj e10 hw h
    have jI : (nI j).toInt = (j : Int) := nI_toInt (by omega)
    unfold fr_load_b107 at h
    obtain ⟨v2, e2, h⟩ := elet_some h
    rw [e10] at e2
    rcases oif_or h with ⟨cc, h⟩ | ⟨cc, h⟩
    · have cc := i_le cc
      rw [e2] at cc
      obtain ⟨-, pc1, -, -⟩ := pl_cell (S := (fun _ => 0, fun _ => P, fun _ _ => 0)) hP
      have pc1 : 1 ≤ (P 9 * P 10).toInt := pc1
      obtain ⟨W, w1, w2, w3, w4⟩ := x_158 hP 16384 0 (by omega) e10 (fun d m hd => absurd hd (Nat.not_lt_zero d)) _ rfl h
      refine ⟨W, w1, fun x hx => ?_, w3, w4⟩
      rw [w2, hw x hx]
      by_cases p : 13 ≤ x ∧ x < 13 + j
      · rw [if_pos p, if_pos (show 13 ≤ x ∧ (x : Int) < 13 + (P 4).toInt by omega)]
      · rw [if_neg p, if_neg (show ¬ (13 ≤ x ∧ (x : Int) < 13 + (P 4).toInt) by omega)]
    · have cc := i_nle cc
      rw [e2] at cc
      have step : ∀ {s0 : Int32} {v4 : Int32}, v4 = 13 + nI j → s0 = (if (j : Int) < (P 118).toInt then P (119 + j) else 1) → fr_load_b149 (fr_load_b107 f) S s0 v4 (nI j) = some (r, S1) → ∃ W, W.2.1 10 = P ∧ (∀ x : Nat, x < 55 → W.2.1 12 x = if 13 ≤ x ∧ (x : Int) < 13 + (P 4).toInt then (if (x : Int) < 13 + (P 118).toInt then P (119 + (x - 13)) else 1) else V.2.1 12 x) ∧ TBq P W ∧ TLq W S1 := by
        intro s0 v4 e4 es h
        unfold fr_load_b149 at h
        obtain ⟨-, h⟩ := oif_some h
        obtain ⟨S3, e3, h⟩ := elet_some h
        obtain ⟨v5, e5, h⟩ := elet_some h
        rw [show v5 = nI (j + 1) from e5.trans (nI_p1 j)] at h
        have k4 : v4 = nI (13 + j) := by rw [e4, ← nI_add]; rfl
        rw [k4, nI_clamp (by omega)] at e3
        refine ih (j + 1) (by omega) (by rw [e3, mf_ne (by decide)]; exact e10) (fun x hx => ?_) h
        rw [e3, mf_at]
        show (if x = 13 + j then s0 else S.2.1 12 x) = _
        by_cases q : x = 13 + j
        · rw [if_pos q, if_pos (show 13 ≤ x ∧ x < 13 + (j + 1) by omega), es, q, show 13 + j - 13 = j from by omega]
          by_cases p : (j : Int) < (P 118).toInt
          · rw [if_pos p, if_pos (by omega)]
          · rw [if_neg p, if_neg (by omega)]
        · rw [if_neg q, hw x hx]
          by_cases p : 13 ≤ x ∧ x < 13 + j
          · rw [if_pos p, if_pos (show 13 ≤ x ∧ x < 13 + (j + 1) by omega)]
          · rw [if_neg p, if_neg (show ¬ (13 ≤ x ∧ x < 13 + (j + 1)) by omega)]
      obtain ⟨v4, e4, h⟩ := elet_some h
      obtain ⟨v5, e5, h⟩ := elet_some h
      rw [e10] at e5
      rcases oif_or h with ⟨c5, h⟩ | ⟨c5, h⟩
      · have c5 := i_le c5
        rw [e5] at c5
        exact step e4 (by rw [if_neg (by omega)]) h
      · have c5 := i_nle c5
        rw [e5] at c5
        obtain ⟨v7, e7, h⟩ := elet_some h
        obtain ⟨-, h⟩ := oif_some h
        obtain ⟨v9, e9, h⟩ := elet_some h
        have k7 : v7 = nI (119 + j) := by rw [e7, ← nI_add]; rfl
        rw [k7, nI_clamp (by omega), e10] at e9
        exact step e4 (by rw [if_pos (by omega), e9]) h
end
