/-! load: the delays that both lay, by one formula -/
section
variable {T T1 : AT} {S S1 : MS} {s : Nat} {P : Nat → Int32}
def RV (P : Nat → Int32) (m : Nat) (x y v : Int32) : Prop := ∃ w, fr_root ((x - P (11 + m)) * (x - P (11 + m)) + (y - P (23 + m)) * (y - P (23 + m)) + P 0 * P 0) = some w ∧ v = w / P 1 - P 0 / P 1
def CX (P : Nat → Int32) (c : Nat) : Int32 := P 6 + P 8 * (nI c - nI c / P 9 * P 9)
def CY (P : Nat → Int32) (c : Nat) : Int32 := P 7 + P 8 * (nI c / P 9)
theorem RV.fn {m : Nat} {x y v w : Int32} (h : RV P m x y v) (k : RV P m x y w) : v = w := by
  obtain ⟨a, a1, a2⟩ := h
  obtain ⟨b, b1, b2⟩ := k
  rw [a1] at b1
  rw [a2, b2, Option.some.inj b1]
theorem r_rv {m : Nat} {x y v : Int32} (hm : m < 12) (hf : fr_delayFrom S (nI m) x y = some (v, S1)) : S1 = S ∧ RV (S.2.1 10) m x y v := by
  have mI : (nI m).toInt = (m : Int) := nI_toInt (by omega)
  have km : (nI m).toNatClampNeg = m := nI_clamp (by omega)
  unfold fr_delayFrom at hf
  obtain ⟨v2, d2, hf⟩ := elet_some hf
  obtain ⟨-, hf⟩ := oif_some hf
  obtain ⟨v4, d4, hf⟩ := elet_some hf
  rw [d2, cl_off (n := 11) (by decide) (by decide) (by omega) (by omega), km] at d4
  obtain ⟨v5, d5, hf⟩ := elet_some hf
  obtain ⟨v6, d6, hf⟩ := elet_some hf
  obtain ⟨-, hf⟩ := oif_some hf
  obtain ⟨v8, d8, hf⟩ := elet_some hf
  rw [d6, cl_off (n := 23) (by decide) (by decide) (by omega) (by omega), km] at d8
  obtain ⟨v9, d9, hf⟩ := elet_some hf
  obtain ⟨v10, d10, hf⟩ := elet_some hf
  obtain ⟨v11, d11, hf⟩ := elet_some hf
  obtain ⟨v12, d12, hf⟩ := elet_some hf
  obtain ⟨v13, d13, hf⟩ := elet_some hf
  obtain ⟨v14, d14, hf⟩ := elet_some hf
  obtain ⟨v15, d15, hf⟩ := elet_some hf
  obtain ⟨r16, f16, hf⟩ := obind_some hf
  obtain ⟨v18, d18, hf⟩ := elet_some hf
  obtain ⟨n18, hf⟩ := oif_some hf
  obtain ⟨v20, d20, hf⟩ := elet_some hf
  obtain ⟨v21, d21, hf⟩ := elet_some hf
  obtain ⟨n21, hf⟩ := oif_some hf
  obtain ⟨v23, d23, hf⟩ := elet_some hf
  obtain ⟨v24, d24, hf⟩ := elet_some hf
  have f := osome2 hf
  refine ⟨f.2.symm, r16, ?_, ?_⟩
  · rw [← f16, d15, d14, d13, d12, d11, d10, d9, d8, d5, d4]
  · rw [← f.1, d24, d23, d20, d21, d18, d10]
theorem r_cx {c : Nat} {x : Int32} (hf : fr_centre S (nI c) 0 = some (x, S1)) : S1 = S ∧ x = CX (S.2.1 10) c := by
  unfold fr_centre at hf
  rw [if_pos rfl] at hf
  obtain ⟨v3, d3, hf⟩ := elet_some hf
  obtain ⟨v4, d4, hf⟩ := elet_some hf
  obtain ⟨v5, d5, hf⟩ := elet_some hf
  obtain ⟨-, hf⟩ := oif_some hf
  obtain ⟨v7, d7, hf⟩ := elet_some hf
  obtain ⟨v8, d8, hf⟩ := elet_some hf
  obtain ⟨v9, d9, hf⟩ := elet_some hf
  unfold fr_centre_b57 at hf
  have f := osome2 hf
  refine ⟨f.2.symm, ?_⟩
  rw [← f.1, d9, d8, d7, d5, d4, d3]
  rfl
theorem r_cy {c : Nat} {x : Int32} (hf : fr_centre S (nI c) 1 = some (x, S1)) : S1 = S ∧ x = CY (S.2.1 10) c := by
  unfold fr_centre at hf
  rw [if_neg (by decide)] at hf
  obtain ⟨v3, d3, hf⟩ := elet_some hf
  obtain ⟨v4, d4, hf⟩ := elet_some hf
  obtain ⟨v5, d5, hf⟩ := elet_some hf
  obtain ⟨-, hf⟩ := oif_some hf
  obtain ⟨v7, d7, hf⟩ := elet_some hf
  obtain ⟨v8, d8, hf⟩ := elet_some hf
  obtain ⟨v9, d9, hf⟩ := elet_some hf
  unfold fr_centre_b57 at hf
  have f := osome2 hf
  refine ⟨f.2.symm, ?_⟩
  rw [← f.1, d9, d8, d7, d5, d4, d3]
  rfl
theorem c_cx {c : Nat} {x : Int32} (h9 : ¬ P 9 = 0) (e3 : T.2.2.1 (s + 2) 3 = P 9) (e0 : T.2.2.1 (s + 2) 0 = P 6) (e2 : T.2.2.1 (s + 2) 2 = P 8) (hg : g_X1_centreX T (s + 2) (nI c) = some (x, T1)) : T1 = T ∧ x = CX P c := by
  unfold g_X1_centreX at hg
  obtain ⟨-, hg⟩ := oif_some hg
  obtain ⟨v3, d3, hg⟩ := elet_some hg
  obtain ⟨-, hg⟩ := oif_some hg
  obtain ⟨v5, d5, hg⟩ := elet_some hg
  obtain ⟨-, hg⟩ := oif_some hg
  obtain ⟨r9, T7, g7, hg⟩ := obind2_some hg
  obtain ⟨eT, er⟩ := a_col h9 e3 g7
  obtain ⟨v11, d11, hg⟩ := elet_some hg
  obtain ⟨v12, d12, hg⟩ := elet_some hg
  have g := osome2 hg
  refine ⟨g.2.symm.trans eT, ?_⟩
  rw [← g.1, d12, d11, er, d5, d3, e0, e2]
  rfl
theorem c_cy {c : Nat} {x : Int32} (hc : c < 144) (h9 : 1 ≤ (P 9).toInt) (e3 : T.2.2.1 (s + 2) 3 = P 9) (e1 : T.2.2.1 (s + 2) 1 = P 7) (e2 : T.2.2.1 (s + 2) 2 = P 8) (hg : g_X1_centreY T (s + 2) (nI c) = some (x, T1)) : T1 = T ∧ x = CY P c := by
  have cI : (nI c).toInt = (c : Int) := nI_toInt (by omega)
  unfold g_X1_centreY at hg
  obtain ⟨-, hg⟩ := oif_some hg
  obtain ⟨v3, d3, hg⟩ := elet_some hg
  obtain ⟨-, hg⟩ := oif_some hg
  obtain ⟨v5, d5, hg⟩ := elet_some hg
  obtain ⟨-, hg⟩ := oif_some hg
  obtain ⟨r9, T7, g7, hg⟩ := obind2_some hg
  obtain ⟨eT, er⟩ := a_row (by omega) h9 e3 g7
  obtain ⟨v11, d11, hg⟩ := elet_some hg
  obtain ⟨v12, d12, hg⟩ := elet_some hg
  have g := osome2 hg
  refine ⟨g.2.symm.trans eT, ?_⟩
  rw [← g.1, d12, d11, er, d5, d3, e1, e2]
  rfl
theorem c_rv {m n : Nat} {x y r : Int32} (hP : PL P) (hm : m < 12) (hx : -999 ≤ x.toInt ∧ x.toInt ≤ 15156) (hy : -999 ≤ y.toInt ∧ y.toInt ≤ 15156) (E0 : T.2.2.1 s 0 = P 0) (E1 : T.2.2.1 s 1 = P 1) (M0 : T.2.2.1 n 0 = P (11 + m)) (M1 : T.2.2.1 n 1 = P (23 + m)) (hg : g_X6_delayFrom T s n x y = some (r, T1)) : T1 = T ∧ RV P m x y r := by
  have p1 := pl_1 hP
  have n1 : ¬ P 1 = 0 := fun q => by rw [q] at p1; exact absurd p1.1 (by decide)
  have b4 := hP.2.2.2.2.1 (11 + m) (by omega) (by omega)
  have b8 := hP.2.2.2.2.1 (23 + m) (by omega) (by omega)
  have b10 := hP.1.1
  unfold g_X6_delayFrom at hg
  obtain ⟨-, hg⟩ := oif_some hg
  obtain ⟨x3, t3, hg⟩ := elet_some hg
  obtain ⟨x4, t4, hg⟩ := elet_some hg
  obtain ⟨-, hg⟩ := oif_some hg
  obtain ⟨x6, t6, hg⟩ := elet_some hg
  obtain ⟨x7, t7, hg⟩ := elet_some hg
  obtain ⟨x8, t8, hg⟩ := elet_some hg
  obtain ⟨x9, t9, hg⟩ := elet_some hg
  obtain ⟨x10, t10, hg⟩ := elet_some hg
  obtain ⟨-, hg⟩ := oif_some hg
  obtain ⟨x12, t12, hg⟩ := elet_some hg
  obtain ⟨-, hg⟩ := oif_some hg
  obtain ⟨x14, t14, hg⟩ := elet_some hg
  obtain ⟨x15, t15, hg⟩ := elet_some hg
  obtain ⟨x16, t16, hg⟩ := elet_some hg
  obtain ⟨r17, g17, hg⟩ := obind_some hg
  obtain ⟨x19, t19, hg⟩ := elet_some hg
  obtain ⟨-, hg⟩ := oif_some hg
  obtain ⟨x21, t21, hg⟩ := elet_some hg
  obtain ⟨x22, t22, hg⟩ := elet_some hg
  obtain ⟨r23, g23, hg⟩ := obind_some hg
  obtain ⟨-, hg⟩ := oif_some hg
  obtain ⟨x26, t26, hg⟩ := elet_some hg
  obtain ⟨x27, t27, hg⟩ := elet_some hg
  obtain ⟨-, hg⟩ := oif_some hg
  obtain ⟨x29, t29, hg⟩ := elet_some hg
  obtain ⟨x30, t30, hg⟩ := elet_some hg
  obtain ⟨r31, g31, hg⟩ := obind_some hg
  obtain ⟨x33, t33, hg⟩ := elet_some hg
  obtain ⟨x34, t34, hg⟩ := elet_some hg
  rw [M0] at t3
  rw [M1] at t6
  rw [E0] at t12 t14 t26
  rw [E1] at t21 t29
  rw [← t3] at b4
  rw [← t6] at b8
  rw [← t12] at b10
  have q4 := i_sub t4 (by omega) (by omega)
  have q7 := i_sub t7 (by omega) (by omega)
  have q8 := i_sq (b := 15656) t8 (by omega) (by omega) (by decide)
  have q9 := i_sq (b := 15656) t9 (by omega) (by omega) (by decide)
  rw [t14, ← t12] at t15
  have q15 := i_sq (b := 5000) t15 (by omega) (by omega) (by decide)
  have q10 := i_add t10 (by omega) (by omega)
  have q16 := i_add t16 (by omega) (by omega)
  rw [← root_eq (by omega)] at g17
  rw [t19, t22, t21] at g23
  rw [t27, t26, t30, t29] at g31
  have u := a_quo n1 g23
  have w := a_quo n1 g31
  have g := osome2 hg
  refine ⟨g.2.symm, r17, ?_, ?_⟩
  · rw [← g17, t16, t15, t10, t9, t8, t7, t6, t4, t3, t12]
  · rw [← g.1, t34, t33, Int64.toInt32_sub, u, w]
theorem sce_row {n k : Nat} {v : Int32} (h : SCE s T P) (hn : s + 16 ≤ n ∧ n < s + 160) : SCE s (uI T n k v) P :=
  sce_eq h ⟨fun j _ => ui_ne (.inl (by omega)), fun j _ => ui_ne (.inl (by omega)), fun j => ui_ne (.inl (by omega)), fun m j a b => ui_ne (.inl (by omega)), fun m j a b => ui_ne (.inl (by omega)), fun m j a b _ => ui_ne (.inl (by omega)), fun m j a b _ => ui_ne (.inl (by omega))⟩ (fun _ _ => rfl)
theorem c_df {n : Nat} {x y : Int32} (hP : PL P) (hx : -999 ≤ x.toInt ∧ x.toInt ≤ 15156) (hy : -999 ≤ y.toInt ∧ y.toInt ≤ 15156) (hn : s + 16 ≤ n ∧ n < s + 160) : ∀ (f j : Nat) {T : AT}, j ≤ 12 → SRF s T → SCE s T P → (∀ m, m < j → RV P m x y (T.2.2.1 n m)) → g_X6_delaysFrom_b3 f T s x y n (nI j) = some T1 → (∀ m : Nat, (m : Int) < (P 4).toInt → RV P m x y (T1.2.2.1 n m)) ∧ T1.2.2.2.2 = T.2.2.2.2 ∧ SCE s T1 P ∧ ∀ m k, m ≠ n → T1.2.2.1 m k = T.2.2.1 m k := by
  have p4 := pl_4 hP
  intro f
  induction f with
  | zero => intro j T hj hF hC hm h; cases h
  | succ f ih =>
    intro j T hj hF hC hm h
    have jI : (nI j).toInt = (j : Int) := nI_toInt (by omega)
    have kj : (nI j).toNatClampNeg = j := nI_clamp (by omega)
    obtain ⟨mc, mc12, x5, y4, mm, -⟩ := hC.2.1
    unfold g_X6_delaysFrom_b3 at h
    obtain ⟨-, h⟩ := oif_some h
    obtain ⟨v3, e3, h⟩ := elet_some h
    rw [x5, ← y4] at e3
    rcases oif_or h with ⟨c, h⟩ | ⟨c, h⟩
    · have c := i_le c
      rw [e3] at c
      rw [← osome1 h]
      exact ⟨fun m h => hm m (by omega), rfl, hC, fun _ _ _ => rfl⟩
    · have c := i_nle c
      rw [e3] at c
      obtain ⟨-, h⟩ := oif_some h
      obtain ⟨n6, en, h⟩ := obind_some h
      rw [hF.1] at en
      cases en
      obtain ⟨-, h⟩ := oif_some h
      obtain ⟨-, h⟩ := oif_some h
      obtain ⟨n9, en, h⟩ := obind_some h
      have eM : T.2.2.2.2 (s + 1) j = some (s + 160 + j) := by unfold SRF at hF; exact hF.2.2.2.2.2.2.2.2.1 _ (by omega)
      rw [kj, eM] at en
      cases en
      obtain ⟨-, h⟩ := oif_some h
      obtain ⟨r13, T11, g11, h⟩ := obind2_some h
      have mcI : (nI mc).toInt = (mc : Int) := nI_toInt (by omega)
      rw [y4] at c
      have mj := mm j (by omega)
      obtain ⟨e11, rv⟩ := c_rv hP (by omega) hx hy hC.1.1 hC.1.2.1 mj.1 mj.2.1 g11
      rw [e11] at h
      obtain ⟨-, h⟩ := oif_some h
      obtain ⟨-, h⟩ := oif_some h
      obtain ⟨T17, e17, h⟩ := elet_some h
      obtain ⟨v18, e18, h⟩ := elet_some h
      rw [show v18 = nI (j + 1) from e18.trans (nI_p1 j)] at h
      rw [kj] at e17
      obtain ⟨a1, a2, a3, a4⟩ := ih (j + 1) (T := T17) (by omega) (hF.sub (by rw [e17]; rfl)) (by rw [e17]; exact sce_row hC hn) (fun m hm2 => by
        rw [e17, ui_get]
        by_cases q : m = j
        · rw [if_pos ⟨rfl, q⟩, q]; exact rv
        · rw [if_neg (fun z => q z.2)]; exact hm m (by omega)) h
      exact ⟨a1, a2.trans (by rw [e17]; rfl), a3, fun m k hm => by rw [a4 m k hm, e17, ui_ne (.inl hm)]⟩
theorem cxy_rg {c : Nat} (hV : IV aR0 1586 aK1 aK2 T) (hs : s = 478 ∨ s = 656) (hc : c < 144) : (∃ x, g_X1_centreX T (s + 2) (nI c) = some (x, T) ∧ -999 ≤ x.toInt ∧ x.toInt ≤ 15156) ∧ ∃ y, g_X1_centreY T (s + 2) (nI c) = some (y, T) ∧ -999 ≤ y.toInt ∧ y.toInt ≤ 15156 := by
  have cI : (nI c).toInt = (c : Int) := nI_toInt (by omega)
  have r2 := (sro hs).2.1
  obtain ⟨⟨x, U⟩, e, e1, m⟩ := cs_X1_centreX T (s + 2) (nI c) hV r2 (by omega)
  obtain ⟨⟨y, V⟩, f, f1, m2⟩ := cs_X1_centreY T (s + 2) (nI c) hV r2 (by omega)
  have e1 : U = T := e1
  have f1 : V = T := f1
  have m : -999 ≤ x.toInt ∧ x.toInt ≤ 2088 := m
  subst e1
  subst f1
  exact ⟨⟨x, e, m.1, by have := m.2; omega⟩, y, f, m2.1, m2.2⟩
/-- the class's table of delays -/
theorem c_md (hP : PL P) (hs : s = 478 ∨ s = 656) (p8 : P 8 ≠ 0) : ∀ (f c : Nat) {T : AT}, c ≤ 144 → (c : Int) ≤ (P 9 * P 10).toInt → IV aR0 1586 aK1 aK2 T → SRF s T → SCE s T P → (∀ d m : Nat, d < c → (m : Int) < (P 4).toInt → RV P m (CX P d) (CY P d) (T.2.2.1 (s + 16 + d) m)) → g_X6_measureDelays_b2 f T s (nI c) = some T1 → (∀ d m : Nat, (d : Int) < (P 9 * P 10).toInt → (m : Int) < (P 4).toInt → RV P m (CX P d) (CY P d) (T1.2.2.1 (s + 16 + d) m)) ∧ SCE s T1 P := by
  have p9 := pl_9 hP
  have z0 : (0 : Int32).toInt = 0 := by decide
  have n9 : ¬ P 9 = 0 := fun q => by rw [q] at p9; omega
  obtain ⟨pm, pc1, pc2, -⟩ := pl_cell (S := (fun _ => 0, fun _ => P, fun _ _ => 0)) hP
  have pc2 : (P 9 * P 10).toInt ≤ 144 := pc2
  intro f
  induction f with
  | zero => intro c T _ _ _ _ _ _ h; cases h
  | succ f ih =>
    intro c T hc hcl hV hF hC hm h
    have cI : (nI c).toInt = (c : Int) := nI_toInt (by omega)
    obtain ⟨y3, y4, y⟩ := hC.2.2.1
    have y : T.2.2.1 (s + 2) 0 = P 6 ∧ T.2.2.1 (s + 2) 1 = P 7 ∧ T.2.2.1 (s + 2) 2 = P 8 := by
      rcases y with ⟨y, -⟩ | ⟨-, -, u, v, w, -⟩
      · exact absurd y p8
      · exact ⟨u, v, w⟩
    unfold g_X6_measureDelays_b2 at h
    obtain ⟨-, h⟩ := oif_some h
    obtain ⟨n3, en, h⟩ := obind_some h
    rw [hF.2.1] at en
    cases en
    obtain ⟨-, h⟩ := oif_some h
    obtain ⟨r7, T5, g5, h⟩ := obind2_some h
    unfold g_X1_cells at g5
    obtain ⟨-, g5⟩ := oif_some g5
    obtain ⟨x3, t3, g5⟩ := elet_some g5
    obtain ⟨-, g5⟩ := oif_some g5
    obtain ⟨x5, t5, g5⟩ := elet_some g5
    obtain ⟨x6, t6, g5⟩ := elet_some g5
    have g := osome2 g5
    rw [← g.2, ← g.1, t6, t3, t5, y3, y4] at h
    rcases oif_or h with ⟨cc, h⟩ | ⟨cc, h⟩
    · have cc := i_le cc
      rw [← osome1 h]
      exact ⟨fun d m hd hm2 => hm d m (by omega) hm2, hC⟩
    · have cc := i_nle cc
      obtain ⟨⟨x, ex, mx1, mx2⟩, yy, ey, my1, my2⟩ := cxy_rg hV hs (c := c) (by omega)
      obtain ⟨-, h⟩ := oif_some h
      obtain ⟨n11, en, h⟩ := obind_some h
      rw [hF.2.1] at en
      cases en
      obtain ⟨-, h⟩ := oif_some h
      obtain ⟨r15, T13, g13, h⟩ := obind2_some h
      rw [ex] at g13
      have g13 := osome2 g13
      rw [← g13.1, ← g13.2] at h
      have qx := (c_cx n9 y3 y.1 y.2.2 ex).2
      obtain ⟨-, h⟩ := oif_some h
      obtain ⟨n18, en, h⟩ := obind_some h
      rw [hF.2.1] at en
      cases en
      obtain ⟨-, h⟩ := oif_some h
      obtain ⟨r22, T20, g20, h⟩ := obind2_some h
      rw [ey] at g20
      have g20 := osome2 g20
      rw [← g20.1, ← g20.2] at h
      have qy := (c_cy (by omega) p9.1 y3 y.2.1 y.2.2 ey).2
      obtain ⟨-, h⟩ := oif_some h
      obtain ⟨n25, en, h⟩ := obind_some h
      have e7' : T.2.2.2.2 s 17 = some (s + 15) := by unfold SRF at hF; exact hF.2.2.2.2.2.2.2.1
      rw [e7'] at en
      cases en
      obtain ⟨-, h⟩ := oif_some h
      obtain ⟨-, h⟩ := oif_some h
      obtain ⟨n28, en, h⟩ := obind_some h
      have e10 : T.2.2.2.2 (s + 15) c = some (s + 16 + c) := by unfold SRF at hF; exact hF.2.2.2.2.2.2.2.2.2.2.2.2.2.2 _ (by omega)
      rw [nI_clamp (by omega), e10] at en
      cases en
      obtain ⟨-, h⟩ := oif_some h
      obtain ⟨T30, g30, h⟩ := obind_some h
      obtain ⟨v32, e32, h⟩ := elet_some h
      rw [show v32 = nI (c + 1) from e32.trans (nI_p1 c)] at h
      have iv30 := tgo (cs_X6_delaysFrom T s x yy (s + 16 + c) hV (rsrole hs) (dl_ro hs (by omega)) (by omega) (by omega)) g30
      unfold g_X6_delaysFrom at g30
      obtain ⟨a1, a2, a3, a4⟩ := c_df hP ⟨mx1, mx2⟩ ⟨my1, my2⟩ (n := s + 16 + c) (by omega) 16384 0 (by decide) hF hC (fun m hm => absurd hm (Nat.not_lt_zero m)) g30
      refine ih (c + 1) (by omega) (by omega) iv30.1 (hF.sub a2) a3 (fun d m hd hm2 => ?_) h
      by_cases q : d = c
      · rw [q, ← qx, ← qy]; exact a1 m hm2
      · rw [a4 _ m (by omega)]; exact hm d m (by omega) hm2
end
