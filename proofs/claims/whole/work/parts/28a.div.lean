/-! numbers of more parts: divided, and read -/
section
variable {T T1 T0 : AT} {o x y u : Nat}
/-- from the second part on -/
theorem c_divT {k : Nat} {i n : Int32} {v : Int} (hu : UZ T o x y u) (u5 : x ≠ y) (hV : V2 T x y i.toNatClampNeg v) (hn : 1 ≤ n.toInt ∧ n.toInt ≤ 200) (hg : g_X10_divide_b40 (k + 1 + 1 + 1) T o i n 0 0 1 = some T1) : LQ T T1 ∧ V2 T1 x y i.toNatClampNeg (v / n.toInt) ∧ LE T T1 x y i.toNatClampNeg := by
  have z0 : (0 : Int32).toInt = 0 := by decide
  have y0 : (0 : Int64).toInt = 0 := by decide
  obtain ⟨u1, u2, u3, -, -, -⟩ := id hu
  obtain ⟨V0, V1, Vv⟩ := hV
  unfold g_X10_divide_b40 at hg
  rw [if_neg (by decide)] at hg
  obtain ⟨w21, f21, hg⟩ := elet_some hg
  have q21 := l_shl f21 (by omega) (by omega)
  obtain ⟨-, hg⟩ := oif_some hg
  obtain ⟨n23, en, hg⟩ := obind_some hg
  rw [u1] at en
  cases en
  obtain ⟨-, hg⟩ := oif_some hg
  obtain ⟨-, hg⟩ := oif_some hg
  obtain ⟨n26, en, hg⟩ := obind_some hg
  rw [show (1 : Int32).toNatClampNeg = 1 from rfl, u3] at en
  cases en
  obtain ⟨-, hg⟩ := oif_some hg
  obtain ⟨-, hg⟩ := oif_some hg
  obtain ⟨w29, f29, hg⟩ := elet_some hg
  obtain ⟨w30, f30, hg⟩ := elet_some hg
  have q29 : w29.toInt = (T.2.2.2.1 y i.toNatClampNeg).toInt := by rw [f29]
  have q30 := l_add f30 (by omega) (by omega)
  obtain ⟨-, hg⟩ := oif_some hg
  obtain ⟨n32, en, hg⟩ := obind_some hg
  rw [u1] at en
  cases en
  obtain ⟨-, hg⟩ := oif_some hg
  obtain ⟨-, hg⟩ := oif_some hg
  obtain ⟨n35, en, hg⟩ := obind_some hg
  rw [show (1 : Int32).toNatClampNeg = 1 from rfl, u3] at en
  cases en
  obtain ⟨w36, f36, hg⟩ := elet_some hg
  have q36 : w36.toInt = n.toInt := by rw [f36, Int32.toInt_toInt64]
  obtain ⟨r37, g37, hg⟩ := obind_some hg
  have q37 := c_fdiv (by omega) (by omega) g37
  obtain ⟨-, hg⟩ := oif_some hg
  obtain ⟨-, hg⟩ := oif_some hg
  obtain ⟨T41, e41, hg⟩ := elet_some hg
  have l41 : LQ T T41 := by rw [e41]; exact lq_uJ
  obtain ⟨w42, f42, hg⟩ := elet_some hg
  have q42 : w42.toInt = n.toInt := by rw [f42, Int32.toInt_toInt64]
  obtain ⟨r43, g43, hg⟩ := obind_some hg
  have q43 := c_fmod (by omega) (by omega) g43
  obtain ⟨w45, f45, hg⟩ := elet_some hg
  have g45 : w45 = 0 := by rw [f45]; decide
  rw [q36] at q37
  rw [q42] at q43
  have r0 := Int.emod_nonneg w30.toInt (show n.toInt ≠ 0 by omega)
  have r1 := Int.emod_lt_of_pos w30.toInt (show 0 < n.toInt by omega)
  rw [g45] at hg
  unfold g_X10_divide_b40 at hg
  rw [if_neg (by decide)] at hg
  obtain ⟨x21, h21, hg⟩ := elet_some hg
  have p21 := l_shl h21 (by omega) (by omega)
  obtain ⟨-, hg⟩ := oif_some hg
  obtain ⟨n23, en, hg⟩ := obind_some hg
  rw [l41.2.2.2, u1] at en
  cases en
  obtain ⟨-, hg⟩ := oif_some hg
  obtain ⟨-, hg⟩ := oif_some hg
  obtain ⟨n26, en, hg⟩ := obind_some hg
  rw [show (0 : Int32).toNatClampNeg = 0 from rfl, l41.2.2.2, u2] at en
  cases en
  obtain ⟨-, hg⟩ := oif_some hg
  obtain ⟨-, hg⟩ := oif_some hg
  obtain ⟨x29, h29, hg⟩ := elet_some hg
  rw [e41, uj_get, if_neg (fun w => u5 w.1)] at h29
  obtain ⟨x30, h30, hg⟩ := elet_some hg
  have p29 : x29.toInt = (T.2.2.2.1 x i.toNatClampNeg).toInt := by rw [h29]
  have p30 := l_add h30 (by omega) (by omega)
  obtain ⟨-, hg⟩ := oif_some hg
  obtain ⟨n32, en, hg⟩ := obind_some hg
  rw [l41.2.2.2, u1] at en
  cases en
  obtain ⟨-, hg⟩ := oif_some hg
  obtain ⟨-, hg⟩ := oif_some hg
  obtain ⟨n35, en, hg⟩ := obind_some hg
  rw [show (0 : Int32).toNatClampNeg = 0 from rfl, l41.2.2.2, u2] at en
  cases en
  obtain ⟨x36, h36, hg⟩ := elet_some hg
  have p36 : x36.toInt = n.toInt := by rw [h36, Int32.toInt_toInt64]
  obtain ⟨s37, k37, hg⟩ := obind_some hg
  have p37 := c_fdiv (by omega) (by omega) k37
  rw [p36] at p37
  obtain ⟨-, hg⟩ := oif_some hg
  obtain ⟨-, hg⟩ := oif_some hg
  obtain ⟨U41, k41, hg⟩ := elet_some hg
  have m41 : LQ T41 U41 := by rw [k41]; exact lq_uJ
  obtain ⟨x42, h42, hg⟩ := elet_some hg
  obtain ⟨s43, k43, hg⟩ := obind_some hg
  obtain ⟨x45, h45, hg⟩ := elet_some hg
  have j45 : x45 = -1 := by rw [h45]; decide
  rw [j45] at hg
  unfold g_X10_divide_b40 g_X10_divide_b121 at hg
  rw [if_pos (by decide), if_pos rfl] at hg
  have at41 : ∀ m j, U41.2.2.2.1 m j = if m = x ∧ j = i.toNatClampNeg then s37 else if m = y ∧ j = i.toNatClampNeg then r37 else T.2.2.2.1 m j := by
    intro m j
    rw [k41, uj_get, e41, uj_get]
  -- the digits
  have hw30 : w30.toInt = (T.2.2.2.1 y i.toNatClampNeg).toInt := by omega
  have hr43 : r43.toInt = w30.toInt % n.toInt := q43
  have hx30 : x30.toInt = w30.toInt % n.toInt * 268435456 + (T.2.2.2.1 x i.toNatClampNeg).toInt := by omega
  have d1 := Int.mul_ediv_add_emod w30.toInt n.toInt
  have dn1 := Int.ediv_nonneg (show 0 ≤ w30.toInt by omega) (show 0 ≤ n.toInt by omega)
  have dl1 := Int.ediv_le_self n.toInt (show 0 ≤ w30.toInt by omega)
  have dn2 := Int.ediv_nonneg (show 0 ≤ x30.toInt by omega) (show 0 ≤ n.toInt by omega)
  have dlt : x30.toInt / n.toInt < 268435456 := Int.ediv_lt_of_lt_mul (by omega) (by
    have a : (w30.toInt % n.toInt + 1) * 268435456 ≤ n.toInt * 268435456 := Int.mul_le_mul_of_nonneg_right (by omega) (by decide)
    rw [Int.mul_comm 268435456 n.toInt]
    omega)
  have tot : v / n.toInt = w30.toInt / n.toInt * 268435456 + x30.toInt / n.toInt := by
    have a : v = x30.toInt + n.toInt * (w30.toInt / n.toInt * 268435456) := by
      have c : n.toInt * (w30.toInt / n.toInt * 268435456) = n.toInt * (w30.toInt / n.toInt) * 268435456 := (Int.mul_assoc _ _ _).symm
      rw [c]
      generalize n.toInt * (w30.toInt / n.toInt) = k at d1 ⊢
      omega
    rw [a, Int.add_mul_ediv_left _ _ (by omega), Int.add_comm]
  rw [← osome1 hg]
  refine ⟨l41.tr m41, ⟨?_, ?_, ?_⟩, fun m j hmj => ?_⟩
  · rw [at41, if_pos ⟨rfl, rfl⟩, p37]
    exact ⟨dn2, dlt⟩
  · rw [at41, if_neg (fun w => u5 w.1.symm), if_pos ⟨rfl, rfl⟩, q37]
    omega
  · rw [at41, at41, if_neg (fun w => u5 w.1.symm), if_pos ⟨rfl, rfl⟩, if_pos ⟨rfl, rfl⟩, p37, q37, tot]
  · rw [at41, if_neg (fun w => by rcases hmj with q | q; exact q.1 w.1; exact q w.2), if_neg (fun w => by rcases hmj with q | q; exact q.2 w.1; exact q w.2)]
theorem c_dvlp {f : Nat} {i n : Int32} {v : Int} (hu : UZ T0 o x y u) (u5 : x ≠ y) (hz : ∀ p w, 2 ≤ p → p < u → T0.2.2.2.2 (o + 1) p = some w → T0.2.2.2.1 w i.toNatClampNeg = 0) (hV : V2 T0 x y i.toNatClampNeg v) (hn : 1 ≤ n.toInt ∧ n.toInt ≤ 200) : ∀ (j : Nat) {T : AT}, j + 1 < u → LQ T0 T → (∀ m k, T.2.2.2.1 m k = T0.2.2.2.1 m k) → g_X10_divide_b40 (f + 3 + j) T o i n 0 0 (nI (j + 1)) = some T1 → LQ T0 T1 ∧ V2 T1 x y i.toNatClampNeg (v / n.toInt) ∧ LE T0 T1 x y i.toNatClampNeg := by
  intro j
  induction j with
  | zero =>
    intro T hj hq hl h
    have h : g_X10_divide_b40 (f + 1 + 1 + 1) T o i n 0 0 1 = some T1 := h
    obtain ⟨a, b, c⟩ := c_divT (v := v) (hu.lq hq) u5 (by unfold V2 at hV ⊢; rw [hl, hl]; exact hV) hn h
    exact ⟨hq.tr a, b, fun m k hmk => (c m k hmk).trans (hl m k)⟩
  | succ j ih =>
    intro T hj hq hl h
    have h : g_X10_divide_b40 (f + 3 + j + 1) T o i n 0 0 (nI (j + 2)) = some T1 := h
    obtain ⟨u1, u2, u3, u4, u2le, u40⟩ := id hu
    have kj : (nI (j + 2)).toNatClampNeg = j + 2 := nI_clamp (by omega)
    have jI : (nI (j + 2)).toInt = ((j + 2 : Nat) : Int) := nI_toInt (by omega)
    have z0 : (0 : Int32).toInt = 0 := by decide
    have y0 : (0 : Int64).toInt = 0 := by decide
    have m1 : (Int32.ofInt (-1)).toInt = -1 := by decide
    unfold g_X10_divide_b40 at h
    rw [if_neg (fun w => by have := i_lt w; omega)] at h
    obtain ⟨v21, d21, h⟩ := elet_some h
    have q21 := l_shl d21 (by omega) (by omega)
    have e21 : v21 = 0 := Int64.toInt_inj.mp (by omega)
    obtain ⟨-, h⟩ := oif_some h
    obtain ⟨n23, en, h⟩ := obind_some h
    rw [hq.2.2.2, u1] at en
    cases en
    obtain ⟨-, h⟩ := oif_some h
    obtain ⟨-, h⟩ := oif_some h
    obtain ⟨n26, ew, h⟩ := obind_some h
    rw [kj, hq.2.2.2] at ew
    obtain ⟨-, h⟩ := oif_some h
    obtain ⟨-, h⟩ := oif_some h
    obtain ⟨v29, d29, h⟩ := elet_some h
    have zw := hz (j + 2) n26 (by omega) (by omega) ew
    have e29 : v29 = 0 := by rw [d29, hl, zw]
    obtain ⟨v30, d30, h⟩ := elet_some h
    have e30 : v30 = 0 := by rw [d30, e29, e21]; decide
    have q30 : v30.toInt = 0 := by rw [e30, y0]
    obtain ⟨-, h⟩ := oif_some h
    obtain ⟨n32, en, h⟩ := obind_some h
    rw [hq.2.2.2, u1] at en
    cases en
    obtain ⟨-, h⟩ := oif_some h
    obtain ⟨-, h⟩ := oif_some h
    obtain ⟨n35, en, h⟩ := obind_some h
    rw [kj, hq.2.2.2, ew] at en
    cases en
    obtain ⟨v36, d36, h⟩ := elet_some h
    have q36 : v36.toInt = n.toInt := by rw [d36, Int32.toInt_toInt64]
    obtain ⟨r37, g37, h⟩ := obind_some h
    have q37 := c_fdiv (by omega) (by omega) g37
    have e37 : r37 = 0 := Int64.toInt_inj.mp (by rw [q37, q30, y0, Int.zero_ediv])
    obtain ⟨-, h⟩ := oif_some h
    obtain ⟨-, h⟩ := oif_some h
    obtain ⟨T41, e41, h⟩ := elet_some h
    have l41 : LQ T T41 := by rw [e41]; exact lq_uJ
    obtain ⟨v42, d42, h⟩ := elet_some h
    have q42 : v42.toInt = n.toInt := by rw [d42, Int32.toInt_toInt64]
    obtain ⟨r43, g43, h⟩ := obind_some h
    have q43 := c_fmod (by omega) (by omega) g43
    have e43 : r43 = 0 := Int64.toInt_inj.mp (by rw [q43, q30, y0, Int.zero_emod])
    obtain ⟨v45, d45, h⟩ := elet_some h
    have q45 := i_add d45 (by omega) (by omega)
    have jI1 : (nI (j + 1)).toInt = ((j + 1 : Nat) : Int) := nI_toInt (by omega)
    have e45 : v45 = nI (j + 1) := Int32.toInt_inj.mp (by omega)
    rw [e43, e45] at h
    refine ih (by omega) (hq.tr l41) (fun m k => ?_) h
    rw [e41, uj_get]
    by_cases c : m = n26 ∧ k = i.toNatClampNeg
    · rw [if_pos c, e37, c.1, c.2, zw]
    · rw [if_neg c, hl]
theorem c_divU {i n : Int32} {v : Int} (hu : UZ T o x y u) (u5 : x ≠ y) (hz : ∀ p w, 2 ≤ p → p < u → T.2.2.2.2 (o + 1) p = some w → T.2.2.2.1 w i.toNatClampNeg = 0) (hV : V2 T x y i.toNatClampNeg v) (hn : 1 ≤ n.toInt ∧ n.toInt ≤ 200) (hg : g_X10_divide T o i n = some T1) : LQ T T1 ∧ V2 T1 x y i.toNatClampNeg (v / n.toInt) ∧ LE T T1 x y i.toNatClampNeg := by
  obtain ⟨u1, u2, u3, u4, u2le, u40⟩ := id hu
  have uI' : (nI u).toInt = (u : Int) := nI_toInt (by omega)
  have w8 : (nI (u - 1)).toInt = ((u - 1 : Nat) : Int) := nI_toInt (by omega)
  have z0 : (0 : Int32).toInt = 0 := by decide
  have z1 : (1 : Int32).toInt = 1 := by decide
  have y0 : (0 : Int64).toInt = 0 := by decide
  have dec : ∀ {a b : Int32}, a = nI u → b = a - 1 → b = nI (u - 1) := fun {a b} ea eb => by
    have qa : a.toInt = (u : Int) := by rw [ea]; exact uI'
    have q := i_sub eb (by omega) (by omega)
    exact Int32.toInt_inj.mp (by rw [q, w8]; omega)
  unfold g_X10_divide at hg
  rw [if_pos (Int32.lt_iff_toInt_lt.mpr (by omega))] at hg
  obtain ⟨-, hg⟩ := oif_some hg
  obtain ⟨n4, en, hg⟩ := obind_some hg
  rw [u1] at en
  cases en
  obtain ⟨-, hg⟩ := oif_some hg
  obtain ⟨v6, d6, hg⟩ := elet_some hg
  rw [u4] at d6
  obtain ⟨v7, d7, hg⟩ := elet_some hg
  have e7 := dec d6 d7
  obtain ⟨-, hg⟩ := oif_some hg
  obtain ⟨-, hg⟩ := oif_some hg
  obtain ⟨n10, ew, hg⟩ := obind_some hg
  rw [e7, nI_clamp (by omega)] at ew
  obtain ⟨-, hg⟩ := oif_some hg
  obtain ⟨-, hg⟩ := oif_some hg
  obtain ⟨v13, d13, hg⟩ := elet_some hg
  obtain ⟨v14, d14, hg⟩ := elet_some hg
  have q13 : 0 ≤ v13.toInt := by
    by_cases e : u = 2
    · rw [show u - 1 = 1 by omega, u3] at ew
      rw [d13, ← Option.some.inj ew]
      exact hV.2.1.1
    · rw [d13, hz (u - 1) n10 (by omega) (by omega) ew, y0]
      decide
  rw [if_pos (by rw [d14]; exact (lg_cmp_ge _ _).mpr (Int64.le_iff_toInt_le.mpr (by omega)))] at hg
  unfold g_X10_divide_b28 at hg
  obtain ⟨-, hg⟩ := oif_some hg
  obtain ⟨w3, f3, hg⟩ := elet_some hg
  rw [u4] at f3
  obtain ⟨w4, f4, hg⟩ := elet_some hg
  have g4 : w4 = nI (u - 2 + 1) := by rw [dec f3 f4, show u - 2 + 1 = u - 1 by omega]
  rw [g4, show (16384 : Nat) = (16381 - (u - 2)) + 3 + (u - 2) by omega] at hg
  exact c_dvlp hu u5 hz hV hn (u - 2) (by omega) LQ.rf (fun _ _ => rfl) hg
theorem c_vllp {f : Nat} {i : Int32} {r : Int64} {v : Int} (hu : UZ T o x y u) (hz : ∀ p w, 2 ≤ p → p < u → T.2.2.2.2 (o + 1) p = some w → T.2.2.2.1 w i.toNatClampNeg = 0) (hV : V2 T x y i.toNatClampNeg v) : ∀ j : Nat, j + 1 < u → g_X10_value_b10 (f + 3 + j) T o i 0 (nI (j + 1)) = some (r, T1) → T1 = T ∧ r.toInt = v := by
  obtain ⟨u1, u2, u3, u4, u2le, u40⟩ := id hu
  have z0 : (0 : Int32).toInt = 0 := by decide
  have y0 : (0 : Int64).toInt = 0 := by decide
  have m1 : (Int32.ofInt (-1)).toInt = -1 := by decide
  intro j
  induction j with
  | zero =>
    intro hj h
    obtain ⟨V0, V1, Vv⟩ := hV
    have h : g_X10_value_b10 (f + 1 + 1 + 1) T o i 0 1 = some (r, T1) := h
    unfold g_X10_value_b10 at h
    rw [if_neg (by decide)] at h
    obtain ⟨v3, d3, h⟩ := elet_some h
    have q3 := l_shl d3 (by omega) (by omega)
    obtain ⟨-, h⟩ := oif_some h
    obtain ⟨n5, en, h⟩ := obind_some h
    rw [u1] at en
    cases en
    obtain ⟨-, h⟩ := oif_some h
    obtain ⟨-, h⟩ := oif_some h
    obtain ⟨n8, en, h⟩ := obind_some h
    rw [show (1 : Int32).toNatClampNeg = 1 from rfl, u3] at en
    cases en
    obtain ⟨-, h⟩ := oif_some h
    obtain ⟨-, h⟩ := oif_some h
    obtain ⟨v11, d11, h⟩ := elet_some h
    have p11 : v11.toInt = (T.2.2.2.1 y i.toNatClampNeg).toInt := by rw [d11]
    obtain ⟨v12, d12, h⟩ := elet_some h
    have q12 := l_add d12 (by omega) (by omega)
    obtain ⟨v13, d13, h⟩ := elet_some h
    have e13 : v13 = 0 := by rw [d13]; decide
    rw [e13] at h
    unfold g_X10_value_b10 at h
    rw [if_neg (by decide)] at h
    obtain ⟨w3, f3, h⟩ := elet_some h
    have g3 := l_shl f3 (by omega) (by omega)
    obtain ⟨-, h⟩ := oif_some h
    obtain ⟨n5, en, h⟩ := obind_some h
    rw [u1] at en
    cases en
    obtain ⟨-, h⟩ := oif_some h
    obtain ⟨-, h⟩ := oif_some h
    obtain ⟨n8, en, h⟩ := obind_some h
    rw [show (0 : Int32).toNatClampNeg = 0 from rfl, u2] at en
    cases en
    obtain ⟨-, h⟩ := oif_some h
    obtain ⟨-, h⟩ := oif_some h
    obtain ⟨w11, f11, h⟩ := elet_some h
    have g11 : w11.toInt = (T.2.2.2.1 x i.toNatClampNeg).toInt := by rw [f11]
    obtain ⟨w12, f12, h⟩ := elet_some h
    have g12 := l_add f12 (by omega) (by omega)
    obtain ⟨w13, f13, h⟩ := elet_some h
    have g13 : w13 = -1 := by rw [f13]; decide
    rw [g13] at h
    unfold g_X10_value_b10 at h
    rw [if_pos (by decide)] at h
    rw [← (osome2 h).1, ← (osome2 h).2]
    exact ⟨rfl, by omega⟩
  | succ j ih =>
    intro hj h
    have h : g_X10_value_b10 (f + 3 + j + 1) T o i 0 (nI (j + 2)) = some (r, T1) := h
    have kj : (nI (j + 2)).toNatClampNeg = j + 2 := nI_clamp (by omega)
    have jI : (nI (j + 2)).toInt = ((j + 2 : Nat) : Int) := nI_toInt (by omega)
    unfold g_X10_value_b10 at h
    rw [if_neg (fun w => by have := i_lt w; omega)] at h
    obtain ⟨v3, d3, h⟩ := elet_some h
    have q3 := l_shl d3 (by omega) (by omega)
    have e3 : v3 = 0 := Int64.toInt_inj.mp (by omega)
    obtain ⟨-, h⟩ := oif_some h
    obtain ⟨n5, en, h⟩ := obind_some h
    rw [u1] at en
    cases en
    obtain ⟨-, h⟩ := oif_some h
    obtain ⟨-, h⟩ := oif_some h
    obtain ⟨n8, ew, h⟩ := obind_some h
    rw [kj] at ew
    obtain ⟨-, h⟩ := oif_some h
    obtain ⟨-, h⟩ := oif_some h
    obtain ⟨v11, d11, h⟩ := elet_some h
    have e11 : v11 = 0 := by rw [d11, hz (j + 2) n8 (by omega) (by omega) ew]
    obtain ⟨v12, d12, h⟩ := elet_some h
    have e12 : v12 = 0 := by rw [d12, e11, e3]; decide
    obtain ⟨v13, d13, h⟩ := elet_some h
    have q13 := i_add d13 (by omega) (by omega)
    have jI1 : (nI (j + 1)).toInt = ((j + 1 : Nat) : Int) := nI_toInt (by omega)
    have e13 : v13 = nI (j + 1) := Int32.toInt_inj.mp (by omega)
    rw [e12, e13] at h
    exact ih (by omega) h
theorem c_valU {i : Int32} {r : Int64} {v : Int} (hu : UZ T o x y u) (hz : ∀ p w, 2 ≤ p → p < u → T.2.2.2.2 (o + 1) p = some w → T.2.2.2.1 w i.toNatClampNeg = 0) (hV : V2 T x y i.toNatClampNeg v) (hg : g_X10_value T o i = some (r, T1)) : T1 = T ∧ r.toInt = v := by
  obtain ⟨u1, u2, u3, u4, u2le, u40⟩ := id hu
  have uI' : (nI u).toInt = (u : Int) := nI_toInt (by omega)
  have z1 : (1 : Int32).toInt = 1 := by decide
  unfold g_X10_value at hg
  obtain ⟨-, hg⟩ := oif_some hg
  obtain ⟨v3, d3, hg⟩ := elet_some hg
  rw [u4] at d3
  obtain ⟨v4, d4, hg⟩ := elet_some hg
  have p3 : v3.toInt = (u : Int) := by rw [d3]; exact uI'
  have q4 := i_sub d4 (by omega) (by omega)
  have e4 : v4 = nI (u - 2 + 1) := Int32.toInt_inj.mp (by rw [q4, nI_toInt (by omega)]; omega)
  rw [e4, show (16384 : Nat) = (16381 - (u - 2)) + 3 + (u - 2) by omega] at hg
  exact c_vllp hu hz hV (u - 2) (by omega) hg
theorem c_val1 {i : Int32} {r : Int64} (hw : W1 T o x) (h0 : 0 ≤ (T.2.2.2.1 x i.toNatClampNeg).toInt) (hg : g_X10_value T o i = some (r, T1)) : T1 = T ∧ r.toInt = (T.2.2.2.1 x i.toNatClampNeg).toInt := by
  obtain ⟨h1, hx, hu⟩ := hw
  have y0 : (0 : Int64).toInt = 0 := by decide
  have lt := Int64.toInt_lt (T.2.2.2.1 x i.toNatClampNeg)
  unfold g_X10_value at hg
  obtain ⟨-, hg⟩ := oif_some hg
  obtain ⟨v3, d3, hg⟩ := elet_some hg
  rw [hu] at d3
  obtain ⟨v4, d4, hg⟩ := elet_some hg
  have e4 : v4 = 0 := by rw [d4, d3]; decide
  rw [e4, show (16384 : Nat) = 16382 + 1 + 1 from rfl] at hg
  unfold g_X10_value_b10 at hg
  rw [if_neg (by decide)] at hg
  obtain ⟨w3, f3, hg⟩ := elet_some hg
  have g3 := l_shl f3 (by omega) (by omega)
  obtain ⟨-, hg⟩ := oif_some hg
  obtain ⟨n5, en, hg⟩ := obind_some hg
  rw [h1] at en
  cases en
  obtain ⟨-, hg⟩ := oif_some hg
  obtain ⟨-, hg⟩ := oif_some hg
  obtain ⟨n8, en, hg⟩ := obind_some hg
  rw [show (0 : Int32).toNatClampNeg = 0 from rfl, hx] at en
  cases en
  obtain ⟨-, hg⟩ := oif_some hg
  obtain ⟨-, hg⟩ := oif_some hg
  obtain ⟨w11, f11, hg⟩ := elet_some hg
  have g11 : w11.toInt = (T.2.2.2.1 x i.toNatClampNeg).toInt := by rw [f11]
  obtain ⟨w12, f12, hg⟩ := elet_some hg
  have g12 := l_add f12 (by omega) (by omega)
  obtain ⟨w13, f13, hg⟩ := elet_some hg
  have g13 : w13 = -1 := by rw [f13]; decide
  rw [g13] at hg
  unfold g_X10_value_b10 at hg
  rw [if_pos (by decide)] at hg
  rw [← (osome2 hg).1, ← (osome2 hg).2]
  exact ⟨rfl, by omega⟩
end
