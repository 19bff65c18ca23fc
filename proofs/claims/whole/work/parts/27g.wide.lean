/-! numbers of two parts: made wide, a square added, divided, compared -/
section
variable {T T1 T0 : AT} {o x y z b : Nat}
theorem l_xor {a b : Int64} (ha : 0 ≤ a.toInt) (hb : 0 ≤ b.toInt) : 0 ≤ (a ^^^ b).toInt := by
  have na := l_nat ha
  have nb := l_nat hb
  have la := Int64.toInt_lt a
  have lb := Int64.toInt_lt b
  have q : (a ^^^ b).toBitVec.toNat = a.toBitVec.toNat ^^^ b.toBitVec.toNat := by
    show (a.toBitVec ^^^ b.toBitVec).toNat = _
    rw [BitVec.toNat_xor]
  have l : a.toBitVec.toNat ^^^ b.toBitVec.toNat < 2 ^ 63 := Nat.xor_lt_two_pow (by omega) (by omega)
  rw [l_ofn q (by omega)]
  exact Int.natCast_nonneg _
theorem l_div {x y : Int64} (hx : 0 ≤ x.toInt) (hy : 1 ≤ y.toInt) : (x / y).toInt = x.toInt / y.toInt := by
  have l := Int64.toInt_lt x
  have q := Int.ediv_le_self y.toInt hx
  have n := Int.ediv_nonneg hx (by omega : 0 ≤ y.toInt)
  rw [Int64.toInt_div, Int.tdiv_eq_ediv_of_nonneg hx, bm64 (by omega) (by omega)]
theorem c_fdiv {a b r : Int64} (ha : 0 ≤ a.toInt) (hb : 1 ≤ b.toInt) (h : g_J9_floorDiv_f86c9 a b = some r) : r.toInt = a.toInt / b.toInt := by
  have z0 : (0 : Int64).toInt = 0 := by decide
  unfold g_J9_floorDiv_f86c9 g_J9_floorDiv_f86c9_b27 at h
  obtain ⟨-, h⟩ := oif_some h
  obtain ⟨v3, d3, h⟩ := elet_some h
  obtain ⟨v4, d4, h⟩ := elet_some h
  obtain ⟨v5, d5, h⟩ := elet_some h
  have q4 := l_xor ha (show 0 ≤ b.toInt by omega)
  rw [if_pos (by rw [d5, d4]; exact (lg_cmp_ge _ _).mpr (Int64.le_iff_toInt_le.mpr (by omega)))] at h
  rw [← osome1 h, d3, l_div ha hb]
theorem c_fmod {a b r : Int64} (ha : 0 ≤ a.toInt) (hb : 1 ≤ b.toInt) (h : g_J9_floorMod_f86c9 a b = some r) : r.toInt = a.toInt % b.toInt := by
  have z0 : (0 : Int64).toInt = 0 := by decide
  unfold g_J9_floorMod_f86c9 g_J9_floorMod_f86c9_b25 at h
  obtain ⟨-, h⟩ := oif_some h
  obtain ⟨v3, d3, h⟩ := elet_some h
  obtain ⟨v4, d4, h⟩ := elet_some h
  obtain ⟨v5, d5, h⟩ := elet_some h
  have q4 := l_xor ha (show 0 ≤ b.toInt by omega)
  rw [if_pos (by rw [d5, d4]; exact (lg_cmp_ge _ _).mpr (Int64.le_iff_toInt_le.mpr (by omega)))] at h
  have l := Int64.toInt_lt a
  have n := Int.ediv_nonneg ha (by omega : 0 ≤ b.toInt)
  have m := Int.mul_ediv_add_emod a.toInt b.toInt
  have m0 := Int.emod_nonneg a.toInt (show b.toInt ≠ 0 by omega)
  have mu := Int.mul_comm b.toInt (a.toInt / b.toInt)
  have mn := Int.mul_nonneg n (show 0 ≤ b.toInt by omega)
  have q := l_div ha hb
  have p : (a / b * b).toInt = a.toInt / b.toInt * b.toInt := by
    rw [l_mul rfl (by rw [q]; omega) (by rw [q]; omega), q]
  rw [← osome1 h, d3, Int64.toInt_sub, p, bm64 (by omega) (by omega)]
  omega
/-- a table of numbers of two parts, rows x and y -/
def U2 (T : AT) (o x y : Nat) : Prop := T.2.2.2.2 o 1 = some (o + 1) ∧ T.2.2.2.2 (o + 1) 0 = some x ∧ T.2.2.2.2 (o + 1) 1 = some y ∧ T.2.2.1 o 2 = 2 ∧ x ≠ y
theorem U2.lq (h : U2 T o x y) (k : LQ T T1) : U2 T1 o x y := by
  unfold U2
  rw [k.2.2.1, k.2.2.2]
  exact h
/-- number i is v -/
def V2 (T : AT) (x y i : Nat) (v : Int) : Prop := (0 ≤ (T.2.2.2.1 x i).toInt ∧ (T.2.2.2.1 x i).toInt < 268435456) ∧ (0 ≤ (T.2.2.2.1 y i).toInt ∧ (T.2.2.2.1 y i).toInt < 268435456) ∧ (T.2.2.2.1 y i).toInt * 268435456 + (T.2.2.2.1 x i).toInt = v
/-- the longs of all rows but x and y, and all others of these, are as they were -/
def LE (T T1 : AT) (x y i : Nat) : Prop := ∀ m j, (m ≠ x ∧ m ≠ y ∨ j ≠ i) → T1.2.2.2.1 m j = T.2.2.2.1 m j
theorem c_settle2 {i : Int32} {v : Int} (hu : U2 T o x y) (h0 : 0 ≤ (T.2.2.2.1 x i.toNatClampNeg).toInt) (h1 : 0 ≤ (T.2.2.2.1 y i.toNatClampNeg).toInt) (hv : (T.2.2.2.1 y i.toNatClampNeg).toInt * 268435456 + (T.2.2.2.1 x i.toNatClampNeg).toInt = v) (hb : v < 72057594037927936) (hg : g_X10_settle T o i = some T1) : LQ T T1 ∧ V2 T1 x y i.toNatClampNeg v ∧ LE T T1 x y i.toNatClampNeg := by
  obtain ⟨u1, u2, u3, u4, u5⟩ := hu
  unfold g_X10_settle at hg
  rw [show (16384 : Nat) = 16382 + 1 + 1 from rfl] at hg
  unfold g_X10_settle_b2 at hg
  obtain ⟨v2, d2, hg⟩ := elet_some hg
  obtain ⟨-, hg⟩ := oif_some hg
  obtain ⟨v4, d4, hg⟩ := elet_some hg
  rw [u4] at d4
  rw [if_neg (by rw [d4, d2]; decide)] at hg
  obtain ⟨-, hg⟩ := oif_some hg
  obtain ⟨n10, en, hg⟩ := obind_some hg
  rw [u1] at en
  cases en
  obtain ⟨-, hg⟩ := oif_some hg
  obtain ⟨-, hg⟩ := oif_some hg
  obtain ⟨n13, en, hg⟩ := obind_some hg
  rw [show (0 : Int32).toNatClampNeg = 0 from rfl, u2] at en
  cases en
  obtain ⟨-, hg⟩ := oif_some hg
  obtain ⟨-, hg⟩ := oif_some hg
  obtain ⟨v16, d16, hg⟩ := elet_some hg
  obtain ⟨-, hg⟩ := oif_some hg
  obtain ⟨n18, en, hg⟩ := obind_some hg
  rw [u1] at en
  cases en
  obtain ⟨-, hg⟩ := oif_some hg
  obtain ⟨-, hg⟩ := oif_some hg
  obtain ⟨n21, en, hg⟩ := obind_some hg
  rw [show (0 : Int32).toNatClampNeg = 0 from rfl, u2] at en
  cases en
  obtain ⟨v22, d22, hg⟩ := elet_some hg
  obtain ⟨-, hg⟩ := oif_some hg
  obtain ⟨-, hg⟩ := oif_some hg
  obtain ⟨T25, e25, hg⟩ := elet_some hg
  have l25 : LQ T T25 := by rw [e25]; exact lq_uJ
  obtain ⟨-, hg⟩ := oif_some hg
  obtain ⟨n27, en, hg⟩ := obind_some hg
  rw [l25.2.2.2, u1] at en
  cases en
  obtain ⟨v28, d28, hg⟩ := elet_some hg
  have e28 : v28 = 1 := by rw [d28]; decide
  obtain ⟨-, hg⟩ := oif_some hg
  obtain ⟨-, hg⟩ := oif_some hg
  obtain ⟨n31, en, hg⟩ := obind_some hg
  rw [e28, show (1 : Int32).toNatClampNeg = 1 from rfl, l25.2.2.2, u3] at en
  cases en
  obtain ⟨-, hg⟩ := oif_some hg
  obtain ⟨-, hg⟩ := oif_some hg
  obtain ⟨v34, d34, hg⟩ := elet_some hg
  rw [e25, uj_get, if_neg (fun w => u5 w.1.symm)] at d34
  obtain ⟨v35, d35, hg⟩ := elet_some hg
  obtain ⟨v36, d36, hg⟩ := elet_some hg
  obtain ⟨-, hg⟩ := oif_some hg
  obtain ⟨-, hg⟩ := oif_some hg
  obtain ⟨T39, e39, hg⟩ := elet_some hg
  have l39 : LQ T25 T39 := by rw [e39]; exact lq_uJ
  have l := l25.tr l39
  obtain ⟨v40, d40, hg⟩ := elet_some hg
  have q16 : v16.toInt = (T.2.2.2.1 x i.toNatClampNeg).toInt := by rw [d16]
  have q22 := l_and d22 (by omega)
  have q34 : v34.toInt = (T.2.2.2.1 y i.toNatClampNeg).toInt := by rw [d34]
  have q35 := l_shr d35
  have q36 := l_add d36 (by omega) (by omega)
  have at39 : ∀ m j, T39.2.2.2.1 m j = if m = y ∧ j = i.toNatClampNeg then v36 else if m = x ∧ j = i.toNatClampNeg then v22 else T.2.2.2.1 m j := by
    intro m j
    rw [e39, uj_get, e25, uj_get]
  unfold g_X10_settle_b2 at hg
  obtain ⟨w2, f2, hg⟩ := elet_some hg
  obtain ⟨-, hg⟩ := oif_some hg
  obtain ⟨w4, f4, hg⟩ := elet_some hg
  rw [l.2.2.1, u4] at f4
  rw [if_pos (by rw [f4, f2, d40]; decide)] at hg
  obtain ⟨-, hg⟩ := oif_some hg
  obtain ⟨w7, f7, hg⟩ := elet_some hg
  obtain ⟨w8, f8, hg⟩ := elet_some hg
  rw [l.2.2.1, u4] at f7
  have e8 : w8 = 1 := by rw [f8, f7]; decide
  rw [e8, show (16384 : Nat) = 16383 + 1 from rfl] at hg
  unfold g_X10_settle_b64 g_X10_settle_b99 at hg
  obtain ⟨y2, p2, hg⟩ := elet_some hg
  rw [if_neg (by rw [p2]; decide)] at hg
  obtain ⟨-, hg⟩ := oif_some hg
  obtain ⟨n5, en, hg⟩ := obind_some hg
  rw [l.2.2.2, u1] at en
  cases en
  obtain ⟨-, hg⟩ := oif_some hg
  obtain ⟨-, hg⟩ := oif_some hg
  obtain ⟨n8, en, hg⟩ := obind_some hg
  rw [show (1 : Int32).toNatClampNeg = 1 from rfl, l.2.2.2, u3] at en
  cases en
  obtain ⟨-, hg⟩ := oif_some hg
  obtain ⟨-, hg⟩ := oif_some hg
  obtain ⟨v11, d11, hg⟩ := elet_some hg
  rw [at39, if_pos ⟨rfl, rfl⟩] at d11
  obtain ⟨r12, g12, hg⟩ := obind_some hg
  rw [d11] at g12
  rw [if_pos (l_beyond ⟨by omega, by omega⟩ g12)] at hg
  rw [← osome1 hg]
  refine ⟨l, ⟨?_, ?_, ?_⟩, fun m j hmj => ?_⟩
  · rw [at39, if_neg (fun w => u5 w.1), if_pos ⟨rfl, rfl⟩]
    omega
  · rw [at39, if_pos ⟨rfl, rfl⟩]
    omega
  · rw [at39, at39, if_pos ⟨rfl, rfl⟩, if_neg (fun w => u5 w.1), if_pos ⟨rfl, rfl⟩]
    omega
  · rw [at39, if_neg (fun w => by rcases hmj with q | q; exact q.2 w.1; exact q w.2), if_neg (fun w => by rcases hmj with q | q; exact q.1 w.1; exact q w.2)]
/-- the square of the beam is added -/
theorem c_addp2 {i : Int32} {v s : Int} (hu : U2 T o x y) (hb : W1 T b z) (hzx : z ≠ x) (hzy : z ≠ y) (hV : V2 T x y i.toNatClampNeg v) (hs : (T.2.2.2.1 z 0).toInt * (T.2.2.2.1 z 0).toInt = s) (hl : s ≤ 2000000000000) (hs0 : 0 ≤ s) (hv : v < 1000000000000000) (hg : g_X10_addProduct_b14 T o i b 0 b 0 = some T1) : LQ T T1 ∧ V2 T1 x y i.toNatClampNeg (v + s) ∧ LE T T1 x y i.toNatClampNeg := by
  obtain ⟨u1, u2, u3, u4, u5⟩ := id hu
  obtain ⟨b1, b2, b3⟩ := id hb
  obtain ⟨V0, V1, Vv⟩ := hV
  unfold g_X10_addProduct_b14 at hg
  rw [show (16384 : Nat) = 16382 + 1 + 1 from rfl] at hg
  unfold g_X10_addProduct_b17 at hg
  obtain ⟨-, hg⟩ := oif_some hg
  obtain ⟨v3, d3, hg⟩ := elet_some hg
  rw [u4] at d3
  rw [if_neg (by rw [d3]; decide)] at hg
  obtain ⟨-, hg⟩ := oif_some hg
  obtain ⟨v6, d6, hg⟩ := elet_some hg
  obtain ⟨-, hg⟩ := oif_some hg
  obtain ⟨v8, d8, hg⟩ := elet_some hg
  rw [b3] at d6 d8
  obtain ⟨v9, d9, hg⟩ := elet_some hg
  obtain ⟨v10, d10, hg⟩ := elet_some hg
  rw [if_neg (by rw [d10, d9, d8, d6]; decide)] at hg
  obtain ⟨-, hg⟩ := oif_some hg
  obtain ⟨v13, d13, hg⟩ := elet_some hg
  rw [b3] at d13
  obtain ⟨v14, d14, hg⟩ := elet_some hg
  obtain ⟨v15, d15, hg⟩ := elet_some hg
  obtain ⟨v16, d16, hg⟩ := elet_some hg
  have e16 : v16 = 0 := by rw [d16, d15, d14, d13]; decide
  rw [e16] at hg
  unfold g_X10_addProduct_b62 at hg
  rw [if_neg (by decide)] at hg
  obtain ⟨-, hg⟩ := oif_some hg
  obtain ⟨w4, f4, hg⟩ := elet_some hg
  rw [b3] at f4
  rw [if_neg (by rw [f4]; decide)] at hg
  obtain ⟨-, hg⟩ := oif_some hg
  obtain ⟨n7, en, hg⟩ := obind_some hg
  rw [b1] at en
  cases en
  obtain ⟨-, hg⟩ := oif_some hg
  obtain ⟨-, hg⟩ := oif_some hg
  obtain ⟨n10, en, hg⟩ := obind_some hg
  rw [show (0 : Int32).toNatClampNeg = 0 from rfl, b2] at en
  cases en
  obtain ⟨-, hg⟩ := oif_some hg
  obtain ⟨-, hg⟩ := oif_some hg
  obtain ⟨w13, f13, hg⟩ := elet_some hg
  obtain ⟨-, hg⟩ := oif_some hg
  obtain ⟨n15, en, hg⟩ := obind_some hg
  rw [b1] at en
  cases en
  obtain ⟨w16, f16, hg⟩ := elet_some hg
  have g16 : w16 = 0 := by rw [f16]; decide
  obtain ⟨-, hg⟩ := oif_some hg
  obtain ⟨-, hg⟩ := oif_some hg
  obtain ⟨n19, en, hg⟩ := obind_some hg
  rw [g16, show (0 : Int32).toNatClampNeg = 0 from rfl, b2] at en
  cases en
  obtain ⟨-, hg⟩ := oif_some hg
  obtain ⟨-, hg⟩ := oif_some hg
  obtain ⟨w22, f22, hg⟩ := elet_some hg
  obtain ⟨w23, f23, hg⟩ := elet_some hg
  obtain ⟨w24, f24, hg⟩ := elet_some hg
  obtain ⟨w25, f25, hg⟩ := elet_some hg
  rw [show (0 : Int32).toNatClampNeg = 0 from rfl] at f13 f22
  have q23 : w23.toInt = s := by
    rw [l_mul f23 (by rw [f13, f22]; omega) (by rw [f13, f22]; omega), f13, f22]
    exact hs
  have z0 : (0 : Int64).toInt = 0 := by decide
  have q24 := l_add f24 (by omega) (by omega)
  unfold g_X10_addProduct_b62 at hg
  rw [if_pos (by rw [f25]; decide)] at hg
  unfold g_X10_addProduct_b113 at hg
  obtain ⟨-, hg⟩ := oif_some hg
  obtain ⟨n3, en, hg⟩ := obind_some hg
  rw [u1] at en
  cases en
  obtain ⟨-, hg⟩ := oif_some hg
  obtain ⟨-, hg⟩ := oif_some hg
  obtain ⟨n6, en, hg⟩ := obind_some hg
  rw [show (0 : Int32).toNatClampNeg = 0 from rfl, u2] at en
  cases en
  obtain ⟨-, hg⟩ := oif_some hg
  obtain ⟨-, hg⟩ := oif_some hg
  obtain ⟨x9, h9, hg⟩ := elet_some hg
  obtain ⟨x10, h10, hg⟩ := elet_some hg
  obtain ⟨-, hg⟩ := oif_some hg
  obtain ⟨-, hg⟩ := oif_some hg
  obtain ⟨T13, e13, hg⟩ := elet_some hg
  obtain ⟨x14, h14, hg⟩ := elet_some hg
  have l13 : LQ T T13 := by rw [e13]; exact lq_uJ
  have q9 : x9.toInt = (T.2.2.2.1 x i.toNatClampNeg).toInt := by rw [h9]
  have q10 := l_add h10 (by omega) (by omega)
  unfold g_X10_addProduct_b17 at hg
  obtain ⟨-, hg⟩ := oif_some hg
  obtain ⟨y3, p3, hg⟩ := elet_some hg
  rw [l13.2.2.1, u4] at p3
  rw [if_neg (by rw [p3, h14]; decide)] at hg
  obtain ⟨-, hg⟩ := oif_some hg
  obtain ⟨y6, p6, hg⟩ := elet_some hg
  obtain ⟨-, hg⟩ := oif_some hg
  obtain ⟨y8, p8, hg⟩ := elet_some hg
  rw [l13.2.2.1, b3] at p6 p8
  obtain ⟨y9, p9, hg⟩ := elet_some hg
  obtain ⟨y10, p10, hg⟩ := elet_some hg
  rw [if_pos (by rw [p10, p9, p8, p6, h14]; decide)] at hg
  unfold g_X10_addProduct_b133 g_X10_addProduct_b138 at hg
  obtain ⟨-, hg⟩ := oif_some hg
  obtain ⟨T3, g3, hg⟩ := obind_some hg
  rw [osome1 hg] at g3
  have a0 : T13.2.2.2.1 x i.toNatClampNeg = x10 := by rw [e13, uj_get, if_pos ⟨rfl, rfl⟩]
  have a1 : T13.2.2.2.1 y i.toNatClampNeg = T.2.2.2.1 y i.toNatClampNeg := by rw [e13, uj_get, if_neg (fun w => u5 w.1.symm)]
  obtain ⟨l3, r3, le3⟩ := c_settle2 (v := v + s) (hu.lq l13) (by rw [a0]; omega) (by rw [a1]; omega) (by rw [a0, a1]; omega) (by omega) g3
  refine ⟨l13.tr l3, r3, fun m j hmj => ?_⟩
  rw [le3 m j hmj, e13, uj_get, if_neg (fun w => by rcases hmj with q | q; exact q.1 w.1; exact q w.2)]
/-- a number of two parts is divided, rounded down -/
theorem c_div2 {i n : Int32} {v : Int} (hu : U2 T o x y) (hV : V2 T x y i.toNatClampNeg v) (hn : 1 ≤ n.toInt ∧ n.toInt ≤ 200) (hg : g_X10_divide T o i n = some T1) : LQ T T1 ∧ V2 T1 x y i.toNatClampNeg (v / n.toInt) ∧ LE T T1 x y i.toNatClampNeg := by
  have z0 : (0 : Int32).toInt = 0 := by decide
  have y0 : (0 : Int64).toInt = 0 := by decide
  obtain ⟨u1, u2, u3, u4, u5⟩ := id hu
  obtain ⟨V0, V1, Vv⟩ := hV
  unfold g_X10_divide at hg
  rw [if_pos (Int32.lt_iff_toInt_lt.mpr (by omega))] at hg
  obtain ⟨-, hg⟩ := oif_some hg
  obtain ⟨n4, en, hg⟩ := obind_some hg
  rw [u1] at en
  cases en
  obtain ⟨-, hg⟩ := oif_some hg
  obtain ⟨v6, d6, hg⟩ := elet_some hg
  rw [u4] at d6
  obtain ⟨v7, d7, hg⟩ := elet_some hg
  have e7 : v7 = 1 := by rw [d7, d6]; decide
  obtain ⟨-, hg⟩ := oif_some hg
  obtain ⟨-, hg⟩ := oif_some hg
  obtain ⟨n10, en, hg⟩ := obind_some hg
  rw [e7, show (1 : Int32).toNatClampNeg = 1 from rfl, u3] at en
  cases en
  obtain ⟨-, hg⟩ := oif_some hg
  obtain ⟨-, hg⟩ := oif_some hg
  obtain ⟨v13, d13, hg⟩ := elet_some hg
  obtain ⟨v14, d14, hg⟩ := elet_some hg
  have q13 : v13.toInt = (T.2.2.2.1 y i.toNatClampNeg).toInt := by rw [d13]
  rw [if_pos (by rw [d14]; exact (lg_cmp_ge _ _).mpr (Int64.le_iff_toInt_le.mpr (by omega)))] at hg
  unfold g_X10_divide_b28 at hg
  obtain ⟨-, hg⟩ := oif_some hg
  obtain ⟨w3, f3, hg⟩ := elet_some hg
  rw [u4] at f3
  obtain ⟨w4, f4, hg⟩ := elet_some hg
  have g4 : w4 = 1 := by rw [f4, f3]; decide
  rw [g4, show (16384 : Nat) = 16381 + 1 + 1 + 1 from rfl] at hg
  unfold g_X10_divide_b40 at hg
  rw [if_neg (by decide)] at hg
  obtain ⟨w21, f21, hg⟩ := elet_some hg
  have q21 := l_shl f21 (by omega) (by omega)
  obtain ⟨-, hg⟩ := oif_some hg
  obtain ⟨n23, en, hg⟩ := obind_some hg
  rw [u1] at en
  cases en
  obtain ⟨-, hg⟩ := oif_some hg
  obtain ⟨-, hg⟩ := oif_some hg
  obtain ⟨n26, en, hg⟩ := obind_some hg
  rw [show (1 : Int32).toNatClampNeg = 1 from rfl, u3] at en
  cases en
  obtain ⟨-, hg⟩ := oif_some hg
  obtain ⟨-, hg⟩ := oif_some hg
  obtain ⟨w29, f29, hg⟩ := elet_some hg
  obtain ⟨w30, f30, hg⟩ := elet_some hg
  have q29 : w29.toInt = (T.2.2.2.1 y i.toNatClampNeg).toInt := by rw [f29]
  have q30 := l_add f30 (by omega) (by omega)
  obtain ⟨-, hg⟩ := oif_some hg
  obtain ⟨n32, en, hg⟩ := obind_some hg
  rw [u1] at en
  cases en
  obtain ⟨-, hg⟩ := oif_some hg
  obtain ⟨-, hg⟩ := oif_some hg
  obtain ⟨n35, en, hg⟩ := obind_some hg
  rw [show (1 : Int32).toNatClampNeg = 1 from rfl, u3] at en
  cases en
  obtain ⟨w36, f36, hg⟩ := elet_some hg
  have q36 : w36.toInt = n.toInt := by rw [f36, Int32.toInt_toInt64]
  obtain ⟨r37, g37, hg⟩ := obind_some hg
  have q37 := c_fdiv (by omega) (by omega) g37
  obtain ⟨-, hg⟩ := oif_some hg
  obtain ⟨-, hg⟩ := oif_some hg
  obtain ⟨T41, e41, hg⟩ := elet_some hg
  have l41 : LQ T T41 := by rw [e41]; exact lq_uJ
  obtain ⟨w42, f42, hg⟩ := elet_some hg
  have q42 : w42.toInt = n.toInt := by rw [f42, Int32.toInt_toInt64]
  obtain ⟨r43, g43, hg⟩ := obind_some hg
  have q43 := c_fmod (by omega) (by omega) g43
  obtain ⟨w45, f45, hg⟩ := elet_some hg
  have g45 : w45 = 0 := by rw [f45]; decide
  rw [q36] at q37
  rw [q42] at q43
  have r0 := Int.emod_nonneg w30.toInt (show n.toInt ≠ 0 by omega)
  have r1 := Int.emod_lt_of_pos w30.toInt (show 0 < n.toInt by omega)
  rw [g45] at hg
  unfold g_X10_divide_b40 at hg
  rw [if_neg (by decide)] at hg
  obtain ⟨x21, h21, hg⟩ := elet_some hg
  have p21 := l_shl h21 (by omega) (by omega)
  obtain ⟨-, hg⟩ := oif_some hg
  obtain ⟨n23, en, hg⟩ := obind_some hg
  rw [l41.2.2.2, u1] at en
  cases en
  obtain ⟨-, hg⟩ := oif_some hg
  obtain ⟨-, hg⟩ := oif_some hg
  obtain ⟨n26, en, hg⟩ := obind_some hg
  rw [show (0 : Int32).toNatClampNeg = 0 from rfl, l41.2.2.2, u2] at en
  cases en
  obtain ⟨-, hg⟩ := oif_some hg
  obtain ⟨-, hg⟩ := oif_some hg
  obtain ⟨x29, h29, hg⟩ := elet_some hg
  rw [e41, uj_get, if_neg (fun w => u5 w.1)] at h29
  obtain ⟨x30, h30, hg⟩ := elet_some hg
  have p29 : x29.toInt = (T.2.2.2.1 x i.toNatClampNeg).toInt := by rw [h29]
  have p30 := l_add h30 (by omega) (by omega)
  obtain ⟨-, hg⟩ := oif_some hg
  obtain ⟨n32, en, hg⟩ := obind_some hg
  rw [l41.2.2.2, u1] at en
  cases en
  obtain ⟨-, hg⟩ := oif_some hg
  obtain ⟨-, hg⟩ := oif_some hg
  obtain ⟨n35, en, hg⟩ := obind_some hg
  rw [show (0 : Int32).toNatClampNeg = 0 from rfl, l41.2.2.2, u2] at en
  cases en
  obtain ⟨x36, h36, hg⟩ := elet_some hg
  have p36 : x36.toInt = n.toInt := by rw [h36, Int32.toInt_toInt64]
  obtain ⟨s37, k37, hg⟩ := obind_some hg
  have p37 := c_fdiv (by omega) (by omega) k37
  rw [p36] at p37
  obtain ⟨-, hg⟩ := oif_some hg
  obtain ⟨-, hg⟩ := oif_some hg
  obtain ⟨U41, k41, hg⟩ := elet_some hg
  have m41 : LQ T41 U41 := by rw [k41]; exact lq_uJ
  obtain ⟨x42, h42, hg⟩ := elet_some hg
  obtain ⟨s43, k43, hg⟩ := obind_some hg
  obtain ⟨x45, h45, hg⟩ := elet_some hg
  have j45 : x45 = -1 := by rw [h45]; decide
  rw [j45] at hg
  unfold g_X10_divide_b40 g_X10_divide_b121 at hg
  rw [if_pos (by decide), if_pos rfl] at hg
  have at41 : ∀ m j, U41.2.2.2.1 m j = if m = x ∧ j = i.toNatClampNeg then s37 else if m = y ∧ j = i.toNatClampNeg then r37 else T.2.2.2.1 m j := by
    intro m j
    rw [k41, uj_get, e41, uj_get]
  -- the digits
  have hw30 : w30.toInt = (T.2.2.2.1 y i.toNatClampNeg).toInt := by omega
  have hr43 : r43.toInt = w30.toInt % n.toInt := q43
  have hx30 : x30.toInt = w30.toInt % n.toInt * 268435456 + (T.2.2.2.1 x i.toNatClampNeg).toInt := by omega
  have d1 := Int.mul_ediv_add_emod w30.toInt n.toInt
  have dn1 := Int.ediv_nonneg (show 0 ≤ w30.toInt by omega) (show 0 ≤ n.toInt by omega)
  have dl1 := Int.ediv_le_self n.toInt (show 0 ≤ w30.toInt by omega)
  have dn2 := Int.ediv_nonneg (show 0 ≤ x30.toInt by omega) (show 0 ≤ n.toInt by omega)
  have dlt : x30.toInt / n.toInt < 268435456 := Int.ediv_lt_of_lt_mul (by omega) (by
    have a : (w30.toInt % n.toInt + 1) * 268435456 ≤ n.toInt * 268435456 := Int.mul_le_mul_of_nonneg_right (by omega) (by decide)
    rw [Int.mul_comm 268435456 n.toInt]
    omega)
  have tot : v / n.toInt = w30.toInt / n.toInt * 268435456 + x30.toInt / n.toInt := by
    have a : v = x30.toInt + n.toInt * (w30.toInt / n.toInt * 268435456) := by
      have c : n.toInt * (w30.toInt / n.toInt * 268435456) = n.toInt * (w30.toInt / n.toInt) * 268435456 := (Int.mul_assoc _ _ _).symm
      rw [c]
      generalize n.toInt * (w30.toInt / n.toInt) = k at d1 ⊢
      omega
    rw [a, Int.add_mul_ediv_left _ _ (by omega), Int.add_comm]
  rw [← osome1 hg]
  refine ⟨l41.tr m41, ⟨?_, ?_, ?_⟩, fun m j hmj => ?_⟩
  · rw [at41, if_pos ⟨rfl, rfl⟩, p37]
    exact ⟨dn2, dlt⟩
  · rw [at41, if_neg (fun w => u5 w.1.symm), if_pos ⟨rfl, rfl⟩, q37]
    omega
  · rw [at41, at41, if_neg (fun w => u5 w.1.symm), if_pos ⟨rfl, rfl⟩, if_pos ⟨rfl, rfl⟩, p37, q37, tot]
  · rw [at41, if_neg (fun w => by rcases hmj with q | q; exact q.1 w.1; exact q w.2), if_neg (fun w => by rcases hmj with q | q; exact q.2 w.1; exact q w.2)]
end
