/-! longs of the class as integers; a number of one part put down; the recordings in one part -/
section
variable {T T1 T0 : AT} {S : MS} {P A : Nat → Int32} {s d o x : Nat} {c4 n2 c5 c71 c77 : Nat}
theorem l_add {v x y : Int64} (e : v = x + y) (h1 : -9223372036854775808 ≤ x.toInt + y.toInt) (h2 : x.toInt + y.toInt ≤ 9223372036854775807) : v.toInt = x.toInt + y.toInt := by rw [e, Int64.toInt_add, bm64 h1 h2]
theorem l_mul {v x y : Int64} (e : v = x * y) (h1 : -9223372036854775808 ≤ x.toInt * y.toInt) (h2 : x.toInt * y.toInt ≤ 9223372036854775807) : v.toInt = x.toInt * y.toInt := by rw [e, Int64.toInt_mul, bm64 h1 h2]
theorem z28 : ((28 : Int32).toInt64 &&& 63) = (28 : Int64) := by decide
theorem l_shr {v x : Int64} (e : v = x >>> ((28 : Int32).toInt64 &&& 63)) : v.toInt = x.toInt / 268435456 := by
  rw [e, z28]
  show (x.toBitVec.sshiftRight' ((28 : Int64).toBitVec.smod 64)).toInt = _
  rw [show ((28 : Int64).toBitVec.smod 64) = 28#64 by decide]
  show (x.toBitVec.sshiftRight 28).toInt = _
  rw [BitVec.toInt_sshiftRight, Int.shiftRight_eq_div_pow]
  rfl
theorem l_nat {x : Int64} (h : 0 ≤ x.toInt) : ((x.toBitVec.toNat : Nat) : Int) = x.toInt := by
  have e : x.toInt = x.toBitVec.toInt := rfl
  have q := BitVec.toInt_eq_toNat_cond x.toBitVec
  have l := x.toBitVec.isLt
  rw [e] at h ⊢
  split at q
  · exact q.symm
  · omega
theorem l_ofn {v : Int64} {n : Nat} (h : v.toBitVec.toNat = n) (hn : n < 9223372036854775808) : v.toInt = (n : Int) := by
  have e : v.toInt = v.toBitVec.toInt := rfl
  have q := BitVec.toInt_eq_toNat_cond v.toBitVec
  rw [e, q, h, if_pos (by omega)]
theorem l_and {v x : Int64} (e : v = x &&& 268435455) (h : 0 ≤ x.toInt) : v.toInt = x.toInt % 268435456 := by
  have hx := l_nat h
  have q : v.toBitVec.toNat = x.toBitVec.toNat % 268435456 := by
    rw [e]
    show (x.toBitVec &&& (268435455 : Int64).toBitVec).toNat = _
    rw [BitVec.toNat_and, show (268435455 : Int64).toBitVec.toNat = 2 ^ 28 - 1 by decide, Nat.and_two_pow_sub_one_eq_mod]
  rw [l_ofn q (by omega), ← hx, Int.natCast_emod]
  rfl
theorem l_shl {v x : Int64} (e : v = x <<< ((28 : Int32).toInt64 &&& 63)) (h : 0 ≤ x.toInt) (h2 : x.toInt < 4294967296) : v.toInt = x.toInt * 268435456 := by
  have hx := l_nat h
  have q : v.toBitVec.toNat = x.toBitVec.toNat * 268435456 := by
    rw [e, z28]
    show (x.toBitVec <<< ((28 : Int64).toBitVec.smod 64)).toNat = _
    rw [show ((28 : Int64).toBitVec.smod 64) = 28#64 by decide]
    show (x.toBitVec <<< 28).toNat = _
    rw [BitVec.toNat_shiftLeft, Nat.shiftLeft_eq, Nat.mod_eq_of_lt (by omega)]
  rw [l_ofn q (by omega), Int.natCast_mul, hx]
  rfl
theorem l_lt {x y : Int64} : x < y ↔ x.toInt < y.toInt := Int64.lt_iff_toInt_lt
theorem l_beyond {v : Int64} {r : Int32} (h : -268435456 ≤ v.toInt ∧ v.toInt < 268435456) (hg : g_X10_isBeyondPart v = some r) : r = 0 := by
  unfold g_X10_isBeyondPart g_X10_isBeyondPart_b23 g_X10_isBeyondPart_b24 at hg
  obtain ⟨v2, d2, hg⟩ := elet_some hg
  have q2 := l_shr d2
  obtain ⟨v3, d3, hg⟩ := elet_some hg
  rcases oif_or hg with ⟨c, hg⟩ | ⟨c, hg⟩
  · obtain ⟨-, hg⟩ := oif_some hg
    exact (osome1 hg).symm
  · obtain ⟨v5, d5, hg⟩ := elet_some hg
    rcases oif_or hg with ⟨c2, hg⟩ | ⟨c2, hg⟩
    · obtain ⟨-, hg⟩ := oif_some hg
      exact (osome1 hg).symm
    · have n1 : ¬ v2 = 0 := fun w => c (by rw [d3]; exact (lg_cmp_eq v2 0).mpr w)
      have n2 : ¬ v2 = -1 := fun w => c2 (by rw [d5]; exact (lg_cmp_eq v2 (-1)).mpr w)
      have z0 : (0 : Int64).toInt = 0 := by decide
      have z1 : (-1 : Int64).toInt = -1 := by decide
      have m1 : ¬ v2.toInt = 0 := fun w => n1 (Int64.toInt_inj.mp (by omega))
      have m2 : ¬ v2.toInt = -1 := fun w => n2 (Int64.toInt_inj.mp (by omega))
      omega
theorem uj_get {n k : Nat} {v : Int64} (m j : Nat) : (uJ T n k v).2.2.2.1 m j = if m = n ∧ j = k then v else T.2.2.2.1 m j := by
  show va_up T.2.2.2.1 n (vp_updL (T.2.2.2.1 n) k v) m j = _
  by_cases e : m = n
  · subst e
    rw [va_up_self]
    unfold vp_updL
    by_cases e2 : j = k
    · rw [if_pos e2, if_pos ⟨rfl, e2⟩]
    · rw [if_neg e2, if_neg (fun q => e2 q.2)]
  · rw [va_up_ne _ _ e, if_neg (fun q => e q.1)]
/-- but for longs the class's cells are as they were -/
def LQ (T T1 : AT) : Prop := T1.1 = T.1 ∧ T1.2.1 = T.2.1 ∧ T1.2.2.1 = T.2.2.1 ∧ T1.2.2.2.2 = T.2.2.2.2
theorem LQ.rf : LQ T T := ⟨rfl, rfl, rfl, rfl⟩
theorem LQ.tr (h : LQ T0 T) (k : LQ T T1) : LQ T0 T1 := ⟨k.1.trans h.1, k.2.1.trans h.2.1, k.2.2.1.trans h.2.2.1, k.2.2.2.trans h.2.2.2⟩
theorem lq_uJ {n k : Nat} {v : Int64} : LQ T (uJ T n k v) := ⟨rfl, rfl, rfl, rfl⟩
/-- a table of numbers of one part: its part is row x -/
def W1 (T : AT) (o x : Nat) : Prop := T.2.2.2.2 o 1 = some (o + 1) ∧ T.2.2.2.2 (o + 1) 0 = some x ∧ T.2.2.1 o 2 = 1
theorem W1.lq (h : W1 T o x) (k : LQ T T1) : W1 T1 o x := by
  unfold W1
  rw [k.2.2.1, k.2.2.2]
  exact h
theorem c_clear1 {i : Int32} (hw : W1 T o x) (hg : g_X10_clear T o i = some T1) : T1 = uJ T x i.toNatClampNeg 0 := by
  obtain ⟨h1, h0, hu⟩ := hw
  unfold g_X10_clear at hg
  rw [show (16384 : Nat) = 16382 + 1 + 1 from rfl] at hg
  unfold g_X10_clear_b2 at hg
  obtain ⟨-, hg⟩ := oif_some hg
  obtain ⟨v3, d3, hg⟩ := elet_some hg
  rw [hu] at d3
  rw [if_neg (by rw [d3]; decide)] at hg
  obtain ⟨-, hg⟩ := oif_some hg
  obtain ⟨n6, en, hg⟩ := obind_some hg
  rw [h1] at en
  cases en
  obtain ⟨-, hg⟩ := oif_some hg
  obtain ⟨-, hg⟩ := oif_some hg
  obtain ⟨n9, en, hg⟩ := obind_some hg
  rw [show (0 : Int32).toNatClampNeg = 0 from rfl, h0] at en
  cases en
  obtain ⟨-, hg⟩ := oif_some hg
  obtain ⟨-, hg⟩ := oif_some hg
  obtain ⟨T12, e12, hg⟩ := elet_some hg
  obtain ⟨v13, d13, hg⟩ := elet_some hg
  unfold g_X10_clear_b2 at hg
  obtain ⟨-, hg⟩ := oif_some hg
  obtain ⟨w3, f3, hg⟩ := elet_some hg
  rw [e12, show (uJ T x i.toNatClampNeg 0).2.2.1 o 2 = T.2.2.1 o 2 from rfl, hu] at f3
  rw [if_pos (by rw [f3, d13]; decide)] at hg
  rw [← osome1 hg, e12]
theorem c_settle1 {i : Int32} (hw : W1 T o x) (hb : -268435456 ≤ (T.2.2.2.1 x i.toNatClampNeg).toInt ∧ (T.2.2.2.1 x i.toNatClampNeg).toInt < 268435456) (hg : g_X10_settle T o i = some T1) : T1 = T := by
  obtain ⟨h1, h0, hu⟩ := hw
  unfold g_X10_settle at hg
  rw [show (16384 : Nat) = 16383 + 1 from rfl] at hg
  unfold g_X10_settle_b2 at hg
  obtain ⟨v2, d2, hg⟩ := elet_some hg
  obtain ⟨-, hg⟩ := oif_some hg
  obtain ⟨v4, d4, hg⟩ := elet_some hg
  rw [hu] at d4
  rw [if_pos (by rw [d4, d2]; decide)] at hg
  obtain ⟨-, hg⟩ := oif_some hg
  obtain ⟨v7, d7, hg⟩ := elet_some hg
  obtain ⟨v8, d8, hg⟩ := elet_some hg
  rw [hu] at d7
  have e8 : v8 = 0 := by rw [d8, d7]; decide
  rw [e8, show (16384 : Nat) = 16383 + 1 from rfl] at hg
  unfold g_X10_settle_b64 g_X10_settle_b99 at hg
  obtain ⟨w2, f2, hg⟩ := elet_some hg
  rw [if_neg (by rw [f2]; decide)] at hg
  obtain ⟨-, hg⟩ := oif_some hg
  obtain ⟨n5, en, hg⟩ := obind_some hg
  rw [h1] at en
  cases en
  obtain ⟨-, hg⟩ := oif_some hg
  obtain ⟨-, hg⟩ := oif_some hg
  obtain ⟨n8, en, hg⟩ := obind_some hg
  rw [show (0 : Int32).toNatClampNeg = 0 from rfl, h0] at en
  cases en
  obtain ⟨-, hg⟩ := oif_some hg
  obtain ⟨-, hg⟩ := oif_some hg
  obtain ⟨v11, d11, hg⟩ := elet_some hg
  obtain ⟨r12, g12, hg⟩ := obind_some hg
  rw [d11] at g12
  rw [if_pos (l_beyond hb g12)] at hg
  exact (osome1 hg).symm
theorem c_put1 {i v : Int32} (hw : W1 T o x) (hv : -9999 ≤ v.toInt ∧ v.toInt ≤ 9999) (hg : g_X10_put T o i v = some T1) : LQ T T1 ∧ ∀ m j, T1.2.2.2.1 m j = if m = x ∧ j = i.toNatClampNeg then v.toInt64 else T.2.2.2.1 m j := by
  unfold g_X10_put at hg
  obtain ⟨-, hg⟩ := oif_some hg
  obtain ⟨T3, g3, hg⟩ := obind_some hg
  have e3 := c_clear1 hw g3
  have l3 : LQ T T3 := by rw [e3]; exact lq_uJ
  have w3 := hw.lq l3
  obtain ⟨-, hg⟩ := oif_some hg
  obtain ⟨n6, en, hg⟩ := obind_some hg
  rw [w3.1] at en
  cases en
  obtain ⟨-, hg⟩ := oif_some hg
  obtain ⟨-, hg⟩ := oif_some hg
  obtain ⟨n9, en, hg⟩ := obind_some hg
  rw [show (0 : Int32).toNatClampNeg = 0 from rfl, w3.2.1] at en
  cases en
  obtain ⟨v10, d10, hg⟩ := elet_some hg
  obtain ⟨-, hg⟩ := oif_some hg
  obtain ⟨-, hg⟩ := oif_some hg
  obtain ⟨T13, e13, hg⟩ := elet_some hg
  have l13 : LQ T3 T13 := by rw [e13]; exact lq_uJ
  obtain ⟨-, hg⟩ := oif_some hg
  obtain ⟨T15, g15, hg⟩ := obind_some hg
  unfold g_X10_put_b20 at hg
  have at13 : T13.2.2.2.1 x i.toNatClampNeg = v.toInt64 := by rw [e13, uj_get, if_pos ⟨rfl, rfl⟩, d10]
  have e15 := c_settle1 (w3.lq l13) (by rw [at13, Int32.toInt_toInt64]; omega) g15
  rw [← osome1 hg, e15]
  refine ⟨l3.tr l13, fun m j => ?_⟩
  rw [e13, uj_get, d10]
  by_cases e : m = x ∧ j = i.toNatClampNeg
  · rw [if_pos e, if_pos e]
  · rw [if_neg e, if_neg e, e3, uj_get, if_neg e]
/-- what a microphone hears, with gain and clock -/
def rwG (P : Nat → Int32) (G : Nat → Int32 → Int32) (m : Nat) (u : Int32) : Int32 := if 0 ≤ u - P (83 + m) then P (35 + m) * G m (u - P (83 + m)) else 0
def HG (T : AT) (G : Nat → Int32 → Int32) (c4 n2 : Nat) : Prop := ∀ m u, m < c4 → u < n2 → T.2.2.1 (9 + m) u = G m (nI u)
theorem c_raw {G : Nat → Int32 → Int32} {m : Nat} {v r : Int32} (hs : s = 478 ∨ s = 656) (hP : PL P) (hE : SCE s T P) (hc : CRF T) (e4 : P 4 = nI c4) (l4 : c4 ≤ 12) (l2 : n2 ≤ 200) (hG : HG T G c4 n2) (hm : m < c4) (hv : -100 ≤ v.toInt ∧ v.toInt < (n2 : Int)) (hg : g_X5_raw T 7 s (nI m) v = some (r, T1)) : T1 = T ∧ r = rwG P G m v := by
  have z0 : (0 : Int32).toInt = 0 := by decide
  have z200 : (200 : Int32).toInt = 200 := by decide
  have hF := hc.srf hs
  have km : (nI m).toNatClampNeg = m := nI_clamp (by omega)
  obtain ⟨gH, ⟨mc, m1, m2, m3, m4, -⟩, -⟩ := hE
  have m4c : m < mc := by
    have a : (nI mc).toInt = (mc : Int) := nI_toInt (by omega)
    have b : (nI c4).toInt = (c4 : Int) := nI_toInt (by omega)
    rw [← m3, e4, b] at a
    omega
  obtain ⟨v0, v1, v2, v3⟩ := m4 m m4c
  have b83 := hP.2.2.2.2.2.2.2.2.2.2.2.2.2.1 (83 + m) (by omega) (by omega)
  unfold g_X5_raw g_X5_raw_b48 g_X5_raw_b49 at hg
  obtain ⟨-, hg⟩ := oif_some hg
  obtain ⟨n3, en, hg⟩ := obind_some hg
  rw [hF.1] at en
  cases en
  obtain ⟨-, hg⟩ := oif_some hg
  obtain ⟨-, hg⟩ := oif_some hg
  obtain ⟨n6, en, hg⟩ := obind_some hg
  rw [km, hF.2.2.2.2.2.2.2.2.1 m (by omega)] at en
  cases en
  obtain ⟨-, hg⟩ := oif_some hg
  obtain ⟨v8, d8, hg⟩ := elet_some hg
  rw [v3] at d8
  obtain ⟨v9, d9, hg⟩ := elet_some hg
  have q8 : v8.toInt = (P (83 + m)).toInt := by rw [d8]
  have q9 := i_sub d9 (by omega) (by omega)
  unfold rwG
  rw [← d8, ← d9]
  rcases oif_or hg with ⟨c, hg⟩ | ⟨c, hg⟩
  · have c := i_lt c
    rw [if_neg (fun w => by have := i_le w; omega), ← (osome2 hg).1, ← (osome2 hg).2]
    exact ⟨rfl, rfl⟩
  · have c := i_nlt c
    rw [if_pos (Int32.le_iff_toInt_le.mpr c)]
    rcases oif_or hg with ⟨c2, hg⟩ | ⟨c2, hg⟩
    · have c2 := i_le c2
      omega
    · obtain ⟨-, hg⟩ := oif_some hg
      obtain ⟨n13, en, hg⟩ := obind_some hg
      rw [hF.1] at en
      cases en
      obtain ⟨-, hg⟩ := oif_some hg
      obtain ⟨-, hg⟩ := oif_some hg
      obtain ⟨n16, en, hg⟩ := obind_some hg
      rw [km, hF.2.2.2.2.2.2.2.2.1 m (by omega)] at en
      cases en
      obtain ⟨-, hg⟩ := oif_some hg
      obtain ⟨v18, d18, hg⟩ := elet_some hg
      rw [v2] at d18
      obtain ⟨-, hg⟩ := oif_some hg
      obtain ⟨n20, en, hg⟩ := obind_some hg
      rw [(rc_rf hc).1] at en
      cases en
      obtain ⟨-, hg⟩ := oif_some hg
      obtain ⟨-, hg⟩ := oif_some hg
      obtain ⟨n23, en, hg⟩ := obind_some hg
      rw [km, (rc_rf hc).2.2 m (by omega)] at en
      cases en
      obtain ⟨-, hg⟩ := oif_some hg
      obtain ⟨-, hg⟩ := oif_some hg
      obtain ⟨v26, d26, hg⟩ := elet_some hg
      obtain ⟨v27, d27, hg⟩ := elet_some hg
      obtain ⟨w, hw, ew⟩ := nI_of01 (x := v9) (a := 200) (by omega) (by omega) (by omega)
      have wI : (nI w).toInt = (w : Int) := nI_toInt (by omega)
      rw [ew] at q9
      rw [ew, nI_clamp (by omega), hG m w hm (by omega)] at d26
      rw [← (osome2 hg).1, ← (osome2 hg).2, d27, d26, d18, ew]
      exact ⟨rfl, rfl⟩
theorem c_filtered {G : Nat → Int32 → Int32} {m t : Nat} {r : Int32} (hs : s = 478 ∨ s = 656) (hP : PL P) (hE : SCE s T P) (hc : CRF T) (hC : PCs P c4 n2 c5 c71 c77) (hG : HG T G c4 n2) (hm : m < c4) (ht : t < n2) (hg : g_X5_filtered T 7 s (nI m) (nI t) = some (r, T1)) : T1 = T ∧ r = flS P (fun u => rwG P G m (nI u)) t c77 := by
  obtain ⟨e4, l4, e2, l2, e5, l5, e71, l71, e77, l77⟩ := hC
  have z0 : (0 : Int32).toInt = 0 := by decide
  have hF := hc.srf hs
  have tI : (nI t).toInt = (t : Int) := nI_toInt (by omega)
  obtain ⟨gH, gM, gG, gS, gW, gF, ⟨w, w1, w2, w3, w4⟩, -⟩ := id hE
  have wc : w = c77 := by
    have a : (nI w).toInt = (w : Int) := nI_toInt (by omega)
    have b : (nI c77).toInt = (c77 : Int) := nI_toInt (by omega)
    rw [← w3, e77, b] at a
    omega
  have lp : ∀ (n j : Nat) {u : Int32}, j ≤ c77 → u = flS P (fun u => rwG P G m (nI u)) t j → g_X5_filtered_b6 n T 7 s (nI m) (nI t) u (nI j) = some (r, T1) → T1 = T ∧ r = flS P (fun u => rwG P G m (nI u)) t c77 := by
    intro n
    induction n with
    | zero => intro j u hj hu h; cases h
    | succ n ih =>
      intro j u hj hu h
      have jI : (nI j).toInt = (j : Int) := nI_toInt (by omega)
      have kj : (nI j).toNatClampNeg = j := nI_clamp (by omega)
      unfold g_X5_filtered_b6 at h
      obtain ⟨-, h⟩ := oif_some h
      obtain ⟨v3, d3, h⟩ := elet_some h
      rw [w2, ← w3, e77] at d3
      rcases oif_or h with ⟨q, h⟩ | ⟨q, h⟩
      · rw [d3] at q
        have q2 := (nI_leI (a := c77) (by omega) (by omega)).mp q
        rw [← (osome2 h).1, ← (osome2 h).2, hu, show j = c77 by omega]
        exact ⟨rfl, rfl⟩
      · rw [d3] at q
        have q2 : ¬ c77 ≤ j := fun z => q ((nI_leI (a := c77) (by omega) (by omega)).mpr z)
        obtain ⟨-, h⟩ := oif_some h
        obtain ⟨n6, en, h⟩ := obind_some h
        rw [hF.2.2.2.2.2.1] at en
        cases en
        obtain ⟨-, h⟩ := oif_some h
        obtain ⟨-, h⟩ := oif_some h
        obtain ⟨v9, d9, h⟩ := elet_some h
        rw [kj, w4 j (by omega)] at d9
        obtain ⟨v10, d10, h⟩ := elet_some h
        have q10 := i_sub d10 (by omega) (by omega)
        obtain ⟨-, h⟩ := oif_some h
        obtain ⟨r14, T12, g12, h⟩ := obind2_some h
        obtain ⟨e12, q12⟩ := c_raw hs hP hE hc e4 l4 l2 hG hm (by omega) g12
        rw [e12] at h
        obtain ⟨v16, d16, h⟩ := elet_some h
        obtain ⟨v17, d17, h⟩ := elet_some h
        obtain ⟨v18, d18, h⟩ := elet_some h
        rw [show v18 = nI (j + 1) from d18.trans (nI_p1 j)] at h
        refine ih (j + 1) (by omega) ?_ h
        rw [d17, d16, d9, q12, hu]
        show _ = flS P (fun u => rwG P G m (nI u)) t j + _
        by_cases c : j ≤ t
        · have w10 : (nI (t - j)).toInt = ((t - j : Nat) : Int) := nI_toInt (by omega)
          have e10 : v10 = nI (t - j) := Int32.toInt_inj.mp (by rw [q10, w10]; omega)
          rw [if_pos c, e10]
        · have b83 := hP.2.2.2.2.2.2.2.2.2.2.2.2.2.1 (83 + m) (by omega) (by omega)
          have n10 : ¬ 0 ≤ v10 - P (83 + m) := fun y => by
            have y2 := i_le y
            have y3 := i_sub (v := v10 - P (83 + m)) rfl (by omega) (by omega)
            omega
          rw [if_neg c]
          unfold rwG
          rw [if_neg n10, Int32.mul_zero]
  unfold g_X5_filtered at hg
  exact lp 16384 0 (Nat.zero_le _) rfl hg
/-- the recordings, each in one part -/
def RCq (T : AT) (x : Nat) (P : Nat → Int32) (G : Nat → Int32 → Int32) (m t : Nat) : Prop := T.2.2.2.1 x (200 * m + t) = (bdS P (fiS P (fun u => rwG P G m (nI u)) t)).toInt64
theorem bd_rg {v : Int32} (hP : PL P) : -9999 ≤ (bdS P v).toInt ∧ (bdS P v).toInt ≤ 9999 := by
  have p3 := pl_3 hP
  have n3 := i_neg (v := -P 3) rfl (by omega)
  unfold bdS
  by_cases c : v < P 3
  · rw [if_pos c]
    have c := i_lt c
    by_cases c2 : -P 3 < v
    · rw [if_pos c2]
      have c2 := i_lt c2
      omega
    · rw [if_neg c2]
      omega
  · rw [if_neg c]
    by_cases c2 : -P 3 < P 3
    · rw [if_pos c2]
      omega
    · rw [if_neg c2]
      omega
theorem HG.lq {G : Nat → Int32 → Int32} (h : HG T G c4 n2) (k : LQ T T1) : HG T1 G c4 n2 := by
  intro m u hm hu
  rw [k.2.2.1]
  exact h m u hm hu
theorem lq_sce (k : LQ T T1) (hE : SCE s T P) : SCE s T1 P := sce_eq hE ⟨fun j _ => by rw [k.2.2.1], fun j _ => by rw [k.2.2.1], fun j => by rw [k.2.2.1], fun m j _ _ => by rw [k.2.2.1], fun m j _ _ => by rw [k.2.2.1], fun m j _ _ _ => by rw [k.2.2.1], fun m j _ _ _ => by rw [k.2.2.1]⟩ (fun _ _ => rfl)
theorem c_fin9v {G : Nat → Int32 → Int32} (hs : s = 478 ∨ s = 656) (hd : d ∈ sds) (hP : PL P) (hC : PCs P c4 n2 c5 c71 c77) (hc : CRF T0) (hE : SCE s T0 P) (hG : HG T0 G c4 n2) (hw : W1 T0 (d + 8) x) : ∀ (n m : Nat) {T : AT}, m ≤ c4 → LQ T0 T → (∀ y j, y ≠ x → T.2.2.2.1 y j = T0.2.2.2.1 y j) → (∀ m' t, m' < m → t < n2 → RCq T x P G m' t) → g_X5_finish_b9 n T 7 s d (nI m) = some T1 → ∃ T2, LQ T0 T2 ∧ (∀ y j, y ≠ x → T2.2.2.2.1 y j = T0.2.2.2.1 y j) ∧ (∀ m' t, m' < c4 → t < n2 → RCq T2 x P G m' t) ∧ T1 = uI T2 d 2 0 := by
  obtain ⟨e4, l4, e2, l2, e5, l5, e71, l71, e77, l77⟩ := id hC
  have z200 : (200 : Int32).toInt = 200 := by decide
  intro n
  induction n with
  | zero => intro m T hm hq ho hr h; cases h
  | succ n ih =>
    intro m T hm hq ho hr h
    have mI : (nI m).toInt = (m : Int) := nI_toInt (by omega)
    unfold g_X5_finish_b9 at h
    obtain ⟨-, h⟩ := oif_some h
    obtain ⟨v3, d3, h⟩ := elet_some h
    have hE1 := lq_sce hq hE
    obtain ⟨gH, ⟨mc, m1, m2, m3, m4, -⟩, -⟩ := id hE1
    rw [m2, ← m3, e4] at d3
    rcases oif_or h with ⟨q, h⟩ | ⟨q, h⟩
    · rw [d3] at q
      have q2 := (nI_leI (a := c4) (by omega) (by omega)).mp q
      obtain ⟨-, h⟩ := oif_some h
      obtain ⟨T6, e6, h⟩ := elet_some h
      have e : c4 = m := by omega
      exact ⟨T, hq, ho, by rw [e]; exact hr, by rw [← osome1 h, e6]⟩
    rw [d3] at q
    have q2 : ¬ c4 ≤ m := fun z => q ((nI_leI (a := c4) (by omega) (by omega)).mpr z)
    have b20 : ∀ (f t : Nat) {T : AT}, t ≤ n2 → LQ T0 T → (∀ y j, y ≠ x → T.2.2.2.1 y j = T0.2.2.2.1 y j) → (∀ m' u, m' < m → u < n2 → RCq T x P G m' u) → (∀ u, u < t → RCq T x P G m u) → g_X5_finish_b20 (g_X5_finish_b9 n) f T 7 s d (nI m) (nI t) = some T1 → ∃ T2, LQ T0 T2 ∧ (∀ y j, y ≠ x → T2.2.2.2.1 y j = T0.2.2.2.1 y j) ∧ (∀ m' t, m' < c4 → t < n2 → RCq T2 x P G m' t) ∧ T1 = uI T2 d 2 0 := by
      intro f
      induction f with
      | zero => intro t T ht hq ho hr hr2 h; cases h
      | succ f ih2 =>
        intro t T ht hq ho hr hr2 h
        have tI : (nI t).toInt = (t : Int) := nI_toInt (by omega)
        have hcT := crf_eq hc hq.2.2.2
        have hET := lq_sce hq hE
        have b55 : ∀ {v : Int32}, t < n2 → v = fiS P (fun u => rwG P G m (nI u)) t → g_X5_finish_b55 (g_X5_finish_b9 n) (g_X5_finish_b20 (g_X5_finish_b9 n) f) T v 7 s d (nI m) (nI t) = some T1 → ∃ T2, LQ T0 T2 ∧ (∀ y j, y ≠ x → T2.2.2.2.1 y j = T0.2.2.2.1 y j) ∧ (∀ m' t, m' < c4 → t < n2 → RCq T2 x P G m' t) ∧ T1 = uI T2 d 2 0 := by
          intro v htn hv h
          unfold g_X5_finish_b55 at h
          obtain ⟨-, h⟩ := oif_some h
          obtain ⟨n3, en, h⟩ := obind_some h
          rw [(sd_rf hcT hd).2.2.2.2.2.2.2.1] at en
          cases en
          obtain ⟨r4, g4, h⟩ := obind_some h
          obtain ⟨-, h⟩ := oif_some h
          obtain ⟨v7, d7, h⟩ := elet_some h
          obtain ⟨v8, d8, h⟩ := elet_some h
          obtain ⟨-, h⟩ := oif_some h
          obtain ⟨v10, d10, h⟩ := elet_some h
          obtain ⟨v11, d11, h⟩ := elet_some h
          obtain ⟨v12, d12, h⟩ := elet_some h
          obtain ⟨-, h⟩ := oif_some h
          obtain ⟨T14, g14, h⟩ := obind_some h
          unfold g_X5_finish_b87 at h
          obtain ⟨w2, f2, h⟩ := elet_some h
          rw [show w2 = nI (t + 1) from f2.trans (nI_p1 t)] at h
          have e3 : T.2.2.1 s 3 = P 3 := hET.1.2.2.2
          have e12 : v12 = bdS P (fiS P (fun u => rwG P G m (nI u)) t) := by
            rw [d12, d11, d10, d8, d7, e3, hv]
            rfl
          have r12 : -9999 ≤ v12.toInt ∧ v12.toInt ≤ 9999 := by rw [e12]; exact bd_rg hP
          unfold g_X8_placeOf at g4
          obtain ⟨u2, h2, g4⟩ := elet_some g4
          obtain ⟨u3, h3, g4⟩ := elet_some g4
          have k4 : r4 = nI (200 * m + t) := by
            rw [← osome1 g4, h3, h2, Int32.mul_comm, ← nI_add, ← nI_mulk]
            rfl
          have c4' : r4.toNatClampNeg = 200 * m + t := by rw [k4]; exact nI_clamp (by omega)
          obtain ⟨l14, at14⟩ := c_put1 (hw.lq hq) r12 g14
          rw [c4'] at at14
          refine ih2 (t + 1) (by omega) (hq.tr l14) (fun y j hy => ?_) (fun m' u h1 h2 => ?_) (fun u hu => ?_) h
          · rw [at14, if_neg (fun w => hy w.1)]; exact ho y j hy
          · unfold RCq
            rw [at14, if_neg (by omega)]
            exact hr m' u h1 h2
          · unfold RCq
            rw [at14]
            by_cases e : u = t
            · rw [if_pos ⟨rfl, by rw [e]⟩, e12, e]
            · rw [if_neg (by omega)]
              exact hr2 u (by omega)
        unfold g_X5_finish_b20 at h
        obtain ⟨-, h⟩ := oif_some h
        obtain ⟨v3, d3, h⟩ := elet_some h
        rw [hET.1.2.2.1, e2] at d3
        rcases oif_or h with ⟨q, h⟩ | ⟨q, h⟩
        · rw [d3] at q
          have q2 := (nI_leI (a := n2) (by omega) (by omega)).mp q
          obtain ⟨v5, d5, h⟩ := elet_some h
          rw [show v5 = nI (m + 1) from d5.trans (nI_p1 m)] at h
          refine ih (m + 1) (by omega) hq ho (fun m' u h1 h2 => ?_) h
          by_cases e : m' = m
          · rw [e]; exact hr2 u (by omega)
          · exact hr m' u (by omega) h2
        · rw [d3] at q
          have q2 : ¬ n2 ≤ t := fun z => q ((nI_leI (a := n2) (by omega) (by omega)).mpr z)
          obtain ⟨-, h⟩ := oif_some h
          obtain ⟨v7, d7, h⟩ := elet_some h
          obtain ⟨gH, gM, gG, gS, gW, gF, ⟨w, w1, w2, w3, w4⟩, -⟩ := id hET
          rw [w2, ← w3, e77] at d7
          have i77 : (nI c77).toInt = (c77 : Int) := nI_toInt (by omega)
          have z0 : (0 : Int32).toInt = 0 := by decide
          rcases oif_or h with ⟨q7, h⟩ | ⟨q7, h⟩
          · have q7 := i_le q7
            rw [d7] at q7
            obtain ⟨-, h⟩ := oif_some h
            obtain ⟨r12, T10, g10, h⟩ := obind2_some h
            obtain ⟨e10, q10⟩ := c_raw hs hP hET hcT e4 l4 l2 (hG.lq hq) (by omega) (by omega) g10
            rw [e10] at h
            refine b55 (by omega) ?_ h
            unfold fiS
            rw [if_pos (by rw [e77]; exact Int32.toInt_inj.mp (by omega)), q10]
          · have q7 := i_nle q7
            rw [d7] at q7
            obtain ⟨-, h⟩ := oif_some h
            obtain ⟨r17, T15, g15, h⟩ := obind2_some h
            obtain ⟨e15, q15⟩ := c_filtered hs hP hET hcT hC (hG.lq hq) (by omega) (by omega) g15
            rw [e15] at h
            refine b55 (by omega) ?_ h
            unfold fiS
            rw [if_neg (by rw [e77]; intro y; rw [y] at q7; omega), q15, e77, nI_clamp (by omega)]
    exact b20 16384 0 (Nat.zero_le _) hq ho hr (fun u hu => absurd hu (Nat.not_lt_zero u)) h
/-- behind finish: one part, each sample as the plan has it -/
theorem c_finish {G : Nat → Int32 → Int32} (hs : s = 478 ∨ s = 656) (hd : d ∈ sds) (hP : PL P) (hC : PCs P c4 n2 c5 c71 c77) (hc : CRF T) (hE : SCE s T P) (hG : HG T G c4 n2) (hx1 : T.2.2.2.2 (d + 8) 1 = some (d + 9)) (hx : T.2.2.2.2 (d + 9) 0 = some x) (h : g_X5_finish T 7 s d = some T1) : ∃ T2, LQ (uI T (d + 8) 2 1) T2 ∧ (∀ y j, y ≠ x → T2.2.2.2.1 y j = T.2.2.2.1 y j) ∧ (∀ m' t, m' < c4 → t < n2 → RCq T2 x P G m' t) ∧ T1 = uI T2 d 2 0 := by
  have si := sd_in hd
  unfold g_X5_finish at h
  obtain ⟨-, h⟩ := oif_some h
  obtain ⟨n3, en, h⟩ := obind_some h
  rw [(sd_rf hc hd).2.2.2.2.2.2.2.1] at en
  cases en
  obtain ⟨-, h⟩ := oif_some h
  obtain ⟨T5, g5, h⟩ := obind_some h
  unfold g_X10_narrow at g5
  obtain ⟨-, g5⟩ := oif_some g5
  obtain ⟨T3, e3, g5⟩ := elet_some g5
  have e5 : T5 = uI T (d + 8) 2 1 := by rw [← osome1 g5, e3]
  rw [e5] at h
  have q : ∀ m k, m ≠ d + 8 → (uI T (d + 8) 2 1).2.2.1 m k = T.2.2.1 m k := fun m k e => ui_ne (.inl e)
  have sg : ∀ m, s ≤ m → m < s + 178 → m ≠ d + 8 := fun m a b => by omega
  have hE5 : SCE s (uI T (d + 8) 2 1) P := sce_eq hE ⟨fun j _ => q _ _ (sg _ (by omega) (by omega)), fun j _ => q _ _ (sg _ (by omega) (by omega)), fun j => q _ _ (sg _ (by omega) (by omega)), fun m j _ _ => q _ _ (sg _ (by omega) (by omega)), fun m j _ _ => q _ _ (sg _ (by omega) (by omega)), fun m j _ _ _ => q _ _ (sg _ (by omega) (by omega)), fun m j _ _ _ => q _ _ (sg _ (by omega) (by omega))⟩ (fun _ _ => rfl)
  have l4 := hC.2.1
  obtain ⟨T2, a, b, c, e⟩ := c_fin9v (T0 := uI T (d + 8) 2 1) hs hd hP hC (crf_eq hc rfl) hE5 (fun m u hm hu => by rw [q _ _ (by omega)]; exact hG m u hm hu) ⟨hx1, hx, ui_at⟩ 16384 0 (Nat.zero_le _) LQ.rf (fun _ _ _ => rfl) (fun m' t hm => absurd hm (Nat.not_lt_zero m')) h
  exact ⟨T2, a, b, c, e⟩
end
