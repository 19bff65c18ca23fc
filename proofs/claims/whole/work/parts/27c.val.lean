/-! what the class hears at one microphone, as a number of the plan -/
section
variable {T T1 T0 : AT} {S : MS} {P A : Nat → Int32} {r : Int32} {s o : Nat}
def wvT (T : AT) (o : Nat) (u : Int32) : Int32 := wvF (T.2.2.1 o 0) (T.2.2.1 o 5) (T.2.2.1 o 6) (T.2.2.1 o 7) (T.2.2.1 o 8) u
theorem a_rem2 {a b r : Int32} (hb : ¬ b = 0) (hg : g_X11_remainder a b = some r) : r = rmS a b := a_rem hb hg
theorem c_val {t : Int32} (h6 : ¬ T.2.2.1 o 6 = 0) (h5 : 0 ≤ (T.2.2.1 o 5).toInt ∧ (T.2.2.1 o 5).toInt ≤ 999) (hg : g_X7_valueAt T o t = some (r, T1)) : T1 = T ∧ r = wvT T o t := by
  have z2 : (2 : Int32).toInt = 2 := by decide
  have z1 : (1 : Int32).toInt = 1 := by decide
  have z0 : (0 : Int32).toInt = 0 := by decide
  unfold wvT wvF
  unfold g_X7_valueAt g_X7_valueAt_b78 g_X7_valueAt_b125 at hg
  obtain ⟨-, hg⟩ := oif_some hg
  obtain ⟨x3, t3, hg⟩ := elet_some hg
  rw [← t3]
  rcases oif_or hg with ⟨c, hg⟩ | ⟨c, hg⟩
  · rw [if_pos c]
    obtain ⟨-, hg⟩ := oif_some hg
    obtain ⟨x6, t6, hg⟩ := elet_some hg
    obtain ⟨x7, t7, hg⟩ := elet_some hg
    obtain ⟨-, hg⟩ := oif_some hg
    obtain ⟨x9, t9, hg⟩ := elet_some hg
    obtain ⟨r10, g10, hg⟩ := obind_some hg
    rw [t9] at g10
    have e10 := a_rem2 h6 g10
    rw [t7, t6] at e10
    rw [← e10]
    obtain ⟨-, hg⟩ := oif_some hg
    obtain ⟨x13, t13, hg⟩ := elet_some hg
    rw [← t13]
    rcases oif_or hg with ⟨c0, hg⟩ | ⟨c0, hg⟩
    · rw [if_pos c0]
      obtain ⟨-, hg⟩ := oif_some hg
      obtain ⟨x16, t16, hg⟩ := elet_some hg
      obtain ⟨x17, t17, hg⟩ := elet_some hg
      rw [t16] at t17
      rw [← t17]
      rcases oif_or hg with ⟨c1, hg⟩ | ⟨c1, hg⟩
      · obtain ⟨-, hg⟩ := oif_some hg
        obtain ⟨x20, t20, hg⟩ := elet_some hg
        obtain ⟨x21, t21, hg⟩ := elet_some hg
        rw [if_pos c1, ← (osome2 hg).1, ← (osome2 hg).2, t21, t20]
        exact ⟨rfl, rfl⟩
      · obtain ⟨-, hg⟩ := oif_some hg
        obtain ⟨x20, t20, hg⟩ := elet_some hg
        rw [if_neg c1, ← (osome2 hg).1, ← (osome2 hg).2, t20]
        exact ⟨rfl, rfl⟩
    · rw [if_neg c0]
      rcases oif_or hg with ⟨c1, hg⟩ | ⟨c1, hg⟩
      · rw [if_pos c1]
        obtain ⟨-, hg⟩ := oif_some hg
        obtain ⟨x26, t26, hg⟩ := elet_some hg
        obtain ⟨-, hg⟩ := oif_some hg
        obtain ⟨x28, t28, hg⟩ := elet_some hg
        obtain ⟨x29, t29, hg⟩ := elet_some hg
        obtain ⟨x30, t30, hg⟩ := elet_some hg
        obtain ⟨x31, t31, hg⟩ := elet_some hg
        obtain ⟨x32, t32, hg⟩ := elet_some hg
        obtain ⟨-, hg⟩ := oif_some hg
        obtain ⟨x34, t34, hg⟩ := elet_some hg
        obtain ⟨x35, t35, hg⟩ := elet_some hg
        obtain ⟨x36, t36, hg⟩ := elet_some hg
        obtain ⟨x37, t37, hg⟩ := elet_some hg
        obtain ⟨-, hg⟩ := oif_some hg
        obtain ⟨x39, t39, hg⟩ := elet_some hg
        obtain ⟨x40, t40, hg⟩ := elet_some hg
        obtain ⟨r41, g41, hg⟩ := obind_some hg
        obtain ⟨x43, t43, hg⟩ := elet_some hg
        rw [t37, t40, t39] at g41
        have e := a_quo h6 g41
        rw [← (osome2 hg).1, ← (osome2 hg).2, t43, e, t36, t35, t34, t32, t31, t30, t29, t28, t26]
        exact ⟨rfl, rfl⟩
      · rw [if_neg c1]
        rcases oif_or hg with ⟨c2, hg⟩ | ⟨c2, hg⟩
        · rw [if_pos c2]
          rcases oif_or hg with ⟨c3, hg⟩ | ⟨c3, hg⟩
          · obtain ⟨-, hg⟩ := oif_some hg
            obtain ⟨x47, t47, hg⟩ := elet_some hg
            rw [if_pos c3, ← (osome2 hg).1, ← (osome2 hg).2, t47]
            exact ⟨rfl, rfl⟩
          · rw [if_neg c3, ← (osome2 hg).1, ← (osome2 hg).2]
            exact ⟨rfl, rfl⟩
        · rw [if_neg c2]
          obtain ⟨x48, t48, hg⟩ := elet_some hg
          obtain ⟨x49, t49, hg⟩ := elet_some hg
          obtain ⟨x50, t50, hg⟩ := elet_some hg
          obtain ⟨x51, t51, hg⟩ := elet_some hg
          obtain ⟨-, hg⟩ := oif_some hg
          obtain ⟨x53, t53, hg⟩ := elet_some hg
          obtain ⟨x54, t54, hg⟩ := elet_some hg
          obtain ⟨x55, t55, hg⟩ := elet_some hg
          obtain ⟨-, hg⟩ := oif_some hg
          obtain ⟨x57, t57, hg⟩ := elet_some hg
          obtain ⟨x58, t58, hg⟩ := elet_some hg
          obtain ⟨x59, t59, hg⟩ := elet_some hg
          obtain ⟨r60, g60, hg⟩ := obind_some hg
          obtain ⟨-, hg⟩ := oif_some hg
          obtain ⟨x63, t63, hg⟩ := elet_some hg
          obtain ⟨x64, t64, hg⟩ := elet_some hg
          have q57 : x57.toInt = (T.2.2.1 o 5).toInt := by rw [t57]
          have q58 := i_mulk t58 z2 (by omega) (by omega)
          have q59 := i_add t59 (by omega) (by omega)
          have n59 : ¬ x59 = 0 := fun w => by rw [w] at q59; omega
          have e := a_rem2 n59 g60
          have e55 : 31 * t * t + 7919 * t + 104729 * T.2.2.1 o 7 = x55 := by rw [t55, t54, t53, t51, t50, t49, t48]
          have e59 : 2 * T.2.2.1 o 5 + 1 = x59 := by rw [t59, t58, t57]
          rw [e55, e59, ← e, ← (osome2 hg).1, ← (osome2 hg).2, t64, t63]
          exact ⟨rfl, rfl⟩
  · rw [if_neg c, ← (osome2 hg).1, ← (osome2 hg).2]
    exact ⟨rfl, rfl⟩
theorem c_arr {d t : Int32} (h6 : ¬ T.2.2.1 o 6 = 0) (h5 : 0 ≤ (T.2.2.1 o 5).toInt ∧ (T.2.2.1 o 5).toInt ≤ 999) (hp : 0 ≤ (P 76).toInt ∧ (P 76).toInt ≤ 999) (hd : 0 ≤ d.toInt ∧ d.toInt ≤ 65535) (E : T.2.2.1 s 12 = P 76) (hg : g_X5_arriving T s o d t = some (r, T1)) : T1 = T ∧ r = fdS P d (if d ≤ t then wvT T o (t - d) else 0) := by
  have z0 : (0 : Int32).toInt = 0 := by decide
  unfold g_X5_arriving g_X5_arriving_b47 at hg
  unfold fdS
  rcases oif_or hg with ⟨c, hg⟩ | ⟨c, hg⟩
  · rw [if_pos c]
    obtain ⟨v3, d3, hg⟩ := elet_some hg
    obtain ⟨-, hg⟩ := oif_some hg
    obtain ⟨r7, T5, g5, hg⟩ := obind2_some hg
    obtain ⟨e5, q5⟩ := c_val h6 h5 g5
    rw [e5] at hg
    obtain ⟨-, hg⟩ := oif_some hg
    obtain ⟨v10, d10, hg⟩ := elet_some hg
    rw [E] at d10
    rcases oif_or hg with ⟨q, hg⟩ | ⟨q, hg⟩
    · have q := i_le q
      rw [d10] at q
      have q76 : P 76 = 0 := Int32.toInt_inj.mp (by omega)
      rw [if_pos q76, ← (osome2 hg).1, ← (osome2 hg).2, q5, d3]
      exact ⟨rfl, rfl⟩
    · have q := i_nle q
      rw [d10] at q
      have q76 : ¬ P 76 = 0 := fun w => by rw [w] at q; omega
      obtain ⟨-, hg⟩ := oif_some hg
      obtain ⟨v13, d13, hg⟩ := elet_some hg
      obtain ⟨v14, d14, hg⟩ := elet_some hg
      obtain ⟨v15, d15, hg⟩ := elet_some hg
      obtain ⟨-, hg⟩ := oif_some hg
      obtain ⟨v17, d17, hg⟩ := elet_some hg
      obtain ⟨v18, d18, hg⟩ := elet_some hg
      obtain ⟨v19, d19, hg⟩ := elet_some hg
      obtain ⟨r20, g20, hg⟩ := obind_some hg
      obtain ⟨v22, d22, hg⟩ := elet_some hg
      rw [E] at d13 d17
      have q17 : v17.toInt = (P 76).toInt := by rw [d17]
      have q18 := i_add d18 (by omega) (by omega)
      rw [d15, d19] at g20
      have e := a_quo (fun w => by rw [w] at q18; omega) g20
      rw [if_neg q76, ← (osome2 hg).1, ← (osome2 hg).2, d22, e, d18, d17, d14, d13, q5, d3]
      exact ⟨rfl, rfl⟩
  · rw [if_neg c, ← (osome2 hg).1, ← (osome2 hg).2]
    refine ⟨rfl, ?_⟩
    by_cases q : P 76 = 0
    · rw [if_pos q]
    · rw [if_neg q, Int32.zero_mul, Int32.zero_div]
theorem d_same {m : Nat} {x y : Int32} (hg : g_X6_delayFrom T s m x y = some (r, T1)) : T1 = T := by
  unfold g_X6_delayFrom at hg
  obtain ⟨-, hg⟩ := oif_some hg
  obtain ⟨x3, t3, hg⟩ := elet_some hg
  obtain ⟨x4, t4, hg⟩ := elet_some hg
  obtain ⟨-, hg⟩ := oif_some hg
  obtain ⟨x6, t6, hg⟩ := elet_some hg
  obtain ⟨x7, t7, hg⟩ := elet_some hg
  obtain ⟨x8, t8, hg⟩ := elet_some hg
  obtain ⟨x9, t9, hg⟩ := elet_some hg
  obtain ⟨x10, t10, hg⟩ := elet_some hg
  obtain ⟨-, hg⟩ := oif_some hg
  obtain ⟨x12, t12, hg⟩ := elet_some hg
  obtain ⟨-, hg⟩ := oif_some hg
  obtain ⟨x14, t14, hg⟩ := elet_some hg
  obtain ⟨x15, t15, hg⟩ := elet_some hg
  obtain ⟨x16, t16, hg⟩ := elet_some hg
  obtain ⟨r17, g17, hg⟩ := obind_some hg
  obtain ⟨x19, t19, hg⟩ := elet_some hg
  obtain ⟨-, hg⟩ := oif_some hg
  obtain ⟨x21, t21, hg⟩ := elet_some hg
  obtain ⟨x22, t22, hg⟩ := elet_some hg
  obtain ⟨r23, g23, hg⟩ := obind_some hg
  obtain ⟨-, hg⟩ := oif_some hg
  obtain ⟨x26, t26, hg⟩ := elet_some hg
  obtain ⟨x27, t27, hg⟩ := elet_some hg
  obtain ⟨-, hg⟩ := oif_some hg
  obtain ⟨x29, t29, hg⟩ := elet_some hg
  obtain ⟨x30, t30, hg⟩ := elet_some hg
  obtain ⟨r31, g31, hg⟩ := obind_some hg
  obtain ⟨x33, t33, hg⟩ := elet_some hg
  obtain ⟨x34, t34, hg⟩ := elet_some hg
  exact (osome2 hg).2.symm
theorem c_dly {i : Nat} {x y : Int32} (hP : PL P) (hI : IC P S) (hE : SCE s T P) (hi : (i : Int) < (P 4).toInt) (hx : -9999 ≤ x.toInt ∧ x.toInt ≤ 9999) (hy : -9999 ≤ y.toInt ∧ y.toInt ≤ 9999) (hg : g_X6_delayFrom T s (s + 160 + i) x y = some (r, T1)) : T1 = T ∧ r = dlS P i x y ∧ 0 ≤ r.toInt ∧ r.toInt ≤ 65535 := by
  obtain ⟨gH, ⟨mc, m1, m2, m3, m4, -⟩, -⟩ := hE
  have p4 := pl_4 hP
  have i4 : i < mc := by
    rw [m3, nI_toInt (by omega)] at hi
    omega
  have iI : (nI i).toInt = (i : Int) := nI_toInt (by omega)
  have ki : (nI i).toNatClampNeg = i := nI_clamp (by omega)
  have eP : S.2.1 10 = P := hI.1
  obtain ⟨⟨r2, S2⟩, e2, q⟩ := sf_delayFrom hP S (nI i) x y hI ⟨by omega, by omega⟩ ⟨by omega, by omega⟩ ⟨by omega, by omega⟩
  obtain ⟨v0, v1, -⟩ := m4 i i4
  have k := k_from (S := S) (a := nI i) (by rw [eP]; exact hP) (by omega) (by omega) hx hy (by rw [eP]; exact gH.1) (by rw [eP]; exact gH.2.1) (by rw [ki, eP]; exact v0) (by rw [ki, eP]; exact v1) hg e2
  have e := x_delay (by omega) (by omega) e2
  refine ⟨d_same hg, ?_, ?_⟩
  · rw [k.2, e.2, eP, ki]
  · rw [k.2]; exact q.2
/-- but for what is heard the class's cells are as they were -/
def HQ (T T1 : AT) : Prop := T1.2.1 = T.2.1 ∧ T1.2.2.2.2 = T.2.2.2.2 ∧ ∀ m k, ¬ (9 ≤ m ∧ m < 21) → T1.2.2.1 m k = T.2.2.1 m k
theorem HQ.rf : HQ T T := ⟨rfl, rfl, fun _ _ _ => rfl⟩
theorem HQ.tr (h : HQ T0 T) (k : HQ T T1) : HQ T0 T1 := ⟨k.1.trans h.1, k.2.1.trans h.2.1, fun m j e => (k.2.2 m j e).trans (h.2.2 m j e)⟩
theorem hq_uI {n k : Nat} {v : Int32} (h : 9 ≤ n ∧ n < 21) : HQ T (uI T n k v) := ⟨rfl, rfl, fun m j e => ui_ne (.inl (fun q => e (by rw [q]; exact h)))⟩
theorem hq_sce (h : HQ T T1) (hs : s = 478 ∨ s = 656) (hE : SCE s T P) : SCE s T1 P := by
  have q := h.2.2
  exact sce_eq hE ⟨fun j _ => q _ _ (by omega), fun j _ => q _ _ (by omega), fun j => q _ _ (by omega), fun m j _ _ => q _ _ (by omega), fun m j _ _ => q _ _ (by omega), fun m j _ _ _ => q _ _ (by omega), fun m j _ _ _ => q _ _ (by omega)⟩ (fun _ _ => rfl)
/-- the source o sounds as source k of the plan (or as the point) -/
def SND (T : AT) (P : Nat → Int32) (pt pp : Int32) (o k : Nat) : Prop := (¬ T.2.2.1 o 6 = 0) ∧ (0 ≤ (T.2.2.1 o 5).toInt ∧ (T.2.2.1 o 5).toInt ≤ 999) ∧ ∀ u : Int32, 0 ≤ u.toInt → wvT T o u = wnS P pt pp k u
theorem hq_snd {pt pp : Int32} {k : Nat} (h : HQ T T1) (ho : 21 ≤ o) (hS : SND T P pt pp o k) : SND T1 P pt pp o k := by
  have q := h.2.2
  have e : ∀ u, wvT T1 o u = wvT T o u := fun u => by
    unfold wvT
    rw [q o 0 (by omega), q o 5 (by omega), q o 6 (by omega), q o 7 (by omega), q o 8 (by omega)]
  refine ⟨?_, ?_, fun u hu => (e u).trans (hS.2.2 u hu)⟩
  · rw [q o 6 (by omega)]; exact hS.1
  · rw [q o 5 (by omega)]; exact hS.2.1
/-- one place's part of what is heard -/
theorem c_hf {pt pp d t x y : Int32} {i k : Nat} (hp : 0 ≤ (P 76).toInt ∧ (P 76).toInt ≤ 999) (hS : SND T P pt pp o k) (hE : SCE s T P) (ht : 0 ≤ t.toInt ∧ t.toInt ≤ 199) (hd : d = dlS P i x y ∧ 0 ≤ d.toInt ∧ d.toInt ≤ 65535) (hg : g_X5_arriving T s o d t = some (r, T1)) : T1 = T ∧ r = hfS P pt pp i x y k t := by
  obtain ⟨gH, gM, gG, gS, gW, gF, -⟩ := hE
  obtain ⟨e, q⟩ := c_arr hS.1 hS.2.1 hp hd.2 gF hg
  refine ⟨e, ?_⟩
  rw [q]
  unfold hfS
  rw [← hd.1]
  by_cases c : d ≤ t
  · have c2 := i_le c
    rw [if_pos c, if_pos c, hS.2.2 (t - d) (by have := i_sub (v := t - d) rfl (by omega) (by omega); omega)]
  · rw [if_neg c, if_neg c]
theorem rc_dec : okc 7 && okc 8 && decide ((arf 7).getD 0 none = some 8) && decide ((arf 7).getD 1 none = some 21) && (List.range 12).all (fun i => decide ((arf 8).getD i none = some (9 + i))) = true := by decide +kernel
theorem rc_rf (hc : CRF T) : T.2.2.2.2 7 0 = some 8 ∧ T.2.2.2.2 7 1 = some 21 ∧ ∀ i, i < 12 → T.2.2.2.2 8 i = some (9 + i) := by
  have d := rc_dec
  simp only [Bool.and_eq_true, decide_eq_true_eq] at d
  obtain ⟨⟨⟨⟨d0, d1⟩, d2⟩, d3⟩, d4⟩ := d
  refine ⟨(hc.at 7 d0 _).trans d2, (hc.at 7 d0 _).trans d3, fun i hi => (hc.at 8 d1 _).trans ?_⟩
  exact of_decide_eq_true (a_fin (p := fun i => decide ((arf 8).getD i none = some (9 + i))) d4 hi)
/-- the images of one place -/
theorem c_hwall {k3 : AT → Nat → Nat → Nat → Int32 → Int32 → Int32 → Int32 → Option AT} {pt pp x y t : Int32} {i k cw : Nat} (hs : s = 478 ∨ s = 656) (hc : CRF T) (hP : PL P) (hI : IC P S) (hE : SCE s T P) (e71 : P 71 = nI cw) (l71 : cw ≤ 2) (hi : (i : Int) < (P 4).toInt) (hS : SND T P pt pp o k) (hx : -4000 ≤ x.toInt ∧ x.toInt ≤ 4000) (hy : -4000 ≤ y.toInt ∧ y.toInt ≤ 4000) (ht : 0 ≤ t.toInt ∧ t.toInt ≤ 199) : ∀ (f j : Nat) {u : Int32}, j ≤ cw → u = hoS P pt pp i x y k t j → g_X5_hear_b42 k3 f T 7 s o x y t (nI i) (s + 160 + i) u (nI j) = some T1 → k3 (uI T (9 + i) t.toNatClampNeg (T.2.2.1 (9 + i) t.toNatClampNeg + hoS P pt pp i x y k t cw)) 7 s o x y t (nI (i + 1)) = some T1 := by
  have p4 := pl_4 hP
  have p76 := pl_76 hP
  have hF := hc.srf hs
  have z2 : (2 : Int32).toInt = 2 := by decide
  intro f
  induction f with
  | zero => intro j u hj hu h; cases h
  | succ f ih =>
    intro j u hj hu h
    have jI : (nI j).toInt = (j : Int) := nI_toInt (by omega)
    have kj : (nI j).toNatClampNeg = j := nI_clamp (by omega)
    have ki : (nI i).toNatClampNeg = i := nI_clamp (by omega)
    obtain ⟨gH, gM, gG, gS, ⟨w, w1, w2, w3, w4⟩, gF, -⟩ := id hE
    unfold g_X5_hear_b42 at h
    obtain ⟨-, h⟩ := oif_some h
    obtain ⟨v3, d3, h⟩ := elet_some h
    rw [w2, ← w3, e71] at d3
    have wc : w = cw := by
      have a : (nI w).toInt = (w : Int) := nI_toInt (by omega)
      have b : (nI cw).toInt = (cw : Int) := nI_toInt (by omega)
      rw [← w3, e71, b] at a
      omega
    rcases oif_or h with ⟨q, h⟩ | ⟨q, h⟩
    · rw [d3] at q
      have q2 := (nI_leI (a := cw) (by omega) (by omega)).mp q
      obtain ⟨-, h⟩ := oif_some h
      obtain ⟨n6, en, h⟩ := obind_some h
      rw [(rc_rf hc).1] at en
      cases en
      obtain ⟨-, h⟩ := oif_some h
      obtain ⟨-, h⟩ := oif_some h
      obtain ⟨n9, en, h⟩ := obind_some h
      rw [ki, (rc_rf hc).2.2 i (by omega)] at en
      cases en
      obtain ⟨-, h⟩ := oif_some h
      obtain ⟨-, h⟩ := oif_some h
      obtain ⟨v12, d12, h⟩ := elet_some h
      obtain ⟨v13, d13, h⟩ := elet_some h
      obtain ⟨-, h⟩ := oif_some h
      obtain ⟨-, h⟩ := oif_some h
      obtain ⟨T16, e16, h⟩ := elet_some h
      obtain ⟨v17, d17, h⟩ := elet_some h
      rw [show v17 = nI (i + 1) from d17.trans (nI_p1 i), e16, d13, d12, hu, show j = cw by omega] at h
      exact h
    · rw [d3] at q
      have q2 : ¬ cw ≤ j := fun z => q ((nI_leI (a := cw) (by omega) (by omega)).mpr z)
      obtain ⟨-, h⟩ := oif_some h
      obtain ⟨n19, en, h⟩ := obind_some h
      rw [hF.2.2.2.1] at en
      cases en
      obtain ⟨-, h⟩ := oif_some h
      obtain ⟨-, h⟩ := oif_some h
      obtain ⟨v22, d22, h⟩ := elet_some h
      rw [kj, (w4 j (by omega)).1] at d22
      obtain ⟨v23, d23, h⟩ := elet_some h
      obtain ⟨v24, d24, h⟩ := elet_some h
      have b72 := hP.2.2.2.2.2.2.2.2.2.2.1 (72 + j) (by omega) (by omega)
      rw [← d22] at b72
      have q23 := i_mulk d23 z2 (by omega) (by omega)
      have q24 := i_sub d24 (by omega) (by omega)
      obtain ⟨-, h⟩ := oif_some h
      obtain ⟨r28, T26, g26, h⟩ := obind2_some h
      obtain ⟨e26, q26⟩ := c_dly hP hI hE hi (by omega) (by omega) g26
      rw [e26] at h
      obtain ⟨r32, T30, g30, h⟩ := obind2_some h
      obtain ⟨e30, q30⟩ := c_hf p76 hS hE ht q26 g30
      rw [e30] at h
      obtain ⟨-, h⟩ := oif_some h
      obtain ⟨n35, en, h⟩ := obind_some h
      rw [hF.2.2.2.2.1] at en
      cases en
      obtain ⟨-, h⟩ := oif_some h
      obtain ⟨-, h⟩ := oif_some h
      obtain ⟨v38, d38, h⟩ := elet_some h
      rw [kj, (w4 j (by omega)).2] at d38
      obtain ⟨v39, d39, h⟩ := elet_some h
      obtain ⟨v40, d40, h⟩ := elet_some h
      obtain ⟨v41, d41, h⟩ := elet_some h
      obtain ⟨v42, d42, h⟩ := elet_some h
      rw [show v42 = nI (j + 1) from d42.trans (nI_p1 j)] at h
      refine ih (j + 1) (by omega) ?_ h
      rw [d41, d40, d39, d38, q30, d24, d23, d22, hu]
      rfl
/-- what all microphones hear of one place at one time -/
theorem c_hear {pt pp x y t : Int32} {k mc cw : Nat} (hs : s = 478 ∨ s = 656) (ho : 21 ≤ o) (hP : PL P) (hI : IC P S) (e4 : P 4 = nI mc) (l4 : mc ≤ 12) (e71 : P 71 = nI cw) (l71 : cw ≤ 2) (hx : -4000 ≤ x.toInt ∧ x.toInt ≤ 4000) (hy : -4000 ≤ y.toInt ∧ y.toInt ≤ 4000) (ht : 0 ≤ t.toInt ∧ t.toInt ≤ 199) (hc : CRF T0) (hE : SCE s T0 P) (hS : SND T0 P pt pp o k) (h : g_X5_hear T0 7 s o x y t = some T1) : HQ T0 T1 ∧ ∀ m, m < 12 → ∀ j, T1.2.2.1 (9 + m) j = if m < mc ∧ j = t.toNatClampNeg then T0.2.2.1 (9 + m) j + hvS P pt pp m x y k t else T0.2.2.1 (9 + m) j := by
  have p4 := pl_4 hP
  have p76 := pl_76 hP
  have k71 : (P 71).toNatClampNeg = cw := by rw [e71]; exact nI_clamp (by omega)
  have lp : ∀ (n i : Nat) {T : AT}, i ≤ mc → HQ T0 T → (∀ m, m < 12 → ∀ j, T.2.2.1 (9 + m) j = if m < i ∧ j = t.toNatClampNeg then T0.2.2.1 (9 + m) j + hvS P pt pp m x y k t else T0.2.2.1 (9 + m) j) → g_X5_hear_b3 n T 7 s o x y t (nI i) = some T1 → HQ T0 T1 ∧ ∀ m, m < 12 → ∀ j, T1.2.2.1 (9 + m) j = if m < mc ∧ j = t.toNatClampNeg then T0.2.2.1 (9 + m) j + hvS P pt pp m x y k t else T0.2.2.1 (9 + m) j := by
    intro n
    induction n with
    | zero => intro i T hi hq hv h; cases h
    | succ n ih =>
      intro i T hi hq hv h
      have iI : (nI i).toInt = (i : Int) := nI_toInt (by omega)
      have ki : (nI i).toNatClampNeg = i := nI_clamp (by omega)
      have mI : (nI mc).toInt = (mc : Int) := nI_toInt (by omega)
      have hcT := crf_eq hc hq.2.1
      have hET := hq_sce hq hs hE
      have hST := hq_snd hq ho hS
      have hF := hcT.srf hs
      obtain ⟨gH, ⟨c, m1, m2, m3, m4, -⟩, -⟩ := id hET
      unfold g_X5_hear_b3 at h
      obtain ⟨-, h⟩ := oif_some h
      obtain ⟨v3, d3, h⟩ := elet_some h
      rw [m2, ← m3, e4] at d3
      rcases oif_or h with ⟨q, h⟩ | ⟨q, h⟩
      · rw [d3] at q
        have q2 := (nI_leI (a := mc) (by omega) (by omega)).mp q
        rw [← osome1 h]
        have e : mc = i := by omega
        rw [e]
        exact ⟨hq, hv⟩
      · rw [d3] at q
        have q2 : ¬ mc ≤ i := fun z => q ((nI_leI (a := mc) (by omega) (by omega)).mpr z)
        have hi4 : (i : Int) < (P 4).toInt := by rw [e4]; omega
        obtain ⟨-, h⟩ := oif_some h
        obtain ⟨n6, en, h⟩ := obind_some h
        rw [hF.1] at en
        cases en
        obtain ⟨-, h⟩ := oif_some h
        obtain ⟨-, h⟩ := oif_some h
        obtain ⟨n9, en, h⟩ := obind_some h
        rw [ki, hF.2.2.2.2.2.2.2.2.1 i (by omega)] at en
        cases en
        obtain ⟨-, h⟩ := oif_some h
        obtain ⟨r13, T11, g11, h⟩ := obind2_some h
        obtain ⟨e11, q11⟩ := c_dly hP hI hET hi4 (by omega) (by omega) g11
        rw [e11] at h
        obtain ⟨r17, T15, g15, h⟩ := obind2_some h
        obtain ⟨e15, q15⟩ := c_hf p76 hST hET ht q11 g15
        rw [e15] at h
        have h := c_hwall hs hcT hP hI hET e71 l71 hi4 hST hx hy ht 16384 0 (Nat.zero_le _) q15 h
        refine ih (i + 1) (by omega) (hq.tr (hq_uI (by omega))) (fun m hm j => ?_) h
        rw [ui_get]
        by_cases e : m = i ∧ j = t.toNatClampNeg
        · rw [if_pos (by omega), if_pos (by omega), e.1, hv i (by omega), if_neg (by omega), e.2]
          unfold hvS
          rw [k71]
        · rw [if_neg (by omega), hv m hm]
          by_cases e2 : m < i ∧ j = t.toNatClampNeg
          · rw [if_pos e2, if_pos (by omega)]
          · rw [if_neg e2, if_neg (by omega)]
  unfold g_X5_hear at h
  refine lp 16384 0 (Nat.zero_le _) HQ.rf (fun m hm j => ?_) h
  rw [if_neg (by omega)]
end
