/-! answers of the scene alone: a source's wave -/
section
variable {T T1 : AT} {S S1 : MS} {k1 : Nat} {r1 r2 : Int32}
theorem q64d (x y : Int32) : (x.toInt64 / y.toInt64).toInt32 = x / y := by
  refine Int32.toInt_inj.mp ?_
  rw [Int64.toInt_toInt32, Int64.toInt_div, Int32.toInt_toInt64, Int32.toInt_toInt64, Int32.toInt_div]
  exact Int.bmod_bmod_of_dvd (by decide)
theorem cl_off {a c : Int32} {n : Nat} (hc : c.toInt = n) (hn : n ≤ 1000) (h0 : 0 ≤ a.toInt) (h1 : a.toInt < 1000) : (c + a).toNatClampNeg = n + a.toNatClampNeg := by
  have e := i_add (v := c + a) rfl (by omega) (by omega)
  have e1 := i_cl (i := c + a) (by omega)
  have e2 := i_cl h0
  omega
theorem a_rem {a b r : Int32} (hb : ¬ b = 0) (hg : g_X11_remainder a b = some r) : r = a - a / b * b := by
  unfold g_X11_remainder g_X11_remainder_b11 at hg
  rw [if_neg hb] at hg
  obtain ⟨-, hg⟩ := oif_some hg
  obtain ⟨v4, e4, hg⟩ := elet_some hg
  rw [← Option.some.inj hg, e4]
theorem a_quo {x y : Int32} {r : Int64} (hb : ¬ y = 0) (hg : g_X11_quotient x.toInt64 y.toInt64 = some r) : r.toInt32 = x / y := by
  have z0 : (0 : Int32).toInt = 0 := by decide
  unfold g_X11_quotient g_X11_quotient_b13 at hg
  obtain ⟨v2, e2, hg⟩ := elet_some hg
  have n2 : ¬ v2 = 0 := by
    intro q
    rw [e2, lg_cmp_eq] at q
    exact i_nz64 (fun q => i_ne hb (by omega)) q
  rw [if_neg n2] at hg
  obtain ⟨-, hg⟩ := oif_some hg
  obtain ⟨v5, e5, hg⟩ := elet_some hg
  rw [← Option.some.inj hg, e5]
  exact q64d x y
theorem k_wave {o : Nat} {a t : Int32} (h0 : 0 ≤ a.toInt) (h1 : a.toInt < 6) (E0 : T.2.2.1 o 0 = S.2.1 10 (47 + a.toNatClampNeg)) (E5 : T.2.2.1 o 5 = S.2.1 10 (53 + a.toNatClampNeg)) (E6 : T.2.2.1 o 6 = S.2.1 10 (59 + a.toNatClampNeg)) (E7 : T.2.2.1 o 7 = S.2.1 10 (65 + a.toNatClampNeg)) (E8 : T.2.2.1 o 8 = S.2.1 10 (95 + a.toNatClampNeg)) (hg : g_X7_valueAt T o t = some (r1, T1)) (hf : fr_wave S a t = some (r2, S1)) : S1 = S ∧ r1 = r2 := by
  unfold fr_wave fr_wave_b103 fr_wave_b135 at hf
  obtain ⟨v2, d2, hf⟩ := elet_some hf
  obtain ⟨-, hf⟩ := oif_some hf
  obtain ⟨v4, d4, hf⟩ := elet_some hf
  rw [d2, cl_off (n := 53) (by decide) (by decide) h0 (by omega), ← E5] at d4
  obtain ⟨v5, d5, hf⟩ := elet_some hf
  obtain ⟨-, hf⟩ := oif_some hf
  obtain ⟨v7, d7, hf⟩ := elet_some hf
  rw [d5, cl_off (n := 59) (by decide) (by decide) h0 (by omega), ← E6] at d7
  obtain ⟨v8, d8, hf⟩ := elet_some hf
  obtain ⟨-, hf⟩ := oif_some hf
  obtain ⟨v10, d10, hf⟩ := elet_some hf
  rw [d8, cl_off (n := 95) (by decide) (by decide) h0 (by omega), ← E8] at d10
  unfold g_X7_valueAt g_X7_valueAt_b78 g_X7_valueAt_b125 at hg
  obtain ⟨-, hg⟩ := oif_some hg
  obtain ⟨x3, t3, hg⟩ := elet_some hg
  rw [t3, ← d10] at hg
  by_cases c : v10 ≤ t
  · rw [if_pos c] at hg hf
    obtain ⟨v12, d12, hf⟩ := elet_some hf
    obtain ⟨-, hf⟩ := oif_some hf
    obtain ⟨v14, d14, hf⟩ := elet_some hf
    rw [d12, cl_off (n := 65) (by decide) (by decide) h0 (by omega), ← E7] at d14
    obtain ⟨v15, d15, hf⟩ := elet_some hf
    obtain ⟨n7, hf⟩ := oif_some hf
    obtain ⟨v17, d17, hf⟩ := elet_some hf
    obtain ⟨v18, d18, hf⟩ := elet_some hf
    obtain ⟨-, hf⟩ := oif_some hf
    obtain ⟨v20, d20, hf⟩ := elet_some hf
    rw [d18, cl_off (n := 47) (by decide) (by decide) h0 (by omega), ← E0] at d20
    obtain ⟨-, hg⟩ := oif_some hg
    obtain ⟨x6, t6, hg⟩ := elet_some hg
    obtain ⟨x7, t7, hg⟩ := elet_some hg
    obtain ⟨-, hg⟩ := oif_some hg
    obtain ⟨x9, t9, hg⟩ := elet_some hg
    obtain ⟨r10, g10, hg⟩ := obind_some hg
    rw [t7, t6, t9, ← d14, ← d7, ← d15] at g10
    have e10 := a_rem n7 g10
    rw [← d17] at e10
    rw [e10] at hg
    obtain ⟨-, hg⟩ := oif_some hg
    obtain ⟨x13, t13, hg⟩ := elet_some hg
    rw [t13, ← d20] at hg
    by_cases c0 : v20 = 0
    · rw [if_pos c0] at hg hf
      obtain ⟨v22, d22, hf⟩ := elet_some hf
      obtain ⟨-, hg⟩ := oif_some hg
      obtain ⟨x16, t16, hg⟩ := elet_some hg
      obtain ⟨x17, t17, hg⟩ := elet_some hg
      rw [t17, t16, ← d7, ← d22] at hg
      by_cases c1 : v22 ≤ v17
      · rw [if_pos c1] at hg hf
        obtain ⟨v24, d24, hf⟩ := elet_some hf
        obtain ⟨-, hg⟩ := oif_some hg
        obtain ⟨x20, t20, hg⟩ := elet_some hg
        obtain ⟨x21, t21, hg⟩ := elet_some hg
        rw [← (osome2 hg).1, ← (osome2 hf).1, ← (osome2 hf).2, t21, t20, d24, d4]
        exact ⟨rfl, rfl⟩
      · rw [if_neg c1] at hg hf
        obtain ⟨-, hg⟩ := oif_some hg
        obtain ⟨x20, t20, hg⟩ := elet_some hg
        rw [← (osome2 hg).1, ← (osome2 hf).1, ← (osome2 hf).2, t20, d4]
        exact ⟨rfl, rfl⟩
    · rw [if_neg c0] at hg hf
      by_cases c1 : v20 = 1
      · rw [if_pos c1] at hg hf
        obtain ⟨v26, d26, hf⟩ := elet_some hf
        obtain ⟨v27, d27, hf⟩ := elet_some hf
        obtain ⟨v28, d28, hf⟩ := elet_some hf
        obtain ⟨v29, d29, hf⟩ := elet_some hf
        obtain ⟨v30, d30, hf⟩ := elet_some hf
        obtain ⟨v31, d31, hf⟩ := elet_some hf
        obtain ⟨-, hf⟩ := oif_some hf
        obtain ⟨v33, d33, hf⟩ := elet_some hf
        obtain ⟨-, hg⟩ := oif_some hg
        obtain ⟨x26, t26, hg⟩ := elet_some hg
        obtain ⟨-, hg⟩ := oif_some hg
        obtain ⟨x28, t28, hg⟩ := elet_some hg
        obtain ⟨x29, t29, hg⟩ := elet_some hg
        obtain ⟨x30, t30, hg⟩ := elet_some hg
        obtain ⟨x31, t31, hg⟩ := elet_some hg
        obtain ⟨x32, t32, hg⟩ := elet_some hg
        obtain ⟨-, hg⟩ := oif_some hg
        obtain ⟨x34, t34, hg⟩ := elet_some hg
        obtain ⟨x35, t35, hg⟩ := elet_some hg
        obtain ⟨x36, t36, hg⟩ := elet_some hg
        obtain ⟨x37, t37, hg⟩ := elet_some hg
        obtain ⟨-, hg⟩ := oif_some hg
        obtain ⟨x39, t39, hg⟩ := elet_some hg
        obtain ⟨x40, t40, hg⟩ := elet_some hg
        obtain ⟨r41, g41, hg⟩ := obind_some hg
        obtain ⟨x43, t43, hg⟩ := elet_some hg
        rw [t29, t28, ← d7, ← d26] at t30
        rw [← d27] at t30
        rw [t30, ← d28] at t31
        rw [t31, ← d29] at t32
        rw [t32, t34, ← d7, ← d30] at t35
        rw [t26, ← d4, t35, ← d31] at t36
        rw [t37, t36, t40, t39, ← d7] at g41
        have e := a_quo n7 g41
        rw [← (osome2 hg).1, ← (osome2 hf).1, ← (osome2 hf).2, t43, e, d33]
        exact ⟨rfl, rfl⟩
      · rw [if_neg c1] at hg hf
        by_cases c2 : v20 = 2
        · rw [if_pos c2] at hg hf
          by_cases c3 : v17 = 0
          · rw [if_pos c3] at hg hf
            obtain ⟨-, hg⟩ := oif_some hg
            obtain ⟨x47, t47, hg⟩ := elet_some hg
            rw [← (osome2 hg).1, ← (osome2 hf).1, ← (osome2 hf).2, t47, d4]
            exact ⟨rfl, rfl⟩
          · rw [if_neg c3] at hg hf
            rw [← (osome2 hg).1, ← (osome2 hf).1, ← (osome2 hf).2]
            exact ⟨rfl, rfl⟩
        · rw [if_neg c2] at hg hf
          obtain ⟨v36, d36, hf⟩ := elet_some hf
          obtain ⟨v37, d37, hf⟩ := elet_some hf
          obtain ⟨v38, d38, hf⟩ := elet_some hf
          obtain ⟨v39, d39, hf⟩ := elet_some hf
          obtain ⟨v40, d40, hf⟩ := elet_some hf
          obtain ⟨-, hf⟩ := oif_some hf
          obtain ⟨v42, d42, hf⟩ := elet_some hf
          rw [d40, cl_off (n := 65) (by decide) (by decide) h0 (by omega), ← E7] at d42
          obtain ⟨v43, d43, hf⟩ := elet_some hf
          obtain ⟨v44, d44, hf⟩ := elet_some hf
          obtain ⟨v45, d45, hf⟩ := elet_some hf
          obtain ⟨v46, d46, hf⟩ := elet_some hf
          obtain ⟨n46, hf⟩ := oif_some hf
          obtain ⟨v48, d48, hf⟩ := elet_some hf
          obtain ⟨v49, d49, hf⟩ := elet_some hf
          obtain ⟨x48, t48, hg⟩ := elet_some hg
          obtain ⟨x49, t49, hg⟩ := elet_some hg
          obtain ⟨x50, t50, hg⟩ := elet_some hg
          obtain ⟨x51, t51, hg⟩ := elet_some hg
          obtain ⟨-, hg⟩ := oif_some hg
          obtain ⟨x53, t53, hg⟩ := elet_some hg
          obtain ⟨x54, t54, hg⟩ := elet_some hg
          obtain ⟨x55, t55, hg⟩ := elet_some hg
          obtain ⟨-, hg⟩ := oif_some hg
          obtain ⟨x57, t57, hg⟩ := elet_some hg
          obtain ⟨x58, t58, hg⟩ := elet_some hg
          obtain ⟨x59, t59, hg⟩ := elet_some hg
          obtain ⟨r60, g60, hg⟩ := obind_some hg
          obtain ⟨-, hg⟩ := oif_some hg
          obtain ⟨x63, t63, hg⟩ := elet_some hg
          obtain ⟨x64, t64, hg⟩ := elet_some hg
          have e59 : x59 = v46 := by rw [t59, t58, t57, d46, d45, d4]
          have e55 : x55 = v44 := by rw [t55, t54, t53, t51, t50, t49, t48, d44, d43, d42, d39, d38, d37, d36]
          rw [e59, e55] at g60
          have e := a_rem n46 g60
          rw [← (osome2 hg).1, ← (osome2 hf).1, ← (osome2 hf).2, t64, t63, e, d49, d48, d4]
          exact ⟨rfl, rfl⟩
  · rw [if_neg c] at hg hf
    rw [← (osome2 hg).1, ← (osome2 hf).1, ← (osome2 hf).2]
    exact ⟨rfl, rfl⟩
theorem r_isSrc {a r : Int32} (hf : fr_isSource S a = some (r, S1)) : S1 = S ∧ r = if 0 ≤ a ∧ a ≤ S.2.1 10 5 - 1 then 1 else 0 := by
  unfold fr_isSource at hf
  obtain ⟨v2, d2, hf⟩ := elet_some hf
  obtain ⟨v3, d3, hf⟩ := elet_some hf
  obtain ⟨r4, f4, hf⟩ := obind_some hf
  obtain ⟨-, hf⟩ := oif_some hf
  have f := osome2 hf
  rw [← f.1, ← f.2]
  refine ⟨rfl, ?_⟩
  rw [r_in f4, d3, d2]
theorem r_isTime {a r : Int32} (hf : fr_isTime S a = some (r, S1)) : S1 = S ∧ r = if 0 ≤ a ∧ a ≤ S.2.1 10 2 - 1 then 1 else 0 := by
  unfold fr_isTime at hf
  obtain ⟨v2, d2, hf⟩ := elet_some hf
  obtain ⟨v3, d3, hf⟩ := elet_some hf
  obtain ⟨r4, f4, hf⟩ := obind_some hf
  obtain ⟨-, hf⟩ := oif_some hf
  have f := osome2 hf
  rw [← f.1, ← f.2]
  refine ⟨rfl, ?_⟩
  rw [r_in f4, d3, d2]
end
