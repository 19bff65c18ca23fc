/-! answers of the scene alone: a source's wave -/
section
variable {T T1 : AT} {S S1 : MS} {k1 : Nat} {r1 r2 : Int32}
theorem q64d (x y : Int32) : (x.toInt64 / y.toInt64).toInt32 = x / y := by
  refine Int32.toInt_inj.mp ?_
  rw [Int64.toInt_toInt32, Int64.toInt_div, Int32.toInt_toInt64, Int32.toInt_toInt64, Int32.toInt_div]
  exact Int.bmod_bmod_of_dvd (by decide)
theorem cl_off {a c : Int32} {n : Nat} (hc : c.toInt = n) (hn : n ≤ 1000) (h0 : 0 ≤ a.toInt) (h1 : a.toInt < 1000) : (c + a).toNatClampNeg = n + a.toNatClampNeg := by
  have e := i_add (v := c + a) rfl (by omega) (by omega)
  have e1 := i_cl (i := c + a) (by omega)
  have e2 := i_cl h0
  omega
theorem a_quo {x y : Int32} {r : Int64} (hb : ¬ y = 0) (hg : g_X11_quotient x.toInt64 y.toInt64 = some r) : r.toInt32 = x / y := by
  have z0 : (0 : Int32).toInt = 0 := by decide
  unfold g_X11_quotient g_X11_quotient_b13 at hg
  obtain ⟨v2, e2, hg⟩ := elet_some hg
  have n2 : ¬ v2 = 0 := by
    intro q
    rw [e2, lg_cmp_eq] at q
    exact i_nz64 (fun q => i_ne hb (by omega)) q
  rw [if_neg n2] at hg
  obtain ⟨-, hg⟩ := oif_some hg
  obtain ⟨v5, e5, hg⟩ := elet_some hg
  rw [← Option.some.inj hg, e5]
  exact q64d x y
end
