section
variable {S : MS}
theorem nc_p (h : NC S) {v : Int32} {k : Nat} (e : v = S.2.1 10 k) : v.toInt = 0 := by rw [e, h.1.1.1]; rfl
theorem nc_2 (h : NC S) : 0 ≤ (S.1 2).toInt ∧ (S.1 2).toInt ≤ 1000 := h.1.1.2.1.1
theorem nc_19 (h : NC S) : (S.1 19).toInt = 0 := h.1.2.2
theorem nc_20 (h : NC S) : (S.1 20).toInt = 0 := h.1.2.1
theorem nc_28 (h : NC S) : 0 ≤ (S.1 28).toInt ∧ (S.1 28).toInt ≤ 160 := h.1.1.2.1.2.2.2.1
theorem nc_18 (h : NC S) (i : Int32) {v : Int32} (e : v = S.2.1 18 i.toNatClampNeg) (h1 : 0 ≤ i.toInt) (h2 : i.toInt ≤ 1) : v.toInt = 0 := by
  have x := i_cl h1
  rw [e]
  by_cases q : i.toNatClampNeg = 0
  · rw [q]; exact h.2.1
  · rw [show i.toNatClampNeg = 1 from by omega]; exact h.2.2
theorem nc_mi0 (h : NC S) (v : Int32) : NC (mi S 0 v) := h
end
