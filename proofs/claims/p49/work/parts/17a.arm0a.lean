theorem lg_cmp_rf (x : Int64) : lg_cmp x x = 0 := by
  unfold lg_cmp
  rw [if_neg (show ¬ x > x from Int64.lt_irrefl), if_pos rfl]
theorem gl_in {ws : List Cond} (as : List (Nat × Nat)) (h : t_chk ws as = true) (g : ws.all goodWord = true) : ∀ w ∈ ws, w ∈ lw_tbl ∧ goodWord w = true := fun w hw => ⟨t_of ws as h w hw, List.all_eq_true.mp g w hw⟩
def vnz (x : Int32) : Int32 := if x = 0 then 0 else 1
theorem vnz_r (x : Int32) : 0 ≤ (vnz x).toInt ∧ (vnz x).toInt ≤ 1 := by
  unfold vnz
  split <;> decide
theorem dL_law_316 : decode cL_law 316 = .ok (.aload_n 1, 1) := de_43 (lb_19 (j := 12) (b := 43) rfl)
theorem dL_law_317 : decode cL_law 317 = .ok (.aload_n 0, 1) := de_42 (lb_19 (j := 13) (b := 42) rfl)
theorem dL_law_318 : decode cL_law 318 = .ok (.iload 5, 2) := de_21 (lb_19 (j := 14) (b := 21) rfl) (lb_19 (j := 15) (b := 5) rfl) rfl
theorem dL_law_320 : decode cL_law 320 = .ok (.iconst 1, 1) := de_4 (lb_20 (j := 0) (b := 4) rfl)
theorem dL_law_321 : decode cL_law 321 = .ok (.iadd, 1) := de_96 (lb_20 (j := 1) (b := 96) rfl)
theorem dL_law_322 : decode cL_law 322 = .ok (.iaload, 1) := de_46 (lb_20 (j := 2) (b := 46) rfl)
theorem dL_law_323 : decode cL_law 323 = .ok (.aload_n 0, 1) := de_42 (lb_20 (j := 3) (b := 42) rfl)
theorem dL_law_324 : decode cL_law 324 = .ok (.iload 5, 2) := de_21 (lb_20 (j := 4) (b := 21) rfl) (lb_20 (j := 5) (b := 5) rfl) rfl
