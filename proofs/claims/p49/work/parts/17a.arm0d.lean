theorem dL_law_356 : decode cL_law 356 = .ok (.iadd, 1) := de_96 (lb_22 (j := 4) (b := 96) rfl)
theorem dL_law_357 : decode cL_law 357 = .ok (.iaload, 1) := de_46 (lb_22 (j := 5) (b := 46) rfl)
theorem dL_law_358 : decode cL_law 358 = .ok (.aload_n 0, 1) := de_42 (lb_22 (j := 6) (b := 42) rfl)
theorem dL_law_359 : decode cL_law 359 = .ok (.iload 5, 2) := de_21 (lb_22 (j := 7) (b := 21) rfl) (lb_22 (j := 8) (b := 5) rfl) rfl
theorem dL_law_361 : decode cL_law 361 = .ok (.iconst 2, 1) := de_5 (lb_22 (j := 9) (b := 5) rfl)
theorem dL_law_362 : decode cL_law 362 = .ok (.iadd, 1) := de_96 (lb_22 (j := 10) (b := 96) rfl)
theorem dL_law_363 : decode cL_law 363 = .ok (.iaload, 1) := de_46 (lb_22 (j := 11) (b := 46) rfl)
theorem dL_law_364 : decode cL_law 364 = .ok (.aload_n 0, 1) := de_42 (lb_22 (j := 12) (b := 42) rfl)
theorem dL_law_365 : decode cL_law 365 = .ok (.iload 5, 2) := de_21 (lb_22 (j := 13) (b := 21) rfl) (lb_22 (j := 14) (b := 5) rfl) rfl
theorem dL_law_367 : decode cL_law 367 = .ok (.iconst 3, 1) := de_6 (lb_22 (j := 15) (b := 6) rfl)
theorem dL_law_368 : decode cL_law 368 = .ok (.iadd, 1) := de_96 (lb_23 (j := 0) (b := 96) rfl)
theorem dL_law_369 : decode cL_law 369 = .ok (.iaload, 1) := de_46 (lb_23 (j := 1) (b := 46) rfl)
