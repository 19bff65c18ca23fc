theorem dL_law_326 : decode cL_law 326 = .ok (.iconst 2, 1) := de_5 (lb_20 (j := 6) (b := 5) rfl)
theorem dL_law_327 : decode cL_law 327 = .ok (.iadd, 1) := de_96 (lb_20 (j := 7) (b := 96) rfl)
theorem dL_law_328 : decode cL_law 328 = .ok (.iaload, 1) := de_46 (lb_20 (j := 8) (b := 46) rfl)
theorem dL_law_329 : decode cL_law 329 = .ok (.aload_n 0, 1) := de_42 (lb_20 (j := 9) (b := 42) rfl)
theorem dL_law_330 : decode cL_law 330 = .ok (.iload 5, 2) := de_21 (lb_20 (j := 10) (b := 21) rfl) (lb_20 (j := 11) (b := 5) rfl) rfl
theorem dL_law_332 : decode cL_law 332 = .ok (.iconst 3, 1) := de_6 (lb_20 (j := 12) (b := 6) rfl)
theorem dL_law_333 : decode cL_law 333 = .ok (.iadd, 1) := de_96 (lb_20 (j := 13) (b := 96) rfl)
theorem dL_law_334 : decode cL_law 334 = .ok (.iaload, 1) := de_46 (lb_20 (j := 14) (b := 46) rfl)
theorem dL_law_335 : decode cL_law 335 = .ok (.aload_n 0, 1) := de_42 (lb_20 (j := 15) (b := 42) rfl)
theorem dL_law_336 : decode cL_law 336 = .ok (.iload 5, 2) := de_21 (lb_21 (j := 0) (b := 21) rfl) (lb_21 (j := 1) (b := 5) rfl) rfl
theorem dL_law_338 : decode cL_law 338 = .ok (.iconst 4, 1) := de_7 (lb_21 (j := 2) (b := 7) rfl)
theorem dL_law_339 : decode cL_law 339 = .ok (.iadd, 1) := de_96 (lb_21 (j := 3) (b := 96) rfl)
