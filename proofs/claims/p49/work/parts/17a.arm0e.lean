theorem dL_law_370 : decode cL_law 370 = .ok (.aload_n 0, 1) := de_42 (lb_23 (j := 2) (b := 42) rfl)
theorem dL_law_371 : decode cL_law 371 = .ok (.iload 5, 2) := de_21 (lb_23 (j := 3) (b := 21) rfl) (lb_23 (j := 4) (b := 5) rfl) rfl
theorem dL_law_373 : decode cL_law 373 = .ok (.iconst 4, 1) := de_7 (lb_23 (j := 5) (b := 7) rfl)
theorem dL_law_374 : decode cL_law 374 = .ok (.iadd, 1) := de_96 (lb_23 (j := 6) (b := 96) rfl)
theorem dL_law_375 : decode cL_law 375 = .ok (.iaload, 1) := de_46 (lb_23 (j := 7) (b := 46) rfl)
theorem dL_law_376 : decode cL_law 376 = .ok (.aload_n 0, 1) := de_42 (lb_23 (j := 8) (b := 42) rfl)
theorem dL_law_377 : decode cL_law 377 = .ok (.iload 5, 2) := de_21 (lb_23 (j := 9) (b := 21) rfl) (lb_23 (j := 10) (b := 5) rfl) rfl
theorem dL_law_379 : decode cL_law 379 = .ok (.iconst 5, 1) := de_8 (lb_23 (j := 11) (b := 8) rfl)
theorem dL_law_380 : decode cL_law 380 = .ok (.iadd, 1) := de_96 (lb_23 (j := 12) (b := 96) rfl)
theorem dL_law_381 : decode cL_law 381 = .ok (.iaload, 1) := de_46 (lb_23 (j := 13) (b := 46) rfl)
theorem dL_law_382 : decode cL_law 382 = .ok (.invokevirtual 197, 3) := de_182 (lb_23 (j := 14) (b := 182) rfl) (lb_23 (j := 15) (b := 0) rfl) (lb_24 (j := 0) (b := 197) rfl) rfl
theorem dL_law_385 : decode cL_law 385 = .ok (.pop, 1) := de_87 (lb_24 (j := 1) (b := 87) rfl)
