theorem dL_law_340 : decode cL_law 340 = .ok (.iaload, 1) := de_46 (lb_21 (j := 4) (b := 46) rfl)
theorem dL_law_341 : decode cL_law 341 = .ok (.aload_n 0, 1) := de_42 (lb_21 (j := 5) (b := 42) rfl)
theorem dL_law_342 : decode cL_law 342 = .ok (.iload 5, 2) := de_21 (lb_21 (j := 6) (b := 21) rfl) (lb_21 (j := 7) (b := 5) rfl) rfl
theorem dL_law_344 : decode cL_law 344 = .ok (.iconst 5, 1) := de_8 (lb_21 (j := 8) (b := 8) rfl)
theorem dL_law_345 : decode cL_law 345 = .ok (.iadd, 1) := de_96 (lb_21 (j := 9) (b := 96) rfl)
theorem dL_law_346 : decode cL_law 346 = .ok (.iaload, 1) := de_46 (lb_21 (j := 10) (b := 46) rfl)
theorem dL_law_347 : decode cL_law 347 = .ok (.invokevirtual 193, 3) := de_182 (lb_21 (j := 11) (b := 182) rfl) (lb_21 (j := 12) (b := 0) rfl) (lb_21 (j := 13) (b := 193) rfl) rfl
theorem dL_law_350 : decode cL_law 350 = .ok (.pop, 1) := de_87 (lb_21 (j := 14) (b := 87) rfl)
theorem dL_law_351 : decode cL_law 351 = .ok (.aload_n 2, 1) := de_44 (lb_21 (j := 15) (b := 44) rfl)
theorem dL_law_352 : decode cL_law 352 = .ok (.aload_n 0, 1) := de_42 (lb_22 (j := 0) (b := 42) rfl)
theorem dL_law_353 : decode cL_law 353 = .ok (.iload 5, 2) := de_21 (lb_22 (j := 1) (b := 21) rfl) (lb_22 (j := 2) (b := 5) rfl) rfl
theorem dL_law_355 : decode cL_law 355 = .ok (.iconst 1, 1) := de_4 (lb_22 (j := 3) (b := 4) rfl)
