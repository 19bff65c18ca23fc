theorem dL_law_404 : decode cL_law 404 = .ok (.iload 5, 2) := de_21 (lb_25 (j := 4) (b := 21) rfl) (lb_25 (j := 5) (b := 5) rfl) rfl
theorem dL_law_406 : decode cL_law 406 = .ok (.iconst 1, 1) := de_4 (lb_25 (j := 6) (b := 4) rfl)
theorem dL_law_407 : decode cL_law 407 = .ok (.iadd, 1) := de_96 (lb_25 (j := 7) (b := 96) rfl)
theorem dL_law_408 : decode cL_law 408 = .ok (.iaload, 1) := de_46 (lb_25 (j := 8) (b := 46) rfl)
theorem dL_law_409 : decode cL_law 409 = .ok (.invokevirtual 203, 3) := de_182 (lb_25 (j := 9) (b := 182) rfl) (lb_25 (j := 10) (b := 0) rfl) (lb_25 (j := 11) (b := 203) rfl) rfl
theorem dL_law_412 : decode cL_law 412 = .ok (.istore 7, 2) := de_54 (lb_25 (j := 12) (b := 54) rfl) (lb_25 (j := 13) (b := 7) rfl) rfl
theorem dL_law_414 : decode cL_law 414 = .ok (.goto 2025, 3) := de_167 (lb_25 (j := 14) (b := 167) rfl) (lb_25 (j := 15) (b := 7) rfl) (lb_26 (j := 0) (b := 233) rfl) (by decide +kernel)
theorem dL_law_417 : decode cL_law 417 = .ok (.aload_n 1, 1) := de_43 (lb_26 (j := 1) (b := 43) rfl)
theorem dL_law_418 : decode cL_law 418 = .ok (.invokevirtual 204, 3) := de_182 (lb_26 (j := 2) (b := 182) rfl) (lb_26 (j := 3) (b := 0) rfl) (lb_26 (j := 4) (b := 204) rfl) rfl
theorem dL_law_421 : decode cL_law 421 = .ok (.pop, 1) := de_87 (lb_26 (j := 5) (b := 87) rfl)
theorem dL_law_422 : decode cL_law 422 = .ok (.aload_n 2, 1) := de_44 (lb_26 (j := 6) (b := 44) rfl)
theorem dL_law_423 : decode cL_law 423 = .ok (.invokevirtual 207, 3) := de_182 (lb_26 (j := 7) (b := 182) rfl) (lb_26 (j := 8) (b := 0) rfl) (lb_26 (j := 9) (b := 207) rfl) rfl
