theorem dL_law_386 : decode cL_law 386 = .ok (.goto 2053, 3) := de_167 (lb_24 (j := 2) (b := 167) rfl) (lb_24 (j := 3) (b := 8) rfl) (lb_24 (j := 4) (b := 5) rfl) (by decide +kernel)
theorem dL_law_389 : decode cL_law 389 = .ok (.aload_n 1, 1) := de_43 (lb_24 (j := 5) (b := 43) rfl)
theorem dL_law_390 : decode cL_law 390 = .ok (.aload_n 0, 1) := de_42 (lb_24 (j := 6) (b := 42) rfl)
theorem dL_law_391 : decode cL_law 391 = .ok (.iload 5, 2) := de_21 (lb_24 (j := 7) (b := 21) rfl) (lb_24 (j := 8) (b := 5) rfl) rfl
theorem dL_law_393 : decode cL_law 393 = .ok (.iconst 1, 1) := de_4 (lb_24 (j := 9) (b := 4) rfl)
theorem dL_law_394 : decode cL_law 394 = .ok (.iadd, 1) := de_96 (lb_24 (j := 10) (b := 96) rfl)
theorem dL_law_395 : decode cL_law 395 = .ok (.iaload, 1) := de_46 (lb_24 (j := 11) (b := 46) rfl)
theorem dL_law_396 : decode cL_law 396 = .ok (.aload_n 3, 1) := de_45 (lb_24 (j := 12) (b := 45) rfl)
theorem dL_law_397 : decode cL_law 397 = .ok (.invokestatic 198, 3) := de_184 (lb_24 (j := 13) (b := 184) rfl) (lb_24 (j := 14) (b := 0) rfl) (lb_24 (j := 15) (b := 198) rfl) rfl
theorem dL_law_400 : decode cL_law 400 = .ok (.istore 6, 2) := de_54 (lb_25 (j := 0) (b := 54) rfl) (lb_25 (j := 1) (b := 6) rfl) rfl
theorem dL_law_402 : decode cL_law 402 = .ok (.aload_n 2, 1) := de_44 (lb_25 (j := 2) (b := 44) rfl)
theorem dL_law_403 : decode cL_law 403 = .ok (.aload_n 0, 1) := de_42 (lb_25 (j := 3) (b := 42) rfl)
