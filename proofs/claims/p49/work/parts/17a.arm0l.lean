theorem dL_law_501 : decode cL_law 501 = .ok (.invokevirtual 223, 3) := de_182 (lb_31 (j := 5) (b := 182) rfl) (lb_31 (j := 6) (b := 0) rfl) (lb_31 (j := 7) (b := 223) rfl) rfl
theorem dL_law_504 : decode cL_law 504 = .ok (.istore 7, 2) := de_54 (lb_31 (j := 8) (b := 54) rfl) (lb_31 (j := 9) (b := 7) rfl) rfl
theorem dL_law_506 : decode cL_law 506 = .ok (.goto 1933, 3) := de_167 (lb_31 (j := 10) (b := 167) rfl) (lb_31 (j := 11) (b := 7) rfl) (lb_31 (j := 12) (b := 141) rfl) (by decide +kernel)
theorem dL_law_509 : decode cL_law 509 = .ok (.aload_n 1, 1) := de_43 (lb_31 (j := 13) (b := 43) rfl)
theorem dL_law_510 : decode cL_law 510 = .ok (.aload_n 0, 1) := de_42 (lb_31 (j := 14) (b := 42) rfl)
theorem dL_law_511 : decode cL_law 511 = .ok (.iload 5, 2) := de_21 (lb_31 (j := 15) (b := 21) rfl) (lb_32 (j := 0) (b := 5) rfl) rfl
theorem dL_law_513 : decode cL_law 513 = .ok (.iconst 1, 1) := de_4 (lb_32 (j := 1) (b := 4) rfl)
theorem dL_law_514 : decode cL_law 514 = .ok (.iadd, 1) := de_96 (lb_32 (j := 2) (b := 96) rfl)
theorem dL_law_515 : decode cL_law 515 = .ok (.iaload, 1) := de_46 (lb_32 (j := 3) (b := 46) rfl)
theorem dL_law_516 : decode cL_law 516 = .ok (.aload_n 3, 1) := de_45 (lb_32 (j := 4) (b := 45) rfl)
theorem dL_law_517 : decode cL_law 517 = .ok (.invokestatic 224, 3) := de_184 (lb_32 (j := 5) (b := 184) rfl) (lb_32 (j := 6) (b := 0) rfl) (lb_32 (j := 7) (b := 224) rfl) rfl
theorem dL_law_520 : decode cL_law 520 = .ok (.istore 6, 2) := de_54 (lb_32 (j := 8) (b := 54) rfl) (lb_32 (j := 9) (b := 6) rfl) rfl
