theorem dL_law_448 : decode cL_law 448 = .ok (.aload_n 2, 1) := de_44 (lb_28 (j := 0) (b := 44) rfl)
theorem dL_law_449 : decode cL_law 449 = .ok (.invokevirtual 215, 3) := de_182 (lb_28 (j := 1) (b := 182) rfl) (lb_28 (j := 2) (b := 0) rfl) (lb_28 (j := 3) (b := 215) rfl) rfl
theorem dL_law_452 : decode cL_law 452 = .ok (.pop, 1) := de_87 (lb_28 (j := 4) (b := 87) rfl)
theorem dL_law_453 : decode cL_law 453 = .ok (.goto 1986, 3) := de_167 (lb_28 (j := 5) (b := 167) rfl) (lb_28 (j := 6) (b := 7) rfl) (lb_28 (j := 7) (b := 194) rfl) (by decide +kernel)
theorem dL_law_456 : decode cL_law 456 = .ok (.aload_n 1, 1) := de_43 (lb_28 (j := 8) (b := 43) rfl)
theorem dL_law_457 : decode cL_law 457 = .ok (.invokevirtual 216, 3) := de_182 (lb_28 (j := 9) (b := 182) rfl) (lb_28 (j := 10) (b := 0) rfl) (lb_28 (j := 11) (b := 216) rfl) rfl
theorem dL_law_460 : decode cL_law 460 = .ok (.pop, 1) := de_87 (lb_28 (j := 12) (b := 87) rfl)
theorem dL_law_461 : decode cL_law 461 = .ok (.aload_n 2, 1) := de_44 (lb_28 (j := 13) (b := 44) rfl)
theorem dL_law_462 : decode cL_law 462 = .ok (.invokevirtual 219, 3) := de_182 (lb_28 (j := 14) (b := 182) rfl) (lb_28 (j := 15) (b := 0) rfl) (lb_29 (j := 0) (b := 219) rfl) rfl
theorem dL_law_465 : decode cL_law 465 = .ok (.pop, 1) := de_87 (lb_29 (j := 1) (b := 87) rfl)
theorem dL_law_466 : decode cL_law 466 = .ok (.goto 1973, 3) := de_167 (lb_29 (j := 2) (b := 167) rfl) (lb_29 (j := 3) (b := 7) rfl) (lb_29 (j := 4) (b := 181) rfl) (by decide +kernel)
theorem dL_law_469 : decode cL_law 469 = .ok (.aload_n 1, 1) := de_43 (lb_29 (j := 5) (b := 43) rfl)
