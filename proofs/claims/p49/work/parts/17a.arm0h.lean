theorem dL_law_426 : decode cL_law 426 = .ok (.pop, 1) := de_87 (lb_26 (j := 10) (b := 87) rfl)
theorem dL_law_427 : decode cL_law 427 = .ok (.goto 2012, 3) := de_167 (lb_26 (j := 11) (b := 167) rfl) (lb_26 (j := 12) (b := 7) rfl) (lb_26 (j := 13) (b := 220) rfl) (by decide +kernel)
theorem dL_law_430 : decode cL_law 430 = .ok (.aload_n 1, 1) := de_43 (lb_26 (j := 14) (b := 43) rfl)
theorem dL_law_431 : decode cL_law 431 = .ok (.invokevirtual 208, 3) := de_182 (lb_26 (j := 15) (b := 182) rfl) (lb_27 (j := 0) (b := 0) rfl) (lb_27 (j := 1) (b := 208) rfl) rfl
theorem dL_law_434 : decode cL_law 434 = .ok (.pop, 1) := de_87 (lb_27 (j := 2) (b := 87) rfl)
theorem dL_law_435 : decode cL_law 435 = .ok (.aload_n 2, 1) := de_44 (lb_27 (j := 3) (b := 44) rfl)
theorem dL_law_436 : decode cL_law 436 = .ok (.invokevirtual 211, 3) := de_182 (lb_27 (j := 4) (b := 182) rfl) (lb_27 (j := 5) (b := 0) rfl) (lb_27 (j := 6) (b := 211) rfl) rfl
theorem dL_law_439 : decode cL_law 439 = .ok (.pop, 1) := de_87 (lb_27 (j := 7) (b := 87) rfl)
theorem dL_law_440 : decode cL_law 440 = .ok (.goto 1999, 3) := de_167 (lb_27 (j := 8) (b := 167) rfl) (lb_27 (j := 9) (b := 7) rfl) (lb_27 (j := 10) (b := 207) rfl) (by decide +kernel)
theorem dL_law_443 : decode cL_law 443 = .ok (.aload_n 1, 1) := de_43 (lb_27 (j := 11) (b := 43) rfl)
theorem dL_law_444 : decode cL_law 444 = .ok (.invokevirtual 212, 3) := de_182 (lb_27 (j := 12) (b := 182) rfl) (lb_27 (j := 13) (b := 0) rfl) (lb_27 (j := 14) (b := 212) rfl) rfl
theorem dL_law_447 : decode cL_law 447 = .ok (.pop, 1) := de_87 (lb_27 (j := 15) (b := 87) rfl)
