theorem dL_law_470 : decode cL_law 470 = .ok (.aload_n 0, 1) := de_42 (lb_29 (j := 6) (b := 42) rfl)
theorem dL_law_471 : decode cL_law 471 = .ok (.iload 5, 2) := de_21 (lb_29 (j := 7) (b := 21) rfl) (lb_29 (j := 8) (b := 5) rfl) rfl
theorem dL_law_473 : decode cL_law 473 = .ok (.iconst 1, 1) := de_4 (lb_29 (j := 9) (b := 4) rfl)
theorem dL_law_474 : decode cL_law 474 = .ok (.iadd, 1) := de_96 (lb_29 (j := 10) (b := 96) rfl)
theorem dL_law_475 : decode cL_law 475 = .ok (.iaload, 1) := de_46 (lb_29 (j := 11) (b := 46) rfl)
theorem dL_law_476 : decode cL_law 476 = .ok (.aload_n 0, 1) := de_42 (lb_29 (j := 12) (b := 42) rfl)
theorem dL_law_477 : decode cL_law 477 = .ok (.iload 5, 2) := de_21 (lb_29 (j := 13) (b := 21) rfl) (lb_29 (j := 14) (b := 5) rfl) rfl
theorem dL_law_479 : decode cL_law 479 = .ok (.iconst 2, 1) := de_5 (lb_29 (j := 15) (b := 5) rfl)
theorem dL_law_480 : decode cL_law 480 = .ok (.iadd, 1) := de_96 (lb_30 (j := 0) (b := 96) rfl)
theorem dL_law_481 : decode cL_law 481 = .ok (.iaload, 1) := de_46 (lb_30 (j := 1) (b := 46) rfl)
theorem dL_law_482 : decode cL_law 482 = .ok (.aload_n 3, 1) := de_45 (lb_30 (j := 2) (b := 45) rfl)
theorem dL_law_483 : decode cL_law 483 = .ok (.invokestatic 220, 3) := de_184 (lb_30 (j := 3) (b := 184) rfl) (lb_30 (j := 4) (b := 0) rfl) (lb_30 (j := 5) (b := 220) rfl) rfl
