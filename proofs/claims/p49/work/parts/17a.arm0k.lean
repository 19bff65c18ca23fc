theorem dL_law_486 : decode cL_law 486 = .ok (.istore 6, 2) := de_54 (lb_30 (j := 6) (b := 54) rfl) (lb_30 (j := 7) (b := 6) rfl) rfl
theorem dL_law_488 : decode cL_law 488 = .ok (.aload_n 2, 1) := de_44 (lb_30 (j := 8) (b := 44) rfl)
theorem dL_law_489 : decode cL_law 489 = .ok (.aload_n 0, 1) := de_42 (lb_30 (j := 9) (b := 42) rfl)
theorem dL_law_490 : decode cL_law 490 = .ok (.iload 5, 2) := de_21 (lb_30 (j := 10) (b := 21) rfl) (lb_30 (j := 11) (b := 5) rfl) rfl
theorem dL_law_492 : decode cL_law 492 = .ok (.iconst 1, 1) := de_4 (lb_30 (j := 12) (b := 4) rfl)
theorem dL_law_493 : decode cL_law 493 = .ok (.iadd, 1) := de_96 (lb_30 (j := 13) (b := 96) rfl)
theorem dL_law_494 : decode cL_law 494 = .ok (.iaload, 1) := de_46 (lb_30 (j := 14) (b := 46) rfl)
theorem dL_law_495 : decode cL_law 495 = .ok (.aload_n 0, 1) := de_42 (lb_30 (j := 15) (b := 42) rfl)
theorem dL_law_496 : decode cL_law 496 = .ok (.iload 5, 2) := de_21 (lb_31 (j := 0) (b := 21) rfl) (lb_31 (j := 1) (b := 5) rfl) rfl
theorem dL_law_498 : decode cL_law 498 = .ok (.iconst 2, 1) := de_5 (lb_31 (j := 2) (b := 5) rfl)
theorem dL_law_499 : decode cL_law 499 = .ok (.iadd, 1) := de_96 (lb_31 (j := 3) (b := 96) rfl)
theorem dL_law_500 : decode cL_law 500 = .ok (.iaload, 1) := de_46 (lb_31 (j := 4) (b := 46) rfl)
