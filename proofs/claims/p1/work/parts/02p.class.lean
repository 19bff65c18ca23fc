theorem dX0_init_0 : decode cX0_init 0 = .ok (.aload_n 0, 1) := by decide +kernel
theorem dX0_init_1 : decode cX0_init 1 = .ok (.invokespecial 3, 3) := by decide +kernel
theorem dX0_init_4 : decode cX0_init 4 = .ok (.aload_n 0, 1) := by decide +kernel
theorem dX0_init_5 : decode cX0_init 5 = .ok (.new 9, 3) := by decide +kernel
theorem dX0_init_8 : decode cX0_init 8 = .ok (.dup, 1) := by decide +kernel
theorem dX0_init_9 : decode cX0_init 9 = .ok (.sipush 7200, 3) := by decide +kernel
theorem dX0_init_12 : decode cX0_init 12 = .ok (.invokespecial 11, 3) := by decide +kernel
theorem dX0_init_15 : decode cX0_init 15 = .ok (.putfield 14, 3) := by decide +kernel
theorem dX0_init_18 : decode cX0_init 18 = .ok (.return_, 1) := by decide +kernel
theorem dX0_bestOf_0 : decode cX0_bestOf 0 = .ok (.aload_n 0, 1) := by decide +kernel
theorem dX0_bestOf_1 : decode cX0_bestOf 1 = .ok (.getfield 14, 3) := by decide +kernel
theorem dX0_bestOf_4 : decode cX0_bestOf 4 = .ok (.invokevirtual 20, 3) := by decide +kernel
theorem dX0_bestOf_7 : decode cX0_bestOf 7 = .ok (.aload_n 0, 1) := by decide +kernel
theorem dX0_bestOf_8 : decode cX0_bestOf 8 = .ok (.aload_n 1, 1) := by decide +kernel
theorem dX0_bestOf_9 : decode cX0_bestOf 9 = .ok (.aload_n 2, 1) := by decide +kernel
theorem dX0_bestOf_10 : decode cX0_bestOf 10 = .ok (.iload_n 3, 1) := by decide +kernel
theorem dX0_bestOf_11 : decode cX0_bestOf 11 = .ok (.iload 4, 2) := by decide +kernel
theorem dX0_bestOf_13 : decode cX0_bestOf 13 = .ok (.iconst 0, 1) := by decide +kernel
theorem dX0_bestOf_14 : decode cX0_bestOf 14 = .ok (.invokevirtual 23, 3) := by decide +kernel
theorem dX0_bestOf_17 : decode cX0_bestOf 17 = .ok (.aload_n 1, 1) := by decide +kernel
theorem dX0_bestOf_18 : decode cX0_bestOf 18 = .ok (.getfield 27, 3) := by decide +kernel
theorem dX0_bestOf_21 : decode cX0_bestOf 21 = .ok (.aload_n 1, 1) := by decide +kernel
theorem dX0_bestOf_22 : decode cX0_bestOf 22 = .ok (.getfield 27, 3) := by decide +kernel
theorem dX0_bestOf_25 : decode cX0_bestOf 25 = .ok (.getfield 33, 3) := by decide +kernel
theorem dX0_bestOf_28 : decode cX0_bestOf 28 = .ok (.aload_n 0, 1) := by decide +kernel
theorem dX0_bestOf_29 : decode cX0_bestOf 29 = .ok (.getfield 14, 3) := by decide +kernel
theorem dX0_bestOf_32 : decode cX0_bestOf 32 = .ok (.iconst 0, 1) := by decide +kernel
theorem dX0_bestOf_33 : decode cX0_bestOf 33 = .ok (.invokevirtual 39, 3) := by decide +kernel
theorem dX0_bestOf_36 : decode cX0_bestOf 36 = .ok (.ireturn, 1) := by decide +kernel
theorem dX0_score_0 : decode cX0_score 0 = .ok (.aload_n 1, 1) := by decide +kernel
theorem dX0_score_1 : decode cX0_score 1 = .ok (.getfield 43, 3) := by decide +kernel
theorem dX0_score_4 : decode cX0_score 4 = .ok (.i2l, 1) := by decide +kernel
theorem dX0_score_5 : decode cX0_score 5 = .ok (.iload_n 3, 1) := by decide +kernel
theorem dX0_score_6 : decode cX0_score 6 = .ok (.i2l, 1) := by decide +kernel
theorem dX0_score_7 : decode cX0_score 7 = .ok (.invokestatic 47, 3) := by decide +kernel
theorem dX0_score_10 : decode cX0_score 10 = .ok (.l2i, 1) := by decide +kernel
theorem dX0_score_11 : decode cX0_score 11 = .ok (.bipush 50, 2) := by decide +kernel
theorem dX0_score_13 : decode cX0_score 13 = .ok (.invokestatic 51, 3) := by decide +kernel
theorem dX0_score_16 : decode cX0_score 16 = .ok (.istore 4, 2) := by decide +kernel
theorem dX0_score_18 : decode cX0_score 18 = .ok (.aload_n 0, 1) := by decide +kernel
theorem dX0_score_19 : decode cX0_score 19 = .ok (.getfield 14, 3) := by decide +kernel
theorem dX0_score_22 : decode cX0_score 22 = .ok (.invokevirtual 20, 3) := by decide +kernel
theorem dX0_score_25 : decode cX0_score 25 = .ok (.iload 4, 2) := by decide +kernel
theorem dX0_score_27 : decode cX0_score 27 = .ok (.iconst 1, 1) := by decide +kernel
theorem dX0_score_28 : decode cX0_score 28 = .ok (.isub, 1) := by decide +kernel
theorem dX0_score_29 : decode cX0_score 29 = .ok (.istore 5, 2) := by decide +kernel
theorem dX0_score_31 : decode cX0_score 31 = .ok (.iload 5, 2) := by decide +kernel
theorem dX0_score_33 : decode cX0_score 33 = .ok (.ifCond .lt 110, 3) := by decide +kernel
theorem dX0_score_36 : decode cX0_score 36 = .ok (.aload_n 0, 1) := by decide +kernel
theorem dX0_score_37 : decode cX0_score 37 = .ok (.aload_n 1, 1) := by decide +kernel
theorem dX0_score_38 : decode cX0_score 38 = .ok (.aload_n 2, 1) := by decide +kernel
theorem dX0_score_39 : decode cX0_score 39 = .ok (.iload 5, 2) := by decide +kernel
theorem dX0_score_41 : decode cX0_score 41 = .ok (.iload_n 3, 1) := by decide +kernel
theorem dX0_score_42 : decode cX0_score 42 = .ok (.imul, 1) := by decide +kernel
theorem dX0_score_43 : decode cX0_score 43 = .ok (.iload_n 3, 1) := by decide +kernel
theorem dX0_score_44 : decode cX0_score 44 = .ok (.iload 5, 2) := by decide +kernel
theorem dX0_score_46 : decode cX0_score 46 = .ok (.invokevirtual 23, 3) := by decide +kernel
theorem dX0_score_49 : decode cX0_score 49 = .ok (.iconst 0, 1) := by decide +kernel
theorem dX0_score_50 : decode cX0_score 50 = .ok (.istore 6, 2) := by decide +kernel
theorem dX0_score_52 : decode cX0_score 52 = .ok (.iload 6, 2) := by decide +kernel
theorem dX0_score_54 : decode cX0_score 54 = .ok (.aload_n 1, 1) := by decide +kernel
theorem dX0_score_55 : decode cX0_score 55 = .ok (.getfield 27, 3) := by decide +kernel
theorem dX0_score_58 : decode cX0_score 58 = .ok (.invokevirtual 57, 3) := by decide +kernel
theorem dX0_score_61 : decode cX0_score 61 = .ok (.if_icmp .ge 76, 3) := by decide +kernel
theorem dX0_score_64 : decode cX0_score 64 = .ok (.iload 5, 2) := by decide +kernel
theorem dX0_score_66 : decode cX0_score 66 = .ok (.iconst 1, 1) := by decide +kernel
theorem dX0_score_67 : decode cX0_score 67 = .ok (.iadd, 1) := by decide +kernel
theorem dX0_score_68 : decode cX0_score 68 = .ok (.iload 4, 2) := by decide +kernel
theorem dX0_score_70 : decode cX0_score 70 = .ok (.if_icmp .ge 67, 3) := by decide +kernel
theorem dX0_score_73 : decode cX0_score 73 = .ok (.iload 5, 2) := by decide +kernel
theorem dX0_score_75 : decode cX0_score 75 = .ok (.iconst 1, 1) := by decide +kernel
theorem dX0_score_76 : decode cX0_score 76 = .ok (.iadd, 1) := by decide +kernel
theorem dX0_score_77 : decode cX0_score 77 = .ok (.invokestatic 61, 3) := by decide +kernel
theorem dX0_score_80 : decode cX0_score 80 = .ok (.istore 7, 2) := by decide +kernel
theorem dX0_score_82 : decode cX0_score 82 = .ok (.aload_n 1, 1) := by decide +kernel
theorem dX0_score_83 : decode cX0_score 83 = .ok (.getfield 27, 3) := by decide +kernel
theorem dX0_score_86 : decode cX0_score 86 = .ok (.aload_n 1, 1) := by decide +kernel
theorem dX0_score_87 : decode cX0_score 87 = .ok (.getfield 27, 3) := by decide +kernel
theorem dX0_score_90 : decode cX0_score 90 = .ok (.iload 6, 2) := by decide +kernel
theorem dX0_score_92 : decode cX0_score 92 = .ok (.invokevirtual 65, 3) := by decide +kernel
theorem dX0_score_95 : decode cX0_score 95 = .ok (.aload_n 0, 1) := by decide +kernel
theorem dX0_score_96 : decode cX0_score 96 = .ok (.getfield 14, 3) := by decide +kernel
theorem dX0_score_99 : decode cX0_score 99 = .ok (.iload 7, 2) := by decide +kernel
theorem dX0_score_101 : decode cX0_score 101 = .ok (.invokevirtual 39, 3) := by decide +kernel
theorem dX0_score_104 : decode cX0_score 104 = .ok (.istore 8, 2) := by decide +kernel
theorem dX0_score_106 : decode cX0_score 106 = .ok (.aload_n 0, 1) := by decide +kernel
theorem dX0_score_107 : decode cX0_score 107 = .ok (.getfield 14, 3) := by decide +kernel
theorem dX0_score_110 : decode cX0_score 110 = .ok (.iload 5, 2) := by decide +kernel
theorem dX0_score_112 : decode cX0_score 112 = .ok (.invokestatic 61, 3) := by decide +kernel
theorem dX0_score_115 : decode cX0_score 115 = .ok (.iload 6, 2) := by decide +kernel
theorem dX0_score_117 : decode cX0_score 117 = .ok (.iadd, 1) := by decide +kernel
theorem dX0_score_118 : decode cX0_score 118 = .ok (.aload_n 0, 1) := by decide +kernel
theorem dX0_score_119 : decode cX0_score 119 = .ok (.getfield 14, 3) := by decide +kernel
theorem dX0_score_122 : decode cX0_score 122 = .ok (.iload 7, 2) := by decide +kernel
theorem dX0_score_124 : decode cX0_score 124 = .ok (.iload 8, 2) := by decide +kernel
theorem dX0_score_126 : decode cX0_score 126 = .ok (.iadd, 1) := by decide +kernel
theorem dX0_score_127 : decode cX0_score 127 = .ok (.iconst 1, 1) := by decide +kernel
theorem dX0_score_128 : decode cX0_score 128 = .ok (.invokevirtual 69, 3) := by decide +kernel
theorem dX0_score_131 : decode cX0_score 131 = .ok (.iinc 6 1, 3) := by decide +kernel
theorem dX0_score_134 : decode cX0_score 134 = .ok (.goto (-82), 3) := by decide +kernel
theorem dX0_score_137 : decode cX0_score 137 = .ok (.iinc 5 (-1), 3) := by decide +kernel
theorem dX0_score_140 : decode cX0_score 140 = .ok (.goto (-109), 3) := by decide +kernel
theorem dX0_score_143 : decode cX0_score 143 = .ok (.return_, 1) := by decide +kernel
theorem dX0_trackCellIn_0 : decode cX0_trackCellIn 0 = .ok (.aload_n 1, 1) := by decide +kernel
theorem dX0_trackCellIn_1 : decode cX0_trackCellIn 1 = .ok (.aload_n 1, 1) := by decide +kernel
theorem dX0_trackCellIn_2 : decode cX0_trackCellIn 2 = .ok (.getfield 33, 3) := by decide +kernel
theorem dX0_trackCellIn_5 : decode cX0_trackCellIn 5 = .ok (.aload_n 0, 1) := by decide +kernel
theorem dX0_trackCellIn_6 : decode cX0_trackCellIn 6 = .ok (.getfield 14, 3) := by decide +kernel
theorem dX0_trackCellIn_9 : decode cX0_trackCellIn 9 = .ok (.iconst 0, 1) := by decide +kernel
theorem dX0_trackCellIn_10 : decode cX0_trackCellIn 10 = .ok (.invokevirtual 39, 3) := by decide +kernel
theorem dX0_trackCellIn_13 : decode cX0_trackCellIn 13 = .ok (.istore_n 3, 1) := by decide +kernel
theorem dX0_trackCellIn_14 : decode cX0_trackCellIn 14 = .ok (.iconst 1, 1) := by decide +kernel
theorem dX0_trackCellIn_15 : decode cX0_trackCellIn 15 = .ok (.istore 4, 2) := by decide +kernel
theorem dX0_trackCellIn_17 : decode cX0_trackCellIn 17 = .ok (.iload 4, 2) := by decide +kernel
theorem dX0_trackCellIn_19 : decode cX0_trackCellIn 19 = .ok (.iload_n 2, 1) := by decide +kernel
theorem dX0_trackCellIn_20 : decode cX0_trackCellIn 20 = .ok (.if_icmp .gt 35, 3) := by decide +kernel
theorem dX0_trackCellIn_23 : decode cX0_trackCellIn 23 = .ok (.iload 4, 2) := by decide +kernel
theorem dX0_trackCellIn_25 : decode cX0_trackCellIn 25 = .ok (.bipush 50, 2) := by decide +kernel
theorem dX0_trackCellIn_27 : decode cX0_trackCellIn 27 = .ok (.if_icmp .ge 28, 3) := by decide +kernel
theorem dX0_trackCellIn_30 : decode cX0_trackCellIn 30 = .ok (.aload_n 1, 1) := by decide +kernel
theorem dX0_trackCellIn_31 : decode cX0_trackCellIn 31 = .ok (.aload_n 1, 1) := by decide +kernel
theorem dX0_trackCellIn_32 : decode cX0_trackCellIn 32 = .ok (.iload_n 3, 1) := by decide +kernel
theorem dX0_trackCellIn_33 : decode cX0_trackCellIn 33 = .ok (.invokevirtual 65, 3) := by decide +kernel
theorem dX0_trackCellIn_36 : decode cX0_trackCellIn 36 = .ok (.aload_n 0, 1) := by decide +kernel
theorem dX0_trackCellIn_37 : decode cX0_trackCellIn 37 = .ok (.getfield 14, 3) := by decide +kernel
theorem dX0_trackCellIn_40 : decode cX0_trackCellIn 40 = .ok (.iload 4, 2) := by decide +kernel
theorem dX0_trackCellIn_42 : decode cX0_trackCellIn 42 = .ok (.invokestatic 61, 3) := by decide +kernel
theorem dX0_trackCellIn_45 : decode cX0_trackCellIn 45 = .ok (.invokevirtual 39, 3) := by decide +kernel
theorem dX0_trackCellIn_48 : decode cX0_trackCellIn 48 = .ok (.istore_n 3, 1) := by decide +kernel
theorem dX0_trackCellIn_49 : decode cX0_trackCellIn 49 = .ok (.iinc 4 1, 3) := by decide +kernel
theorem dX0_trackCellIn_52 : decode cX0_trackCellIn 52 = .ok (.goto (-35), 3) := by decide +kernel
theorem dX0_trackCellIn_55 : decode cX0_trackCellIn 55 = .ok (.iload_n 3, 1) := by decide +kernel
theorem dX0_trackCellIn_56 : decode cX0_trackCellIn 56 = .ok (.ireturn, 1) := by decide +kernel
theorem dX0_measure_0 : decode cX0_measure 0 = .ok (.iconst 0, 1) := by decide +kernel
theorem dX0_measure_1 : decode cX0_measure 1 = .ok (.istore 6, 2) := by decide +kernel
theorem dX0_measure_3 : decode cX0_measure 3 = .ok (.iload 6, 2) := by decide +kernel
theorem dX0_measure_5 : decode cX0_measure 5 = .ok (.aload_n 1, 1) := by decide +kernel
theorem dX0_measure_6 : decode cX0_measure 6 = .ok (.getfield 27, 3) := by decide +kernel
theorem dX0_measure_9 : decode cX0_measure 9 = .ok (.invokevirtual 57, 3) := by decide +kernel
theorem dX0_measure_12 : decode cX0_measure 12 = .ok (.if_icmp .ge 35, 3) := by decide +kernel
theorem dX0_measure_15 : decode cX0_measure 15 = .ok (.aload_n 2, 1) := by decide +kernel
theorem dX0_measure_16 : decode cX0_measure 16 = .ok (.aload_n 1, 1) := by decide +kernel
theorem dX0_measure_17 : decode cX0_measure 17 = .ok (.getfield 73, 3) := by decide +kernel
theorem dX0_measure_20 : decode cX0_measure 20 = .ok (.iload 6, 2) := by decide +kernel
theorem dX0_measure_22 : decode cX0_measure 22 = .ok (.aaload, 1) := by decide +kernel
theorem dX0_measure_23 : decode cX0_measure 23 = .ok (.iload_n 3, 1) := by decide +kernel
theorem dX0_measure_24 : decode cX0_measure 24 = .ok (.iload 4, 2) := by decide +kernel
theorem dX0_measure_26 : decode cX0_measure 26 = .ok (.aload_n 0, 1) := by decide +kernel
theorem dX0_measure_27 : decode cX0_measure 27 = .ok (.getfield 14, 3) := by decide +kernel
theorem dX0_measure_30 : decode cX0_measure 30 = .ok (.iload 5, 2) := by decide +kernel
theorem dX0_measure_32 : decode cX0_measure 32 = .ok (.invokestatic 61, 3) := by decide +kernel
theorem dX0_measure_35 : decode cX0_measure 35 = .ok (.iload 6, 2) := by decide +kernel
theorem dX0_measure_37 : decode cX0_measure 37 = .ok (.iadd, 1) := by decide +kernel
theorem dX0_measure_38 : decode cX0_measure 38 = .ok (.invokevirtual 77, 3) := by decide +kernel
theorem dX0_measure_41 : decode cX0_measure 41 = .ok (.iinc 6 1, 3) := by decide +kernel
theorem dX0_measure_44 : decode cX0_measure 44 = .ok (.goto (-41), 3) := by decide +kernel
theorem dX0_measure_47 : decode cX0_measure 47 = .ok (.return_, 1) := by decide +kernel
theorem dX0_rowStart_0 : decode cX0_rowStart 0 = .ok (.iload_n 0, 1) := by decide +kernel
theorem dX0_rowStart_1 : decode cX0_rowStart 1 = .ok (.sipush 144, 3) := by decide +kernel
theorem dX0_rowStart_4 : decode cX0_rowStart 4 = .ok (.imul, 1) := by decide +kernel
theorem dX0_rowStart_5 : decode cX0_rowStart 5 = .ok (.ireturn, 1) := by decide +kernel
theorem dX1_init_0 : decode cX1_init 0 = .ok (.aload_n 0, 1) := by decide +kernel
theorem dX1_init_1 : decode cX1_init 1 = .ok (.invokespecial 3, 3) := by decide +kernel
theorem dX1_init_4 : decode cX1_init 4 = .ok (.aload_n 0, 1) := by decide +kernel
theorem dX1_init_5 : decode cX1_init 5 = .ok (.iconst 4, 1) := by decide +kernel
theorem dX1_init_6 : decode cX1_init 6 = .ok (.newarray .int, 2) := by decide +kernel
theorem dX1_init_8 : decode cX1_init 8 = .ok (.putfield 9, 3) := by decide +kernel
theorem dX1_init_11 : decode cX1_init 11 = .ok (.aload_n 0, 1) := by decide +kernel
theorem dX1_init_12 : decode cX1_init 12 = .ok (.iconst 4, 1) := by decide +kernel
theorem dX1_init_13 : decode cX1_init 13 = .ok (.iconst 4, 1) := by decide +kernel
theorem dX1_init_14 : decode cX1_init 14 = .ok (.multianewarray 15 2, 4) := by decide +kernel
theorem dX1_init_18 : decode cX1_init 18 = .ok (.putfield 17, 3) := by decide +kernel
theorem dX1_init_21 : decode cX1_init 21 = .ok (.aload_n 0, 1) := by decide +kernel
theorem dX1_init_22 : decode cX1_init 22 = .ok (.iconst 4, 1) := by decide +kernel
theorem dX1_init_23 : decode cX1_init 23 = .ok (.newarray .int, 2) := by decide +kernel
theorem dX1_init_25 : decode cX1_init 25 = .ok (.putfield 20, 3) := by decide +kernel
theorem dX1_init_28 : decode cX1_init 28 = .ok (.return_, 1) := by decide +kernel
theorem dX1_clear_0 : decode cX1_clear 0 = .ok (.aload_n 0, 1) := by decide +kernel
theorem dX1_clear_1 : decode cX1_clear 1 = .ok (.iconst 0, 1) := by decide +kernel
theorem dX1_clear_2 : decode cX1_clear 2 = .ok (.putfield 23, 3) := by decide +kernel
theorem dX1_clear_5 : decode cX1_clear 5 = .ok (.aload_n 0, 1) := by decide +kernel
theorem dX1_clear_6 : decode cX1_clear 6 = .ok (.iconst 0, 1) := by decide +kernel
theorem dX1_clear_7 : decode cX1_clear 7 = .ok (.putfield 27, 3) := by decide +kernel
theorem dX1_clear_10 : decode cX1_clear 10 = .ok (.aload_n 0, 1) := by decide +kernel
theorem dX1_clear_11 : decode cX1_clear 11 = .ok (.iconst 0, 1) := by decide +kernel
theorem dX1_clear_12 : decode cX1_clear 12 = .ok (.putfield 30, 3) := by decide +kernel
theorem dX1_clear_15 : decode cX1_clear 15 = .ok (.return_, 1) := by decide +kernel
theorem dX1_open_0 : decode cX1_open 0 = .ok (.aload_n 0, 1) := by decide +kernel
theorem dX1_open_1 : decode cX1_open 1 = .ok (.iload_n 1, 1) := by decide +kernel
theorem dX1_open_2 : decode cX1_open 2 = .ok (.putfield 23, 3) := by decide +kernel
theorem dX1_open_5 : decode cX1_open 5 = .ok (.aload_n 0, 1) := by decide +kernel
theorem dX1_open_6 : decode cX1_open 6 = .ok (.iload_n 2, 1) := by decide +kernel
theorem dX1_open_7 : decode cX1_open 7 = .ok (.putfield 27, 3) := by decide +kernel
theorem dX1_open_10 : decode cX1_open 10 = .ok (.aload_n 0, 1) := by decide +kernel
theorem dX1_open_11 : decode cX1_open 11 = .ok (.getfield 9, 3) := by decide +kernel
theorem dX1_open_14 : decode cX1_open 14 = .ok (.iconst 2, 1) := by decide +kernel
theorem dX1_open_15 : decode cX1_open 15 = .ok (.iload_n 1, 1) := by decide +kernel
theorem dX1_open_16 : decode cX1_open 16 = .ok (.iconst 1, 1) := by decide +kernel
theorem dX1_open_17 : decode cX1_open 17 = .ok (.isub, 1) := by decide +kernel
theorem dX1_open_18 : decode cX1_open 18 = .ok (.iastore, 1) := by decide +kernel
theorem dX1_open_19 : decode cX1_open 19 = .ok (.aload_n 0, 1) := by decide +kernel
theorem dX1_open_20 : decode cX1_open 20 = .ok (.getfield 9, 3) := by decide +kernel
theorem dX1_open_23 : decode cX1_open 23 = .ok (.iconst 3, 1) := by decide +kernel
theorem dX1_open_24 : decode cX1_open 24 = .ok (.iload_n 2, 1) := by decide +kernel
theorem dX1_open_25 : decode cX1_open 25 = .ok (.iconst 1, 1) := by decide +kernel
theorem dX1_open_26 : decode cX1_open 26 = .ok (.isub, 1) := by decide +kernel
theorem dX1_open_27 : decode cX1_open 27 = .ok (.iastore, 1) := by decide +kernel
theorem dX1_open_28 : decode cX1_open 28 = .ok (.return_, 1) := by decide +kernel
theorem dX1_cells_0 : decode cX1_cells 0 = .ok (.aload_n 0, 1) := by decide +kernel
theorem dX1_cells_1 : decode cX1_cells 1 = .ok (.getfield 23, 3) := by decide +kernel
theorem dX1_cells_4 : decode cX1_cells 4 = .ok (.aload_n 0, 1) := by decide +kernel
theorem dX1_cells_5 : decode cX1_cells 5 = .ok (.getfield 27, 3) := by decide +kernel
theorem dX1_cells_8 : decode cX1_cells 8 = .ok (.imul, 1) := by decide +kernel
theorem dX1_cells_9 : decode cX1_cells 9 = .ok (.ireturn, 1) := by decide +kernel
theorem dX1_columnOf_0 : decode cX1_columnOf 0 = .ok (.iload_n 1, 1) := by decide +kernel
theorem dX1_columnOf_1 : decode cX1_columnOf 1 = .ok (.aload_n 0, 1) := by decide +kernel
theorem dX1_columnOf_2 : decode cX1_columnOf 2 = .ok (.getfield 23, 3) := by decide +kernel
theorem dX1_columnOf_5 : decode cX1_columnOf 5 = .ok (.invokestatic 33, 3) := by decide +kernel
theorem dX1_columnOf_8 : decode cX1_columnOf 8 = .ok (.ireturn, 1) := by decide +kernel
theorem dX1_rowOf_0 : decode cX1_rowOf 0 = .ok (.iload_n 1, 1) := by decide +kernel
theorem dX1_rowOf_1 : decode cX1_rowOf 1 = .ok (.i2l, 1) := by decide +kernel
theorem dX1_rowOf_2 : decode cX1_rowOf 2 = .ok (.aload_n 0, 1) := by decide +kernel
theorem dX1_rowOf_3 : decode cX1_rowOf 3 = .ok (.getfield 23, 3) := by decide +kernel
theorem dX1_rowOf_6 : decode cX1_rowOf 6 = .ok (.i2l, 1) := by decide +kernel
theorem dX1_rowOf_7 : decode cX1_rowOf 7 = .ok (.invokestatic 37, 3) := by decide +kernel
theorem dX1_rowOf_10 : decode cX1_rowOf 10 = .ok (.l2i, 1) := by decide +kernel
theorem dX1_rowOf_11 : decode cX1_rowOf 11 = .ok (.ireturn, 1) := by decide +kernel
theorem dX1_centreX_0 : decode cX1_centreX 0 = .ok (.aload_n 0, 1) := by decide +kernel
theorem dX1_centreX_1 : decode cX1_centreX 1 = .ok (.getfield 41, 3) := by decide +kernel
theorem dX1_centreX_4 : decode cX1_centreX 4 = .ok (.aload_n 0, 1) := by decide +kernel
theorem dX1_centreX_5 : decode cX1_centreX 5 = .ok (.getfield 44, 3) := by decide +kernel
theorem dX1_centreX_8 : decode cX1_centreX 8 = .ok (.aload_n 0, 1) := by decide +kernel
theorem dX1_centreX_9 : decode cX1_centreX 9 = .ok (.iload_n 1, 1) := by decide +kernel
theorem dX1_centreX_10 : decode cX1_centreX 10 = .ok (.invokevirtual 47, 3) := by decide +kernel
theorem dX1_centreX_13 : decode cX1_centreX 13 = .ok (.imul, 1) := by decide +kernel
theorem dX1_centreX_14 : decode cX1_centreX 14 = .ok (.iadd, 1) := by decide +kernel
theorem dX1_centreX_15 : decode cX1_centreX 15 = .ok (.ireturn, 1) := by decide +kernel
theorem dX1_centreY_0 : decode cX1_centreY 0 = .ok (.aload_n 0, 1) := by decide +kernel
theorem dX1_centreY_1 : decode cX1_centreY 1 = .ok (.getfield 51, 3) := by decide +kernel
theorem dX1_centreY_4 : decode cX1_centreY 4 = .ok (.aload_n 0, 1) := by decide +kernel
theorem dX1_centreY_5 : decode cX1_centreY 5 = .ok (.getfield 44, 3) := by decide +kernel
theorem dX1_centreY_8 : decode cX1_centreY 8 = .ok (.aload_n 0, 1) := by decide +kernel
theorem dX1_centreY_9 : decode cX1_centreY 9 = .ok (.iload_n 1, 1) := by decide +kernel
theorem dX1_centreY_10 : decode cX1_centreY 10 = .ok (.invokevirtual 54, 3) := by decide +kernel
theorem dX1_centreY_13 : decode cX1_centreY 13 = .ok (.imul, 1) := by decide +kernel
theorem dX1_centreY_14 : decode cX1_centreY 14 = .ok (.iadd, 1) := by decide +kernel
theorem dX1_centreY_15 : decode cX1_centreY 15 = .ok (.ireturn, 1) := by decide +kernel
theorem dX1_areaAround_0 : decode cX1_areaAround 0 = .ok (.aload_n 0, 1) := by decide +kernel
theorem dX1_areaAround_1 : decode cX1_areaAround 1 = .ok (.iload_n 1, 1) := by decide +kernel
theorem dX1_areaAround_2 : decode cX1_areaAround 2 = .ok (.invokevirtual 47, 3) := by decide +kernel
theorem dX1_areaAround_5 : decode cX1_areaAround 5 = .ok (.istore_n 2, 1) := by decide +kernel
theorem dX1_areaAround_6 : decode cX1_areaAround 6 = .ok (.aload_n 0, 1) := by decide +kernel
theorem dX1_areaAround_7 : decode cX1_areaAround 7 = .ok (.iload_n 1, 1) := by decide +kernel
theorem dX1_areaAround_8 : decode cX1_areaAround 8 = .ok (.invokevirtual 54, 3) := by decide +kernel
theorem dX1_areaAround_11 : decode cX1_areaAround 11 = .ok (.istore_n 3, 1) := by decide +kernel
theorem dX1_areaAround_12 : decode cX1_areaAround 12 = .ok (.aload_n 0, 1) := by decide +kernel
theorem dX1_areaAround_13 : decode cX1_areaAround 13 = .ok (.getfield 20, 3) := by decide +kernel
theorem dX1_areaAround_16 : decode cX1_areaAround 16 = .ok (.iconst 0, 1) := by decide +kernel
theorem dX1_areaAround_17 : decode cX1_areaAround 17 = .ok (.iload_n 2, 1) := by decide +kernel
theorem dX1_areaAround_18 : decode cX1_areaAround 18 = .ok (.iconst 1, 1) := by decide +kernel
theorem dX1_areaAround_19 : decode cX1_areaAround 19 = .ok (.isub, 1) := by decide +kernel
theorem dX1_areaAround_20 : decode cX1_areaAround 20 = .ok (.iconst 0, 1) := by decide +kernel
theorem dX1_areaAround_21 : decode cX1_areaAround 21 = .ok (.invokestatic 57, 3) := by decide +kernel
theorem dX1_areaAround_24 : decode cX1_areaAround 24 = .ok (.iastore, 1) := by decide +kernel
theorem dX1_areaAround_25 : decode cX1_areaAround 25 = .ok (.aload_n 0, 1) := by decide +kernel
theorem dX1_areaAround_26 : decode cX1_areaAround 26 = .ok (.getfield 20, 3) := by decide +kernel
theorem dX1_areaAround_29 : decode cX1_areaAround 29 = .ok (.iconst 1, 1) := by decide +kernel
theorem dX1_areaAround_30 : decode cX1_areaAround 30 = .ok (.iload_n 3, 1) := by decide +kernel
theorem dX1_areaAround_31 : decode cX1_areaAround 31 = .ok (.iconst 1, 1) := by decide +kernel
theorem dX1_areaAround_32 : decode cX1_areaAround 32 = .ok (.isub, 1) := by decide +kernel
theorem dX1_areaAround_33 : decode cX1_areaAround 33 = .ok (.iconst 0, 1) := by decide +kernel
theorem dX1_areaAround_34 : decode cX1_areaAround 34 = .ok (.invokestatic 57, 3) := by decide +kernel
theorem dX1_areaAround_37 : decode cX1_areaAround 37 = .ok (.iastore, 1) := by decide +kernel
theorem dX1_areaAround_38 : decode cX1_areaAround 38 = .ok (.aload_n 0, 1) := by decide +kernel
theorem dX1_areaAround_39 : decode cX1_areaAround 39 = .ok (.getfield 20, 3) := by decide +kernel
theorem dX1_areaAround_42 : decode cX1_areaAround 42 = .ok (.iconst 2, 1) := by decide +kernel
theorem dX1_areaAround_43 : decode cX1_areaAround 43 = .ok (.iload_n 2, 1) := by decide +kernel
theorem dX1_areaAround_44 : decode cX1_areaAround 44 = .ok (.iconst 1, 1) := by decide +kernel
theorem dX1_areaAround_45 : decode cX1_areaAround 45 = .ok (.iadd, 1) := by decide +kernel
theorem dX1_areaAround_46 : decode cX1_areaAround 46 = .ok (.aload_n 0, 1) := by decide +kernel
theorem dX1_areaAround_47 : decode cX1_areaAround 47 = .ok (.getfield 23, 3) := by decide +kernel
theorem dX1_areaAround_50 : decode cX1_areaAround 50 = .ok (.iconst 1, 1) := by decide +kernel
theorem dX1_areaAround_51 : decode cX1_areaAround 51 = .ok (.isub, 1) := by decide +kernel
theorem dX1_areaAround_52 : decode cX1_areaAround 52 = .ok (.invokestatic 62, 3) := by decide +kernel
theorem dX1_areaAround_55 : decode cX1_areaAround 55 = .ok (.iastore, 1) := by decide +kernel
theorem dX1_areaAround_56 : decode cX1_areaAround 56 = .ok (.aload_n 0, 1) := by decide +kernel
theorem dX1_areaAround_57 : decode cX1_areaAround 57 = .ok (.getfield 20, 3) := by decide +kernel
theorem dX1_areaAround_60 : decode cX1_areaAround 60 = .ok (.iconst 3, 1) := by decide +kernel
theorem dX1_areaAround_61 : decode cX1_areaAround 61 = .ok (.iload_n 3, 1) := by decide +kernel
theorem dX1_areaAround_62 : decode cX1_areaAround 62 = .ok (.iconst 1, 1) := by decide +kernel
theorem dX1_areaAround_63 : decode cX1_areaAround 63 = .ok (.iadd, 1) := by decide +kernel
theorem dX1_areaAround_64 : decode cX1_areaAround 64 = .ok (.aload_n 0, 1) := by decide +kernel
theorem dX1_areaAround_65 : decode cX1_areaAround 65 = .ok (.getfield 27, 3) := by decide +kernel
theorem dX1_areaAround_68 : decode cX1_areaAround 68 = .ok (.iconst 1, 1) := by decide +kernel
theorem dX1_areaAround_69 : decode cX1_areaAround 69 = .ok (.isub, 1) := by decide +kernel
theorem dX1_areaAround_70 : decode cX1_areaAround 70 = .ok (.invokestatic 62, 3) := by decide +kernel
theorem dX1_areaAround_73 : decode cX1_areaAround 73 = .ok (.iastore, 1) := by decide +kernel
theorem dX1_areaAround_74 : decode cX1_areaAround 74 = .ok (.aload_n 0, 1) := by decide +kernel
theorem dX1_areaAround_75 : decode cX1_areaAround 75 = .ok (.getfield 20, 3) := by decide +kernel
theorem dX1_areaAround_78 : decode cX1_areaAround 78 = .ok (.areturn, 1) := by decide +kernel
theorem dX1_bestIn_0 : decode cX1_bestIn 0 = .ok (.aload_n 1, 1) := by decide +kernel
theorem dX1_bestIn_1 : decode cX1_bestIn 1 = .ok (.iconst 1, 1) := by decide +kernel
theorem dX1_bestIn_2 : decode cX1_bestIn 2 = .ok (.iaload, 1) := by decide +kernel
theorem dX1_bestIn_3 : decode cX1_bestIn 3 = .ok (.aload_n 0, 1) := by decide +kernel
theorem dX1_bestIn_4 : decode cX1_bestIn 4 = .ok (.getfield 23, 3) := by decide +kernel
theorem dX1_bestIn_7 : decode cX1_bestIn 7 = .ok (.imul, 1) := by decide +kernel
theorem dX1_bestIn_8 : decode cX1_bestIn 8 = .ok (.aload_n 1, 1) := by decide +kernel
theorem dX1_bestIn_9 : decode cX1_bestIn 9 = .ok (.iconst 0, 1) := by decide +kernel
theorem dX1_bestIn_10 : decode cX1_bestIn 10 = .ok (.iaload, 1) := by decide +kernel
theorem dX1_bestIn_11 : decode cX1_bestIn 11 = .ok (.iadd, 1) := by decide +kernel
theorem dX1_bestIn_12 : decode cX1_bestIn 12 = .ok (.istore 4, 2) := by decide +kernel
theorem dX1_bestIn_14 : decode cX1_bestIn 14 = .ok (.aload_n 1, 1) := by decide +kernel
theorem dX1_bestIn_15 : decode cX1_bestIn 15 = .ok (.iconst 1, 1) := by decide +kernel
theorem dX1_bestIn_16 : decode cX1_bestIn 16 = .ok (.iaload, 1) := by decide +kernel
theorem dX1_bestIn_17 : decode cX1_bestIn 17 = .ok (.istore 5, 2) := by decide +kernel
theorem dX1_bestIn_19 : decode cX1_bestIn 19 = .ok (.iload 5, 2) := by decide +kernel
theorem dX1_bestIn_21 : decode cX1_bestIn 21 = .ok (.aload_n 1, 1) := by decide +kernel
theorem dX1_bestIn_22 : decode cX1_bestIn 22 = .ok (.iconst 3, 1) := by decide +kernel
theorem dX1_bestIn_23 : decode cX1_bestIn 23 = .ok (.iaload, 1) := by decide +kernel
theorem dX1_bestIn_24 : decode cX1_bestIn 24 = .ok (.if_icmp .gt 59, 3) := by decide +kernel
theorem dX1_bestIn_27 : decode cX1_bestIn 27 = .ok (.aload_n 1, 1) := by decide +kernel
theorem dX1_bestIn_28 : decode cX1_bestIn 28 = .ok (.iconst 0, 1) := by decide +kernel
theorem dX1_bestIn_29 : decode cX1_bestIn 29 = .ok (.iaload, 1) := by decide +kernel
theorem dX1_bestIn_30 : decode cX1_bestIn 30 = .ok (.istore 6, 2) := by decide +kernel
theorem dX1_bestIn_32 : decode cX1_bestIn 32 = .ok (.iload 6, 2) := by decide +kernel
theorem dX1_bestIn_34 : decode cX1_bestIn 34 = .ok (.aload_n 1, 1) := by decide +kernel
theorem dX1_bestIn_35 : decode cX1_bestIn 35 = .ok (.iconst 2, 1) := by decide +kernel
theorem dX1_bestIn_36 : decode cX1_bestIn 36 = .ok (.iaload, 1) := by decide +kernel
theorem dX1_bestIn_37 : decode cX1_bestIn 37 = .ok (.if_icmp .gt 40, 3) := by decide +kernel
theorem dX1_bestIn_40 : decode cX1_bestIn 40 = .ok (.iload 5, 2) := by decide +kernel
theorem dX1_bestIn_42 : decode cX1_bestIn 42 = .ok (.aload_n 0, 1) := by decide +kernel
theorem dX1_bestIn_43 : decode cX1_bestIn 43 = .ok (.getfield 23, 3) := by decide +kernel
theorem dX1_bestIn_46 : decode cX1_bestIn 46 = .ok (.imul, 1) := by decide +kernel
theorem dX1_bestIn_47 : decode cX1_bestIn 47 = .ok (.iload 6, 2) := by decide +kernel
theorem dX1_bestIn_49 : decode cX1_bestIn 49 = .ok (.iadd, 1) := by decide +kernel
theorem dX1_bestIn_50 : decode cX1_bestIn 50 = .ok (.istore 7, 2) := by decide +kernel
theorem dX1_bestIn_52 : decode cX1_bestIn 52 = .ok (.aload_n 2, 1) := by decide +kernel
theorem dX1_bestIn_53 : decode cX1_bestIn 53 = .ok (.iload_n 3, 1) := by decide +kernel
theorem dX1_bestIn_54 : decode cX1_bestIn 54 = .ok (.iload 7, 2) := by decide +kernel
theorem dX1_bestIn_56 : decode cX1_bestIn 56 = .ok (.iadd, 1) := by decide +kernel
theorem dX1_bestIn_57 : decode cX1_bestIn 57 = .ok (.iload_n 3, 1) := by decide +kernel
theorem dX1_bestIn_58 : decode cX1_bestIn 58 = .ok (.iload 4, 2) := by decide +kernel
theorem dX1_bestIn_60 : decode cX1_bestIn 60 = .ok (.iadd, 1) := by decide +kernel
theorem dX1_bestIn_61 : decode cX1_bestIn 61 = .ok (.invokevirtual 65, 3) := by decide +kernel
theorem dX1_bestIn_64 : decode cX1_bestIn 64 = .ok (.ifCond .le 7, 3) := by decide +kernel
theorem dX1_bestIn_67 : decode cX1_bestIn 67 = .ok (.iload 7, 2) := by decide +kernel
theorem dX1_bestIn_69 : decode cX1_bestIn 69 = .ok (.istore 4, 2) := by decide +kernel
theorem dX1_bestIn_71 : decode cX1_bestIn 71 = .ok (.iinc 6 1, 3) := by decide +kernel
theorem dX1_bestIn_74 : decode cX1_bestIn 74 = .ok (.goto (-42), 3) := by decide +kernel
theorem dX1_bestIn_77 : decode cX1_bestIn 77 = .ok (.iinc 5 1, 3) := by decide +kernel
theorem dX1_bestIn_80 : decode cX1_bestIn 80 = .ok (.goto (-61), 3) := by decide +kernel
theorem dX1_bestIn_83 : decode cX1_bestIn 83 = .ok (.iload 4, 2) := by decide +kernel
theorem dX1_bestIn_85 : decode cX1_bestIn 85 = .ok (.ireturn, 1) := by decide +kernel
theorem dX2_init_0 : decode cX2_init 0 = .ok (.aload_n 0, 1) := by decide +kernel
theorem dX2_init_1 : decode cX2_init 1 = .ok (.invokespecial 1, 3) := by decide +kernel
theorem dX2_init_4 : decode cX2_init 4 = .ok (.return_, 1) := by decide +kernel
theorem dX3_init_0 : decode cX3_init 0 = .ok (.aload_n 0, 1) := by decide +kernel
theorem dX3_init_1 : decode cX3_init 1 = .ok (.invokespecial 3, 3) := by decide +kernel
theorem dX3_init_4 : decode cX3_init 4 = .ok (.aload_n 0, 1) := by decide +kernel
theorem dX3_init_5 : decode cX3_init 5 = .ok (.iconst (-1), 1) := by decide +kernel
theorem dX3_init_6 : decode cX3_init 6 = .ok (.putfield 9, 3) := by decide +kernel
theorem dX3_init_9 : decode cX3_init 9 = .ok (.aload_n 0, 1) := by decide +kernel
theorem dX3_init_10 : decode cX3_init 10 = .ok (.aload_n 1, 1) := by decide +kernel
theorem dX3_init_11 : decode cX3_init 11 = .ok (.putfield 15, 3) := by decide +kernel
theorem dX3_init_14 : decode cX3_init 14 = .ok (.return_, 1) := by decide +kernel
theorem dX3_parse_0 : decode cX3_parse 0 = .ok (.aload_n 0, 1) := by decide +kernel
theorem dX3_parse_1 : decode cX3_parse 1 = .ok (.getfield 15, 3) := by decide +kernel
theorem dX3_parse_4 : decode cX3_parse 4 = .ok (.iload_n 1, 1) := by decide +kernel
theorem dX3_parse_5 : decode cX3_parse 5 = .ok (.invokevirtual 19, 3) := by decide +kernel
theorem dX3_parse_8 : decode cX3_parse 8 = .ok (.aload_n 0, 1) := by decide +kernel
theorem dX3_parse_9 : decode cX3_parse 9 = .ok (.iconst 0, 1) := by decide +kernel
theorem dX3_parse_10 : decode cX3_parse 10 = .ok (.putfield 25, 3) := by decide +kernel
theorem dX3_parse_13 : decode cX3_parse 13 = .ok (.aload_n 2, 1) := by decide +kernel
theorem dX3_parse_14 : decode cX3_parse 14 = .ok (.invokevirtual 28, 3) := by decide +kernel
theorem dX3_parse_17 : decode cX3_parse 17 = .ok (.aload_n 0, 1) := by decide +kernel
theorem dX3_parse_18 : decode cX3_parse 18 = .ok (.aload_n 2, 1) := by decide +kernel
theorem dX3_parse_19 : decode cX3_parse 19 = .ok (.invokevirtual 33, 3) := by decide +kernel
theorem dX3_parse_22 : decode cX3_parse 22 = .ok (.iconst 0, 1) := by decide +kernel
theorem dX3_parse_23 : decode cX3_parse 23 = .ok (.istore_n 3, 1) := by decide +kernel
theorem dX3_parse_24 : decode cX3_parse 24 = .ok (.iload_n 3, 1) := by decide +kernel
theorem dX3_parse_25 : decode cX3_parse 25 = .ok (.aload_n 0, 1) := by decide +kernel
theorem dX3_parse_26 : decode cX3_parse 26 = .ok (.getfield 15, 3) := by decide +kernel
theorem dX3_parse_29 : decode cX3_parse 29 = .ok (.getfield 37, 3) := by decide +kernel
theorem dX3_parse_32 : decode cX3_parse 32 = .ok (.if_icmp .ge 49, 3) := by decide +kernel
theorem dX3_parse_35 : decode cX3_parse 35 = .ok (.aload_n 0, 1) := by decide +kernel
theorem dX3_parse_36 : decode cX3_parse 36 = .ok (.invokevirtual 40, 3) := by decide +kernel
theorem dX3_parse_39 : decode cX3_parse 39 = .ok (.iconst 5, 1) := by decide +kernel
theorem dX3_parse_40 : decode cX3_parse 40 = .ok (.if_icmp .eq 41, 3) := by decide +kernel
theorem dX3_parse_43 : decode cX3_parse 43 = .ok (.aload_n 0, 1) := by decide +kernel
theorem dX3_parse_44 : decode cX3_parse 44 = .ok (.invokevirtual 40, 3) := by decide +kernel
theorem dX3_parse_47 : decode cX3_parse 47 = .ok (.iconst 4, 1) := by decide +kernel
theorem dX3_parse_48 : decode cX3_parse 48 = .ok (.if_icmp .eq 12, 3) := by decide +kernel
theorem dX3_parse_51 : decode cX3_parse 51 = .ok (.aload_n 0, 1) := by decide +kernel
theorem dX3_parse_52 : decode cX3_parse 52 = .ok (.aload_n 0, 1) := by decide +kernel
theorem dX3_parse_53 : decode cX3_parse 53 = .ok (.getfield 25, 3) := by decide +kernel
theorem dX3_parse_56 : decode cX3_parse 56 = .ok (.iconst 1, 1) := by decide +kernel
theorem dX3_parse_57 : decode cX3_parse 57 = .ok (.invokevirtual 44, 3) := by decide +kernel
theorem dX3_parse_60 : decode cX3_parse 60 = .ok (.aload_n 0, 1) := by decide +kernel
theorem dX3_parse_61 : decode cX3_parse 61 = .ok (.dup, 1) := by decide +kernel
theorem dX3_parse_62 : decode cX3_parse 62 = .ok (.getfield 25, 3) := by decide +kernel
theorem dX3_parse_65 : decode cX3_parse 65 = .ok (.iconst 1, 1) := by decide +kernel
theorem dX3_parse_66 : decode cX3_parse 66 = .ok (.iadd, 1) := by decide +kernel
theorem dX3_parse_67 : decode cX3_parse 67 = .ok (.putfield 25, 3) := by decide +kernel
theorem dX3_parse_70 : decode cX3_parse 70 = .ok (.aload_n 0, 1) := by decide +kernel
theorem dX3_parse_71 : decode cX3_parse 71 = .ok (.aload_n 2, 1) := by decide +kernel
theorem dX3_parse_72 : decode cX3_parse 72 = .ok (.invokevirtual 48, 3) := by decide +kernel
theorem dX3_parse_75 : decode cX3_parse 75 = .ok (.iinc 3 1, 3) := by decide +kernel
theorem dX3_parse_78 : decode cX3_parse 78 = .ok (.goto (-54), 3) := by decide +kernel
theorem dX3_parse_81 : decode cX3_parse 81 = .ok (.aload_n 2, 1) := by decide +kernel
theorem dX3_parse_82 : decode cX3_parse 82 = .ok (.getfield 51, 3) := by decide +kernel
theorem dX3_parse_85 : decode cX3_parse 85 = .ok (.ifCond .eq 13, 3) := by decide +kernel
theorem dX3_parse_88 : decode cX3_parse 88 = .ok (.aload_n 2, 1) := by decide +kernel
theorem dX3_parse_89 : decode cX3_parse 89 = .ok (.getfield 54, 3) := by decide +kernel
theorem dX3_parse_92 : decode cX3_parse 92 = .ok (.getfield 58, 3) := by decide +kernel
theorem dX3_parse_95 : decode cX3_parse 95 = .ok (.ifCond .ne 12, 3) := by decide +kernel
theorem dX3_parse_98 : decode cX3_parse 98 = .ok (.aload_n 0, 1) := by decide +kernel
theorem dX3_parse_99 : decode cX3_parse 99 = .ok (.aload_n 0, 1) := by decide +kernel
theorem dX3_parse_100 : decode cX3_parse 100 = .ok (.getfield 25, 3) := by decide +kernel
theorem dX3_parse_103 : decode cX3_parse 103 = .ok (.iconst 5, 1) := by decide +kernel
theorem dX3_parse_104 : decode cX3_parse 104 = .ok (.invokevirtual 44, 3) := by decide +kernel
theorem dX3_parse_107 : decode cX3_parse 107 = .ok (.aload_n 0, 1) := by decide +kernel
theorem dX3_parse_108 : decode cX3_parse 108 = .ok (.iconst 0, 1) := by decide +kernel
theorem dX3_parse_109 : decode cX3_parse 109 = .ok (.putfield 63, 3) := by decide +kernel
theorem dX3_parse_112 : decode cX3_parse 112 = .ok (.aload_n 0, 1) := by decide +kernel
theorem dX3_parse_113 : decode cX3_parse 113 = .ok (.iconst (-1), 1) := by decide +kernel
theorem dX3_parse_114 : decode cX3_parse 114 = .ok (.putfield 9, 3) := by decide +kernel
theorem dX3_parse_117 : decode cX3_parse 117 = .ok (.return_, 1) := by decide +kernel
theorem dX3_parseHead_0 : decode cX3_parseHead 0 = .ok (.aload_n 0, 1) := by decide +kernel
theorem dX3_parseHead_1 : decode cX3_parseHead 1 = .ok (.ldc 66, 2) := by decide +kernel
theorem dX3_parseHead_3 : decode cX3_parseHead 3 = .ok (.invokevirtual 68, 3) := by decide +kernel
theorem dX3_parseHead_6 : decode cX3_parseHead 6 = .ok (.aload_n 0, 1) := by decide +kernel
theorem dX3_parseHead_7 : decode cX3_parseHead 7 = .ok (.ldc 72, 2) := by decide +kernel
theorem dX3_parseHead_9 : decode cX3_parseHead 9 = .ok (.invokevirtual 68, 3) := by decide +kernel
theorem dX3_parseHead_12 : decode cX3_parseHead 12 = .ok (.aload_n 1, 1) := by decide +kernel
theorem dX3_parseHead_13 : decode cX3_parseHead 13 = .ok (.aload_n 0, 1) := by decide +kernel
theorem dX3_parseHead_14 : decode cX3_parseHead 14 = .ok (.bipush 100, 2) := by decide +kernel
theorem dX3_parseHead_16 : decode cX3_parseHead 16 = .ok (.sipush 5000, 3) := by decide +kernel
theorem dX3_parseHead_19 : decode cX3_parseHead 19 = .ok (.invokevirtual 74, 3) := by decide +kernel
theorem dX3_parseHead_22 : decode cX3_parseHead 22 = .ok (.putfield 78, 3) := by decide +kernel
theorem dX3_parseHead_25 : decode cX3_parseHead 25 = .ok (.aload_n 0, 1) := by decide +kernel
theorem dX3_parseHead_26 : decode cX3_parseHead 26 = .ok (.ldc 80, 2) := by decide +kernel
theorem dX3_parseHead_28 : decode cX3_parseHead 28 = .ok (.invokevirtual 68, 3) := by decide +kernel
theorem dX3_parseHead_31 : decode cX3_parseHead 31 = .ok (.aload_n 1, 1) := by decide +kernel
theorem dX3_parseHead_32 : decode cX3_parseHead 32 = .ok (.aload_n 0, 1) := by decide +kernel
theorem dX3_parseHead_33 : decode cX3_parseHead 33 = .ok (.iconst 1, 1) := by decide +kernel
theorem dX3_parseHead_34 : decode cX3_parseHead 34 = .ok (.bipush 99, 2) := by decide +kernel
theorem dX3_parseHead_36 : decode cX3_parseHead 36 = .ok (.invokevirtual 74, 3) := by decide +kernel
theorem dX3_parseHead_39 : decode cX3_parseHead 39 = .ok (.putfield 82, 3) := by decide +kernel
theorem dX3_parseHead_42 : decode cX3_parseHead 42 = .ok (.aload_n 0, 1) := by decide +kernel
theorem dX3_parseHead_43 : decode cX3_parseHead 43 = .ok (.ldc 84, 2) := by decide +kernel
theorem dX3_parseHead_45 : decode cX3_parseHead 45 = .ok (.invokevirtual 68, 3) := by decide +kernel
theorem dX3_parseHead_48 : decode cX3_parseHead 48 = .ok (.aload_n 1, 1) := by decide +kernel
theorem dX3_parseHead_49 : decode cX3_parseHead 49 = .ok (.aload_n 0, 1) := by decide +kernel
theorem dX3_parseHead_50 : decode cX3_parseHead 50 = .ok (.bipush 32, 2) := by decide +kernel
theorem dX3_parseHead_52 : decode cX3_parseHead 52 = .ok (.sipush 200, 3) := by decide +kernel
theorem dX3_parseHead_55 : decode cX3_parseHead 55 = .ok (.invokevirtual 74, 3) := by decide +kernel
theorem dX3_parseHead_58 : decode cX3_parseHead 58 = .ok (.putfield 86, 3) := by decide +kernel
theorem dX3_parseHead_61 : decode cX3_parseHead 61 = .ok (.aload_n 0, 1) := by decide +kernel
theorem dX3_parseHead_62 : decode cX3_parseHead 62 = .ok (.ldc 88, 2) := by decide +kernel
theorem dX3_parseHead_64 : decode cX3_parseHead 64 = .ok (.invokevirtual 68, 3) := by decide +kernel
theorem dX3_parseHead_67 : decode cX3_parseHead 67 = .ok (.aload_n 1, 1) := by decide +kernel
theorem dX3_parseHead_68 : decode cX3_parseHead 68 = .ok (.aload_n 0, 1) := by decide +kernel
theorem dX3_parseHead_69 : decode cX3_parseHead 69 = .ok (.iconst 1, 1) := by decide +kernel
theorem dX3_parseHead_70 : decode cX3_parseHead 70 = .ok (.sipush 9999, 3) := by decide +kernel
theorem dX3_parseHead_73 : decode cX3_parseHead 73 = .ok (.invokevirtual 74, 3) := by decide +kernel
theorem dX3_parseHead_76 : decode cX3_parseHead 76 = .ok (.putfield 90, 3) := by decide +kernel
theorem dX3_parseHead_79 : decode cX3_parseHead 79 = .ok (.return_, 1) := by decide +kernel
theorem dX3_parseLine_0 : decode cX3_parseLine 0 = .ok (.aload_n 0, 1) := by decide +kernel
theorem dX3_parseLine_1 : decode cX3_parseLine 1 = .ok (.ldc 92, 2) := by decide +kernel
theorem dX3_parseLine_3 : decode cX3_parseLine 3 = .ok (.invokevirtual 94, 3) := by decide +kernel
theorem dX3_parseLine_6 : decode cX3_parseLine 6 = .ok (.ifCond .eq 11, 3) := by decide +kernel
theorem dX3_parseLine_9 : decode cX3_parseLine 9 = .ok (.aload_n 0, 1) := by decide +kernel
theorem dX3_parseLine_10 : decode cX3_parseLine 10 = .ok (.aload_n 1, 1) := by decide +kernel
theorem dX3_parseLine_11 : decode cX3_parseLine 11 = .ok (.invokevirtual 98, 3) := by decide +kernel
theorem dX3_parseLine_14 : decode cX3_parseLine 14 = .ok (.goto 195, 3) := by decide +kernel
theorem dX3_parseLine_17 : decode cX3_parseLine 17 = .ok (.aload_n 0, 1) := by decide +kernel
theorem dX3_parseLine_18 : decode cX3_parseLine 18 = .ok (.ldc 101, 2) := by decide +kernel
theorem dX3_parseLine_20 : decode cX3_parseLine 20 = .ok (.invokevirtual 94, 3) := by decide +kernel
theorem dX3_parseLine_23 : decode cX3_parseLine 23 = .ok (.ifCond .eq 14, 3) := by decide +kernel
theorem dX3_parseLine_26 : decode cX3_parseLine 26 = .ok (.aload_n 0, 1) := by decide +kernel
theorem dX3_parseLine_27 : decode cX3_parseLine 27 = .ok (.aload_n 1, 1) := by decide +kernel
theorem dX3_parseLine_28 : decode cX3_parseLine 28 = .ok (.getfield 54, 3) := by decide +kernel
theorem dX3_parseLine_31 : decode cX3_parseLine 31 = .ok (.invokevirtual 103, 3) := by decide +kernel
theorem dX3_parseLine_34 : decode cX3_parseLine 34 = .ok (.goto 175, 3) := by decide +kernel
theorem dX3_parseLine_37 : decode cX3_parseLine 37 = .ok (.aload_n 0, 1) := by decide +kernel
theorem dX3_parseLine_38 : decode cX3_parseLine 38 = .ok (.ldc 107, 2) := by decide +kernel
theorem dX3_parseLine_40 : decode cX3_parseLine 40 = .ok (.invokevirtual 94, 3) := by decide +kernel
theorem dX3_parseLine_43 : decode cX3_parseLine 43 = .ok (.ifCond .eq 11, 3) := by decide +kernel
theorem dX3_parseLine_46 : decode cX3_parseLine 46 = .ok (.aload_n 0, 1) := by decide +kernel
theorem dX3_parseLine_47 : decode cX3_parseLine 47 = .ok (.aload_n 1, 1) := by decide +kernel
theorem dX3_parseLine_48 : decode cX3_parseLine 48 = .ok (.invokevirtual 109, 3) := by decide +kernel
theorem dX3_parseLine_51 : decode cX3_parseLine 51 = .ok (.goto 158, 3) := by decide +kernel
theorem dX3_parseLine_54 : decode cX3_parseLine 54 = .ok (.aload_n 0, 1) := by decide +kernel
theorem dX3_parseLine_55 : decode cX3_parseLine 55 = .ok (.ldc 112, 2) := by decide +kernel
theorem dX3_parseLine_57 : decode cX3_parseLine 57 = .ok (.invokevirtual 94, 3) := by decide +kernel
theorem dX3_parseLine_60 : decode cX3_parseLine 60 = .ok (.ifCond .eq 11, 3) := by decide +kernel
theorem dX3_parseLine_63 : decode cX3_parseLine 63 = .ok (.aload_n 0, 1) := by decide +kernel
theorem dX3_parseLine_64 : decode cX3_parseLine 64 = .ok (.aload_n 1, 1) := by decide +kernel
theorem dX3_parseLine_65 : decode cX3_parseLine 65 = .ok (.invokevirtual 114, 3) := by decide +kernel
theorem dX3_parseLine_68 : decode cX3_parseLine 68 = .ok (.goto 141, 3) := by decide +kernel
theorem dX3_parseLine_71 : decode cX3_parseLine 71 = .ok (.aload_n 0, 1) := by decide +kernel
theorem dX3_parseLine_72 : decode cX3_parseLine 72 = .ok (.ldc 117, 2) := by decide +kernel
theorem dX3_parseLine_74 : decode cX3_parseLine 74 = .ok (.invokevirtual 94, 3) := by decide +kernel
theorem dX3_parseLine_77 : decode cX3_parseLine 77 = .ok (.ifCond .eq 35, 3) := by decide +kernel
theorem dX3_parseLine_80 : decode cX3_parseLine 80 = .ok (.aload_n 0, 1) := by decide +kernel
theorem dX3_parseLine_81 : decode cX3_parseLine 81 = .ok (.aload_n 1, 1) := by decide +kernel
theorem dX3_parseLine_82 : decode cX3_parseLine 82 = .ok (.getfield 119, 3) := by decide +kernel
theorem dX3_parseLine_85 : decode cX3_parseLine 85 = .ok (.ifCond .le 7, 3) := by decide +kernel
theorem dX3_parseLine_88 : decode cX3_parseLine 88 = .ok (.iconst 1, 1) := by decide +kernel
theorem dX3_parseLine_89 : decode cX3_parseLine 89 = .ok (.goto 4, 3) := by decide +kernel
theorem dX3_parseLine_92 : decode cX3_parseLine 92 = .ok (.iconst 0, 1) := by decide +kernel
theorem dX3_parseLine_93 : decode cX3_parseLine 93 = .ok (.iconst 3, 1) := by decide +kernel
theorem dX3_parseLine_94 : decode cX3_parseLine 94 = .ok (.invokevirtual 121, 3) := by decide +kernel
theorem dX3_parseLine_97 : decode cX3_parseLine 97 = .ok (.aload_n 1, 1) := by decide +kernel
theorem dX3_parseLine_98 : decode cX3_parseLine 98 = .ok (.aload_n 0, 1) := by decide +kernel
theorem dX3_parseLine_99 : decode cX3_parseLine 99 = .ok (.iconst 1, 1) := by decide +kernel
theorem dX3_parseLine_100 : decode cX3_parseLine 100 = .ok (.sipush 999, 3) := by decide +kernel
theorem dX3_parseLine_103 : decode cX3_parseLine 103 = .ok (.invokevirtual 74, 3) := by decide +kernel
theorem dX3_parseLine_106 : decode cX3_parseLine 106 = .ok (.putfield 119, 3) := by decide +kernel
theorem dX3_parseLine_109 : decode cX3_parseLine 109 = .ok (.goto 100, 3) := by decide +kernel
theorem dX3_parseLine_112 : decode cX3_parseLine 112 = .ok (.aload_n 0, 1) := by decide +kernel
theorem dX3_parseLine_113 : decode cX3_parseLine 113 = .ok (.ldc 125, 2) := by decide +kernel
theorem dX3_parseLine_115 : decode cX3_parseLine 115 = .ok (.invokevirtual 94, 3) := by decide +kernel
theorem dX3_parseLine_118 : decode cX3_parseLine 118 = .ok (.ifCond .eq 11, 3) := by decide +kernel
theorem dX3_parseLine_121 : decode cX3_parseLine 121 = .ok (.aload_n 0, 1) := by decide +kernel
theorem dX3_parseLine_122 : decode cX3_parseLine 122 = .ok (.aload_n 1, 1) := by decide +kernel
theorem dX3_parseLine_123 : decode cX3_parseLine 123 = .ok (.invokevirtual 127, 3) := by decide +kernel
theorem dX3_parseLine_126 : decode cX3_parseLine 126 = .ok (.goto 83, 3) := by decide +kernel
theorem dX3_parseLine_129 : decode cX3_parseLine 129 = .ok (.aload_n 0, 1) := by decide +kernel
theorem dX3_parseLine_130 : decode cX3_parseLine 130 = .ok (.ldc 130, 2) := by decide +kernel
theorem dX3_parseLine_132 : decode cX3_parseLine 132 = .ok (.invokevirtual 94, 3) := by decide +kernel
theorem dX3_parseLine_135 : decode cX3_parseLine 135 = .ok (.ifCond .eq 11, 3) := by decide +kernel
theorem dX3_parseLine_138 : decode cX3_parseLine 138 = .ok (.aload_n 0, 1) := by decide +kernel
theorem dX3_parseLine_139 : decode cX3_parseLine 139 = .ok (.aload_n 1, 1) := by decide +kernel
theorem dX3_parseLine_140 : decode cX3_parseLine 140 = .ok (.invokevirtual 132, 3) := by decide +kernel
theorem dX3_parseLine_143 : decode cX3_parseLine 143 = .ok (.goto 66, 3) := by decide +kernel
theorem dX3_parseLine_146 : decode cX3_parseLine 146 = .ok (.aload_n 0, 1) := by decide +kernel
theorem dX3_parseLine_147 : decode cX3_parseLine 147 = .ok (.ldc 135, 2) := by decide +kernel
theorem dX3_parseLine_149 : decode cX3_parseLine 149 = .ok (.invokevirtual 94, 3) := by decide +kernel
theorem dX3_parseLine_152 : decode cX3_parseLine 152 = .ok (.ifCond .eq 14, 3) := by decide +kernel
theorem dX3_parseLine_155 : decode cX3_parseLine 155 = .ok (.aload_n 0, 1) := by decide +kernel
theorem dX3_parseLine_156 : decode cX3_parseLine 156 = .ok (.aload_n 1, 1) := by decide +kernel
theorem dX3_parseLine_157 : decode cX3_parseLine 157 = .ok (.getfield 54, 3) := by decide +kernel
theorem dX3_parseLine_160 : decode cX3_parseLine 160 = .ok (.invokevirtual 137, 3) := by decide +kernel
theorem dX3_parseLine_163 : decode cX3_parseLine 163 = .ok (.goto 46, 3) := by decide +kernel
theorem dX3_parseLine_166 : decode cX3_parseLine 166 = .ok (.aload_n 0, 1) := by decide +kernel
theorem dX3_parseLine_167 : decode cX3_parseLine 167 = .ok (.ldc 140, 2) := by decide +kernel
theorem dX3_parseLine_169 : decode cX3_parseLine 169 = .ok (.invokevirtual 94, 3) := by decide +kernel
theorem dX3_parseLine_172 : decode cX3_parseLine 172 = .ok (.ifCond .eq 11, 3) := by decide +kernel
theorem dX3_parseLine_175 : decode cX3_parseLine 175 = .ok (.aload_n 0, 1) := by decide +kernel
theorem dX3_parseLine_176 : decode cX3_parseLine 176 = .ok (.aload_n 1, 1) := by decide +kernel
theorem dX3_parseLine_177 : decode cX3_parseLine 177 = .ok (.invokevirtual 142, 3) := by decide +kernel
theorem dX3_parseLine_180 : decode cX3_parseLine 180 = .ok (.goto 29, 3) := by decide +kernel
theorem dX3_parseLine_183 : decode cX3_parseLine 183 = .ok (.aload_n 0, 1) := by decide +kernel
theorem dX3_parseLine_184 : decode cX3_parseLine 184 = .ok (.ldc 145, 2) := by decide +kernel
theorem dX3_parseLine_186 : decode cX3_parseLine 186 = .ok (.invokevirtual 94, 3) := by decide +kernel
theorem dX3_parseLine_189 : decode cX3_parseLine 189 = .ok (.ifCond .eq 11, 3) := by decide +kernel
theorem dX3_parseLine_192 : decode cX3_parseLine 192 = .ok (.aload_n 0, 1) := by decide +kernel
theorem dX3_parseLine_193 : decode cX3_parseLine 193 = .ok (.aload_n 1, 1) := by decide +kernel
theorem dX3_parseLine_194 : decode cX3_parseLine 194 = .ok (.invokevirtual 147, 3) := by decide +kernel
theorem dX3_parseLine_197 : decode cX3_parseLine 197 = .ok (.goto 12, 3) := by decide +kernel
theorem dX3_parseLine_200 : decode cX3_parseLine 200 = .ok (.aload_n 0, 1) := by decide +kernel
theorem dX3_parseLine_201 : decode cX3_parseLine 201 = .ok (.aload_n 0, 1) := by decide +kernel
theorem dX3_parseLine_202 : decode cX3_parseLine 202 = .ok (.getfield 25, 3) := by decide +kernel
theorem dX3_parseLine_205 : decode cX3_parseLine 205 = .ok (.iconst 1, 1) := by decide +kernel
theorem dX3_parseLine_206 : decode cX3_parseLine 206 = .ok (.invokevirtual 44, 3) := by decide +kernel
theorem dX3_parseLine_209 : decode cX3_parseLine 209 = .ok (.return_, 1) := by decide +kernel
theorem dX3_parseMic_0 : decode cX3_parseMic 0 = .ok (.aload_n 0, 1) := by decide +kernel
theorem dX3_parseMic_1 : decode cX3_parseMic 1 = .ok (.aload_n 1, 1) := by decide +kernel
theorem dX3_parseMic_2 : decode cX3_parseMic 2 = .ok (.getfield 51, 3) := by decide +kernel
theorem dX3_parseMic_5 : decode cX3_parseMic 5 = .ok (.bipush 12, 2) := by decide +kernel
theorem dX3_parseMic_7 : decode cX3_parseMic 7 = .ok (.if_icmp .lt 7, 3) := by decide +kernel
theorem dX3_parseMic_10 : decode cX3_parseMic 10 = .ok (.iconst 1, 1) := by decide +kernel
theorem dX3_parseMic_11 : decode cX3_parseMic 11 = .ok (.goto 4, 3) := by decide +kernel
theorem dX3_parseMic_14 : decode cX3_parseMic 14 = .ok (.iconst 0, 1) := by decide +kernel
theorem dX3_parseMic_15 : decode cX3_parseMic 15 = .ok (.iconst 4, 1) := by decide +kernel
theorem dX3_parseMic_16 : decode cX3_parseMic 16 = .ok (.invokevirtual 121, 3) := by decide +kernel
theorem dX3_parseMic_19 : decode cX3_parseMic 19 = .ok (.aload_n 1, 1) := by decide +kernel
theorem dX3_parseMic_20 : decode cX3_parseMic 20 = .ok (.getfield 150, 3) := by decide +kernel
theorem dX3_parseMic_23 : decode cX3_parseMic 23 = .ok (.aload_n 1, 1) := by decide +kernel
theorem dX3_parseMic_24 : decode cX3_parseMic 24 = .ok (.getfield 51, 3) := by decide +kernel
theorem dX3_parseMic_27 : decode cX3_parseMic 27 = .ok (.aaload, 1) := by decide +kernel
theorem dX3_parseMic_28 : decode cX3_parseMic 28 = .ok (.astore_n 2, 1) := by decide +kernel
theorem dX3_parseMic_29 : decode cX3_parseMic 29 = .ok (.aload_n 2, 1) := by decide +kernel
theorem dX3_parseMic_30 : decode cX3_parseMic 30 = .ok (.aload_n 0, 1) := by decide +kernel
theorem dX3_parseMic_31 : decode cX3_parseMic 31 = .ok (.sipush (-500), 3) := by decide +kernel
theorem dX3_parseMic_34 : decode cX3_parseMic 34 = .ok (.sipush 500, 3) := by decide +kernel
theorem dX3_parseMic_37 : decode cX3_parseMic 37 = .ok (.invokevirtual 154, 3) := by decide +kernel
theorem dX3_parseMic_40 : decode cX3_parseMic 40 = .ok (.putfield 157, 3) := by decide +kernel
theorem dX3_parseMic_43 : decode cX3_parseMic 43 = .ok (.aload_n 2, 1) := by decide +kernel
theorem dX3_parseMic_44 : decode cX3_parseMic 44 = .ok (.aload_n 0, 1) := by decide +kernel
theorem dX3_parseMic_45 : decode cX3_parseMic 45 = .ok (.sipush (-500), 3) := by decide +kernel
theorem dX3_parseMic_48 : decode cX3_parseMic 48 = .ok (.sipush 500, 3) := by decide +kernel
theorem dX3_parseMic_51 : decode cX3_parseMic 51 = .ok (.invokevirtual 154, 3) := by decide +kernel
theorem dX3_parseMic_54 : decode cX3_parseMic 54 = .ok (.putfield 162, 3) := by decide +kernel
theorem dX3_parseMic_57 : decode cX3_parseMic 57 = .ok (.aload_n 2, 1) := by decide +kernel
theorem dX3_parseMic_58 : decode cX3_parseMic 58 = .ok (.aload_n 0, 1) := by decide +kernel
theorem dX3_parseMic_59 : decode cX3_parseMic 59 = .ok (.iconst 1, 1) := by decide +kernel
theorem dX3_parseMic_60 : decode cX3_parseMic 60 = .ok (.bipush 9, 2) := by decide +kernel
theorem dX3_parseMic_62 : decode cX3_parseMic 62 = .ok (.invokevirtual 74, 3) := by decide +kernel
theorem dX3_parseMic_65 : decode cX3_parseMic 65 = .ok (.putfield 165, 3) := by decide +kernel
theorem dX3_parseMic_68 : decode cX3_parseMic 68 = .ok (.aload_n 2, 1) := by decide +kernel
theorem dX3_parseMic_69 : decode cX3_parseMic 69 = .ok (.iconst 0, 1) := by decide +kernel
theorem dX3_parseMic_70 : decode cX3_parseMic 70 = .ok (.putfield 168, 3) := by decide +kernel
theorem dX3_parseMic_73 : decode cX3_parseMic 73 = .ok (.aload_n 1, 1) := by decide +kernel
theorem dX3_parseMic_74 : decode cX3_parseMic 74 = .ok (.dup, 1) := by decide +kernel
theorem dX3_parseMic_75 : decode cX3_parseMic 75 = .ok (.getfield 51, 3) := by decide +kernel
theorem dX3_parseMic_78 : decode cX3_parseMic 78 = .ok (.iconst 1, 1) := by decide +kernel
theorem dX3_parseMic_79 : decode cX3_parseMic 79 = .ok (.iadd, 1) := by decide +kernel
theorem dX3_parseMic_80 : decode cX3_parseMic 80 = .ok (.putfield 51, 3) := by decide +kernel
theorem dX3_parseMic_83 : decode cX3_parseMic 83 = .ok (.return_, 1) := by decide +kernel
theorem dX3_parseMap_0 : decode cX3_parseMap 0 = .ok (.aload_n 0, 1) := by decide +kernel
theorem dX3_parseMap_1 : decode cX3_parseMap 1 = .ok (.aload_n 1, 1) := by decide +kernel
theorem dX3_parseMap_2 : decode cX3_parseMap 2 = .ok (.getfield 58, 3) := by decide +kernel
theorem dX3_parseMap_5 : decode cX3_parseMap 5 = .ok (.ifCond .le 7, 3) := by decide +kernel
theorem dX3_parseMap_8 : decode cX3_parseMap 8 = .ok (.iconst 1, 1) := by decide +kernel
theorem dX3_parseMap_9 : decode cX3_parseMap 9 = .ok (.goto 4, 3) := by decide +kernel
theorem dX3_parseMap_12 : decode cX3_parseMap 12 = .ok (.iconst 0, 1) := by decide +kernel
theorem dX3_parseMap_13 : decode cX3_parseMap 13 = .ok (.iconst 3, 1) := by decide +kernel
theorem dX3_parseMap_14 : decode cX3_parseMap 14 = .ok (.invokevirtual 121, 3) := by decide +kernel
theorem dX3_parseMap_17 : decode cX3_parseMap 17 = .ok (.aload_n 1, 1) := by decide +kernel
theorem dX3_parseMap_18 : decode cX3_parseMap 18 = .ok (.aload_n 0, 1) := by decide +kernel
theorem dX3_parseMap_19 : decode cX3_parseMap 19 = .ok (.sipush (-999), 3) := by decide +kernel
theorem dX3_parseMap_22 : decode cX3_parseMap 22 = .ok (.sipush 999, 3) := by decide +kernel
theorem dX3_parseMap_25 : decode cX3_parseMap 25 = .ok (.invokevirtual 154, 3) := by decide +kernel
theorem dX3_parseMap_28 : decode cX3_parseMap 28 = .ok (.putfield 171, 3) := by decide +kernel
theorem dX3_parseMap_31 : decode cX3_parseMap 31 = .ok (.aload_n 1, 1) := by decide +kernel
theorem dX3_parseMap_32 : decode cX3_parseMap 32 = .ok (.aload_n 0, 1) := by decide +kernel
theorem dX3_parseMap_33 : decode cX3_parseMap 33 = .ok (.sipush (-999), 3) := by decide +kernel
theorem dX3_parseMap_36 : decode cX3_parseMap 36 = .ok (.sipush 999, 3) := by decide +kernel
theorem dX3_parseMap_39 : decode cX3_parseMap 39 = .ok (.invokevirtual 154, 3) := by decide +kernel
theorem dX3_parseMap_42 : decode cX3_parseMap 42 = .ok (.putfield 172, 3) := by decide +kernel
theorem dX3_parseMap_45 : decode cX3_parseMap 45 = .ok (.aload_n 1, 1) := by decide +kernel
theorem dX3_parseMap_46 : decode cX3_parseMap 46 = .ok (.aload_n 0, 1) := by decide +kernel
theorem dX3_parseMap_47 : decode cX3_parseMap 47 = .ok (.iconst 1, 1) := by decide +kernel
theorem dX3_parseMap_48 : decode cX3_parseMap 48 = .ok (.bipush 99, 2) := by decide +kernel
theorem dX3_parseMap_50 : decode cX3_parseMap 50 = .ok (.invokevirtual 74, 3) := by decide +kernel
theorem dX3_parseMap_53 : decode cX3_parseMap 53 = .ok (.putfield 173, 3) := by decide +kernel
theorem dX3_parseMap_56 : decode cX3_parseMap 56 = .ok (.aload_n 0, 1) := by decide +kernel
theorem dX3_parseMap_57 : decode cX3_parseMap 57 = .ok (.iconst 1, 1) := by decide +kernel
theorem dX3_parseMap_58 : decode cX3_parseMap 58 = .ok (.bipush 12, 2) := by decide +kernel
theorem dX3_parseMap_60 : decode cX3_parseMap 60 = .ok (.invokevirtual 74, 3) := by decide +kernel
theorem dX3_parseMap_63 : decode cX3_parseMap 63 = .ok (.istore_n 2, 1) := by decide +kernel
theorem dX3_parseMap_64 : decode cX3_parseMap 64 = .ok (.aload_n 0, 1) := by decide +kernel
theorem dX3_parseMap_65 : decode cX3_parseMap 65 = .ok (.iconst 1, 1) := by decide +kernel
theorem dX3_parseMap_66 : decode cX3_parseMap 66 = .ok (.bipush 12, 2) := by decide +kernel
theorem dX3_parseMap_68 : decode cX3_parseMap 68 = .ok (.invokevirtual 74, 3) := by decide +kernel
theorem dX3_parseMap_71 : decode cX3_parseMap 71 = .ok (.istore_n 3, 1) := by decide +kernel
theorem dX3_parseMap_72 : decode cX3_parseMap 72 = .ok (.aload_n 1, 1) := by decide +kernel
theorem dX3_parseMap_73 : decode cX3_parseMap 73 = .ok (.iload_n 2, 1) := by decide +kernel
theorem dX3_parseMap_74 : decode cX3_parseMap 74 = .ok (.iload_n 3, 1) := by decide +kernel
theorem dX3_parseMap_75 : decode cX3_parseMap 75 = .ok (.invokevirtual 176, 3) := by decide +kernel
theorem dX3_parseMap_78 : decode cX3_parseMap 78 = .ok (.return_, 1) := by decide +kernel
theorem dX3_parseSource_0 : decode cX3_parseSource 0 = .ok (.aload_n 0, 1) := by decide +kernel
theorem dX3_parseSource_1 : decode cX3_parseSource 1 = .ok (.aload_n 1, 1) := by decide +kernel
theorem dX3_parseSource_2 : decode cX3_parseSource 2 = .ok (.getfield 179, 3) := by decide +kernel
theorem dX3_parseSource_5 : decode cX3_parseSource 5 = .ok (.bipush 6, 2) := by decide +kernel
theorem dX3_parseSource_7 : decode cX3_parseSource 7 = .ok (.if_icmp .lt 7, 3) := by decide +kernel
theorem dX3_parseSource_10 : decode cX3_parseSource 10 = .ok (.iconst 1, 1) := by decide +kernel
theorem dX3_parseSource_11 : decode cX3_parseSource 11 = .ok (.goto 4, 3) := by decide +kernel
theorem dX3_parseSource_14 : decode cX3_parseSource 14 = .ok (.iconst 0, 1) := by decide +kernel
theorem dX3_parseSource_15 : decode cX3_parseSource 15 = .ok (.iconst 4, 1) := by decide +kernel
theorem dX3_parseSource_16 : decode cX3_parseSource 16 = .ok (.invokevirtual 121, 3) := by decide +kernel
theorem dX3_parseSource_19 : decode cX3_parseSource 19 = .ok (.aload_n 1, 1) := by decide +kernel
theorem dX3_parseSource_20 : decode cX3_parseSource 20 = .ok (.getfield 182, 3) := by decide +kernel
theorem dX3_parseSource_23 : decode cX3_parseSource 23 = .ok (.aload_n 1, 1) := by decide +kernel
theorem dX3_parseSource_24 : decode cX3_parseSource 24 = .ok (.getfield 179, 3) := by decide +kernel
theorem dX3_parseSource_27 : decode cX3_parseSource 27 = .ok (.aaload, 1) := by decide +kernel
theorem dX3_parseSource_28 : decode cX3_parseSource 28 = .ok (.astore_n 2, 1) := by decide +kernel
theorem dX3_parseSource_29 : decode cX3_parseSource 29 = .ok (.aload_n 2, 1) := by decide +kernel
theorem dX3_parseSource_30 : decode cX3_parseSource 30 = .ok (.aload_n 0, 1) := by decide +kernel
theorem dX3_parseSource_31 : decode cX3_parseSource 31 = .ok (.invokevirtual 186, 3) := by decide +kernel
theorem dX3_parseSource_34 : decode cX3_parseSource 34 = .ok (.putfield 189, 3) := by decide +kernel
theorem dX3_parseSource_37 : decode cX3_parseSource 37 = .ok (.aload_n 2, 1) := by decide +kernel
theorem dX3_parseSource_38 : decode cX3_parseSource 38 = .ok (.aload_n 0, 1) := by decide +kernel
theorem dX3_parseSource_39 : decode cX3_parseSource 39 = .ok (.sipush (-2000), 3) := by decide +kernel
theorem dX3_parseSource_42 : decode cX3_parseSource 42 = .ok (.sipush 2000, 3) := by decide +kernel
theorem dX3_parseSource_45 : decode cX3_parseSource 45 = .ok (.invokevirtual 154, 3) := by decide +kernel
theorem dX3_parseSource_48 : decode cX3_parseSource 48 = .ok (.putfield 193, 3) := by decide +kernel
theorem dX3_parseSource_51 : decode cX3_parseSource 51 = .ok (.aload_n 2, 1) := by decide +kernel
theorem dX3_parseSource_52 : decode cX3_parseSource 52 = .ok (.aload_n 0, 1) := by decide +kernel
theorem dX3_parseSource_53 : decode cX3_parseSource 53 = .ok (.sipush (-2000), 3) := by decide +kernel
theorem dX3_parseSource_56 : decode cX3_parseSource 56 = .ok (.sipush 2000, 3) := by decide +kernel
theorem dX3_parseSource_59 : decode cX3_parseSource 59 = .ok (.invokevirtual 154, 3) := by decide +kernel
theorem dX3_parseSource_62 : decode cX3_parseSource 62 = .ok (.putfield 194, 3) := by decide +kernel
theorem dX3_parseSource_65 : decode cX3_parseSource 65 = .ok (.aload_n 2, 1) := by decide +kernel
theorem dX3_parseSource_66 : decode cX3_parseSource 66 = .ok (.aload_n 0, 1) := by decide +kernel
theorem dX3_parseSource_67 : decode cX3_parseSource 67 = .ok (.sipush (-999), 3) := by decide +kernel
theorem dX3_parseSource_70 : decode cX3_parseSource 70 = .ok (.sipush 999, 3) := by decide +kernel
theorem dX3_parseSource_73 : decode cX3_parseSource 73 = .ok (.invokevirtual 154, 3) := by decide +kernel
theorem dX3_parseSource_76 : decode cX3_parseSource 76 = .ok (.putfield 195, 3) := by decide +kernel
theorem dX3_parseSource_79 : decode cX3_parseSource 79 = .ok (.aload_n 2, 1) := by decide +kernel
theorem dX3_parseSource_80 : decode cX3_parseSource 80 = .ok (.aload_n 0, 1) := by decide +kernel
theorem dX3_parseSource_81 : decode cX3_parseSource 81 = .ok (.sipush (-999), 3) := by decide +kernel
theorem dX3_parseSource_84 : decode cX3_parseSource 84 = .ok (.sipush 999, 3) := by decide +kernel
theorem dX3_parseSource_87 : decode cX3_parseSource 87 = .ok (.invokevirtual 154, 3) := by decide +kernel
theorem dX3_parseSource_90 : decode cX3_parseSource 90 = .ok (.putfield 198, 3) := by decide +kernel
theorem dX3_parseSource_93 : decode cX3_parseSource 93 = .ok (.aload_n 2, 1) := by decide +kernel
theorem dX3_parseSource_94 : decode cX3_parseSource 94 = .ok (.aload_n 0, 1) := by decide +kernel
theorem dX3_parseSource_95 : decode cX3_parseSource 95 = .ok (.iconst 1, 1) := by decide +kernel
theorem dX3_parseSource_96 : decode cX3_parseSource 96 = .ok (.sipush 999, 3) := by decide +kernel
theorem dX3_parseSource_99 : decode cX3_parseSource 99 = .ok (.invokevirtual 74, 3) := by decide +kernel
theorem dX3_parseSource_102 : decode cX3_parseSource 102 = .ok (.putfield 201, 3) := by decide +kernel
theorem dX3_parseSource_105 : decode cX3_parseSource 105 = .ok (.aload_n 2, 1) := by decide +kernel
theorem dX3_parseSource_106 : decode cX3_parseSource 106 = .ok (.aload_n 0, 1) := by decide +kernel
theorem dX3_parseSource_107 : decode cX3_parseSource 107 = .ok (.iconst 2, 1) := by decide +kernel
theorem dX3_parseSource_108 : decode cX3_parseSource 108 = .ok (.bipush 99, 2) := by decide +kernel
theorem dX3_parseSource_110 : decode cX3_parseSource 110 = .ok (.invokevirtual 74, 3) := by decide +kernel
theorem dX3_parseSource_113 : decode cX3_parseSource 113 = .ok (.putfield 204, 3) := by decide +kernel
theorem dX3_parseSource_116 : decode cX3_parseSource 116 = .ok (.aload_n 2, 1) := by decide +kernel
theorem dX3_parseSource_117 : decode cX3_parseSource 117 = .ok (.aload_n 0, 1) := by decide +kernel
theorem dX3_parseSource_118 : decode cX3_parseSource 118 = .ok (.iconst 0, 1) := by decide +kernel
theorem dX3_parseSource_119 : decode cX3_parseSource 119 = .ok (.bipush 99, 2) := by decide +kernel
theorem dX3_parseSource_121 : decode cX3_parseSource 121 = .ok (.invokevirtual 74, 3) := by decide +kernel
theorem dX3_parseSource_124 : decode cX3_parseSource 124 = .ok (.putfield 207, 3) := by decide +kernel
theorem dX3_parseSource_127 : decode cX3_parseSource 127 = .ok (.aload_n 2, 1) := by decide +kernel
theorem dX3_parseSource_128 : decode cX3_parseSource 128 = .ok (.iconst 0, 1) := by decide +kernel
theorem dX3_parseSource_129 : decode cX3_parseSource 129 = .ok (.putfield 210, 3) := by decide +kernel
theorem dX3_parseSource_132 : decode cX3_parseSource 132 = .ok (.aload_n 2, 1) := by decide +kernel
theorem dX3_parseSource_133 : decode cX3_parseSource 133 = .ok (.iconst 0, 1) := by decide +kernel
theorem dX3_parseSource_134 : decode cX3_parseSource 134 = .ok (.putfield 213, 3) := by decide +kernel
theorem dX3_parseSource_137 : decode cX3_parseSource 137 = .ok (.aload_n 0, 1) := by decide +kernel
theorem dX3_parseSource_138 : decode cX3_parseSource 138 = .ok (.ldc 216, 2) := by decide +kernel
theorem dX3_parseSource_140 : decode cX3_parseSource 140 = .ok (.invokevirtual 94, 3) := by decide +kernel
theorem dX3_parseSource_143 : decode cX3_parseSource 143 = .ok (.ifCond .eq 25, 3) := by decide +kernel
theorem dX3_parseSource_146 : decode cX3_parseSource 146 = .ok (.aload_n 0, 1) := by decide +kernel
theorem dX3_parseSource_147 : decode cX3_parseSource 147 = .ok (.dup, 1) := by decide +kernel
theorem dX3_parseSource_148 : decode cX3_parseSource 148 = .ok (.getfield 25, 3) := by decide +kernel
theorem dX3_parseSource_151 : decode cX3_parseSource 151 = .ok (.iconst 1, 1) := by decide +kernel
theorem dX3_parseSource_152 : decode cX3_parseSource 152 = .ok (.iadd, 1) := by decide +kernel
theorem dX3_parseSource_153 : decode cX3_parseSource 153 = .ok (.putfield 25, 3) := by decide +kernel
theorem dX3_parseSource_156 : decode cX3_parseSource 156 = .ok (.aload_n 2, 1) := by decide +kernel
theorem dX3_parseSource_157 : decode cX3_parseSource 157 = .ok (.aload_n 0, 1) := by decide +kernel
theorem dX3_parseSource_158 : decode cX3_parseSource 158 = .ok (.iconst 0, 1) := by decide +kernel
theorem dX3_parseSource_159 : decode cX3_parseSource 159 = .ok (.sipush 199, 3) := by decide +kernel
theorem dX3_parseSource_162 : decode cX3_parseSource 162 = .ok (.invokevirtual 74, 3) := by decide +kernel
theorem dX3_parseSource_165 : decode cX3_parseSource 165 = .ok (.putfield 210, 3) := by decide +kernel
theorem dX3_parseSource_168 : decode cX3_parseSource 168 = .ok (.aload_n 1, 1) := by decide +kernel
theorem dX3_parseSource_169 : decode cX3_parseSource 169 = .ok (.dup, 1) := by decide +kernel
theorem dX3_parseSource_170 : decode cX3_parseSource 170 = .ok (.getfield 179, 3) := by decide +kernel
theorem dX3_parseSource_173 : decode cX3_parseSource 173 = .ok (.iconst 1, 1) := by decide +kernel
theorem dX3_parseSource_174 : decode cX3_parseSource 174 = .ok (.iadd, 1) := by decide +kernel
theorem dX3_parseSource_175 : decode cX3_parseSource 175 = .ok (.putfield 179, 3) := by decide +kernel
theorem dX3_parseSource_178 : decode cX3_parseSource 178 = .ok (.return_, 1) := by decide +kernel
theorem dX3_shape_0 : decode cX3_shape 0 = .ok (.iconst 0, 1) := by decide +kernel
theorem dX3_shape_1 : decode cX3_shape 1 = .ok (.istore_n 1, 1) := by decide +kernel
theorem dX3_shape_2 : decode cX3_shape 2 = .ok (.aload_n 0, 1) := by decide +kernel
theorem dX3_shape_3 : decode cX3_shape 3 = .ok (.ldc 217, 2) := by decide +kernel
theorem dX3_shape_5 : decode cX3_shape 5 = .ok (.invokevirtual 94, 3) := by decide +kernel
theorem dX3_shape_8 : decode cX3_shape 8 = .ok (.ifCond .eq 8, 3) := by decide +kernel
theorem dX3_shape_11 : decode cX3_shape 11 = .ok (.iconst 1, 1) := by decide +kernel
theorem dX3_shape_12 : decode cX3_shape 12 = .ok (.istore_n 1, 1) := by decide +kernel
theorem dX3_shape_13 : decode cX3_shape 13 = .ok (.goto 49, 3) := by decide +kernel
theorem dX3_shape_16 : decode cX3_shape 16 = .ok (.aload_n 0, 1) := by decide +kernel
theorem dX3_shape_17 : decode cX3_shape 17 = .ok (.ldc 219, 2) := by decide +kernel
theorem dX3_shape_19 : decode cX3_shape 19 = .ok (.invokevirtual 94, 3) := by decide +kernel
theorem dX3_shape_22 : decode cX3_shape 22 = .ok (.ifCond .eq 8, 3) := by decide +kernel
theorem dX3_shape_25 : decode cX3_shape 25 = .ok (.iconst 2, 1) := by decide +kernel
theorem dX3_shape_26 : decode cX3_shape 26 = .ok (.istore_n 1, 1) := by decide +kernel
theorem dX3_shape_27 : decode cX3_shape 27 = .ok (.goto 35, 3) := by decide +kernel
theorem dX3_shape_30 : decode cX3_shape 30 = .ok (.aload_n 0, 1) := by decide +kernel
theorem dX3_shape_31 : decode cX3_shape 31 = .ok (.ldc 221, 2) := by decide +kernel
theorem dX3_shape_33 : decode cX3_shape 33 = .ok (.invokevirtual 94, 3) := by decide +kernel
theorem dX3_shape_36 : decode cX3_shape 36 = .ok (.ifCond .eq 8, 3) := by decide +kernel
theorem dX3_shape_39 : decode cX3_shape 39 = .ok (.iconst 3, 1) := by decide +kernel
theorem dX3_shape_40 : decode cX3_shape 40 = .ok (.istore_n 1, 1) := by decide +kernel
theorem dX3_shape_41 : decode cX3_shape 41 = .ok (.goto 21, 3) := by decide +kernel
theorem dX3_shape_44 : decode cX3_shape 44 = .ok (.aload_n 0, 1) := by decide +kernel
theorem dX3_shape_45 : decode cX3_shape 45 = .ok (.ldc 223, 2) := by decide +kernel
theorem dX3_shape_47 : decode cX3_shape 47 = .ok (.invokevirtual 94, 3) := by decide +kernel
theorem dX3_shape_50 : decode cX3_shape 50 = .ok (.ifCond .ne 12, 3) := by decide +kernel
theorem dX3_shape_53 : decode cX3_shape 53 = .ok (.aload_n 0, 1) := by decide +kernel
theorem dX3_shape_54 : decode cX3_shape 54 = .ok (.aload_n 0, 1) := by decide +kernel
theorem dX3_shape_55 : decode cX3_shape 55 = .ok (.getfield 25, 3) := by decide +kernel
theorem dX3_shape_58 : decode cX3_shape 58 = .ok (.iconst 1, 1) := by decide +kernel
theorem dX3_shape_59 : decode cX3_shape 59 = .ok (.invokevirtual 44, 3) := by decide +kernel
theorem dX3_shape_62 : decode cX3_shape 62 = .ok (.aload_n 0, 1) := by decide +kernel
theorem dX3_shape_63 : decode cX3_shape 63 = .ok (.dup, 1) := by decide +kernel
theorem dX3_shape_64 : decode cX3_shape 64 = .ok (.getfield 25, 3) := by decide +kernel
theorem dX3_shape_67 : decode cX3_shape 67 = .ok (.iconst 1, 1) := by decide +kernel
theorem dX3_shape_68 : decode cX3_shape 68 = .ok (.iadd, 1) := by decide +kernel
theorem dX3_shape_69 : decode cX3_shape 69 = .ok (.putfield 25, 3) := by decide +kernel
theorem dX3_shape_72 : decode cX3_shape 72 = .ok (.iload_n 1, 1) := by decide +kernel
theorem dX3_shape_73 : decode cX3_shape 73 = .ok (.ireturn, 1) := by decide +kernel
theorem dX3_parseWall_0 : decode cX3_parseWall 0 = .ok (.aload_n 0, 1) := by decide +kernel
theorem dX3_parseWall_1 : decode cX3_parseWall 1 = .ok (.aload_n 1, 1) := by decide +kernel
theorem dX3_parseWall_2 : decode cX3_parseWall 2 = .ok (.getfield 225, 3) := by decide +kernel
theorem dX3_parseWall_5 : decode cX3_parseWall 5 = .ok (.iconst 2, 1) := by decide +kernel
theorem dX3_parseWall_6 : decode cX3_parseWall 6 = .ok (.if_icmp .lt 7, 3) := by decide +kernel
theorem dX3_parseWall_9 : decode cX3_parseWall 9 = .ok (.iconst 1, 1) := by decide +kernel
theorem dX3_parseWall_10 : decode cX3_parseWall 10 = .ok (.goto 4, 3) := by decide +kernel
theorem dX3_parseWall_13 : decode cX3_parseWall 13 = .ok (.iconst 0, 1) := by decide +kernel
theorem dX3_parseWall_14 : decode cX3_parseWall 14 = .ok (.iconst 4, 1) := by decide +kernel
theorem dX3_parseWall_15 : decode cX3_parseWall 15 = .ok (.invokevirtual 121, 3) := by decide +kernel
theorem dX3_parseWall_18 : decode cX3_parseWall 18 = .ok (.aload_n 1, 1) := by decide +kernel
theorem dX3_parseWall_19 : decode cX3_parseWall 19 = .ok (.getfield 228, 3) := by decide +kernel
theorem dX3_parseWall_22 : decode cX3_parseWall 22 = .ok (.aload_n 1, 1) := by decide +kernel
theorem dX3_parseWall_23 : decode cX3_parseWall 23 = .ok (.getfield 225, 3) := by decide +kernel
theorem dX3_parseWall_26 : decode cX3_parseWall 26 = .ok (.aload_n 0, 1) := by decide +kernel
theorem dX3_parseWall_27 : decode cX3_parseWall 27 = .ok (.sipush (-2000), 3) := by decide +kernel
theorem dX3_parseWall_30 : decode cX3_parseWall 30 = .ok (.sipush 2000, 3) := by decide +kernel
theorem dX3_parseWall_33 : decode cX3_parseWall 33 = .ok (.invokevirtual 154, 3) := by decide +kernel
theorem dX3_parseWall_36 : decode cX3_parseWall 36 = .ok (.iastore, 1) := by decide +kernel
theorem dX3_parseWall_37 : decode cX3_parseWall 37 = .ok (.aload_n 1, 1) := by decide +kernel
theorem dX3_parseWall_38 : decode cX3_parseWall 38 = .ok (.getfield 232, 3) := by decide +kernel
theorem dX3_parseWall_41 : decode cX3_parseWall 41 = .ok (.aload_n 1, 1) := by decide +kernel
theorem dX3_parseWall_42 : decode cX3_parseWall 42 = .ok (.getfield 225, 3) := by decide +kernel
theorem dX3_parseWall_45 : decode cX3_parseWall 45 = .ok (.aload_n 0, 1) := by decide +kernel
theorem dX3_parseWall_46 : decode cX3_parseWall 46 = .ok (.iconst 1, 1) := by decide +kernel
theorem dX3_parseWall_47 : decode cX3_parseWall 47 = .ok (.bipush 100, 2) := by decide +kernel
theorem dX3_parseWall_49 : decode cX3_parseWall 49 = .ok (.invokevirtual 74, 3) := by decide +kernel
theorem dX3_parseWall_52 : decode cX3_parseWall 52 = .ok (.iastore, 1) := by decide +kernel
theorem dX3_parseWall_53 : decode cX3_parseWall 53 = .ok (.aload_n 1, 1) := by decide +kernel
theorem dX3_parseWall_54 : decode cX3_parseWall 54 = .ok (.dup, 1) := by decide +kernel
theorem dX3_parseWall_55 : decode cX3_parseWall 55 = .ok (.getfield 225, 3) := by decide +kernel
theorem dX3_parseWall_58 : decode cX3_parseWall 58 = .ok (.iconst 1, 1) := by decide +kernel
theorem dX3_parseWall_59 : decode cX3_parseWall 59 = .ok (.iadd, 1) := by decide +kernel
theorem dX3_parseWall_60 : decode cX3_parseWall 60 = .ok (.putfield 225, 3) := by decide +kernel
theorem dX3_parseWall_63 : decode cX3_parseWall 63 = .ok (.return_, 1) := by decide +kernel
theorem dX3_parseFilter_0 : decode cX3_parseFilter 0 = .ok (.aload_n 0, 1) := by decide +kernel
theorem dX3_parseFilter_1 : decode cX3_parseFilter 1 = .ok (.aload_n 1, 1) := by decide +kernel
theorem dX3_parseFilter_2 : decode cX3_parseFilter 2 = .ok (.getfield 235, 3) := by decide +kernel
theorem dX3_parseFilter_5 : decode cX3_parseFilter 5 = .ok (.ifCond .le 7, 3) := by decide +kernel
theorem dX3_parseFilter_8 : decode cX3_parseFilter 8 = .ok (.iconst 1, 1) := by decide +kernel
theorem dX3_parseFilter_9 : decode cX3_parseFilter 9 = .ok (.goto 4, 3) := by decide +kernel
theorem dX3_parseFilter_12 : decode cX3_parseFilter 12 = .ok (.iconst 0, 1) := by decide +kernel
theorem dX3_parseFilter_13 : decode cX3_parseFilter 13 = .ok (.iconst 3, 1) := by decide +kernel
theorem dX3_parseFilter_14 : decode cX3_parseFilter 14 = .ok (.invokevirtual 121, 3) := by decide +kernel
theorem dX3_parseFilter_17 : decode cX3_parseFilter 17 = .ok (.aload_n 1, 1) := by decide +kernel
theorem dX3_parseFilter_18 : decode cX3_parseFilter 18 = .ok (.aload_n 0, 1) := by decide +kernel
theorem dX3_parseFilter_19 : decode cX3_parseFilter 19 = .ok (.bipush (-9), 2) := by decide +kernel
theorem dX3_parseFilter_21 : decode cX3_parseFilter 21 = .ok (.bipush 9, 2) := by decide +kernel
theorem dX3_parseFilter_23 : decode cX3_parseFilter 23 = .ok (.invokevirtual 154, 3) := by decide +kernel
theorem dX3_parseFilter_26 : decode cX3_parseFilter 26 = .ok (.invokevirtual 238, 3) := by decide +kernel
theorem dX3_parseFilter_29 : decode cX3_parseFilter 29 = .ok (.iconst 1, 1) := by decide +kernel
theorem dX3_parseFilter_30 : decode cX3_parseFilter 30 = .ok (.istore_n 2, 1) := by decide +kernel
theorem dX3_parseFilter_31 : decode cX3_parseFilter 31 = .ok (.iload_n 2, 1) := by decide +kernel
theorem dX3_parseFilter_32 : decode cX3_parseFilter 32 = .ok (.iconst 5, 1) := by decide +kernel
theorem dX3_parseFilter_33 : decode cX3_parseFilter 33 = .ok (.if_icmp .gt 48, 3) := by decide +kernel
theorem dX3_parseFilter_36 : decode cX3_parseFilter 36 = .ok (.aload_n 0, 1) := by decide +kernel
theorem dX3_parseFilter_37 : decode cX3_parseFilter 37 = .ok (.invokevirtual 40, 3) := by decide +kernel
theorem dX3_parseFilter_40 : decode cX3_parseFilter 40 = .ok (.iconst 2, 1) := by decide +kernel
theorem dX3_parseFilter_41 : decode cX3_parseFilter 41 = .ok (.if_icmp .eq 11, 3) := by decide +kernel
theorem dX3_parseFilter_44 : decode cX3_parseFilter 44 = .ok (.aload_n 0, 1) := by decide +kernel
theorem dX3_parseFilter_45 : decode cX3_parseFilter 45 = .ok (.invokevirtual 40, 3) := by decide +kernel
theorem dX3_parseFilter_48 : decode cX3_parseFilter 48 = .ok (.iconst 3, 1) := by decide +kernel
theorem dX3_parseFilter_49 : decode cX3_parseFilter 49 = .ok (.if_icmp .ne 32, 3) := by decide +kernel
theorem dX3_parseFilter_52 : decode cX3_parseFilter 52 = .ok (.iload_n 2, 1) := by decide +kernel
theorem dX3_parseFilter_53 : decode cX3_parseFilter 53 = .ok (.iconst 5, 1) := by decide +kernel
theorem dX3_parseFilter_54 : decode cX3_parseFilter 54 = .ok (.if_icmp .ne 9, 3) := by decide +kernel
theorem dX3_parseFilter_57 : decode cX3_parseFilter 57 = .ok (.aload_n 0, 1) := by decide +kernel
theorem dX3_parseFilter_58 : decode cX3_parseFilter 58 = .ok (.bipush 9, 2) := by decide +kernel
theorem dX3_parseFilter_60 : decode cX3_parseFilter 60 = .ok (.invokevirtual 241, 3) := by decide +kernel
theorem dX3_parseFilter_63 : decode cX3_parseFilter 63 = .ok (.aload_n 1, 1) := by decide +kernel
theorem dX3_parseFilter_64 : decode cX3_parseFilter 64 = .ok (.aload_n 0, 1) := by decide +kernel
theorem dX3_parseFilter_65 : decode cX3_parseFilter 65 = .ok (.bipush (-9), 2) := by decide +kernel
theorem dX3_parseFilter_67 : decode cX3_parseFilter 67 = .ok (.bipush 9, 2) := by decide +kernel
theorem dX3_parseFilter_69 : decode cX3_parseFilter 69 = .ok (.invokevirtual 154, 3) := by decide +kernel
theorem dX3_parseFilter_72 : decode cX3_parseFilter 72 = .ok (.invokevirtual 238, 3) := by decide +kernel
theorem dX3_parseFilter_75 : decode cX3_parseFilter 75 = .ok (.iinc 2 1, 3) := by decide +kernel
theorem dX3_parseFilter_78 : decode cX3_parseFilter 78 = .ok (.goto (-47), 3) := by decide +kernel
theorem dX3_parseFilter_81 : decode cX3_parseFilter 81 = .ok (.return_, 1) := by decide +kernel
theorem dX3_parseClock_0 : decode cX3_parseClock 0 = .ok (.aload_n 0, 1) := by decide +kernel
theorem dX3_parseClock_1 : decode cX3_parseClock 1 = .ok (.iconst 0, 1) := by decide +kernel
theorem dX3_parseClock_2 : decode cX3_parseClock 2 = .ok (.iconst 3, 1) := by decide +kernel
theorem dX3_parseClock_3 : decode cX3_parseClock 3 = .ok (.invokevirtual 121, 3) := by decide +kernel
theorem dX3_parseClock_6 : decode cX3_parseClock 6 = .ok (.aload_n 0, 1) := by decide +kernel
theorem dX3_parseClock_7 : decode cX3_parseClock 7 = .ok (.iconst 0, 1) := by decide +kernel
theorem dX3_parseClock_8 : decode cX3_parseClock 8 = .ok (.aload_n 1, 1) := by decide +kernel
theorem dX3_parseClock_9 : decode cX3_parseClock 9 = .ok (.getfield 51, 3) := by decide +kernel
theorem dX3_parseClock_12 : decode cX3_parseClock 12 = .ok (.iconst 1, 1) := by decide +kernel
theorem dX3_parseClock_13 : decode cX3_parseClock 13 = .ok (.isub, 1) := by decide +kernel
theorem dX3_parseClock_14 : decode cX3_parseClock 14 = .ok (.invokevirtual 74, 3) := by decide +kernel
theorem dX3_parseClock_17 : decode cX3_parseClock 17 = .ok (.istore_n 2, 1) := by decide +kernel
theorem dX3_parseClock_18 : decode cX3_parseClock 18 = .ok (.aload_n 1, 1) := by decide +kernel
theorem dX3_parseClock_19 : decode cX3_parseClock 19 = .ok (.getfield 150, 3) := by decide +kernel
theorem dX3_parseClock_22 : decode cX3_parseClock 22 = .ok (.iload_n 2, 1) := by decide +kernel
theorem dX3_parseClock_23 : decode cX3_parseClock 23 = .ok (.aaload, 1) := by decide +kernel
theorem dX3_parseClock_24 : decode cX3_parseClock 24 = .ok (.getfield 168, 3) := by decide +kernel
theorem dX3_parseClock_27 : decode cX3_parseClock 27 = .ok (.ifCond .le 14, 3) := by decide +kernel
theorem dX3_parseClock_30 : decode cX3_parseClock 30 = .ok (.aload_n 0, 1) := by decide +kernel
theorem dX3_parseClock_31 : decode cX3_parseClock 31 = .ok (.aload_n 0, 1) := by decide +kernel
theorem dX3_parseClock_32 : decode cX3_parseClock 32 = .ok (.getfield 25, 3) := by decide +kernel
theorem dX3_parseClock_35 : decode cX3_parseClock 35 = .ok (.iconst 1, 1) := by decide +kernel
theorem dX3_parseClock_36 : decode cX3_parseClock 36 = .ok (.isub, 1) := by decide +kernel
theorem dX3_parseClock_37 : decode cX3_parseClock 37 = .ok (.iconst 3, 1) := by decide +kernel
theorem dX3_parseClock_38 : decode cX3_parseClock 38 = .ok (.invokevirtual 44, 3) := by decide +kernel
theorem dX3_parseClock_41 : decode cX3_parseClock 41 = .ok (.aload_n 1, 1) := by decide +kernel
theorem dX3_parseClock_42 : decode cX3_parseClock 42 = .ok (.getfield 150, 3) := by decide +kernel
theorem dX3_parseClock_45 : decode cX3_parseClock 45 = .ok (.iload_n 2, 1) := by decide +kernel
theorem dX3_parseClock_46 : decode cX3_parseClock 46 = .ok (.aaload, 1) := by decide +kernel
theorem dX3_parseClock_47 : decode cX3_parseClock 47 = .ok (.aload_n 0, 1) := by decide +kernel
theorem dX3_parseClock_48 : decode cX3_parseClock 48 = .ok (.iconst 1, 1) := by decide +kernel
theorem dX3_parseClock_49 : decode cX3_parseClock 49 = .ok (.bipush 31, 2) := by decide +kernel
theorem dX3_parseClock_51 : decode cX3_parseClock 51 = .ok (.invokevirtual 74, 3) := by decide +kernel
theorem dX3_parseClock_54 : decode cX3_parseClock 54 = .ok (.putfield 168, 3) := by decide +kernel
theorem dX3_parseClock_57 : decode cX3_parseClock 57 = .ok (.return_, 1) := by decide +kernel
theorem dX3_parseZone_0 : decode cX3_parseZone 0 = .ok (.aload_n 0, 1) := by decide +kernel
theorem dX3_parseZone_1 : decode cX3_parseZone 1 = .ok (.aload_n 1, 1) := by decide +kernel
theorem dX3_parseZone_2 : decode cX3_parseZone 2 = .ok (.getfield 244, 3) := by decide +kernel
theorem dX3_parseZone_5 : decode cX3_parseZone 5 = .ok (.iconst 4, 1) := by decide +kernel
theorem dX3_parseZone_6 : decode cX3_parseZone 6 = .ok (.if_icmp .lt 7, 3) := by decide +kernel
theorem dX3_parseZone_9 : decode cX3_parseZone 9 = .ok (.iconst 1, 1) := by decide +kernel
theorem dX3_parseZone_10 : decode cX3_parseZone 10 = .ok (.goto 4, 3) := by decide +kernel
theorem dX3_parseZone_13 : decode cX3_parseZone 13 = .ok (.iconst 0, 1) := by decide +kernel
theorem dX3_parseZone_14 : decode cX3_parseZone 14 = .ok (.iconst 4, 1) := by decide +kernel
theorem dX3_parseZone_15 : decode cX3_parseZone 15 = .ok (.invokevirtual 121, 3) := by decide +kernel
theorem dX3_parseZone_18 : decode cX3_parseZone 18 = .ok (.aload_n 1, 1) := by decide +kernel
theorem dX3_parseZone_19 : decode cX3_parseZone 19 = .ok (.getfield 247, 3) := by decide +kernel
theorem dX3_parseZone_22 : decode cX3_parseZone 22 = .ok (.aload_n 1, 1) := by decide +kernel
theorem dX3_parseZone_23 : decode cX3_parseZone 23 = .ok (.getfield 244, 3) := by decide +kernel
theorem dX3_parseZone_26 : decode cX3_parseZone 26 = .ok (.aaload, 1) := by decide +kernel
theorem dX3_parseZone_27 : decode cX3_parseZone 27 = .ok (.astore_n 2, 1) := by decide +kernel
theorem dX3_parseZone_28 : decode cX3_parseZone 28 = .ok (.aload_n 2, 1) := by decide +kernel
theorem dX3_parseZone_29 : decode cX3_parseZone 29 = .ok (.iconst 0, 1) := by decide +kernel
theorem dX3_parseZone_30 : decode cX3_parseZone 30 = .ok (.aload_n 0, 1) := by decide +kernel
theorem dX3_parseZone_31 : decode cX3_parseZone 31 = .ok (.iconst 0, 1) := by decide +kernel
theorem dX3_parseZone_32 : decode cX3_parseZone 32 = .ok (.aload_n 1, 1) := by decide +kernel
theorem dX3_parseZone_33 : decode cX3_parseZone 33 = .ok (.getfield 58, 3) := by decide +kernel
theorem dX3_parseZone_36 : decode cX3_parseZone 36 = .ok (.iconst 1, 1) := by decide +kernel
theorem dX3_parseZone_37 : decode cX3_parseZone 37 = .ok (.isub, 1) := by decide +kernel
theorem dX3_parseZone_38 : decode cX3_parseZone 38 = .ok (.invokevirtual 74, 3) := by decide +kernel
theorem dX3_parseZone_41 : decode cX3_parseZone 41 = .ok (.iastore, 1) := by decide +kernel
theorem dX3_parseZone_42 : decode cX3_parseZone 42 = .ok (.aload_n 2, 1) := by decide +kernel
theorem dX3_parseZone_43 : decode cX3_parseZone 43 = .ok (.iconst 1, 1) := by decide +kernel
theorem dX3_parseZone_44 : decode cX3_parseZone 44 = .ok (.aload_n 0, 1) := by decide +kernel
theorem dX3_parseZone_45 : decode cX3_parseZone 45 = .ok (.iconst 0, 1) := by decide +kernel
theorem dX3_parseZone_46 : decode cX3_parseZone 46 = .ok (.aload_n 1, 1) := by decide +kernel
theorem dX3_parseZone_47 : decode cX3_parseZone 47 = .ok (.getfield 251, 3) := by decide +kernel
theorem dX3_parseZone_50 : decode cX3_parseZone 50 = .ok (.iconst 1, 1) := by decide +kernel
theorem dX3_parseZone_51 : decode cX3_parseZone 51 = .ok (.isub, 1) := by decide +kernel
theorem dX3_parseZone_52 : decode cX3_parseZone 52 = .ok (.invokevirtual 74, 3) := by decide +kernel
theorem dX3_parseZone_55 : decode cX3_parseZone 55 = .ok (.iastore, 1) := by decide +kernel
theorem dX3_parseZone_56 : decode cX3_parseZone 56 = .ok (.aload_n 2, 1) := by decide +kernel
theorem dX3_parseZone_57 : decode cX3_parseZone 57 = .ok (.iconst 2, 1) := by decide +kernel
theorem dX3_parseZone_58 : decode cX3_parseZone 58 = .ok (.aload_n 0, 1) := by decide +kernel
theorem dX3_parseZone_59 : decode cX3_parseZone 59 = .ok (.aload_n 2, 1) := by decide +kernel
theorem dX3_parseZone_60 : decode cX3_parseZone 60 = .ok (.iconst 0, 1) := by decide +kernel
theorem dX3_parseZone_61 : decode cX3_parseZone 61 = .ok (.iaload, 1) := by decide +kernel
theorem dX3_parseZone_62 : decode cX3_parseZone 62 = .ok (.aload_n 1, 1) := by decide +kernel
theorem dX3_parseZone_63 : decode cX3_parseZone 63 = .ok (.getfield 58, 3) := by decide +kernel
theorem dX3_parseZone_66 : decode cX3_parseZone 66 = .ok (.iconst 1, 1) := by decide +kernel
theorem dX3_parseZone_67 : decode cX3_parseZone 67 = .ok (.isub, 1) := by decide +kernel
theorem dX3_parseZone_68 : decode cX3_parseZone 68 = .ok (.invokevirtual 74, 3) := by decide +kernel
theorem dX3_parseZone_71 : decode cX3_parseZone 71 = .ok (.iastore, 1) := by decide +kernel
theorem dX3_parseZone_72 : decode cX3_parseZone 72 = .ok (.aload_n 2, 1) := by decide +kernel
theorem dX3_parseZone_73 : decode cX3_parseZone 73 = .ok (.iconst 3, 1) := by decide +kernel
theorem dX3_parseZone_74 : decode cX3_parseZone 74 = .ok (.aload_n 0, 1) := by decide +kernel
theorem dX3_parseZone_75 : decode cX3_parseZone 75 = .ok (.aload_n 2, 1) := by decide +kernel
theorem dX3_parseZone_76 : decode cX3_parseZone 76 = .ok (.iconst 1, 1) := by decide +kernel
theorem dX3_parseZone_77 : decode cX3_parseZone 77 = .ok (.iaload, 1) := by decide +kernel
theorem dX3_parseZone_78 : decode cX3_parseZone 78 = .ok (.aload_n 1, 1) := by decide +kernel
theorem dX3_parseZone_79 : decode cX3_parseZone 79 = .ok (.getfield 251, 3) := by decide +kernel
theorem dX3_parseZone_82 : decode cX3_parseZone 82 = .ok (.iconst 1, 1) := by decide +kernel
theorem dX3_parseZone_83 : decode cX3_parseZone 83 = .ok (.isub, 1) := by decide +kernel
theorem dX3_parseZone_84 : decode cX3_parseZone 84 = .ok (.invokevirtual 74, 3) := by decide +kernel
theorem dX3_parseZone_87 : decode cX3_parseZone 87 = .ok (.iastore, 1) := by decide +kernel
theorem dX3_parseZone_88 : decode cX3_parseZone 88 = .ok (.aload_n 1, 1) := by decide +kernel
theorem dX3_parseZone_89 : decode cX3_parseZone 89 = .ok (.dup, 1) := by decide +kernel
theorem dX3_parseZone_90 : decode cX3_parseZone 90 = .ok (.getfield 244, 3) := by decide +kernel
theorem dX3_parseZone_93 : decode cX3_parseZone 93 = .ok (.iconst 1, 1) := by decide +kernel
theorem dX3_parseZone_94 : decode cX3_parseZone 94 = .ok (.iadd, 1) := by decide +kernel
theorem dX3_parseZone_95 : decode cX3_parseZone 95 = .ok (.putfield 244, 3) := by decide +kernel
theorem dX3_parseZone_98 : decode cX3_parseZone 98 = .ok (.return_, 1) := by decide +kernel
theorem dX3_parseShade_0 : decode cX3_parseShade 0 = .ok (.aload_n 0, 1) := by decide +kernel
theorem dX3_parseShade_1 : decode cX3_parseShade 1 = .ok (.aload_n 1, 1) := by decide +kernel
theorem dX3_parseShade_2 : decode cX3_parseShade 2 = .ok (.getfield 254, 3) := by decide +kernel
theorem dX3_parseShade_5 : decode cX3_parseShade 5 = .ok (.ifCond .le 7, 3) := by decide +kernel
theorem dX3_parseShade_8 : decode cX3_parseShade 8 = .ok (.iconst 1, 1) := by decide +kernel
theorem dX3_parseShade_9 : decode cX3_parseShade 9 = .ok (.goto 4, 3) := by decide +kernel
theorem dX3_parseShade_12 : decode cX3_parseShade 12 = .ok (.iconst 0, 1) := by decide +kernel
theorem dX3_parseShade_13 : decode cX3_parseShade 13 = .ok (.iconst 3, 1) := by decide +kernel
theorem dX3_parseShade_14 : decode cX3_parseShade 14 = .ok (.invokevirtual 121, 3) := by decide +kernel
theorem dX3_parseShade_17 : decode cX3_parseShade 17 = .ok (.aload_n 1, 1) := by decide +kernel
theorem dX3_parseShade_18 : decode cX3_parseShade 18 = .ok (.aload_n 0, 1) := by decide +kernel
theorem dX3_parseShade_19 : decode cX3_parseShade 19 = .ok (.iconst 0, 1) := by decide +kernel
theorem dX3_parseShade_20 : decode cX3_parseShade 20 = .ok (.bipush 9, 2) := by decide +kernel
theorem dX3_parseShade_22 : decode cX3_parseShade 22 = .ok (.invokevirtual 74, 3) := by decide +kernel
theorem dX3_parseShade_25 : decode cX3_parseShade 25 = .ok (.invokevirtual 257, 3) := by decide +kernel
theorem dX3_parseShade_28 : decode cX3_parseShade 28 = .ok (.iconst 1, 1) := by decide +kernel
theorem dX3_parseShade_29 : decode cX3_parseShade 29 = .ok (.istore_n 2, 1) := by decide +kernel
theorem dX3_parseShade_30 : decode cX3_parseShade 30 = .ok (.iload_n 2, 1) := by decide +kernel
theorem dX3_parseShade_31 : decode cX3_parseShade 31 = .ok (.bipush 12, 2) := by decide +kernel
theorem dX3_parseShade_33 : decode cX3_parseShade 33 = .ok (.if_icmp .gt 40, 3) := by decide +kernel
theorem dX3_parseShade_36 : decode cX3_parseShade 36 = .ok (.aload_n 0, 1) := by decide +kernel
theorem dX3_parseShade_37 : decode cX3_parseShade 37 = .ok (.invokevirtual 40, 3) := by decide +kernel
theorem dX3_parseShade_40 : decode cX3_parseShade 40 = .ok (.iconst 2, 1) := by decide +kernel
theorem dX3_parseShade_41 : decode cX3_parseShade 41 = .ok (.if_icmp .ne 32, 3) := by decide +kernel
theorem dX3_parseShade_44 : decode cX3_parseShade 44 = .ok (.iload_n 2, 1) := by decide +kernel
theorem dX3_parseShade_45 : decode cX3_parseShade 45 = .ok (.bipush 12, 2) := by decide +kernel
theorem dX3_parseShade_47 : decode cX3_parseShade 47 = .ok (.if_icmp .ne 9, 3) := by decide +kernel
theorem dX3_parseShade_50 : decode cX3_parseShade 50 = .ok (.aload_n 0, 1) := by decide +kernel
theorem dX3_parseShade_51 : decode cX3_parseShade 51 = .ok (.bipush 9, 2) := by decide +kernel
theorem dX3_parseShade_53 : decode cX3_parseShade 53 = .ok (.invokevirtual 241, 3) := by decide +kernel
theorem dX3_parseShade_56 : decode cX3_parseShade 56 = .ok (.aload_n 1, 1) := by decide +kernel
theorem dX3_parseShade_57 : decode cX3_parseShade 57 = .ok (.aload_n 0, 1) := by decide +kernel
theorem dX3_parseShade_58 : decode cX3_parseShade 58 = .ok (.iconst 0, 1) := by decide +kernel
theorem dX3_parseShade_59 : decode cX3_parseShade 59 = .ok (.bipush 9, 2) := by decide +kernel
theorem dX3_parseShade_61 : decode cX3_parseShade 61 = .ok (.invokevirtual 74, 3) := by decide +kernel
theorem dX3_parseShade_64 : decode cX3_parseShade 64 = .ok (.invokevirtual 257, 3) := by decide +kernel
theorem dX3_parseShade_67 : decode cX3_parseShade 67 = .ok (.iinc 2 1, 3) := by decide +kernel
theorem dX3_parseShade_70 : decode cX3_parseShade 70 = .ok (.goto (-40), 3) := by decide +kernel
theorem dX3_parseShade_73 : decode cX3_parseShade 73 = .ok (.return_, 1) := by decide +kernel
theorem dX3_parseOff_0 : decode cX3_parseOff 0 = .ok (.aload_n 0, 1) := by decide +kernel
theorem dX3_parseOff_1 : decode cX3_parseOff 1 = .ok (.iconst 0, 1) := by decide +kernel
theorem dX3_parseOff_2 : decode cX3_parseOff 2 = .ok (.iconst 3, 1) := by decide +kernel
theorem dX3_parseOff_3 : decode cX3_parseOff 3 = .ok (.invokevirtual 121, 3) := by decide +kernel
theorem dX3_parseOff_6 : decode cX3_parseOff 6 = .ok (.aload_n 0, 1) := by decide +kernel
theorem dX3_parseOff_7 : decode cX3_parseOff 7 = .ok (.iconst 0, 1) := by decide +kernel
theorem dX3_parseOff_8 : decode cX3_parseOff 8 = .ok (.aload_n 1, 1) := by decide +kernel
theorem dX3_parseOff_9 : decode cX3_parseOff 9 = .ok (.getfield 179, 3) := by decide +kernel
theorem dX3_parseOff_12 : decode cX3_parseOff 12 = .ok (.iconst 1, 1) := by decide +kernel
theorem dX3_parseOff_13 : decode cX3_parseOff 13 = .ok (.isub, 1) := by decide +kernel
theorem dX3_parseOff_14 : decode cX3_parseOff 14 = .ok (.invokevirtual 74, 3) := by decide +kernel
theorem dX3_parseOff_17 : decode cX3_parseOff 17 = .ok (.istore_n 2, 1) := by decide +kernel
theorem dX3_parseOff_18 : decode cX3_parseOff 18 = .ok (.aload_n 1, 1) := by decide +kernel
theorem dX3_parseOff_19 : decode cX3_parseOff 19 = .ok (.getfield 182, 3) := by decide +kernel
theorem dX3_parseOff_22 : decode cX3_parseOff 22 = .ok (.iload_n 2, 1) := by decide +kernel
theorem dX3_parseOff_23 : decode cX3_parseOff 23 = .ok (.aaload, 1) := by decide +kernel
theorem dX3_parseOff_24 : decode cX3_parseOff 24 = .ok (.getfield 213, 3) := by decide +kernel
theorem dX3_parseOff_27 : decode cX3_parseOff 27 = .ok (.ifCond .eq 14, 3) := by decide +kernel
theorem dX3_parseOff_30 : decode cX3_parseOff 30 = .ok (.aload_n 0, 1) := by decide +kernel
theorem dX3_parseOff_31 : decode cX3_parseOff 31 = .ok (.aload_n 0, 1) := by decide +kernel
theorem dX3_parseOff_32 : decode cX3_parseOff 32 = .ok (.getfield 25, 3) := by decide +kernel
theorem dX3_parseOff_35 : decode cX3_parseOff 35 = .ok (.iconst 1, 1) := by decide +kernel
theorem dX3_parseOff_36 : decode cX3_parseOff 36 = .ok (.isub, 1) := by decide +kernel
theorem dX3_parseOff_37 : decode cX3_parseOff 37 = .ok (.iconst 3, 1) := by decide +kernel
theorem dX3_parseOff_38 : decode cX3_parseOff 38 = .ok (.invokevirtual 44, 3) := by decide +kernel
theorem dX3_parseOff_41 : decode cX3_parseOff 41 = .ok (.aload_n 1, 1) := by decide +kernel
theorem dX3_parseOff_42 : decode cX3_parseOff 42 = .ok (.getfield 182, 3) := by decide +kernel
theorem dX3_parseOff_45 : decode cX3_parseOff 45 = .ok (.iload_n 2, 1) := by decide +kernel
theorem dX3_parseOff_46 : decode cX3_parseOff 46 = .ok (.aaload, 1) := by decide +kernel
theorem dX3_parseOff_47 : decode cX3_parseOff 47 = .ok (.iconst 1, 1) := by decide +kernel
theorem dX3_parseOff_48 : decode cX3_parseOff 48 = .ok (.putfield 213, 3) := by decide +kernel
theorem dX3_parseOff_51 : decode cX3_parseOff 51 = .ok (.return_, 1) := by decide +kernel
theorem dX3_startLine_0 : decode cX3_startLine 0 = .ok (.iload_n 1, 1) := by decide +kernel
theorem dX3_startLine_1 : decode cX3_startLine 1 = .ok (.ifCond .eq 12, 3) := by decide +kernel
theorem dX3_startLine_4 : decode cX3_startLine 4 = .ok (.aload_n 0, 1) := by decide +kernel
theorem dX3_startLine_5 : decode cX3_startLine 5 = .ok (.aload_n 0, 1) := by decide +kernel
theorem dX3_startLine_6 : decode cX3_startLine 6 = .ok (.getfield 25, 3) := by decide +kernel
theorem dX3_startLine_9 : decode cX3_startLine 9 = .ok (.iload_n 2, 1) := by decide +kernel
theorem dX3_startLine_10 : decode cX3_startLine 10 = .ok (.invokevirtual 44, 3) := by decide +kernel
theorem dX3_startLine_13 : decode cX3_startLine 13 = .ok (.aload_n 0, 1) := by decide +kernel
theorem dX3_startLine_14 : decode cX3_startLine 14 = .ok (.dup, 1) := by decide +kernel
theorem dX3_startLine_15 : decode cX3_startLine 15 = .ok (.getfield 25, 3) := by decide +kernel
theorem dX3_startLine_18 : decode cX3_startLine 18 = .ok (.iconst 1, 1) := by decide +kernel
theorem dX3_startLine_19 : decode cX3_startLine 19 = .ok (.iadd, 1) := by decide +kernel
theorem dX3_startLine_20 : decode cX3_startLine 20 = .ok (.putfield 25, 3) := by decide +kernel
theorem dX3_startLine_23 : decode cX3_startLine 23 = .ok (.return_, 1) := by decide +kernel
theorem dX3_takeWord_0 : decode cX3_takeWord 0 = .ok (.aload_n 0, 1) := by decide +kernel
theorem dX3_takeWord_1 : decode cX3_takeWord 1 = .ok (.aload_n 1, 1) := by decide +kernel
theorem dX3_takeWord_2 : decode cX3_takeWord 2 = .ok (.invokevirtual 94, 3) := by decide +kernel
theorem dX3_takeWord_5 : decode cX3_takeWord 5 = .ok (.ifCond .ne 12, 3) := by decide +kernel
theorem dX3_takeWord_8 : decode cX3_takeWord 8 = .ok (.aload_n 0, 1) := by decide +kernel
theorem dX3_takeWord_9 : decode cX3_takeWord 9 = .ok (.aload_n 0, 1) := by decide +kernel
theorem dX3_takeWord_10 : decode cX3_takeWord 10 = .ok (.getfield 25, 3) := by decide +kernel
theorem dX3_takeWord_13 : decode cX3_takeWord 13 = .ok (.iconst 1, 1) := by decide +kernel
theorem dX3_takeWord_14 : decode cX3_takeWord 14 = .ok (.invokevirtual 44, 3) := by decide +kernel
theorem dX3_takeWord_17 : decode cX3_takeWord 17 = .ok (.aload_n 0, 1) := by decide +kernel
theorem dX3_takeWord_18 : decode cX3_takeWord 18 = .ok (.dup, 1) := by decide +kernel
theorem dX3_takeWord_19 : decode cX3_takeWord 19 = .ok (.getfield 25, 3) := by decide +kernel
theorem dX3_takeWord_22 : decode cX3_takeWord 22 = .ok (.iconst 1, 1) := by decide +kernel
theorem dX3_takeWord_23 : decode cX3_takeWord 23 = .ok (.iadd, 1) := by decide +kernel
theorem dX3_takeWord_24 : decode cX3_takeWord 24 = .ok (.putfield 25, 3) := by decide +kernel
theorem dX3_takeWord_27 : decode cX3_takeWord 27 = .ok (.return_, 1) := by decide +kernel
theorem dX3_signed_0 : decode cX3_signed 0 = .ok (.aload_n 0, 1) := by decide +kernel
theorem dX3_signed_1 : decode cX3_signed 1 = .ok (.invokevirtual 40, 3) := by decide +kernel
theorem dX3_signed_4 : decode cX3_signed 4 = .ok (.iconst 3, 1) := by decide +kernel
theorem dX3_signed_5 : decode cX3_signed 5 = .ok (.if_icmp .eq 10, 3) := by decide +kernel
theorem dX3_signed_8 : decode cX3_signed 8 = .ok (.aload_n 0, 1) := by decide +kernel
theorem dX3_signed_9 : decode cX3_signed 9 = .ok (.iload_n 1, 1) := by decide +kernel
theorem dX3_signed_10 : decode cX3_signed 10 = .ok (.iload_n 2, 1) := by decide +kernel
theorem dX3_signed_11 : decode cX3_signed 11 = .ok (.invokevirtual 74, 3) := by decide +kernel
theorem dX3_signed_14 : decode cX3_signed 14 = .ok (.ireturn, 1) := by decide +kernel
theorem dX3_signed_15 : decode cX3_signed 15 = .ok (.aload_n 0, 1) := by decide +kernel
theorem dX3_signed_16 : decode cX3_signed 16 = .ok (.dup, 1) := by decide +kernel
theorem dX3_signed_17 : decode cX3_signed 17 = .ok (.getfield 25, 3) := by decide +kernel
theorem dX3_signed_20 : decode cX3_signed 20 = .ok (.iconst 1, 1) := by decide +kernel
theorem dX3_signed_21 : decode cX3_signed 21 = .ok (.iadd, 1) := by decide +kernel
theorem dX3_signed_22 : decode cX3_signed 22 = .ok (.putfield 25, 3) := by decide +kernel
theorem dX3_signed_25 : decode cX3_signed 25 = .ok (.aload_n 0, 1) := by decide +kernel
theorem dX3_signed_26 : decode cX3_signed 26 = .ok (.iload_n 2, 1) := by decide +kernel
theorem dX3_signed_27 : decode cX3_signed 27 = .ok (.ineg, 1) := by decide +kernel
theorem dX3_signed_28 : decode cX3_signed 28 = .ok (.iload_n 1, 1) := by decide +kernel
theorem dX3_signed_29 : decode cX3_signed 29 = .ok (.ineg, 1) := by decide +kernel
theorem dX3_signed_30 : decode cX3_signed 30 = .ok (.invokevirtual 74, 3) := by decide +kernel
theorem dX3_signed_33 : decode cX3_signed 33 = .ok (.ineg, 1) := by decide +kernel
theorem dX3_signed_34 : decode cX3_signed 34 = .ok (.ireturn, 1) := by decide +kernel
theorem dX3_number_0 : decode cX3_number 0 = .ok (.aload_n 0, 1) := by decide +kernel
theorem dX3_number_1 : decode cX3_number 1 = .ok (.invokevirtual 40, 3) := by decide +kernel
theorem dX3_number_4 : decode cX3_number 4 = .ok (.iconst 2, 1) := by decide +kernel
theorem dX3_number_5 : decode cX3_number 5 = .ok (.if_icmp .eq 12, 3) := by decide +kernel
theorem dX3_number_8 : decode cX3_number 8 = .ok (.aload_n 0, 1) := by decide +kernel
theorem dX3_number_9 : decode cX3_number 9 = .ok (.aload_n 0, 1) := by decide +kernel
theorem dX3_number_10 : decode cX3_number 10 = .ok (.getfield 25, 3) := by decide +kernel
theorem dX3_number_13 : decode cX3_number 13 = .ok (.iconst 1, 1) := by decide +kernel
theorem dX3_number_14 : decode cX3_number 14 = .ok (.invokevirtual 44, 3) := by decide +kernel
theorem dX3_number_17 : decode cX3_number 17 = .ok (.aload_n 0, 1) := by decide +kernel
theorem dX3_number_18 : decode cX3_number 18 = .ok (.invokevirtual 260, 3) := by decide +kernel
theorem dX3_number_21 : decode cX3_number 21 = .ok (.istore_n 3, 1) := by decide +kernel
theorem dX3_number_22 : decode cX3_number 22 = .ok (.iload_n 3, 1) := by decide +kernel
theorem dX3_number_23 : decode cX3_number 23 = .ok (.iload_n 1, 1) := by decide +kernel
theorem dX3_number_24 : decode cX3_number 24 = .ok (.if_icmp .lt 8, 3) := by decide +kernel
theorem dX3_number_27 : decode cX3_number 27 = .ok (.iload_n 3, 1) := by decide +kernel
theorem dX3_number_28 : decode cX3_number 28 = .ok (.iload_n 2, 1) := by decide +kernel
theorem dX3_number_29 : decode cX3_number 29 = .ok (.if_icmp .le 12, 3) := by decide +kernel
theorem dX3_number_32 : decode cX3_number 32 = .ok (.aload_n 0, 1) := by decide +kernel
theorem dX3_number_33 : decode cX3_number 33 = .ok (.aload_n 0, 1) := by decide +kernel
theorem dX3_number_34 : decode cX3_number 34 = .ok (.getfield 25, 3) := by decide +kernel
theorem dX3_number_37 : decode cX3_number 37 = .ok (.iconst 2, 1) := by decide +kernel
theorem dX3_number_38 : decode cX3_number 38 = .ok (.invokevirtual 44, 3) := by decide +kernel
theorem dX3_number_41 : decode cX3_number 41 = .ok (.aload_n 0, 1) := by decide +kernel
theorem dX3_number_42 : decode cX3_number 42 = .ok (.dup, 1) := by decide +kernel
theorem dX3_number_43 : decode cX3_number 43 = .ok (.getfield 25, 3) := by decide +kernel
theorem dX3_number_46 : decode cX3_number 46 = .ok (.iconst 1, 1) := by decide +kernel
theorem dX3_number_47 : decode cX3_number 47 = .ok (.iadd, 1) := by decide +kernel
theorem dX3_number_48 : decode cX3_number 48 = .ok (.putfield 25, 3) := by decide +kernel
theorem dX3_number_51 : decode cX3_number 51 = .ok (.iload_n 3, 1) := by decide +kernel
theorem dX3_number_52 : decode cX3_number 52 = .ok (.ireturn, 1) := by decide +kernel
theorem dX3_kind_0 : decode cX3_kind 0 = .ok (.aload_n 0, 1) := by decide +kernel
theorem dX3_kind_1 : decode cX3_kind 1 = .ok (.getfield 25, 3) := by decide +kernel
theorem dX3_kind_4 : decode cX3_kind 4 = .ok (.aload_n 0, 1) := by decide +kernel
theorem dX3_kind_5 : decode cX3_kind 5 = .ok (.getfield 15, 3) := by decide +kernel
theorem dX3_kind_8 : decode cX3_kind 8 = .ok (.getfield 37, 3) := by decide +kernel
theorem dX3_kind_11 : decode cX3_kind 11 = .ok (.if_icmp .ge 18, 3) := by decide +kernel
theorem dX3_kind_14 : decode cX3_kind 14 = .ok (.aload_n 0, 1) := by decide +kernel
theorem dX3_kind_15 : decode cX3_kind 15 = .ok (.getfield 15, 3) := by decide +kernel
theorem dX3_kind_18 : decode cX3_kind 18 = .ok (.getfield 263, 3) := by decide +kernel
theorem dX3_kind_21 : decode cX3_kind 21 = .ok (.aload_n 0, 1) := by decide +kernel
theorem dX3_kind_22 : decode cX3_kind 22 = .ok (.getfield 25, 3) := by decide +kernel
theorem dX3_kind_25 : decode cX3_kind 25 = .ok (.iaload, 1) := by decide +kernel
theorem dX3_kind_26 : decode cX3_kind 26 = .ok (.goto 4, 3) := by decide +kernel
theorem dX3_kind_29 : decode cX3_kind 29 = .ok (.iconst 5, 1) := by decide +kernel
theorem dX3_kind_30 : decode cX3_kind 30 = .ok (.ireturn, 1) := by decide +kernel
theorem dX3_value_0 : decode cX3_value 0 = .ok (.iconst 0, 1) := by decide +kernel
theorem dX3_value_1 : decode cX3_value 1 = .ok (.istore_n 1, 1) := by decide +kernel
theorem dX3_value_2 : decode cX3_value 2 = .ok (.aload_n 0, 1) := by decide +kernel
theorem dX3_value_3 : decode cX3_value 3 = .ok (.getfield 15, 3) := by decide +kernel
theorem dX3_value_6 : decode cX3_value 6 = .ok (.getfield 266, 3) := by decide +kernel
theorem dX3_value_9 : decode cX3_value 9 = .ok (.aload_n 0, 1) := by decide +kernel
theorem dX3_value_10 : decode cX3_value 10 = .ok (.getfield 25, 3) := by decide +kernel
theorem dX3_value_13 : decode cX3_value 13 = .ok (.iaload, 1) := by decide +kernel
theorem dX3_value_14 : decode cX3_value 14 = .ok (.istore_n 2, 1) := by decide +kernel
theorem dX3_value_15 : decode cX3_value 15 = .ok (.iload_n 2, 1) := by decide +kernel
theorem dX3_value_16 : decode cX3_value 16 = .ok (.aload_n 0, 1) := by decide +kernel
theorem dX3_value_17 : decode cX3_value 17 = .ok (.getfield 15, 3) := by decide +kernel
theorem dX3_value_20 : decode cX3_value 20 = .ok (.getfield 269, 3) := by decide +kernel
theorem dX3_value_23 : decode cX3_value 23 = .ok (.aload_n 0, 1) := by decide +kernel
theorem dX3_value_24 : decode cX3_value 24 = .ok (.getfield 25, 3) := by decide +kernel
theorem dX3_value_27 : decode cX3_value 27 = .ok (.iaload, 1) := by decide +kernel
theorem dX3_value_28 : decode cX3_value 28 = .ok (.if_icmp .ge 27, 3) := by decide +kernel
theorem dX3_value_31 : decode cX3_value 31 = .ok (.bipush 10, 2) := by decide +kernel
theorem dX3_value_33 : decode cX3_value 33 = .ok (.iload_n 1, 1) := by decide +kernel
theorem dX3_value_34 : decode cX3_value 34 = .ok (.imul, 1) := by decide +kernel
theorem dX3_value_35 : decode cX3_value 35 = .ok (.aload_n 0, 1) := by decide +kernel
theorem dX3_value_36 : decode cX3_value 36 = .ok (.getfield 15, 3) := by decide +kernel
theorem dX3_value_39 : decode cX3_value 39 = .ok (.getfield 272, 3) := by decide +kernel
theorem dX3_value_42 : decode cX3_value 42 = .ok (.iload_n 2, 1) := by decide +kernel
theorem dX3_value_43 : decode cX3_value 43 = .ok (.iaload, 1) := by decide +kernel
theorem dX3_value_44 : decode cX3_value 44 = .ok (.iadd, 1) := by decide +kernel
theorem dX3_value_45 : decode cX3_value 45 = .ok (.bipush 48, 2) := by decide +kernel
theorem dX3_value_47 : decode cX3_value 47 = .ok (.isub, 1) := by decide +kernel
theorem dX3_value_48 : decode cX3_value 48 = .ok (.istore_n 1, 1) := by decide +kernel
theorem dX3_value_49 : decode cX3_value 49 = .ok (.iinc 2 1, 3) := by decide +kernel
theorem dX3_value_52 : decode cX3_value 52 = .ok (.goto (-37), 3) := by decide +kernel
theorem dX3_value_55 : decode cX3_value 55 = .ok (.iload_n 1, 1) := by decide +kernel
theorem dX3_value_56 : decode cX3_value 56 = .ok (.ireturn, 1) := by decide +kernel
theorem dX3_isWord_0 : decode cX3_isWord 0 = .ok (.aload_n 0, 1) := by decide +kernel
theorem dX3_isWord_1 : decode cX3_isWord 1 = .ok (.invokevirtual 40, 3) := by decide +kernel
theorem dX3_isWord_4 : decode cX3_isWord 4 = .ok (.iconst 1, 1) := by decide +kernel
theorem dX3_isWord_5 : decode cX3_isWord 5 = .ok (.if_icmp .eq 5, 3) := by decide +kernel
theorem dX3_isWord_8 : decode cX3_isWord 8 = .ok (.iconst 0, 1) := by decide +kernel
theorem dX3_isWord_9 : decode cX3_isWord 9 = .ok (.ireturn, 1) := by decide +kernel
theorem dX3_isWord_10 : decode cX3_isWord 10 = .ok (.aload_n 0, 1) := by decide +kernel
theorem dX3_isWord_11 : decode cX3_isWord 11 = .ok (.getfield 15, 3) := by decide +kernel
theorem dX3_isWord_14 : decode cX3_isWord 14 = .ok (.getfield 266, 3) := by decide +kernel
theorem dX3_isWord_17 : decode cX3_isWord 17 = .ok (.aload_n 0, 1) := by decide +kernel
theorem dX3_isWord_18 : decode cX3_isWord 18 = .ok (.getfield 25, 3) := by decide +kernel
theorem dX3_isWord_21 : decode cX3_isWord 21 = .ok (.iaload, 1) := by decide +kernel
theorem dX3_isWord_22 : decode cX3_isWord 22 = .ok (.istore_n 2, 1) := by decide +kernel
theorem dX3_isWord_23 : decode cX3_isWord 23 = .ok (.aload_n 0, 1) := by decide +kernel
theorem dX3_isWord_24 : decode cX3_isWord 24 = .ok (.getfield 15, 3) := by decide +kernel
theorem dX3_isWord_27 : decode cX3_isWord 27 = .ok (.getfield 269, 3) := by decide +kernel
theorem dX3_isWord_30 : decode cX3_isWord 30 = .ok (.aload_n 0, 1) := by decide +kernel
theorem dX3_isWord_31 : decode cX3_isWord 31 = .ok (.getfield 25, 3) := by decide +kernel
theorem dX3_isWord_34 : decode cX3_isWord 34 = .ok (.iaload, 1) := by decide +kernel
theorem dX3_isWord_35 : decode cX3_isWord 35 = .ok (.iload_n 2, 1) := by decide +kernel
theorem dX3_isWord_36 : decode cX3_isWord 36 = .ok (.isub, 1) := by decide +kernel
theorem dX3_isWord_37 : decode cX3_isWord 37 = .ok (.istore_n 3, 1) := by decide +kernel
theorem dX3_isWord_38 : decode cX3_isWord 38 = .ok (.iload_n 3, 1) := by decide +kernel
theorem dX3_isWord_39 : decode cX3_isWord 39 = .ok (.aload_n 1, 1) := by decide +kernel
theorem dX3_isWord_40 : decode cX3_isWord 40 = .ok (.invokevirtual 275, 3) := by decide +kernel
theorem dX3_isWord_43 : decode cX3_isWord 43 = .ok (.if_icmp .eq 5, 3) := by decide +kernel
theorem dX3_isWord_46 : decode cX3_isWord 46 = .ok (.iconst 0, 1) := by decide +kernel
theorem dX3_isWord_47 : decode cX3_isWord 47 = .ok (.ireturn, 1) := by decide +kernel
theorem dX3_isWord_48 : decode cX3_isWord 48 = .ok (.iconst 0, 1) := by decide +kernel
theorem dX3_isWord_49 : decode cX3_isWord 49 = .ok (.istore 4, 2) := by decide +kernel
theorem dX3_isWord_51 : decode cX3_isWord 51 = .ok (.iload 4, 2) := by decide +kernel
theorem dX3_isWord_53 : decode cX3_isWord 53 = .ok (.iload_n 3, 1) := by decide +kernel
theorem dX3_isWord_54 : decode cX3_isWord 54 = .ok (.if_icmp .ge 32, 3) := by decide +kernel
theorem dX3_isWord_57 : decode cX3_isWord 57 = .ok (.aload_n 0, 1) := by decide +kernel
theorem dX3_isWord_58 : decode cX3_isWord 58 = .ok (.getfield 15, 3) := by decide +kernel
theorem dX3_isWord_61 : decode cX3_isWord 61 = .ok (.getfield 272, 3) := by decide +kernel
theorem dX3_isWord_64 : decode cX3_isWord 64 = .ok (.iload_n 2, 1) := by decide +kernel
theorem dX3_isWord_65 : decode cX3_isWord 65 = .ok (.iload 4, 2) := by decide +kernel
theorem dX3_isWord_67 : decode cX3_isWord 67 = .ok (.iadd, 1) := by decide +kernel
theorem dX3_isWord_68 : decode cX3_isWord 68 = .ok (.iaload, 1) := by decide +kernel
theorem dX3_isWord_69 : decode cX3_isWord 69 = .ok (.aload_n 1, 1) := by decide +kernel
theorem dX3_isWord_70 : decode cX3_isWord 70 = .ok (.iload 4, 2) := by decide +kernel
theorem dX3_isWord_72 : decode cX3_isWord 72 = .ok (.invokevirtual 280, 3) := by decide +kernel
theorem dX3_isWord_75 : decode cX3_isWord 75 = .ok (.if_icmp .eq 5, 3) := by decide +kernel
theorem dX3_isWord_78 : decode cX3_isWord 78 = .ok (.iconst 0, 1) := by decide +kernel
theorem dX3_isWord_79 : decode cX3_isWord 79 = .ok (.ireturn, 1) := by decide +kernel
theorem dX3_isWord_80 : decode cX3_isWord 80 = .ok (.iinc 4 1, 3) := by decide +kernel
theorem dX3_isWord_83 : decode cX3_isWord 83 = .ok (.goto (-32), 3) := by decide +kernel
theorem dX3_isWord_86 : decode cX3_isWord 86 = .ok (.iconst 1, 1) := by decide +kernel
theorem dX3_isWord_87 : decode cX3_isWord 87 = .ok (.ireturn, 1) := by decide +kernel
theorem dX3_failAsTooMany_0 : decode cX3_failAsTooMany 0 = .ok (.aload_n 0, 1) := by decide +kernel
theorem dX3_failAsTooMany_1 : decode cX3_failAsTooMany 1 = .ok (.aload_n 0, 1) := by decide +kernel
theorem dX3_failAsTooMany_2 : decode cX3_failAsTooMany 2 = .ok (.getfield 25, 3) := by decide +kernel
theorem dX3_failAsTooMany_5 : decode cX3_failAsTooMany 5 = .ok (.aload_n 0, 1) := by decide +kernel
theorem dX3_failAsTooMany_6 : decode cX3_failAsTooMany 6 = .ok (.invokevirtual 40, 3) := by decide +kernel
theorem dX3_failAsTooMany_9 : decode cX3_failAsTooMany 9 = .ok (.iconst 2, 1) := by decide +kernel
theorem dX3_failAsTooMany_10 : decode cX3_failAsTooMany 10 = .ok (.if_icmp .ne 15, 3) := by decide +kernel
theorem dX3_failAsTooMany_13 : decode cX3_failAsTooMany 13 = .ok (.aload_n 0, 1) := by decide +kernel
theorem dX3_failAsTooMany_14 : decode cX3_failAsTooMany 14 = .ok (.invokevirtual 260, 3) := by decide +kernel
theorem dX3_failAsTooMany_17 : decode cX3_failAsTooMany 17 = .ok (.iload_n 1, 1) := by decide +kernel
theorem dX3_failAsTooMany_18 : decode cX3_failAsTooMany 18 = .ok (.if_icmp .le 7, 3) := by decide +kernel
theorem dX3_failAsTooMany_21 : decode cX3_failAsTooMany 21 = .ok (.iconst 2, 1) := by decide +kernel
theorem dX3_failAsTooMany_22 : decode cX3_failAsTooMany 22 = .ok (.goto 4, 3) := by decide +kernel
theorem dX3_failAsTooMany_25 : decode cX3_failAsTooMany 25 = .ok (.iconst 4, 1) := by decide +kernel
theorem dX3_failAsTooMany_26 : decode cX3_failAsTooMany 26 = .ok (.invokevirtual 44, 3) := by decide +kernel
theorem dX3_failAsTooMany_29 : decode cX3_failAsTooMany 29 = .ok (.return_, 1) := by decide +kernel
theorem dX3_failAt_0 : decode cX3_failAt 0 = .ok (.aload_n 0, 1) := by decide +kernel
theorem dX3_failAt_1 : decode cX3_failAt 1 = .ok (.iload_n 2, 1) := by decide +kernel
theorem dX3_failAt_2 : decode cX3_failAt 2 = .ok (.putfield 63, 3) := by decide +kernel
theorem dX3_failAt_5 : decode cX3_failAt 5 = .ok (.aload_n 0, 1) := by decide +kernel
theorem dX3_failAt_6 : decode cX3_failAt 6 = .ok (.iload_n 1, 1) := by decide +kernel
theorem dX3_failAt_7 : decode cX3_failAt 7 = .ok (.ifCond .lt 26, 3) := by decide +kernel
theorem dX3_failAt_10 : decode cX3_failAt 10 = .ok (.iload_n 1, 1) := by decide +kernel
theorem dX3_failAt_11 : decode cX3_failAt 11 = .ok (.aload_n 0, 1) := by decide +kernel
theorem dX3_failAt_12 : decode cX3_failAt 12 = .ok (.getfield 15, 3) := by decide +kernel
theorem dX3_failAt_15 : decode cX3_failAt 15 = .ok (.getfield 37, 3) := by decide +kernel
theorem dX3_failAt_18 : decode cX3_failAt 18 = .ok (.if_icmp .ge 15, 3) := by decide +kernel
theorem dX3_failAt_21 : decode cX3_failAt 21 = .ok (.aload_n 0, 1) := by decide +kernel
theorem dX3_failAt_22 : decode cX3_failAt 22 = .ok (.getfield 15, 3) := by decide +kernel
theorem dX3_failAt_25 : decode cX3_failAt 25 = .ok (.getfield 266, 3) := by decide +kernel
theorem dX3_failAt_28 : decode cX3_failAt 28 = .ok (.iload_n 1, 1) := by decide +kernel
theorem dX3_failAt_29 : decode cX3_failAt 29 = .ok (.iaload, 1) := by decide +kernel
theorem dX3_failAt_30 : decode cX3_failAt 30 = .ok (.goto 4, 3) := by decide +kernel
theorem dX3_failAt_33 : decode cX3_failAt 33 = .ok (.iconst 0, 1) := by decide +kernel
theorem dX3_failAt_34 : decode cX3_failAt 34 = .ok (.putfield 9, 3) := by decide +kernel
theorem dX3_failAt_37 : decode cX3_failAt 37 = .ok (.new 284, 3) := by decide +kernel
theorem dX3_failAt_40 : decode cX3_failAt 40 = .ok (.dup, 1) := by decide +kernel
theorem dX3_failAt_41 : decode cX3_failAt 41 = .ok (.invokespecial 286, 3) := by decide +kernel
theorem dX3_failAt_44 : decode cX3_failAt 44 = .ok (.athrow, 1) := by decide +kernel
theorem dX4_init_0 : decode cX4_init 0 = .ok (.aload_n 0, 1) := by decide +kernel
theorem dX4_init_1 : decode cX4_init 1 = .ok (.invokespecial 3, 3) := by decide +kernel
theorem dX4_init_4 : decode cX4_init 4 = .ok (.aload_n 0, 1) := by decide +kernel
theorem dX4_init_5 : decode cX4_init 5 = .ok (.new 9, 3) := by decide +kernel
theorem dX4_init_8 : decode cX4_init 8 = .ok (.dup, 1) := by decide +kernel
theorem dX4_init_9 : decode cX4_init 9 = .ok (.sipush 144, 3) := by decide +kernel
theorem dX4_init_12 : decode cX4_init 12 = .ok (.invokespecial 11, 3) := by decide +kernel
theorem dX4_init_15 : decode cX4_init 15 = .ok (.putfield 14, 3) := by decide +kernel
theorem dX4_init_18 : decode cX4_init 18 = .ok (.aload_n 0, 1) := by decide +kernel
theorem dX4_init_19 : decode cX4_init 19 = .ok (.sipush 144, 3) := by decide +kernel
theorem dX4_init_22 : decode cX4_init 22 = .ok (.newarray .int, 2) := by decide +kernel
theorem dX4_init_24 : decode cX4_init 24 = .ok (.putfield 20, 3) := by decide +kernel
theorem dX4_init_27 : decode cX4_init 27 = .ok (.aload_n 0, 1) := by decide +kernel
theorem dX4_init_28 : decode cX4_init 28 = .ok (.new 9, 3) := by decide +kernel
theorem dX4_init_31 : decode cX4_init 31 = .ok (.dup, 1) := by decide +kernel
theorem dX4_init_32 : decode cX4_init 32 = .ok (.sipush 144, 3) := by decide +kernel
theorem dX4_init_35 : decode cX4_init 35 = .ok (.invokespecial 11, 3) := by decide +kernel
theorem dX4_init_38 : decode cX4_init 38 = .ok (.putfield 24, 3) := by decide +kernel
theorem dX4_init_41 : decode cX4_init 41 = .ok (.return_, 1) := by decide +kernel
theorem dX4_measure_0 : decode cX4_measure 0 = .ok (.aload_n 0, 1) := by decide +kernel
theorem dX4_measure_1 : decode cX4_measure 1 = .ok (.getfield 14, 3) := by decide +kernel
theorem dX4_measure_4 : decode cX4_measure 4 = .ok (.invokevirtual 27, 3) := by decide +kernel
theorem dX4_measure_7 : decode cX4_measure 7 = .ok (.aload_n 0, 1) := by decide +kernel
theorem dX4_measure_8 : decode cX4_measure 8 = .ok (.getfield 24, 3) := by decide +kernel
theorem dX4_measure_11 : decode cX4_measure 11 = .ok (.invokevirtual 27, 3) := by decide +kernel
theorem dX4_measure_14 : decode cX4_measure 14 = .ok (.iconst 0, 1) := by decide +kernel
theorem dX4_measure_15 : decode cX4_measure 15 = .ok (.istore_n 3, 1) := by decide +kernel
theorem dX4_measure_16 : decode cX4_measure 16 = .ok (.iload_n 3, 1) := by decide +kernel
theorem dX4_measure_17 : decode cX4_measure 17 = .ok (.aload_n 1, 1) := by decide +kernel
theorem dX4_measure_18 : decode cX4_measure 18 = .ok (.getfield 30, 3) := by decide +kernel
theorem dX4_measure_21 : decode cX4_measure 21 = .ok (.invokevirtual 36, 3) := by decide +kernel
theorem dX4_measure_24 : decode cX4_measure 24 = .ok (.if_icmp .ge 35, 3) := by decide +kernel
theorem dX4_measure_27 : decode cX4_measure 27 = .ok (.aload_n 1, 1) := by decide +kernel
theorem dX4_measure_28 : decode cX4_measure 28 = .ok (.getfield 42, 3) := by decide +kernel
theorem dX4_measure_31 : decode cX4_measure 31 = .ok (.iload_n 3, 1) := by decide +kernel
theorem dX4_measure_32 : decode cX4_measure 32 = .ok (.aaload, 1) := by decide +kernel
theorem dX4_measure_33 : decode cX4_measure 33 = .ok (.astore 4, 2) := by decide +kernel
theorem dX4_measure_35 : decode cX4_measure 35 = .ok (.aload_n 2, 1) := by decide +kernel
theorem dX4_measure_36 : decode cX4_measure 36 = .ok (.aload 4, 2) := by decide +kernel
theorem dX4_measure_38 : decode cX4_measure 38 = .ok (.iconst 0, 1) := by decide +kernel
theorem dX4_measure_39 : decode cX4_measure 39 = .ok (.aload_n 2, 1) := by decide +kernel
theorem dX4_measure_40 : decode cX4_measure 40 = .ok (.aload 4, 2) := by decide +kernel
theorem dX4_measure_42 : decode cX4_measure 42 = .ok (.invokevirtual 46, 3) := by decide +kernel
theorem dX4_measure_45 : decode cX4_measure 45 = .ok (.aload_n 0, 1) := by decide +kernel
theorem dX4_measure_46 : decode cX4_measure 46 = .ok (.getfield 14, 3) := by decide +kernel
theorem dX4_measure_49 : decode cX4_measure 49 = .ok (.iload_n 3, 1) := by decide +kernel
theorem dX4_measure_50 : decode cX4_measure 50 = .ok (.invokevirtual 52, 3) := by decide +kernel
theorem dX4_measure_53 : decode cX4_measure 53 = .ok (.iinc 3 1, 3) := by decide +kernel
theorem dX4_measure_56 : decode cX4_measure 56 = .ok (.goto (-40), 3) := by decide +kernel
theorem dX4_measure_59 : decode cX4_measure 59 = .ok (.aload_n 0, 1) := by decide +kernel
theorem dX4_measure_60 : decode cX4_measure 60 = .ok (.aload_n 1, 1) := by decide +kernel
theorem dX4_measure_61 : decode cX4_measure 61 = .ok (.getfield 30, 3) := by decide +kernel
theorem dX4_measure_64 : decode cX4_measure 64 = .ok (.aload_n 1, 1) := by decide +kernel
theorem dX4_measure_65 : decode cX4_measure 65 = .ok (.getfield 30, 3) := by decide +kernel
theorem dX4_measure_68 : decode cX4_measure 68 = .ok (.getfield 56, 3) := by decide +kernel
theorem dX4_measure_71 : decode cX4_measure 71 = .ok (.aload_n 0, 1) := by decide +kernel
theorem dX4_measure_72 : decode cX4_measure 72 = .ok (.getfield 14, 3) := by decide +kernel
theorem dX4_measure_75 : decode cX4_measure 75 = .ok (.iconst 0, 1) := by decide +kernel
theorem dX4_measure_76 : decode cX4_measure 76 = .ok (.invokevirtual 59, 3) := by decide +kernel
theorem dX4_measure_79 : decode cX4_measure 79 = .ok (.putfield 63, 3) := by decide +kernel
theorem dX4_measure_82 : decode cX4_measure 82 = .ok (.aload_n 0, 1) := by decide +kernel
theorem dX4_measure_83 : decode cX4_measure 83 = .ok (.iconst 0, 1) := by decide +kernel
theorem dX4_measure_84 : decode cX4_measure 84 = .ok (.putfield 67, 3) := by decide +kernel
theorem dX4_measure_87 : decode cX4_measure 87 = .ok (.iconst 0, 1) := by decide +kernel
theorem dX4_measure_88 : decode cX4_measure 88 = .ok (.istore_n 3, 1) := by decide +kernel
theorem dX4_measure_89 : decode cX4_measure 89 = .ok (.iload_n 3, 1) := by decide +kernel
theorem dX4_measure_90 : decode cX4_measure 90 = .ok (.aload_n 1, 1) := by decide +kernel
theorem dX4_measure_91 : decode cX4_measure 91 = .ok (.getfield 30, 3) := by decide +kernel
theorem dX4_measure_94 : decode cX4_measure 94 = .ok (.invokevirtual 36, 3) := by decide +kernel
theorem dX4_measure_97 : decode cX4_measure 97 = .ok (.if_icmp .ge 57, 3) := by decide +kernel
theorem dX4_measure_100 : decode cX4_measure 100 = .ok (.aload_n 0, 1) := by decide +kernel
theorem dX4_measure_101 : decode cX4_measure 101 = .ok (.iload_n 3, 1) := by decide +kernel
theorem dX4_measure_102 : decode cX4_measure 102 = .ok (.aload_n 1, 1) := by decide +kernel
theorem dX4_measure_103 : decode cX4_measure 103 = .ok (.getfield 30, 3) := by decide +kernel
theorem dX4_measure_106 : decode cX4_measure 106 = .ok (.invokevirtual 70, 3) := by decide +kernel
theorem dX4_measure_109 : decode cX4_measure 109 = .ok (.ifCond .eq 39, 3) := by decide +kernel
theorem dX4_measure_112 : decode cX4_measure 112 = .ok (.aload_n 0, 1) := by decide +kernel
theorem dX4_measure_113 : decode cX4_measure 113 = .ok (.getfield 20, 3) := by decide +kernel
theorem dX4_measure_116 : decode cX4_measure 116 = .ok (.aload_n 0, 1) := by decide +kernel
theorem dX4_measure_117 : decode cX4_measure 117 = .ok (.getfield 67, 3) := by decide +kernel
theorem dX4_measure_120 : decode cX4_measure 120 = .ok (.iload_n 3, 1) := by decide +kernel
theorem dX4_measure_121 : decode cX4_measure 121 = .ok (.iastore, 1) := by decide +kernel
theorem dX4_measure_122 : decode cX4_measure 122 = .ok (.aload_n 0, 1) := by decide +kernel
theorem dX4_measure_123 : decode cX4_measure 123 = .ok (.getfield 24, 3) := by decide +kernel
theorem dX4_measure_126 : decode cX4_measure 126 = .ok (.aload_n 0, 1) := by decide +kernel
theorem dX4_measure_127 : decode cX4_measure 127 = .ok (.getfield 67, 3) := by decide +kernel
theorem dX4_measure_130 : decode cX4_measure 130 = .ok (.aload_n 0, 1) := by decide +kernel
theorem dX4_measure_131 : decode cX4_measure 131 = .ok (.getfield 14, 3) := by decide +kernel
theorem dX4_measure_134 : decode cX4_measure 134 = .ok (.iload_n 3, 1) := by decide +kernel
theorem dX4_measure_135 : decode cX4_measure 135 = .ok (.invokevirtual 74, 3) := by decide +kernel
theorem dX4_measure_138 : decode cX4_measure 138 = .ok (.aload_n 0, 1) := by decide +kernel
theorem dX4_measure_139 : decode cX4_measure 139 = .ok (.dup, 1) := by decide +kernel
theorem dX4_measure_140 : decode cX4_measure 140 = .ok (.getfield 67, 3) := by decide +kernel
theorem dX4_measure_143 : decode cX4_measure 143 = .ok (.iconst 1, 1) := by decide +kernel
theorem dX4_measure_144 : decode cX4_measure 144 = .ok (.iadd, 1) := by decide +kernel
theorem dX4_measure_145 : decode cX4_measure 145 = .ok (.putfield 67, 3) := by decide +kernel
theorem dX4_measure_148 : decode cX4_measure 148 = .ok (.iinc 3 1, 3) := by decide +kernel
theorem dX4_measure_151 : decode cX4_measure 151 = .ok (.goto (-62), 3) := by decide +kernel
theorem dX4_measure_154 : decode cX4_measure 154 = .ok (.return_, 1) := by decide +kernel
theorem dX4_second_0 : decode cX4_second 0 = .ok (.iconst (-1), 1) := by decide +kernel
theorem dX4_second_1 : decode cX4_second 1 = .ok (.istore_n 2, 1) := by decide +kernel
theorem dX4_second_2 : decode cX4_second 2 = .ok (.iconst 0, 1) := by decide +kernel
theorem dX4_second_3 : decode cX4_second 3 = .ok (.istore_n 3, 1) := by decide +kernel
theorem dX4_second_4 : decode cX4_second 4 = .ok (.iload_n 3, 1) := by decide +kernel
theorem dX4_second_5 : decode cX4_second 5 = .ok (.iload_n 1, 1) := by decide +kernel
theorem dX4_second_6 : decode cX4_second 6 = .ok (.if_icmp .ge 36, 3) := by decide +kernel
theorem dX4_second_9 : decode cX4_second 9 = .ok (.iload_n 3, 1) := by decide +kernel
theorem dX4_second_10 : decode cX4_second 10 = .ok (.aload_n 0, 1) := by decide +kernel
theorem dX4_second_11 : decode cX4_second 11 = .ok (.getfield 63, 3) := by decide +kernel
theorem dX4_second_14 : decode cX4_second 14 = .ok (.if_icmp .eq 22, 3) := by decide +kernel
theorem dX4_second_17 : decode cX4_second 17 = .ok (.iload_n 2, 1) := by decide +kernel
theorem dX4_second_18 : decode cX4_second 18 = .ok (.iconst (-1), 1) := by decide +kernel
theorem dX4_second_19 : decode cX4_second 19 = .ok (.if_icmp .eq 15, 3) := by decide +kernel
theorem dX4_second_22 : decode cX4_second 22 = .ok (.aload_n 0, 1) := by decide +kernel
theorem dX4_second_23 : decode cX4_second 23 = .ok (.getfield 14, 3) := by decide +kernel
theorem dX4_second_26 : decode cX4_second 26 = .ok (.iload_n 3, 1) := by decide +kernel
theorem dX4_second_27 : decode cX4_second 27 = .ok (.iload_n 2, 1) := by decide +kernel
theorem dX4_second_28 : decode cX4_second 28 = .ok (.invokevirtual 78, 3) := by decide +kernel
theorem dX4_second_31 : decode cX4_second 31 = .ok (.ifCond .le 5, 3) := by decide +kernel
theorem dX4_second_34 : decode cX4_second 34 = .ok (.iload_n 3, 1) := by decide +kernel
theorem dX4_second_35 : decode cX4_second 35 = .ok (.istore_n 2, 1) := by decide +kernel
theorem dX4_second_36 : decode cX4_second 36 = .ok (.iinc 3 1, 3) := by decide +kernel
theorem dX4_second_39 : decode cX4_second 39 = .ok (.goto (-35), 3) := by decide +kernel
theorem dX4_second_42 : decode cX4_second 42 = .ok (.iload_n 2, 1) := by decide +kernel
theorem dX4_second_43 : decode cX4_second 43 = .ok (.ireturn, 1) := by decide +kernel
theorem dX4_sumIn_0 : decode cX4_sumIn 0 = .ok (.aload_n 3, 1) := by decide +kernel
theorem dX4_sumIn_1 : decode cX4_sumIn 1 = .ok (.iload 4, 2) := by decide +kernel
theorem dX4_sumIn_3 : decode cX4_sumIn 3 = .ok (.invokevirtual 82, 3) := by decide +kernel
theorem dX4_sumIn_6 : decode cX4_sumIn 6 = .ok (.aload_n 1, 1) := by decide +kernel
theorem dX4_sumIn_7 : decode cX4_sumIn 7 = .ok (.iconst 1, 1) := by decide +kernel
theorem dX4_sumIn_8 : decode cX4_sumIn 8 = .ok (.iaload, 1) := by decide +kernel
theorem dX4_sumIn_9 : decode cX4_sumIn 9 = .ok (.istore 5, 2) := by decide +kernel
theorem dX4_sumIn_11 : decode cX4_sumIn 11 = .ok (.iload 5, 2) := by decide +kernel
theorem dX4_sumIn_13 : decode cX4_sumIn 13 = .ok (.aload_n 1, 1) := by decide +kernel
theorem dX4_sumIn_14 : decode cX4_sumIn 14 = .ok (.iconst 3, 1) := by decide +kernel
theorem dX4_sumIn_15 : decode cX4_sumIn 15 = .ok (.iaload, 1) := by decide +kernel
theorem dX4_sumIn_16 : decode cX4_sumIn 16 = .ok (.if_icmp .gt 49, 3) := by decide +kernel
theorem dX4_sumIn_19 : decode cX4_sumIn 19 = .ok (.aload_n 1, 1) := by decide +kernel
theorem dX4_sumIn_20 : decode cX4_sumIn 20 = .ok (.iconst 0, 1) := by decide +kernel
theorem dX4_sumIn_21 : decode cX4_sumIn 21 = .ok (.iaload, 1) := by decide +kernel
theorem dX4_sumIn_22 : decode cX4_sumIn 22 = .ok (.istore 6, 2) := by decide +kernel
theorem dX4_sumIn_24 : decode cX4_sumIn 24 = .ok (.iload 6, 2) := by decide +kernel
theorem dX4_sumIn_26 : decode cX4_sumIn 26 = .ok (.aload_n 1, 1) := by decide +kernel
theorem dX4_sumIn_27 : decode cX4_sumIn 27 = .ok (.iconst 2, 1) := by decide +kernel
theorem dX4_sumIn_28 : decode cX4_sumIn 28 = .ok (.iaload, 1) := by decide +kernel
theorem dX4_sumIn_29 : decode cX4_sumIn 29 = .ok (.if_icmp .gt 30, 3) := by decide +kernel
theorem dX4_sumIn_32 : decode cX4_sumIn 32 = .ok (.aload_n 3, 1) := by decide +kernel
theorem dX4_sumIn_33 : decode cX4_sumIn 33 = .ok (.iload 4, 2) := by decide +kernel
theorem dX4_sumIn_35 : decode cX4_sumIn 35 = .ok (.aload_n 0, 1) := by decide +kernel
theorem dX4_sumIn_36 : decode cX4_sumIn 36 = .ok (.getfield 14, 3) := by decide +kernel
theorem dX4_sumIn_39 : decode cX4_sumIn 39 = .ok (.iload 5, 2) := by decide +kernel
theorem dX4_sumIn_41 : decode cX4_sumIn 41 = .ok (.aload_n 2, 1) := by decide +kernel
theorem dX4_sumIn_42 : decode cX4_sumIn 42 = .ok (.getfield 85, 3) := by decide +kernel
theorem dX4_sumIn_45 : decode cX4_sumIn 45 = .ok (.imul, 1) := by decide +kernel
theorem dX4_sumIn_46 : decode cX4_sumIn 46 = .ok (.iload 6, 2) := by decide +kernel
theorem dX4_sumIn_48 : decode cX4_sumIn 48 = .ok (.iadd, 1) := by decide +kernel
theorem dX4_sumIn_49 : decode cX4_sumIn 49 = .ok (.iconst 1, 1) := by decide +kernel
theorem dX4_sumIn_50 : decode cX4_sumIn 50 = .ok (.invokevirtual 88, 3) := by decide +kernel
theorem dX4_sumIn_53 : decode cX4_sumIn 53 = .ok (.iinc 6 1, 3) := by decide +kernel
theorem dX4_sumIn_56 : decode cX4_sumIn 56 = .ok (.goto (-32), 3) := by decide +kernel
theorem dX4_sumIn_59 : decode cX4_sumIn 59 = .ok (.iinc 5 1, 3) := by decide +kernel
theorem dX4_sumIn_62 : decode cX4_sumIn 62 = .ok (.goto (-51), 3) := by decide +kernel
theorem dX4_sumIn_65 : decode cX4_sumIn 65 = .ok (.return_, 1) := by decide +kernel
theorem dX4_standsOut_0 : decode cX4_standsOut 0 = .ok (.aload_n 2, 1) := by decide +kernel
theorem dX4_standsOut_1 : decode cX4_standsOut 1 = .ok (.iload_n 1, 1) := by decide +kernel
theorem dX4_standsOut_2 : decode cX4_standsOut 2 = .ok (.invokevirtual 92, 3) := by decide +kernel
theorem dX4_standsOut_5 : decode cX4_standsOut 5 = .ok (.astore_n 3, 1) := by decide +kernel
theorem dX4_standsOut_6 : decode cX4_standsOut 6 = .ok (.aload_n 3, 1) := by decide +kernel
theorem dX4_standsOut_7 : decode cX4_standsOut 7 = .ok (.iconst 1, 1) := by decide +kernel
theorem dX4_standsOut_8 : decode cX4_standsOut 8 = .ok (.iaload, 1) := by decide +kernel
theorem dX4_standsOut_9 : decode cX4_standsOut 9 = .ok (.istore 4, 2) := by decide +kernel
theorem dX4_standsOut_11 : decode cX4_standsOut 11 = .ok (.iload 4, 2) := by decide +kernel
theorem dX4_standsOut_13 : decode cX4_standsOut 13 = .ok (.aload_n 3, 1) := by decide +kernel
theorem dX4_standsOut_14 : decode cX4_standsOut 14 = .ok (.iconst 3, 1) := by decide +kernel
theorem dX4_standsOut_15 : decode cX4_standsOut 15 = .ok (.iaload, 1) := by decide +kernel
theorem dX4_standsOut_16 : decode cX4_standsOut 16 = .ok (.if_icmp .gt 61, 3) := by decide +kernel
theorem dX4_standsOut_19 : decode cX4_standsOut 19 = .ok (.aload_n 3, 1) := by decide +kernel
theorem dX4_standsOut_20 : decode cX4_standsOut 20 = .ok (.iconst 0, 1) := by decide +kernel
theorem dX4_standsOut_21 : decode cX4_standsOut 21 = .ok (.iaload, 1) := by decide +kernel
theorem dX4_standsOut_22 : decode cX4_standsOut 22 = .ok (.istore 5, 2) := by decide +kernel
theorem dX4_standsOut_24 : decode cX4_standsOut 24 = .ok (.iload 5, 2) := by decide +kernel
theorem dX4_standsOut_26 : decode cX4_standsOut 26 = .ok (.aload_n 3, 1) := by decide +kernel
theorem dX4_standsOut_27 : decode cX4_standsOut 27 = .ok (.iconst 2, 1) := by decide +kernel
theorem dX4_standsOut_28 : decode cX4_standsOut 28 = .ok (.iaload, 1) := by decide +kernel
theorem dX4_standsOut_29 : decode cX4_standsOut 29 = .ok (.if_icmp .gt 42, 3) := by decide +kernel
theorem dX4_standsOut_32 : decode cX4_standsOut 32 = .ok (.iload 4, 2) := by decide +kernel
theorem dX4_standsOut_34 : decode cX4_standsOut 34 = .ok (.aload_n 2, 1) := by decide +kernel
theorem dX4_standsOut_35 : decode cX4_standsOut 35 = .ok (.getfield 85, 3) := by decide +kernel
theorem dX4_standsOut_38 : decode cX4_standsOut 38 = .ok (.imul, 1) := by decide +kernel
theorem dX4_standsOut_39 : decode cX4_standsOut 39 = .ok (.iload 5, 2) := by decide +kernel
theorem dX4_standsOut_41 : decode cX4_standsOut 41 = .ok (.iadd, 1) := by decide +kernel
theorem dX4_standsOut_42 : decode cX4_standsOut 42 = .ok (.istore 6, 2) := by decide +kernel
theorem dX4_standsOut_44 : decode cX4_standsOut 44 = .ok (.iload 6, 2) := by decide +kernel
theorem dX4_standsOut_46 : decode cX4_standsOut 46 = .ok (.iload_n 1, 1) := by decide +kernel
theorem dX4_standsOut_47 : decode cX4_standsOut 47 = .ok (.if_icmp .eq 18, 3) := by decide +kernel
theorem dX4_standsOut_50 : decode cX4_standsOut 50 = .ok (.aload_n 0, 1) := by decide +kernel
theorem dX4_standsOut_51 : decode cX4_standsOut 51 = .ok (.getfield 14, 3) := by decide +kernel
theorem dX4_standsOut_54 : decode cX4_standsOut 54 = .ok (.iload 6, 2) := by decide +kernel
theorem dX4_standsOut_56 : decode cX4_standsOut 56 = .ok (.iload_n 1, 1) := by decide +kernel
theorem dX4_standsOut_57 : decode cX4_standsOut 57 = .ok (.invokevirtual 78, 3) := by decide +kernel
theorem dX4_standsOut_60 : decode cX4_standsOut 60 = .ok (.ifCond .lt 5, 3) := by decide +kernel
theorem dX4_standsOut_63 : decode cX4_standsOut 63 = .ok (.iconst 0, 1) := by decide +kernel
theorem dX4_standsOut_64 : decode cX4_standsOut 64 = .ok (.ireturn, 1) := by decide +kernel
theorem dX4_standsOut_65 : decode cX4_standsOut 65 = .ok (.iinc 5 1, 3) := by decide +kernel
theorem dX4_standsOut_68 : decode cX4_standsOut 68 = .ok (.goto (-44), 3) := by decide +kernel
theorem dX4_standsOut_71 : decode cX4_standsOut 71 = .ok (.iinc 4 1, 3) := by decide +kernel
theorem dX4_standsOut_74 : decode cX4_standsOut 74 = .ok (.goto (-63), 3) := by decide +kernel
theorem dX4_standsOut_77 : decode cX4_standsOut 77 = .ok (.iconst 1, 1) := by decide +kernel
theorem dX4_standsOut_78 : decode cX4_standsOut 78 = .ok (.ireturn, 1) := by decide +kernel
theorem dX4_peakRanked_0 : decode cX4_peakRanked 0 = .ok (.aload_n 0, 1) := by decide +kernel
theorem dX4_peakRanked_1 : decode cX4_peakRanked 1 = .ok (.getfield 24, 3) := by decide +kernel
theorem dX4_peakRanked_4 : decode cX4_peakRanked 4 = .ok (.aload_n 0, 1) := by decide +kernel
theorem dX4_peakRanked_5 : decode cX4_peakRanked 5 = .ok (.getfield 67, 3) := by decide +kernel
theorem dX4_peakRanked_8 : decode cX4_peakRanked 8 = .ok (.iload_n 1, 1) := by decide +kernel
theorem dX4_peakRanked_9 : decode cX4_peakRanked 9 = .ok (.invokevirtual 96, 3) := by decide +kernel
theorem dX4_peakRanked_12 : decode cX4_peakRanked 12 = .ok (.istore_n 2, 1) := by decide +kernel
theorem dX4_peakRanked_13 : decode cX4_peakRanked 13 = .ok (.iload_n 2, 1) := by decide +kernel
theorem dX4_peakRanked_14 : decode cX4_peakRanked 14 = .ok (.iconst (-1), 1) := by decide +kernel
theorem dX4_peakRanked_15 : decode cX4_peakRanked 15 = .ok (.if_icmp .ne 7, 3) := by decide +kernel
theorem dX4_peakRanked_18 : decode cX4_peakRanked 18 = .ok (.iconst (-1), 1) := by decide +kernel
theorem dX4_peakRanked_19 : decode cX4_peakRanked 19 = .ok (.goto 9, 3) := by decide +kernel
theorem dX4_peakRanked_22 : decode cX4_peakRanked 22 = .ok (.aload_n 0, 1) := by decide +kernel
theorem dX4_peakRanked_23 : decode cX4_peakRanked 23 = .ok (.getfield 20, 3) := by decide +kernel
theorem dX4_peakRanked_26 : decode cX4_peakRanked 26 = .ok (.iload_n 2, 1) := by decide +kernel
theorem dX4_peakRanked_27 : decode cX4_peakRanked 27 = .ok (.iaload, 1) := by decide +kernel
theorem dX4_peakRanked_28 : decode cX4_peakRanked 28 = .ok (.ireturn, 1) := by decide +kernel
theorem dX4_digit_0 : decode cX4_digit 0 = .ok (.aload_n 2, 1) := by decide +kernel
theorem dX4_digit_1 : decode cX4_digit 1 = .ok (.iconst 0, 1) := by decide +kernel
theorem dX4_digit_2 : decode cX4_digit 2 = .ok (.invokevirtual 82, 3) := by decide +kernel
theorem dX4_digit_5 : decode cX4_digit 5 = .ok (.aload_n 2, 1) := by decide +kernel
theorem dX4_digit_6 : decode cX4_digit 6 = .ok (.iconst 1, 1) := by decide +kernel
theorem dX4_digit_7 : decode cX4_digit 7 = .ok (.invokevirtual 82, 3) := by decide +kernel
theorem dX4_digit_10 : decode cX4_digit 10 = .ok (.aload_n 2, 1) := by decide +kernel
theorem dX4_digit_11 : decode cX4_digit 11 = .ok (.iconst 0, 1) := by decide +kernel
theorem dX4_digit_12 : decode cX4_digit 12 = .ok (.aload_n 0, 1) := by decide +kernel
theorem dX4_digit_13 : decode cX4_digit 13 = .ok (.getfield 14, 3) := by decide +kernel
theorem dX4_digit_16 : decode cX4_digit 16 = .ok (.iload_n 1, 1) := by decide +kernel
theorem dX4_digit_17 : decode cX4_digit 17 = .ok (.bipush 9, 2) := by decide +kernel
theorem dX4_digit_19 : decode cX4_digit 19 = .ok (.invokevirtual 88, 3) := by decide +kernel
theorem dX4_digit_22 : decode cX4_digit 22 = .ok (.iconst 0, 1) := by decide +kernel
theorem dX4_digit_23 : decode cX4_digit 23 = .ok (.istore_n 3, 1) := by decide +kernel
theorem dX4_digit_24 : decode cX4_digit 24 = .ok (.iconst 1, 1) := by decide +kernel
theorem dX4_digit_25 : decode cX4_digit 25 = .ok (.istore 4, 2) := by decide +kernel
theorem dX4_digit_27 : decode cX4_digit 27 = .ok (.iload 4, 2) := by decide +kernel
theorem dX4_digit_29 : decode cX4_digit 29 = .ok (.bipush 9, 2) := by decide +kernel
theorem dX4_digit_31 : decode cX4_digit 31 = .ok (.if_icmp .gt 53, 3) := by decide +kernel
theorem dX4_digit_34 : decode cX4_digit 34 = .ok (.aload_n 0, 1) := by decide +kernel
theorem dX4_digit_35 : decode cX4_digit 35 = .ok (.getfield 14, 3) := by decide +kernel
theorem dX4_digit_38 : decode cX4_digit 38 = .ok (.aload_n 0, 1) := by decide +kernel
theorem dX4_digit_39 : decode cX4_digit 39 = .ok (.getfield 63, 3) := by decide +kernel
theorem dX4_digit_42 : decode cX4_digit 42 = .ok (.invokevirtual 99, 3) := by decide +kernel
theorem dX4_digit_45 : decode cX4_digit 45 = .ok (.ifCond .ne 39, 3) := by decide +kernel
theorem dX4_digit_48 : decode cX4_digit 48 = .ok (.aload_n 2, 1) := by decide +kernel
theorem dX4_digit_49 : decode cX4_digit 49 = .ok (.iconst 1, 1) := by decide +kernel
theorem dX4_digit_50 : decode cX4_digit 50 = .ok (.aload_n 0, 1) := by decide +kernel
theorem dX4_digit_51 : decode cX4_digit 51 = .ok (.getfield 14, 3) := by decide +kernel
theorem dX4_digit_54 : decode cX4_digit 54 = .ok (.aload_n 0, 1) := by decide +kernel
theorem dX4_digit_55 : decode cX4_digit 55 = .ok (.getfield 63, 3) := by decide +kernel
theorem dX4_digit_58 : decode cX4_digit 58 = .ok (.iconst 1, 1) := by decide +kernel
theorem dX4_digit_59 : decode cX4_digit 59 = .ok (.invokevirtual 88, 3) := by decide +kernel
theorem dX4_digit_62 : decode cX4_digit 62 = .ok (.aload_n 2, 1) := by decide +kernel
theorem dX4_digit_63 : decode cX4_digit 63 = .ok (.iconst 0, 1) := by decide +kernel
theorem dX4_digit_64 : decode cX4_digit 64 = .ok (.iconst 1, 1) := by decide +kernel
theorem dX4_digit_65 : decode cX4_digit 65 = .ok (.invokevirtual 78, 3) := by decide +kernel
theorem dX4_digit_68 : decode cX4_digit 68 = .ok (.ifCond .lt 8, 3) := by decide +kernel
theorem dX4_digit_71 : decode cX4_digit 71 = .ok (.iload 4, 2) := by decide +kernel
theorem dX4_digit_73 : decode cX4_digit 73 = .ok (.goto 4, 3) := by decide +kernel
theorem dX4_digit_76 : decode cX4_digit 76 = .ok (.iload_n 3, 1) := by decide +kernel
theorem dX4_digit_77 : decode cX4_digit 77 = .ok (.istore_n 3, 1) := by decide +kernel
theorem dX4_digit_78 : decode cX4_digit 78 = .ok (.iinc 4 1, 3) := by decide +kernel
theorem dX4_digit_81 : decode cX4_digit 81 = .ok (.goto (-54), 3) := by decide +kernel
theorem dX4_digit_84 : decode cX4_digit 84 = .ok (.iload_n 3, 1) := by decide +kernel
theorem dX4_digit_85 : decode cX4_digit 85 = .ok (.ireturn, 1) := by decide +kernel
theorem dX5_init_0 : decode cX5_init 0 = .ok (.aload_n 0, 1) := by decide +kernel
theorem dX5_init_1 : decode cX5_init 1 = .ok (.invokespecial 3, 3) := by decide +kernel
theorem dX5_init_4 : decode cX5_init 4 = .ok (.aload_n 0, 1) := by decide +kernel
theorem dX5_init_5 : decode cX5_init 5 = .ok (.bipush 12, 2) := by decide +kernel
theorem dX5_init_7 : decode cX5_init 7 = .ok (.sipush 200, 3) := by decide +kernel
theorem dX5_init_10 : decode cX5_init 10 = .ok (.multianewarray 9 2, 4) := by decide +kernel
theorem dX5_init_14 : decode cX5_init 14 = .ok (.putfield 11, 3) := by decide +kernel
theorem dX5_init_17 : decode cX5_init 17 = .ok (.aload_n 0, 1) := by decide +kernel
theorem dX5_init_18 : decode cX5_init 18 = .ok (.new 16, 3) := by decide +kernel
theorem dX5_init_21 : decode cX5_init 21 = .ok (.dup, 1) := by decide +kernel
theorem dX5_init_22 : decode cX5_init 22 = .ok (.invokespecial 18, 3) := by decide +kernel
theorem dX5_init_25 : decode cX5_init 25 = .ok (.putfield 19, 3) := by decide +kernel
theorem dX5_init_28 : decode cX5_init 28 = .ok (.return_, 1) := by decide +kernel
theorem dX5_record_0 : decode cX5_record 0 = .ok (.aload_n 0, 1) := by decide +kernel
theorem dX5_record_1 : decode cX5_record 1 = .ok (.invokevirtual 23, 3) := by decide +kernel
theorem dX5_record_4 : decode cX5_record 4 = .ok (.iconst 0, 1) := by decide +kernel
theorem dX5_record_5 : decode cX5_record 5 = .ok (.istore_n 3, 1) := by decide +kernel
theorem dX5_record_6 : decode cX5_record 6 = .ok (.iload_n 3, 1) := by decide +kernel
theorem dX5_record_7 : decode cX5_record 7 = .ok (.aload_n 1, 1) := by decide +kernel
theorem dX5_record_8 : decode cX5_record 8 = .ok (.getfield 26, 3) := by decide +kernel
theorem dX5_record_11 : decode cX5_record 11 = .ok (.if_icmp .ge 87, 3) := by decide +kernel
theorem dX5_record_14 : decode cX5_record 14 = .ok (.aload_n 2, 1) := by decide +kernel
theorem dX5_record_15 : decode cX5_record 15 = .ok (.getfield 32, 3) := by decide +kernel
theorem dX5_record_18 : decode cX5_record 18 = .ok (.iload_n 3, 1) := by decide +kernel
theorem dX5_record_19 : decode cX5_record 19 = .ok (.baload, 1) := by decide +kernel
theorem dX5_record_20 : decode cX5_record 20 = .ok (.ifCond .eq 72, 3) := by decide +kernel
theorem dX5_record_23 : decode cX5_record 23 = .ok (.aload_n 1, 1) := by decide +kernel
theorem dX5_record_24 : decode cX5_record 24 = .ok (.getfield 38, 3) := by decide +kernel
theorem dX5_record_27 : decode cX5_record 27 = .ok (.iload_n 3, 1) := by decide +kernel
theorem dX5_record_28 : decode cX5_record 28 = .ok (.aaload, 1) := by decide +kernel
theorem dX5_record_29 : decode cX5_record 29 = .ok (.astore 4, 2) := by decide +kernel
theorem dX5_record_31 : decode cX5_record 31 = .ok (.iconst 0, 1) := by decide +kernel
theorem dX5_record_32 : decode cX5_record 32 = .ok (.istore 5, 2) := by decide +kernel
theorem dX5_record_34 : decode cX5_record 34 = .ok (.iload 5, 2) := by decide +kernel
theorem dX5_record_36 : decode cX5_record 36 = .ok (.aload_n 1, 1) := by decide +kernel
theorem dX5_record_37 : decode cX5_record 37 = .ok (.getfield 42, 3) := by decide +kernel
theorem dX5_record_40 : decode cX5_record 40 = .ok (.if_icmp .ge 52, 3) := by decide +kernel
theorem dX5_record_43 : decode cX5_record 43 = .ok (.aload_n 0, 1) := by decide +kernel
theorem dX5_record_44 : decode cX5_record 44 = .ok (.aload_n 1, 1) := by decide +kernel
theorem dX5_record_45 : decode cX5_record 45 = .ok (.aload 4, 2) := by decide +kernel
theorem dX5_record_47 : decode cX5_record 47 = .ok (.aload_n 2, 1) := by decide +kernel
theorem dX5_record_48 : decode cX5_record 48 = .ok (.getfield 45, 3) := by decide +kernel
theorem dX5_record_51 : decode cX5_record 51 = .ok (.iload_n 3, 1) := by decide +kernel
theorem dX5_record_52 : decode cX5_record 52 = .ok (.iaload, 1) := by decide +kernel
theorem dX5_record_53 : decode cX5_record 53 = .ok (.aload_n 2, 1) := by decide +kernel
theorem dX5_record_54 : decode cX5_record 54 = .ok (.getfield 49, 3) := by decide +kernel
theorem dX5_record_57 : decode cX5_record 57 = .ok (.iload_n 3, 1) := by decide +kernel
theorem dX5_record_58 : decode cX5_record 58 = .ok (.iaload, 1) := by decide +kernel
theorem dX5_record_59 : decode cX5_record 59 = .ok (.iload 5, 2) := by decide +kernel
theorem dX5_record_61 : decode cX5_record 61 = .ok (.invokestatic 52, 3) := by decide +kernel
theorem dX5_record_64 : decode cX5_record 64 = .ok (.aload_n 2, 1) := by decide +kernel
theorem dX5_record_65 : decode cX5_record 65 = .ok (.getfield 56, 3) := by decide +kernel
theorem dX5_record_68 : decode cX5_record 68 = .ok (.iload_n 3, 1) := by decide +kernel
theorem dX5_record_69 : decode cX5_record 69 = .ok (.iaload, 1) := by decide +kernel
theorem dX5_record_70 : decode cX5_record 70 = .ok (.aload_n 2, 1) := by decide +kernel
theorem dX5_record_71 : decode cX5_record 71 = .ok (.getfield 59, 3) := by decide +kernel
theorem dX5_record_74 : decode cX5_record 74 = .ok (.iload_n 3, 1) := by decide +kernel
theorem dX5_record_75 : decode cX5_record 75 = .ok (.iaload, 1) := by decide +kernel
theorem dX5_record_76 : decode cX5_record 76 = .ok (.iload 5, 2) := by decide +kernel
theorem dX5_record_78 : decode cX5_record 78 = .ok (.invokestatic 52, 3) := by decide +kernel
theorem dX5_record_81 : decode cX5_record 81 = .ok (.iload 5, 2) := by decide +kernel
theorem dX5_record_83 : decode cX5_record 83 = .ok (.invokevirtual 62, 3) := by decide +kernel
theorem dX5_record_86 : decode cX5_record 86 = .ok (.iinc 5 1, 3) := by decide +kernel
theorem dX5_record_89 : decode cX5_record 89 = .ok (.goto (-55), 3) := by decide +kernel
theorem dX5_record_92 : decode cX5_record 92 = .ok (.iinc 3 1, 3) := by decide +kernel
theorem dX5_record_95 : decode cX5_record 95 = .ok (.goto (-89), 3) := by decide +kernel
theorem dX5_record_98 : decode cX5_record 98 = .ok (.aload_n 0, 1) := by decide +kernel
theorem dX5_record_99 : decode cX5_record 99 = .ok (.aload_n 1, 1) := by decide +kernel
theorem dX5_record_100 : decode cX5_record 100 = .ok (.aload_n 2, 1) := by decide +kernel
theorem dX5_record_101 : decode cX5_record 101 = .ok (.invokevirtual 66, 3) := by decide +kernel
theorem dX5_record_104 : decode cX5_record 104 = .ok (.return_, 1) := by decide +kernel
theorem dX5_recordPoint_0 : decode cX5_recordPoint 0 = .ok (.aload_n 0, 1) := by decide +kernel
theorem dX5_recordPoint_1 : decode cX5_recordPoint 1 = .ok (.invokevirtual 23, 3) := by decide +kernel
theorem dX5_recordPoint_4 : decode cX5_recordPoint 4 = .ok (.aload_n 0, 1) := by decide +kernel
theorem dX5_recordPoint_5 : decode cX5_recordPoint 5 = .ok (.getfield 19, 3) := by decide +kernel
theorem dX5_recordPoint_8 : decode cX5_recordPoint 8 = .ok (.iconst 0, 1) := by decide +kernel
theorem dX5_recordPoint_9 : decode cX5_recordPoint 9 = .ok (.putfield 70, 3) := by decide +kernel
theorem dX5_recordPoint_12 : decode cX5_recordPoint 12 = .ok (.aload_n 0, 1) := by decide +kernel
theorem dX5_recordPoint_13 : decode cX5_recordPoint 13 = .ok (.getfield 19, 3) := by decide +kernel
theorem dX5_recordPoint_16 : decode cX5_recordPoint 16 = .ok (.bipush 100, 2) := by decide +kernel
theorem dX5_recordPoint_18 : decode cX5_recordPoint 18 = .ok (.putfield 73, 3) := by decide +kernel
theorem dX5_recordPoint_21 : decode cX5_recordPoint 21 = .ok (.aload_n 0, 1) := by decide +kernel
theorem dX5_recordPoint_22 : decode cX5_recordPoint 22 = .ok (.getfield 19, 3) := by decide +kernel
theorem dX5_recordPoint_25 : decode cX5_recordPoint 25 = .ok (.iload 4, 2) := by decide +kernel
theorem dX5_recordPoint_27 : decode cX5_recordPoint 27 = .ok (.putfield 76, 3) := by decide +kernel
theorem dX5_recordPoint_30 : decode cX5_recordPoint 30 = .ok (.aload_n 1, 1) := by decide +kernel
theorem dX5_recordPoint_31 : decode cX5_recordPoint 31 = .ok (.getfield 79, 3) := by decide +kernel
theorem dX5_recordPoint_34 : decode cX5_recordPoint 34 = .ok (.iload_n 3, 1) := by decide +kernel
theorem dX5_recordPoint_35 : decode cX5_recordPoint 35 = .ok (.invokevirtual 83, 3) := by decide +kernel
theorem dX5_recordPoint_38 : decode cX5_recordPoint 38 = .ok (.istore 5, 2) := by decide +kernel
theorem dX5_recordPoint_40 : decode cX5_recordPoint 40 = .ok (.aload_n 1, 1) := by decide +kernel
theorem dX5_recordPoint_41 : decode cX5_recordPoint 41 = .ok (.getfield 79, 3) := by decide +kernel
theorem dX5_recordPoint_44 : decode cX5_recordPoint 44 = .ok (.iload_n 3, 1) := by decide +kernel
theorem dX5_recordPoint_45 : decode cX5_recordPoint 45 = .ok (.invokevirtual 89, 3) := by decide +kernel
theorem dX5_recordPoint_48 : decode cX5_recordPoint 48 = .ok (.istore 6, 2) := by decide +kernel
theorem dX5_recordPoint_50 : decode cX5_recordPoint 50 = .ok (.iconst 0, 1) := by decide +kernel
theorem dX5_recordPoint_51 : decode cX5_recordPoint 51 = .ok (.istore 7, 2) := by decide +kernel
theorem dX5_recordPoint_53 : decode cX5_recordPoint 53 = .ok (.iload 7, 2) := by decide +kernel
theorem dX5_recordPoint_55 : decode cX5_recordPoint 55 = .ok (.aload_n 1, 1) := by decide +kernel
theorem dX5_recordPoint_56 : decode cX5_recordPoint 56 = .ok (.getfield 42, 3) := by decide +kernel
theorem dX5_recordPoint_59 : decode cX5_recordPoint 59 = .ok (.if_icmp .ge 24, 3) := by decide +kernel
theorem dX5_recordPoint_62 : decode cX5_recordPoint 62 = .ok (.aload_n 0, 1) := by decide +kernel
theorem dX5_recordPoint_63 : decode cX5_recordPoint 63 = .ok (.aload_n 1, 1) := by decide +kernel
theorem dX5_recordPoint_64 : decode cX5_recordPoint 64 = .ok (.aload_n 0, 1) := by decide +kernel
theorem dX5_recordPoint_65 : decode cX5_recordPoint 65 = .ok (.getfield 19, 3) := by decide +kernel
theorem dX5_recordPoint_68 : decode cX5_recordPoint 68 = .ok (.iload 5, 2) := by decide +kernel
theorem dX5_recordPoint_70 : decode cX5_recordPoint 70 = .ok (.iload 6, 2) := by decide +kernel
theorem dX5_recordPoint_72 : decode cX5_recordPoint 72 = .ok (.iload 7, 2) := by decide +kernel
theorem dX5_recordPoint_74 : decode cX5_recordPoint 74 = .ok (.invokevirtual 62, 3) := by decide +kernel
theorem dX5_recordPoint_77 : decode cX5_recordPoint 77 = .ok (.iinc 7 1, 3) := by decide +kernel
theorem dX5_recordPoint_80 : decode cX5_recordPoint 80 = .ok (.goto (-27), 3) := by decide +kernel
theorem dX5_recordPoint_83 : decode cX5_recordPoint 83 = .ok (.aload_n 0, 1) := by decide +kernel
theorem dX5_recordPoint_84 : decode cX5_recordPoint 84 = .ok (.aload_n 1, 1) := by decide +kernel
theorem dX5_recordPoint_85 : decode cX5_recordPoint 85 = .ok (.aload_n 2, 1) := by decide +kernel
theorem dX5_recordPoint_86 : decode cX5_recordPoint 86 = .ok (.invokevirtual 66, 3) := by decide +kernel
theorem dX5_recordPoint_89 : decode cX5_recordPoint 89 = .ok (.return_, 1) := by decide +kernel
theorem dX5_silence_0 : decode cX5_silence 0 = .ok (.iconst 0, 1) := by decide +kernel
theorem dX5_silence_1 : decode cX5_silence 1 = .ok (.istore_n 1, 1) := by decide +kernel
theorem dX5_silence_2 : decode cX5_silence 2 = .ok (.iload_n 1, 1) := by decide +kernel
theorem dX5_silence_3 : decode cX5_silence 3 = .ok (.bipush 12, 2) := by decide +kernel
theorem dX5_silence_5 : decode cX5_silence 5 = .ok (.if_icmp .ge 19, 3) := by decide +kernel
theorem dX5_silence_8 : decode cX5_silence 8 = .ok (.aload_n 0, 1) := by decide +kernel
theorem dX5_silence_9 : decode cX5_silence 9 = .ok (.getfield 11, 3) := by decide +kernel
theorem dX5_silence_12 : decode cX5_silence 12 = .ok (.iload_n 1, 1) := by decide +kernel
theorem dX5_silence_13 : decode cX5_silence 13 = .ok (.aaload, 1) := by decide +kernel
theorem dX5_silence_14 : decode cX5_silence 14 = .ok (.iconst 0, 1) := by decide +kernel
theorem dX5_silence_15 : decode cX5_silence 15 = .ok (.invokestatic 92, 3) := by decide +kernel
theorem dX5_silence_18 : decode cX5_silence 18 = .ok (.iinc 1 1, 3) := by decide +kernel
theorem dX5_silence_21 : decode cX5_silence 21 = .ok (.goto (-19), 3) := by decide +kernel
theorem dX5_silence_24 : decode cX5_silence 24 = .ok (.return_, 1) := by decide +kernel
theorem dX5_hear_0 : decode cX5_hear 0 = .ok (.iconst 0, 1) := by decide +kernel
theorem dX5_hear_1 : decode cX5_hear 1 = .ok (.istore 6, 2) := by decide +kernel
theorem dX5_hear_3 : decode cX5_hear 3 = .ok (.iload 6, 2) := by decide +kernel
theorem dX5_hear_5 : decode cX5_hear 5 = .ok (.aload_n 1, 1) := by decide +kernel
theorem dX5_hear_6 : decode cX5_hear 6 = .ok (.getfield 98, 3) := by decide +kernel
theorem dX5_hear_9 : decode cX5_hear 9 = .ok (.if_icmp .ge 115, 3) := by decide +kernel
theorem dX5_hear_12 : decode cX5_hear 12 = .ok (.aload_n 1, 1) := by decide +kernel
theorem dX5_hear_13 : decode cX5_hear 13 = .ok (.getfield 101, 3) := by decide +kernel
theorem dX5_hear_16 : decode cX5_hear 16 = .ok (.iload 6, 2) := by decide +kernel
theorem dX5_hear_18 : decode cX5_hear 18 = .ok (.aaload, 1) := by decide +kernel
theorem dX5_hear_19 : decode cX5_hear 19 = .ok (.astore 7, 2) := by decide +kernel
theorem dX5_hear_21 : decode cX5_hear 21 = .ok (.aload_n 1, 1) := by decide +kernel
theorem dX5_hear_22 : decode cX5_hear 22 = .ok (.aload_n 2, 1) := by decide +kernel
theorem dX5_hear_23 : decode cX5_hear 23 = .ok (.aload_n 1, 1) := by decide +kernel
theorem dX5_hear_24 : decode cX5_hear 24 = .ok (.aload 7, 2) := by decide +kernel
theorem dX5_hear_26 : decode cX5_hear 26 = .ok (.iload_n 3, 1) := by decide +kernel
theorem dX5_hear_27 : decode cX5_hear 27 = .ok (.iload 4, 2) := by decide +kernel
theorem dX5_hear_29 : decode cX5_hear 29 = .ok (.invokevirtual 105, 3) := by decide +kernel
theorem dX5_hear_32 : decode cX5_hear 32 = .ok (.iload 5, 2) := by decide +kernel
theorem dX5_hear_34 : decode cX5_hear 34 = .ok (.invokestatic 109, 3) := by decide +kernel
theorem dX5_hear_37 : decode cX5_hear 37 = .ok (.istore 8, 2) := by decide +kernel
theorem dX5_hear_39 : decode cX5_hear 39 = .ok (.iconst 0, 1) := by decide +kernel
theorem dX5_hear_40 : decode cX5_hear 40 = .ok (.istore 9, 2) := by decide +kernel
theorem dX5_hear_42 : decode cX5_hear 42 = .ok (.iload 9, 2) := by decide +kernel
theorem dX5_hear_44 : decode cX5_hear 44 = .ok (.aload_n 1, 1) := by decide +kernel
theorem dX5_hear_45 : decode cX5_hear 45 = .ok (.getfield 113, 3) := by decide +kernel
theorem dX5_hear_48 : decode cX5_hear 48 = .ok (.if_icmp .ge 55, 3) := by decide +kernel
theorem dX5_hear_51 : decode cX5_hear 51 = .ok (.aload_n 1, 1) := by decide +kernel
theorem dX5_hear_52 : decode cX5_hear 52 = .ok (.aload 7, 2) := by decide +kernel
theorem dX5_hear_54 : decode cX5_hear 54 = .ok (.iconst 2, 1) := by decide +kernel
theorem dX5_hear_55 : decode cX5_hear 55 = .ok (.aload_n 1, 1) := by decide +kernel
theorem dX5_hear_56 : decode cX5_hear 56 = .ok (.getfield 116, 3) := by decide +kernel
theorem dX5_hear_59 : decode cX5_hear 59 = .ok (.iload 9, 2) := by decide +kernel
theorem dX5_hear_61 : decode cX5_hear 61 = .ok (.iaload, 1) := by decide +kernel
theorem dX5_hear_62 : decode cX5_hear 62 = .ok (.imul, 1) := by decide +kernel
theorem dX5_hear_63 : decode cX5_hear 63 = .ok (.iload_n 3, 1) := by decide +kernel
theorem dX5_hear_64 : decode cX5_hear 64 = .ok (.isub, 1) := by decide +kernel
theorem dX5_hear_65 : decode cX5_hear 65 = .ok (.iload 4, 2) := by decide +kernel
theorem dX5_hear_67 : decode cX5_hear 67 = .ok (.invokevirtual 105, 3) := by decide +kernel
theorem dX5_hear_70 : decode cX5_hear 70 = .ok (.istore 10, 2) := by decide +kernel
theorem dX5_hear_72 : decode cX5_hear 72 = .ok (.iload 8, 2) := by decide +kernel
theorem dX5_hear_74 : decode cX5_hear 74 = .ok (.aload_n 1, 1) := by decide +kernel
theorem dX5_hear_75 : decode cX5_hear 75 = .ok (.aload_n 2, 1) := by decide +kernel
theorem dX5_hear_76 : decode cX5_hear 76 = .ok (.iload 10, 2) := by decide +kernel
theorem dX5_hear_78 : decode cX5_hear 78 = .ok (.iload 5, 2) := by decide +kernel
theorem dX5_hear_80 : decode cX5_hear 80 = .ok (.invokestatic 109, 3) := by decide +kernel
theorem dX5_hear_83 : decode cX5_hear 83 = .ok (.aload_n 1, 1) := by decide +kernel
theorem dX5_hear_84 : decode cX5_hear 84 = .ok (.getfield 119, 3) := by decide +kernel
theorem dX5_hear_87 : decode cX5_hear 87 = .ok (.iload 9, 2) := by decide +kernel
theorem dX5_hear_89 : decode cX5_hear 89 = .ok (.iaload, 1) := by decide +kernel
theorem dX5_hear_90 : decode cX5_hear 90 = .ok (.imul, 1) := by decide +kernel
theorem dX5_hear_91 : decode cX5_hear 91 = .ok (.bipush 100, 2) := by decide +kernel
theorem dX5_hear_93 : decode cX5_hear 93 = .ok (.idiv, 1) := by decide +kernel
theorem dX5_hear_94 : decode cX5_hear 94 = .ok (.iadd, 1) := by decide +kernel
theorem dX5_hear_95 : decode cX5_hear 95 = .ok (.istore 8, 2) := by decide +kernel
theorem dX5_hear_97 : decode cX5_hear 97 = .ok (.iinc 9 1, 3) := by decide +kernel
theorem dX5_hear_100 : decode cX5_hear 100 = .ok (.goto (-58), 3) := by decide +kernel
theorem dX5_hear_103 : decode cX5_hear 103 = .ok (.aload_n 0, 1) := by decide +kernel
theorem dX5_hear_104 : decode cX5_hear 104 = .ok (.getfield 11, 3) := by decide +kernel
theorem dX5_hear_107 : decode cX5_hear 107 = .ok (.iload 6, 2) := by decide +kernel
theorem dX5_hear_109 : decode cX5_hear 109 = .ok (.aaload, 1) := by decide +kernel
theorem dX5_hear_110 : decode cX5_hear 110 = .ok (.iload 5, 2) := by decide +kernel
theorem dX5_hear_112 : decode cX5_hear 112 = .ok (.dup2, 1) := by decide +kernel
theorem dX5_hear_113 : decode cX5_hear 113 = .ok (.iaload, 1) := by decide +kernel
theorem dX5_hear_114 : decode cX5_hear 114 = .ok (.iload 8, 2) := by decide +kernel
theorem dX5_hear_116 : decode cX5_hear 116 = .ok (.iadd, 1) := by decide +kernel
theorem dX5_hear_117 : decode cX5_hear 117 = .ok (.iastore, 1) := by decide +kernel
theorem dX5_hear_118 : decode cX5_hear 118 = .ok (.iinc 6 1, 3) := by decide +kernel
theorem dX5_hear_121 : decode cX5_hear 121 = .ok (.goto (-118), 3) := by decide +kernel
theorem dX5_hear_124 : decode cX5_hear 124 = .ok (.return_, 1) := by decide +kernel
theorem dX5_arriving_0 : decode cX5_arriving 0 = .ok (.iload_n 3, 1) := by decide +kernel
theorem dX5_arriving_1 : decode cX5_arriving 1 = .ok (.iload_n 2, 1) := by decide +kernel
theorem dX5_arriving_2 : decode cX5_arriving 2 = .ok (.if_icmp .ge 5, 3) := by decide +kernel
theorem dX5_arriving_5 : decode cX5_arriving 5 = .ok (.iconst 0, 1) := by decide +kernel
theorem dX5_arriving_6 : decode cX5_arriving 6 = .ok (.ireturn, 1) := by decide +kernel
theorem dX5_arriving_7 : decode cX5_arriving 7 = .ok (.aload_n 1, 1) := by decide +kernel
theorem dX5_arriving_8 : decode cX5_arriving 8 = .ok (.iload_n 3, 1) := by decide +kernel
theorem dX5_arriving_9 : decode cX5_arriving 9 = .ok (.iload_n 2, 1) := by decide +kernel
theorem dX5_arriving_10 : decode cX5_arriving 10 = .ok (.isub, 1) := by decide +kernel
theorem dX5_arriving_11 : decode cX5_arriving 11 = .ok (.invokevirtual 122, 3) := by decide +kernel
theorem dX5_arriving_14 : decode cX5_arriving 14 = .ok (.istore 4, 2) := by decide +kernel
theorem dX5_arriving_16 : decode cX5_arriving 16 = .ok (.aload_n 0, 1) := by decide +kernel
theorem dX5_arriving_17 : decode cX5_arriving 17 = .ok (.getfield 125, 3) := by decide +kernel
theorem dX5_arriving_20 : decode cX5_arriving 20 = .ok (.ifCond .le 25, 3) := by decide +kernel
theorem dX5_arriving_23 : decode cX5_arriving 23 = .ok (.iload 4, 2) := by decide +kernel
theorem dX5_arriving_25 : decode cX5_arriving 25 = .ok (.aload_n 0, 1) := by decide +kernel
theorem dX5_arriving_26 : decode cX5_arriving 26 = .ok (.getfield 125, 3) := by decide +kernel
theorem dX5_arriving_29 : decode cX5_arriving 29 = .ok (.imul, 1) := by decide +kernel
theorem dX5_arriving_30 : decode cX5_arriving 30 = .ok (.i2l, 1) := by decide +kernel
theorem dX5_arriving_31 : decode cX5_arriving 31 = .ok (.aload_n 0, 1) := by decide +kernel
theorem dX5_arriving_32 : decode cX5_arriving 32 = .ok (.getfield 125, 3) := by decide +kernel
theorem dX5_arriving_35 : decode cX5_arriving 35 = .ok (.iload_n 2, 1) := by decide +kernel
theorem dX5_arriving_36 : decode cX5_arriving 36 = .ok (.iadd, 1) := by decide +kernel
theorem dX5_arriving_37 : decode cX5_arriving 37 = .ok (.i2l, 1) := by decide +kernel
theorem dX5_arriving_38 : decode cX5_arriving 38 = .ok (.invokestatic 128, 3) := by decide +kernel
theorem dX5_arriving_41 : decode cX5_arriving 41 = .ok (.l2i, 1) := by decide +kernel
theorem dX5_arriving_42 : decode cX5_arriving 42 = .ok (.goto 5, 3) := by decide +kernel
theorem dX5_arriving_45 : decode cX5_arriving 45 = .ok (.iload 4, 2) := by decide +kernel
theorem dX5_arriving_47 : decode cX5_arriving 47 = .ok (.ireturn, 1) := by decide +kernel
theorem dX5_finish_0 : decode cX5_finish 0 = .ok (.aload_n 2, 1) := by decide +kernel
theorem dX5_finish_1 : decode cX5_finish 1 = .ok (.getfield 132, 3) := by decide +kernel
theorem dX5_finish_4 : decode cX5_finish 4 = .ok (.invokevirtual 135, 3) := by decide +kernel
theorem dX5_finish_7 : decode cX5_finish 7 = .ok (.iconst 0, 1) := by decide +kernel
theorem dX5_finish_8 : decode cX5_finish 8 = .ok (.istore_n 3, 1) := by decide +kernel
theorem dX5_finish_9 : decode cX5_finish 9 = .ok (.iload_n 3, 1) := by decide +kernel
theorem dX5_finish_10 : decode cX5_finish 10 = .ok (.aload_n 1, 1) := by decide +kernel
theorem dX5_finish_11 : decode cX5_finish 11 = .ok (.getfield 98, 3) := by decide +kernel
theorem dX5_finish_14 : decode cX5_finish 14 = .ok (.if_icmp .ge 85, 3) := by decide +kernel
theorem dX5_finish_17 : decode cX5_finish 17 = .ok (.iconst 0, 1) := by decide +kernel
theorem dX5_finish_18 : decode cX5_finish 18 = .ok (.istore 4, 2) := by decide +kernel
theorem dX5_finish_20 : decode cX5_finish 20 = .ok (.iload 4, 2) := by decide +kernel
theorem dX5_finish_22 : decode cX5_finish 22 = .ok (.aload_n 1, 1) := by decide +kernel
theorem dX5_finish_23 : decode cX5_finish 23 = .ok (.getfield 42, 3) := by decide +kernel
theorem dX5_finish_26 : decode cX5_finish 26 = .ok (.if_icmp .ge 67, 3) := by decide +kernel
theorem dX5_finish_29 : decode cX5_finish 29 = .ok (.aload_n 1, 1) := by decide +kernel
theorem dX5_finish_30 : decode cX5_finish 30 = .ok (.getfield 140, 3) := by decide +kernel
theorem dX5_finish_33 : decode cX5_finish 33 = .ok (.ifCond .le 14, 3) := by decide +kernel
theorem dX5_finish_36 : decode cX5_finish 36 = .ok (.aload_n 0, 1) := by decide +kernel
theorem dX5_finish_37 : decode cX5_finish 37 = .ok (.aload_n 1, 1) := by decide +kernel
theorem dX5_finish_38 : decode cX5_finish 38 = .ok (.iload_n 3, 1) := by decide +kernel
theorem dX5_finish_39 : decode cX5_finish 39 = .ok (.iload 4, 2) := by decide +kernel
theorem dX5_finish_41 : decode cX5_finish 41 = .ok (.invokevirtual 143, 3) := by decide +kernel
theorem dX5_finish_44 : decode cX5_finish 44 = .ok (.goto 11, 3) := by decide +kernel
theorem dX5_finish_47 : decode cX5_finish 47 = .ok (.aload_n 0, 1) := by decide +kernel
theorem dX5_finish_48 : decode cX5_finish 48 = .ok (.aload_n 1, 1) := by decide +kernel
theorem dX5_finish_49 : decode cX5_finish 49 = .ok (.iload_n 3, 1) := by decide +kernel
theorem dX5_finish_50 : decode cX5_finish 50 = .ok (.iload 4, 2) := by decide +kernel
theorem dX5_finish_52 : decode cX5_finish 52 = .ok (.invokevirtual 147, 3) := by decide +kernel
theorem dX5_finish_55 : decode cX5_finish 55 = .ok (.istore 5, 2) := by decide +kernel
theorem dX5_finish_57 : decode cX5_finish 57 = .ok (.aload_n 2, 1) := by decide +kernel
theorem dX5_finish_58 : decode cX5_finish 58 = .ok (.getfield 132, 3) := by decide +kernel
theorem dX5_finish_61 : decode cX5_finish 61 = .ok (.iload_n 3, 1) := by decide +kernel
theorem dX5_finish_62 : decode cX5_finish 62 = .ok (.iload 4, 2) := by decide +kernel
theorem dX5_finish_64 : decode cX5_finish 64 = .ok (.invokestatic 150, 3) := by decide +kernel
theorem dX5_finish_67 : decode cX5_finish 67 = .ok (.aload_n 1, 1) := by decide +kernel
theorem dX5_finish_68 : decode cX5_finish 68 = .ok (.getfield 154, 3) := by decide +kernel
theorem dX5_finish_71 : decode cX5_finish 71 = .ok (.ineg, 1) := by decide +kernel
theorem dX5_finish_72 : decode cX5_finish 72 = .ok (.aload_n 1, 1) := by decide +kernel
theorem dX5_finish_73 : decode cX5_finish 73 = .ok (.getfield 154, 3) := by decide +kernel
theorem dX5_finish_76 : decode cX5_finish 76 = .ok (.iload 5, 2) := by decide +kernel
theorem dX5_finish_78 : decode cX5_finish 78 = .ok (.invokestatic 157, 3) := by decide +kernel
theorem dX5_finish_81 : decode cX5_finish 81 = .ok (.invokestatic 162, 3) := by decide +kernel
theorem dX5_finish_84 : decode cX5_finish 84 = .ok (.invokevirtual 165, 3) := by decide +kernel
theorem dX5_finish_87 : decode cX5_finish 87 = .ok (.iinc 4 1, 3) := by decide +kernel
theorem dX5_finish_90 : decode cX5_finish 90 = .ok (.goto (-70), 3) := by decide +kernel
theorem dX5_finish_93 : decode cX5_finish 93 = .ok (.iinc 3 1, 3) := by decide +kernel
theorem dX5_finish_96 : decode cX5_finish 96 = .ok (.goto (-87), 3) := by decide +kernel
theorem dX5_finish_99 : decode cX5_finish 99 = .ok (.aload_n 2, 1) := by decide +kernel
theorem dX5_finish_100 : decode cX5_finish 100 = .ok (.iconst 0, 1) := by decide +kernel
theorem dX5_finish_101 : decode cX5_finish 101 = .ok (.putfield 169, 3) := by decide +kernel
theorem dX5_finish_104 : decode cX5_finish 104 = .ok (.return_, 1) := by decide +kernel
theorem dX5_filtered_0 : decode cX5_filtered 0 = .ok (.iconst 0, 1) := by decide +kernel
theorem dX5_filtered_1 : decode cX5_filtered 1 = .ok (.istore 4, 2) := by decide +kernel
theorem dX5_filtered_3 : decode cX5_filtered 3 = .ok (.iconst 0, 1) := by decide +kernel
theorem dX5_filtered_4 : decode cX5_filtered 4 = .ok (.istore 5, 2) := by decide +kernel
theorem dX5_filtered_6 : decode cX5_filtered 6 = .ok (.iload 5, 2) := by decide +kernel
theorem dX5_filtered_8 : decode cX5_filtered 8 = .ok (.aload_n 1, 1) := by decide +kernel
theorem dX5_filtered_9 : decode cX5_filtered 9 = .ok (.getfield 140, 3) := by decide +kernel
theorem dX5_filtered_12 : decode cX5_filtered 12 = .ok (.if_icmp .ge 32, 3) := by decide +kernel
theorem dX5_filtered_15 : decode cX5_filtered 15 = .ok (.iload 4, 2) := by decide +kernel
theorem dX5_filtered_17 : decode cX5_filtered 17 = .ok (.aload_n 1, 1) := by decide +kernel
theorem dX5_filtered_18 : decode cX5_filtered 18 = .ok (.getfield 172, 3) := by decide +kernel
theorem dX5_filtered_21 : decode cX5_filtered 21 = .ok (.iload 5, 2) := by decide +kernel
theorem dX5_filtered_23 : decode cX5_filtered 23 = .ok (.iaload, 1) := by decide +kernel
theorem dX5_filtered_24 : decode cX5_filtered 24 = .ok (.aload_n 0, 1) := by decide +kernel
theorem dX5_filtered_25 : decode cX5_filtered 25 = .ok (.aload_n 1, 1) := by decide +kernel
theorem dX5_filtered_26 : decode cX5_filtered 26 = .ok (.iload_n 2, 1) := by decide +kernel
theorem dX5_filtered_27 : decode cX5_filtered 27 = .ok (.iload_n 3, 1) := by decide +kernel
theorem dX5_filtered_28 : decode cX5_filtered 28 = .ok (.iload 5, 2) := by decide +kernel
theorem dX5_filtered_30 : decode cX5_filtered 30 = .ok (.isub, 1) := by decide +kernel
theorem dX5_filtered_31 : decode cX5_filtered 31 = .ok (.invokevirtual 147, 3) := by decide +kernel
theorem dX5_filtered_34 : decode cX5_filtered 34 = .ok (.imul, 1) := by decide +kernel
theorem dX5_filtered_35 : decode cX5_filtered 35 = .ok (.iadd, 1) := by decide +kernel
theorem dX5_filtered_36 : decode cX5_filtered 36 = .ok (.istore 4, 2) := by decide +kernel
theorem dX5_filtered_38 : decode cX5_filtered 38 = .ok (.iinc 5 1, 3) := by decide +kernel
theorem dX5_filtered_41 : decode cX5_filtered 41 = .ok (.goto (-35), 3) := by decide +kernel
theorem dX5_filtered_44 : decode cX5_filtered 44 = .ok (.iload 4, 2) := by decide +kernel
theorem dX5_filtered_46 : decode cX5_filtered 46 = .ok (.ireturn, 1) := by decide +kernel
theorem dX5_raw_0 : decode cX5_raw 0 = .ok (.iload_n 3, 1) := by decide +kernel
theorem dX5_raw_1 : decode cX5_raw 1 = .ok (.aload_n 1, 1) := by decide +kernel
theorem dX5_raw_2 : decode cX5_raw 2 = .ok (.getfield 101, 3) := by decide +kernel
theorem dX5_raw_5 : decode cX5_raw 5 = .ok (.iload_n 2, 1) := by decide +kernel
theorem dX5_raw_6 : decode cX5_raw 6 = .ok (.aaload, 1) := by decide +kernel
theorem dX5_raw_7 : decode cX5_raw 7 = .ok (.getfield 175, 3) := by decide +kernel
theorem dX5_raw_10 : decode cX5_raw 10 = .ok (.isub, 1) := by decide +kernel
theorem dX5_raw_11 : decode cX5_raw 11 = .ok (.istore 4, 2) := by decide +kernel
theorem dX5_raw_13 : decode cX5_raw 13 = .ok (.iload 4, 2) := by decide +kernel
theorem dX5_raw_15 : decode cX5_raw 15 = .ok (.ifCond .lt 33, 3) := by decide +kernel
theorem dX5_raw_18 : decode cX5_raw 18 = .ok (.iload 4, 2) := by decide +kernel
theorem dX5_raw_20 : decode cX5_raw 20 = .ok (.sipush 200, 3) := by decide +kernel
theorem dX5_raw_23 : decode cX5_raw 23 = .ok (.if_icmp .ge 25, 3) := by decide +kernel
theorem dX5_raw_26 : decode cX5_raw 26 = .ok (.aload_n 1, 1) := by decide +kernel
theorem dX5_raw_27 : decode cX5_raw 27 = .ok (.getfield 101, 3) := by decide +kernel
theorem dX5_raw_30 : decode cX5_raw 30 = .ok (.iload_n 2, 1) := by decide +kernel
theorem dX5_raw_31 : decode cX5_raw 31 = .ok (.aaload, 1) := by decide +kernel
theorem dX5_raw_32 : decode cX5_raw 32 = .ok (.getfield 180, 3) := by decide +kernel
theorem dX5_raw_35 : decode cX5_raw 35 = .ok (.aload_n 0, 1) := by decide +kernel
theorem dX5_raw_36 : decode cX5_raw 36 = .ok (.getfield 11, 3) := by decide +kernel
theorem dX5_raw_39 : decode cX5_raw 39 = .ok (.iload_n 2, 1) := by decide +kernel
theorem dX5_raw_40 : decode cX5_raw 40 = .ok (.aaload, 1) := by decide +kernel
theorem dX5_raw_41 : decode cX5_raw 41 = .ok (.iload 4, 2) := by decide +kernel
theorem dX5_raw_43 : decode cX5_raw 43 = .ok (.iaload, 1) := by decide +kernel
theorem dX5_raw_44 : decode cX5_raw 44 = .ok (.imul, 1) := by decide +kernel
theorem dX5_raw_45 : decode cX5_raw 45 = .ok (.goto 4, 3) := by decide +kernel
theorem dX5_raw_48 : decode cX5_raw 48 = .ok (.iconst 0, 1) := by decide +kernel
theorem dX5_raw_49 : decode cX5_raw 49 = .ok (.ireturn, 1) := by decide +kernel
theorem dX6_init_0 : decode cX6_init 0 = .ok (.aload_n 0, 1) := by decide +kernel
theorem dX6_init_1 : decode cX6_init 1 = .ok (.invokespecial 3, 3) := by decide +kernel
theorem dX6_init_4 : decode cX6_init 4 = .ok (.aload_n 0, 1) := by decide +kernel
theorem dX6_init_5 : decode cX6_init 5 = .ok (.bipush 12, 2) := by decide +kernel
theorem dX6_init_7 : decode cX6_init 7 = .ok (.anewarray 9, 3) := by decide +kernel
theorem dX6_init_10 : decode cX6_init 10 = .ok (.putfield 11, 3) := by decide +kernel
theorem dX6_init_13 : decode cX6_init 13 = .ok (.aload_n 0, 1) := by decide +kernel
theorem dX6_init_14 : decode cX6_init 14 = .ok (.new 17, 3) := by decide +kernel
theorem dX6_init_17 : decode cX6_init 17 = .ok (.dup, 1) := by decide +kernel
theorem dX6_init_18 : decode cX6_init 18 = .ok (.invokespecial 19, 3) := by decide +kernel
theorem dX6_init_21 : decode cX6_init 21 = .ok (.putfield 20, 3) := by decide +kernel
theorem dX6_init_24 : decode cX6_init 24 = .ok (.aload_n 0, 1) := by decide +kernel
theorem dX6_init_25 : decode cX6_init 25 = .ok (.bipush 6, 2) := by decide +kernel
theorem dX6_init_27 : decode cX6_init 27 = .ok (.anewarray 24, 3) := by decide +kernel
theorem dX6_init_30 : decode cX6_init 30 = .ok (.putfield 26, 3) := by decide +kernel
theorem dX6_init_33 : decode cX6_init 33 = .ok (.aload_n 0, 1) := by decide +kernel
theorem dX6_init_34 : decode cX6_init 34 = .ok (.iconst 2, 1) := by decide +kernel
theorem dX6_init_35 : decode cX6_init 35 = .ok (.newarray .int, 2) := by decide +kernel
theorem dX6_init_37 : decode cX6_init 37 = .ok (.putfield 30, 3) := by decide +kernel
theorem dX6_init_40 : decode cX6_init 40 = .ok (.aload_n 0, 1) := by decide +kernel
theorem dX6_init_41 : decode cX6_init 41 = .ok (.iconst 2, 1) := by decide +kernel
theorem dX6_init_42 : decode cX6_init 42 = .ok (.newarray .int, 2) := by decide +kernel
theorem dX6_init_44 : decode cX6_init 44 = .ok (.putfield 34, 3) := by decide +kernel
theorem dX6_init_47 : decode cX6_init 47 = .ok (.aload_n 0, 1) := by decide +kernel
theorem dX6_init_48 : decode cX6_init 48 = .ok (.iconst 5, 1) := by decide +kernel
theorem dX6_init_49 : decode cX6_init 49 = .ok (.newarray .int, 2) := by decide +kernel
theorem dX6_init_51 : decode cX6_init 51 = .ok (.putfield 37, 3) := by decide +kernel
theorem dX6_init_54 : decode cX6_init 54 = .ok (.aload_n 0, 1) := by decide +kernel
theorem dX6_init_55 : decode cX6_init 55 = .ok (.bipush 12, 2) := by decide +kernel
theorem dX6_init_57 : decode cX6_init 57 = .ok (.newarray .int, 2) := by decide +kernel
theorem dX6_init_59 : decode cX6_init 59 = .ok (.putfield 40, 3) := by decide +kernel
theorem dX6_init_62 : decode cX6_init 62 = .ok (.aload_n 0, 1) := by decide +kernel
theorem dX6_init_63 : decode cX6_init 63 = .ok (.sipush 144, 3) := by decide +kernel
theorem dX6_init_66 : decode cX6_init 66 = .ok (.bipush 12, 2) := by decide +kernel
theorem dX6_init_68 : decode cX6_init 68 = .ok (.multianewarray 43 2, 4) := by decide +kernel
theorem dX6_init_72 : decode cX6_init 72 = .ok (.putfield 45, 3) := by decide +kernel
theorem dX6_init_75 : decode cX6_init 75 = .ok (.iconst 0, 1) := by decide +kernel
theorem dX6_init_76 : decode cX6_init 76 = .ok (.istore_n 1, 1) := by decide +kernel
theorem dX6_init_77 : decode cX6_init 77 = .ok (.iload_n 1, 1) := by decide +kernel
theorem dX6_init_78 : decode cX6_init 78 = .ok (.bipush 12, 2) := by decide +kernel
theorem dX6_init_80 : decode cX6_init 80 = .ok (.if_icmp .ge 22, 3) := by decide +kernel
theorem dX6_init_83 : decode cX6_init 83 = .ok (.aload_n 0, 1) := by decide +kernel
theorem dX6_init_84 : decode cX6_init 84 = .ok (.getfield 11, 3) := by decide +kernel
theorem dX6_init_87 : decode cX6_init 87 = .ok (.iload_n 1, 1) := by decide +kernel
theorem dX6_init_88 : decode cX6_init 88 = .ok (.new 9, 3) := by decide +kernel
theorem dX6_init_91 : decode cX6_init 91 = .ok (.dup, 1) := by decide +kernel
theorem dX6_init_92 : decode cX6_init 92 = .ok (.invokespecial 48, 3) := by decide +kernel
theorem dX6_init_95 : decode cX6_init 95 = .ok (.aastore, 1) := by decide +kernel
theorem dX6_init_96 : decode cX6_init 96 = .ok (.iinc 1 1, 3) := by decide +kernel
theorem dX6_init_99 : decode cX6_init 99 = .ok (.goto (-22), 3) := by decide +kernel
theorem dX6_init_102 : decode cX6_init 102 = .ok (.iconst 0, 1) := by decide +kernel
theorem dX6_init_103 : decode cX6_init 103 = .ok (.istore_n 1, 1) := by decide +kernel
theorem dX6_init_104 : decode cX6_init 104 = .ok (.iload_n 1, 1) := by decide +kernel
theorem dX6_init_105 : decode cX6_init 105 = .ok (.bipush 6, 2) := by decide +kernel
theorem dX6_init_107 : decode cX6_init 107 = .ok (.if_icmp .ge 22, 3) := by decide +kernel
theorem dX6_init_110 : decode cX6_init 110 = .ok (.aload_n 0, 1) := by decide +kernel
theorem dX6_init_111 : decode cX6_init 111 = .ok (.getfield 26, 3) := by decide +kernel
theorem dX6_init_114 : decode cX6_init 114 = .ok (.iload_n 1, 1) := by decide +kernel
theorem dX6_init_115 : decode cX6_init 115 = .ok (.new 24, 3) := by decide +kernel
theorem dX6_init_118 : decode cX6_init 118 = .ok (.dup, 1) := by decide +kernel
theorem dX6_init_119 : decode cX6_init 119 = .ok (.invokespecial 49, 3) := by decide +kernel
theorem dX6_init_122 : decode cX6_init 122 = .ok (.aastore, 1) := by decide +kernel
theorem dX6_init_123 : decode cX6_init 123 = .ok (.iinc 1 1, 3) := by decide +kernel
theorem dX6_init_126 : decode cX6_init 126 = .ok (.goto (-22), 3) := by decide +kernel
theorem dX6_init_129 : decode cX6_init 129 = .ok (.return_, 1) := by decide +kernel
theorem dX6_clear_0 : decode cX6_clear 0 = .ok (.aload_n 0, 1) := by decide +kernel
theorem dX6_clear_1 : decode cX6_clear 1 = .ok (.getfield 20, 3) := by decide +kernel
theorem dX6_clear_4 : decode cX6_clear 4 = .ok (.invokevirtual 50, 3) := by decide +kernel
theorem dX6_clear_7 : decode cX6_clear 7 = .ok (.aload_n 0, 1) := by decide +kernel
theorem dX6_clear_8 : decode cX6_clear 8 = .ok (.iconst 0, 1) := by decide +kernel
theorem dX6_clear_9 : decode cX6_clear 9 = .ok (.putfield 53, 3) := by decide +kernel
theorem dX6_clear_12 : decode cX6_clear 12 = .ok (.aload_n 0, 1) := by decide +kernel
theorem dX6_clear_13 : decode cX6_clear 13 = .ok (.iconst 0, 1) := by decide +kernel
theorem dX6_clear_14 : decode cX6_clear 14 = .ok (.putfield 57, 3) := by decide +kernel
theorem dX6_clear_17 : decode cX6_clear 17 = .ok (.aload_n 0, 1) := by decide +kernel
theorem dX6_clear_18 : decode cX6_clear 18 = .ok (.iconst 0, 1) := by decide +kernel
theorem dX6_clear_19 : decode cX6_clear 19 = .ok (.putfield 60, 3) := by decide +kernel
theorem dX6_clear_22 : decode cX6_clear 22 = .ok (.aload_n 0, 1) := by decide +kernel
theorem dX6_clear_23 : decode cX6_clear 23 = .ok (.iconst 0, 1) := by decide +kernel
theorem dX6_clear_24 : decode cX6_clear 24 = .ok (.putfield 63, 3) := by decide +kernel
theorem dX6_clear_27 : decode cX6_clear 27 = .ok (.aload_n 0, 1) := by decide +kernel
theorem dX6_clear_28 : decode cX6_clear 28 = .ok (.iconst 0, 1) := by decide +kernel
theorem dX6_clear_29 : decode cX6_clear 29 = .ok (.putfield 66, 3) := by decide +kernel
theorem dX6_clear_32 : decode cX6_clear 32 = .ok (.aload_n 0, 1) := by decide +kernel
theorem dX6_clear_33 : decode cX6_clear 33 = .ok (.iconst 0, 1) := by decide +kernel
theorem dX6_clear_34 : decode cX6_clear 34 = .ok (.putfield 69, 3) := by decide +kernel
theorem dX6_clear_37 : decode cX6_clear 37 = .ok (.return_, 1) := by decide +kernel
theorem dX6_addTap_0 : decode cX6_addTap 0 = .ok (.aload_n 0, 1) := by decide +kernel
theorem dX6_addTap_1 : decode cX6_addTap 1 = .ok (.getfield 66, 3) := by decide +kernel
theorem dX6_addTap_4 : decode cX6_addTap 4 = .ok (.iconst 5, 1) := by decide +kernel
theorem dX6_addTap_5 : decode cX6_addTap 5 = .ok (.if_icmp .ge 23, 3) := by decide +kernel
theorem dX6_addTap_8 : decode cX6_addTap 8 = .ok (.aload_n 0, 1) := by decide +kernel
theorem dX6_addTap_9 : decode cX6_addTap 9 = .ok (.getfield 37, 3) := by decide +kernel
theorem dX6_addTap_12 : decode cX6_addTap 12 = .ok (.aload_n 0, 1) := by decide +kernel
theorem dX6_addTap_13 : decode cX6_addTap 13 = .ok (.getfield 66, 3) := by decide +kernel
theorem dX6_addTap_16 : decode cX6_addTap 16 = .ok (.iload_n 1, 1) := by decide +kernel
theorem dX6_addTap_17 : decode cX6_addTap 17 = .ok (.iastore, 1) := by decide +kernel
theorem dX6_addTap_18 : decode cX6_addTap 18 = .ok (.aload_n 0, 1) := by decide +kernel
theorem dX6_addTap_19 : decode cX6_addTap 19 = .ok (.dup, 1) := by decide +kernel
theorem dX6_addTap_20 : decode cX6_addTap 20 = .ok (.getfield 66, 3) := by decide +kernel
theorem dX6_addTap_23 : decode cX6_addTap 23 = .ok (.iconst 1, 1) := by decide +kernel
theorem dX6_addTap_24 : decode cX6_addTap 24 = .ok (.iadd, 1) := by decide +kernel
theorem dX6_addTap_25 : decode cX6_addTap 25 = .ok (.putfield 66, 3) := by decide +kernel
theorem dX6_addTap_28 : decode cX6_addTap 28 = .ok (.return_, 1) := by decide +kernel
theorem dX6_addShade_0 : decode cX6_addShade 0 = .ok (.aload_n 0, 1) := by decide +kernel
theorem dX6_addShade_1 : decode cX6_addShade 1 = .ok (.getfield 69, 3) := by decide +kernel
theorem dX6_addShade_4 : decode cX6_addShade 4 = .ok (.bipush 12, 2) := by decide +kernel
theorem dX6_addShade_6 : decode cX6_addShade 6 = .ok (.if_icmp .ge 23, 3) := by decide +kernel
theorem dX6_addShade_9 : decode cX6_addShade 9 = .ok (.aload_n 0, 1) := by decide +kernel
theorem dX6_addShade_10 : decode cX6_addShade 10 = .ok (.getfield 40, 3) := by decide +kernel
theorem dX6_addShade_13 : decode cX6_addShade 13 = .ok (.aload_n 0, 1) := by decide +kernel
theorem dX6_addShade_14 : decode cX6_addShade 14 = .ok (.getfield 69, 3) := by decide +kernel
theorem dX6_addShade_17 : decode cX6_addShade 17 = .ok (.iload_n 1, 1) := by decide +kernel
theorem dX6_addShade_18 : decode cX6_addShade 18 = .ok (.iastore, 1) := by decide +kernel
theorem dX6_addShade_19 : decode cX6_addShade 19 = .ok (.aload_n 0, 1) := by decide +kernel
theorem dX6_addShade_20 : decode cX6_addShade 20 = .ok (.dup, 1) := by decide +kernel
theorem dX6_addShade_21 : decode cX6_addShade 21 = .ok (.getfield 69, 3) := by decide +kernel
theorem dX6_addShade_24 : decode cX6_addShade 24 = .ok (.iconst 1, 1) := by decide +kernel
theorem dX6_addShade_25 : decode cX6_addShade 25 = .ok (.iadd, 1) := by decide +kernel
theorem dX6_addShade_26 : decode cX6_addShade 26 = .ok (.putfield 69, 3) := by decide +kernel
theorem dX6_addShade_29 : decode cX6_addShade 29 = .ok (.return_, 1) := by decide +kernel
theorem dX6_delayFrom_0 : decode cX6_delayFrom 0 = .ok (.iload_n 2, 1) := by decide +kernel
theorem dX6_delayFrom_1 : decode cX6_delayFrom 1 = .ok (.aload_n 1, 1) := by decide +kernel
theorem dX6_delayFrom_2 : decode cX6_delayFrom 2 = .ok (.getfield 72, 3) := by decide +kernel
theorem dX6_delayFrom_5 : decode cX6_delayFrom 5 = .ok (.isub, 1) := by decide +kernel
theorem dX6_delayFrom_6 : decode cX6_delayFrom 6 = .ok (.istore 4, 2) := by decide +kernel
theorem dX6_delayFrom_8 : decode cX6_delayFrom 8 = .ok (.iload_n 3, 1) := by decide +kernel
theorem dX6_delayFrom_9 : decode cX6_delayFrom 9 = .ok (.aload_n 1, 1) := by decide +kernel
theorem dX6_delayFrom_10 : decode cX6_delayFrom 10 = .ok (.getfield 75, 3) := by decide +kernel
theorem dX6_delayFrom_13 : decode cX6_delayFrom 13 = .ok (.isub, 1) := by decide +kernel
theorem dX6_delayFrom_14 : decode cX6_delayFrom 14 = .ok (.istore 5, 2) := by decide +kernel
theorem dX6_delayFrom_16 : decode cX6_delayFrom 16 = .ok (.iload 4, 2) := by decide +kernel
theorem dX6_delayFrom_18 : decode cX6_delayFrom 18 = .ok (.iload 4, 2) := by decide +kernel
theorem dX6_delayFrom_20 : decode cX6_delayFrom 20 = .ok (.imul, 1) := by decide +kernel
theorem dX6_delayFrom_21 : decode cX6_delayFrom 21 = .ok (.iload 5, 2) := by decide +kernel
theorem dX6_delayFrom_23 : decode cX6_delayFrom 23 = .ok (.iload 5, 2) := by decide +kernel
theorem dX6_delayFrom_25 : decode cX6_delayFrom 25 = .ok (.imul, 1) := by decide +kernel
theorem dX6_delayFrom_26 : decode cX6_delayFrom 26 = .ok (.iadd, 1) := by decide +kernel
theorem dX6_delayFrom_27 : decode cX6_delayFrom 27 = .ok (.aload_n 0, 1) := by decide +kernel
theorem dX6_delayFrom_28 : decode cX6_delayFrom 28 = .ok (.getfield 78, 3) := by decide +kernel
theorem dX6_delayFrom_31 : decode cX6_delayFrom 31 = .ok (.aload_n 0, 1) := by decide +kernel
theorem dX6_delayFrom_32 : decode cX6_delayFrom 32 = .ok (.getfield 78, 3) := by decide +kernel
theorem dX6_delayFrom_35 : decode cX6_delayFrom 35 = .ok (.imul, 1) := by decide +kernel
theorem dX6_delayFrom_36 : decode cX6_delayFrom 36 = .ok (.iadd, 1) := by decide +kernel
theorem dX6_delayFrom_37 : decode cX6_delayFrom 37 = .ok (.invokestatic 81, 3) := by decide +kernel
theorem dX6_delayFrom_40 : decode cX6_delayFrom 40 = .ok (.istore 6, 2) := by decide +kernel
theorem dX6_delayFrom_42 : decode cX6_delayFrom 42 = .ok (.iload 6, 2) := by decide +kernel
theorem dX6_delayFrom_44 : decode cX6_delayFrom 44 = .ok (.i2l, 1) := by decide +kernel
theorem dX6_delayFrom_45 : decode cX6_delayFrom 45 = .ok (.aload_n 0, 1) := by decide +kernel
theorem dX6_delayFrom_46 : decode cX6_delayFrom 46 = .ok (.getfield 85, 3) := by decide +kernel
theorem dX6_delayFrom_49 : decode cX6_delayFrom 49 = .ok (.i2l, 1) := by decide +kernel
theorem dX6_delayFrom_50 : decode cX6_delayFrom 50 = .ok (.invokestatic 88, 3) := by decide +kernel
theorem dX6_delayFrom_53 : decode cX6_delayFrom 53 = .ok (.aload_n 0, 1) := by decide +kernel
theorem dX6_delayFrom_54 : decode cX6_delayFrom 54 = .ok (.getfield 78, 3) := by decide +kernel
theorem dX6_delayFrom_57 : decode cX6_delayFrom 57 = .ok (.i2l, 1) := by decide +kernel
theorem dX6_delayFrom_58 : decode cX6_delayFrom 58 = .ok (.aload_n 0, 1) := by decide +kernel
theorem dX6_delayFrom_59 : decode cX6_delayFrom 59 = .ok (.getfield 85, 3) := by decide +kernel
theorem dX6_delayFrom_62 : decode cX6_delayFrom 62 = .ok (.i2l, 1) := by decide +kernel
theorem dX6_delayFrom_63 : decode cX6_delayFrom 63 = .ok (.invokestatic 88, 3) := by decide +kernel
theorem dX6_delayFrom_66 : decode cX6_delayFrom 66 = .ok (.lsub, 1) := by decide +kernel
theorem dX6_delayFrom_67 : decode cX6_delayFrom 67 = .ok (.l2i, 1) := by decide +kernel
theorem dX6_delayFrom_68 : decode cX6_delayFrom 68 = .ok (.ireturn, 1) := by decide +kernel
theorem dX6_delaysFrom_0 : decode cX6_delaysFrom 0 = .ok (.iconst 0, 1) := by decide +kernel
theorem dX6_delaysFrom_1 : decode cX6_delaysFrom 1 = .ok (.istore 4, 2) := by decide +kernel
theorem dX6_delaysFrom_3 : decode cX6_delaysFrom 3 = .ok (.iload 4, 2) := by decide +kernel
theorem dX6_delaysFrom_5 : decode cX6_delaysFrom 5 = .ok (.aload_n 0, 1) := by decide +kernel
theorem dX6_delaysFrom_6 : decode cX6_delaysFrom 6 = .ok (.getfield 53, 3) := by decide +kernel
theorem dX6_delaysFrom_9 : decode cX6_delaysFrom 9 = .ok (.if_icmp .ge 26, 3) := by decide +kernel
theorem dX6_delaysFrom_12 : decode cX6_delaysFrom 12 = .ok (.aload_n 3, 1) := by decide +kernel
theorem dX6_delaysFrom_13 : decode cX6_delaysFrom 13 = .ok (.iload 4, 2) := by decide +kernel
theorem dX6_delaysFrom_15 : decode cX6_delaysFrom 15 = .ok (.aload_n 0, 1) := by decide +kernel
theorem dX6_delaysFrom_16 : decode cX6_delaysFrom 16 = .ok (.aload_n 0, 1) := by decide +kernel
theorem dX6_delaysFrom_17 : decode cX6_delaysFrom 17 = .ok (.getfield 11, 3) := by decide +kernel
theorem dX6_delaysFrom_20 : decode cX6_delaysFrom 20 = .ok (.iload 4, 2) := by decide +kernel
theorem dX6_delaysFrom_22 : decode cX6_delaysFrom 22 = .ok (.aaload, 1) := by decide +kernel
theorem dX6_delaysFrom_23 : decode cX6_delaysFrom 23 = .ok (.iload_n 1, 1) := by decide +kernel
theorem dX6_delaysFrom_24 : decode cX6_delaysFrom 24 = .ok (.iload_n 2, 1) := by decide +kernel
theorem dX6_delaysFrom_25 : decode cX6_delaysFrom 25 = .ok (.invokevirtual 92, 3) := by decide +kernel
theorem dX6_delaysFrom_28 : decode cX6_delaysFrom 28 = .ok (.iastore, 1) := by decide +kernel
theorem dX6_delaysFrom_29 : decode cX6_delaysFrom 29 = .ok (.iinc 4 1, 3) := by decide +kernel
theorem dX6_delaysFrom_32 : decode cX6_delaysFrom 32 = .ok (.goto (-29), 3) := by decide +kernel
theorem dX6_delaysFrom_35 : decode cX6_delaysFrom 35 = .ok (.return_, 1) := by decide +kernel
theorem dX6_measureDelays_0 : decode cX6_measureDelays 0 = .ok (.iconst 0, 1) := by decide +kernel
theorem dX6_measureDelays_1 : decode cX6_measureDelays 1 = .ok (.istore_n 1, 1) := by decide +kernel
theorem dX6_measureDelays_2 : decode cX6_measureDelays 2 = .ok (.iload_n 1, 1) := by decide +kernel
theorem dX6_measureDelays_3 : decode cX6_measureDelays 3 = .ok (.aload_n 0, 1) := by decide +kernel
theorem dX6_measureDelays_4 : decode cX6_measureDelays 4 = .ok (.getfield 20, 3) := by decide +kernel
theorem dX6_measureDelays_7 : decode cX6_measureDelays 7 = .ok (.invokevirtual 96, 3) := by decide +kernel
theorem dX6_measureDelays_10 : decode cX6_measureDelays 10 = .ok (.if_icmp .ge 35, 3) := by decide +kernel
theorem dX6_measureDelays_13 : decode cX6_measureDelays 13 = .ok (.aload_n 0, 1) := by decide +kernel
theorem dX6_measureDelays_14 : decode cX6_measureDelays 14 = .ok (.aload_n 0, 1) := by decide +kernel
theorem dX6_measureDelays_15 : decode cX6_measureDelays 15 = .ok (.getfield 20, 3) := by decide +kernel
theorem dX6_measureDelays_18 : decode cX6_measureDelays 18 = .ok (.iload_n 1, 1) := by decide +kernel
theorem dX6_measureDelays_19 : decode cX6_measureDelays 19 = .ok (.invokevirtual 100, 3) := by decide +kernel
theorem dX6_measureDelays_22 : decode cX6_measureDelays 22 = .ok (.aload_n 0, 1) := by decide +kernel
theorem dX6_measureDelays_23 : decode cX6_measureDelays 23 = .ok (.getfield 20, 3) := by decide +kernel
theorem dX6_measureDelays_26 : decode cX6_measureDelays 26 = .ok (.iload_n 1, 1) := by decide +kernel
theorem dX6_measureDelays_27 : decode cX6_measureDelays 27 = .ok (.invokevirtual 103, 3) := by decide +kernel
theorem dX6_measureDelays_30 : decode cX6_measureDelays 30 = .ok (.aload_n 0, 1) := by decide +kernel
theorem dX6_measureDelays_31 : decode cX6_measureDelays 31 = .ok (.getfield 45, 3) := by decide +kernel
theorem dX6_measureDelays_34 : decode cX6_measureDelays 34 = .ok (.iload_n 1, 1) := by decide +kernel
theorem dX6_measureDelays_35 : decode cX6_measureDelays 35 = .ok (.aaload, 1) := by decide +kernel
theorem dX6_measureDelays_36 : decode cX6_measureDelays 36 = .ok (.invokevirtual 106, 3) := by decide +kernel
theorem dX6_measureDelays_39 : decode cX6_measureDelays 39 = .ok (.iinc 1 1, 3) := by decide +kernel
theorem dX6_measureDelays_42 : decode cX6_measureDelays 42 = .ok (.goto (-40), 3) := by decide +kernel
theorem dX6_measureDelays_45 : decode cX6_measureDelays 45 = .ok (.return_, 1) := by decide +kernel
theorem dX7_init_0 : decode cX7_init 0 = .ok (.aload_n 0, 1) := by decide +kernel
theorem dX7_init_1 : decode cX7_init 1 = .ok (.invokespecial 3, 3) := by decide +kernel
theorem dX7_init_4 : decode cX7_init 4 = .ok (.return_, 1) := by decide +kernel
theorem dX7_valueAt_0 : decode cX7_valueAt 0 = .ok (.iload_n 1, 1) := by decide +kernel
theorem dX7_valueAt_1 : decode cX7_valueAt 1 = .ok (.aload_n 0, 1) := by decide +kernel
theorem dX7_valueAt_2 : decode cX7_valueAt 2 = .ok (.getfield 9, 3) := by decide +kernel
theorem dX7_valueAt_5 : decode cX7_valueAt 5 = .ok (.if_icmp .ge 5, 3) := by decide +kernel
theorem dX7_valueAt_8 : decode cX7_valueAt 8 = .ok (.iconst 0, 1) := by decide +kernel
theorem dX7_valueAt_9 : decode cX7_valueAt 9 = .ok (.ireturn, 1) := by decide +kernel
theorem dX7_valueAt_10 : decode cX7_valueAt 10 = .ok (.iload_n 1, 1) := by decide +kernel
theorem dX7_valueAt_11 : decode cX7_valueAt 11 = .ok (.aload_n 0, 1) := by decide +kernel
theorem dX7_valueAt_12 : decode cX7_valueAt 12 = .ok (.getfield 15, 3) := by decide +kernel
theorem dX7_valueAt_15 : decode cX7_valueAt 15 = .ok (.iadd, 1) := by decide +kernel
theorem dX7_valueAt_16 : decode cX7_valueAt 16 = .ok (.aload_n 0, 1) := by decide +kernel
theorem dX7_valueAt_17 : decode cX7_valueAt 17 = .ok (.getfield 18, 3) := by decide +kernel
theorem dX7_valueAt_20 : decode cX7_valueAt 20 = .ok (.invokestatic 21, 3) := by decide +kernel
theorem dX7_valueAt_23 : decode cX7_valueAt 23 = .ok (.istore_n 2, 1) := by decide +kernel
theorem dX7_valueAt_24 : decode cX7_valueAt 24 = .ok (.aload_n 0, 1) := by decide +kernel
theorem dX7_valueAt_25 : decode cX7_valueAt 25 = .ok (.getfield 25, 3) := by decide +kernel
theorem dX7_valueAt_28 : decode cX7_valueAt 28 = .ok (.tableswitch 98 0 2 #[28, 51, 85], 28) := by decide +kernel
theorem dX7_valueAt_56 : decode cX7_valueAt 56 = .ok (.iload_n 2, 1) := by decide +kernel
theorem dX7_valueAt_57 : decode cX7_valueAt 57 = .ok (.aload_n 0, 1) := by decide +kernel
theorem dX7_valueAt_58 : decode cX7_valueAt 58 = .ok (.getfield 18, 3) := by decide +kernel
theorem dX7_valueAt_61 : decode cX7_valueAt 61 = .ok (.iconst 2, 1) := by decide +kernel
theorem dX7_valueAt_62 : decode cX7_valueAt 62 = .ok (.idiv, 1) := by decide +kernel
theorem dX7_valueAt_63 : decode cX7_valueAt 63 = .ok (.if_icmp .ge 10, 3) := by decide +kernel
theorem dX7_valueAt_66 : decode cX7_valueAt 66 = .ok (.aload_n 0, 1) := by decide +kernel
theorem dX7_valueAt_67 : decode cX7_valueAt 67 = .ok (.getfield 28, 3) := by decide +kernel
theorem dX7_valueAt_70 : decode cX7_valueAt 70 = .ok (.goto 8, 3) := by decide +kernel
theorem dX7_valueAt_73 : decode cX7_valueAt 73 = .ok (.aload_n 0, 1) := by decide +kernel
theorem dX7_valueAt_74 : decode cX7_valueAt 74 = .ok (.getfield 28, 3) := by decide +kernel
theorem dX7_valueAt_77 : decode cX7_valueAt 77 = .ok (.ineg, 1) := by decide +kernel
theorem dX7_valueAt_78 : decode cX7_valueAt 78 = .ok (.ireturn, 1) := by decide +kernel
theorem dX7_valueAt_79 : decode cX7_valueAt 79 = .ok (.aload_n 0, 1) := by decide +kernel
theorem dX7_valueAt_80 : decode cX7_valueAt 80 = .ok (.getfield 28, 3) := by decide +kernel
theorem dX7_valueAt_83 : decode cX7_valueAt 83 = .ok (.iconst 4, 1) := by decide +kernel
theorem dX7_valueAt_84 : decode cX7_valueAt 84 = .ok (.iload_n 2, 1) := by decide +kernel
theorem dX7_valueAt_85 : decode cX7_valueAt 85 = .ok (.aload_n 0, 1) := by decide +kernel
theorem dX7_valueAt_86 : decode cX7_valueAt 86 = .ok (.getfield 18, 3) := by decide +kernel
theorem dX7_valueAt_89 : decode cX7_valueAt 89 = .ok (.iconst 2, 1) := by decide +kernel
theorem dX7_valueAt_90 : decode cX7_valueAt 90 = .ok (.idiv, 1) := by decide +kernel
theorem dX7_valueAt_91 : decode cX7_valueAt 91 = .ok (.isub, 1) := by decide +kernel
theorem dX7_valueAt_92 : decode cX7_valueAt 92 = .ok (.invokestatic 31, 3) := by decide +kernel
theorem dX7_valueAt_95 : decode cX7_valueAt 95 = .ok (.imul, 1) := by decide +kernel
theorem dX7_valueAt_96 : decode cX7_valueAt 96 = .ok (.aload_n 0, 1) := by decide +kernel
theorem dX7_valueAt_97 : decode cX7_valueAt 97 = .ok (.getfield 18, 3) := by decide +kernel
theorem dX7_valueAt_100 : decode cX7_valueAt 100 = .ok (.isub, 1) := by decide +kernel
theorem dX7_valueAt_101 : decode cX7_valueAt 101 = .ok (.imul, 1) := by decide +kernel
theorem dX7_valueAt_102 : decode cX7_valueAt 102 = .ok (.i2l, 1) := by decide +kernel
theorem dX7_valueAt_103 : decode cX7_valueAt 103 = .ok (.aload_n 0, 1) := by decide +kernel
theorem dX7_valueAt_104 : decode cX7_valueAt 104 = .ok (.getfield 18, 3) := by decide +kernel
theorem dX7_valueAt_107 : decode cX7_valueAt 107 = .ok (.i2l, 1) := by decide +kernel
theorem dX7_valueAt_108 : decode cX7_valueAt 108 = .ok (.invokestatic 37, 3) := by decide +kernel
theorem dX7_valueAt_111 : decode cX7_valueAt 111 = .ok (.l2i, 1) := by decide +kernel
theorem dX7_valueAt_112 : decode cX7_valueAt 112 = .ok (.ireturn, 1) := by decide +kernel
theorem dX7_valueAt_113 : decode cX7_valueAt 113 = .ok (.iload_n 2, 1) := by decide +kernel
theorem dX7_valueAt_114 : decode cX7_valueAt 114 = .ok (.ifCond .ne 10, 3) := by decide +kernel
theorem dX7_valueAt_117 : decode cX7_valueAt 117 = .ok (.aload_n 0, 1) := by decide +kernel
theorem dX7_valueAt_118 : decode cX7_valueAt 118 = .ok (.getfield 28, 3) := by decide +kernel
theorem dX7_valueAt_121 : decode cX7_valueAt 121 = .ok (.goto 4, 3) := by decide +kernel
theorem dX7_valueAt_124 : decode cX7_valueAt 124 = .ok (.iconst 0, 1) := by decide +kernel
theorem dX7_valueAt_125 : decode cX7_valueAt 125 = .ok (.ireturn, 1) := by decide +kernel
theorem dX7_valueAt_126 : decode cX7_valueAt 126 = .ok (.bipush 31, 2) := by decide +kernel
theorem dX7_valueAt_128 : decode cX7_valueAt 128 = .ok (.iload_n 1, 1) := by decide +kernel
theorem dX7_valueAt_129 : decode cX7_valueAt 129 = .ok (.imul, 1) := by decide +kernel
theorem dX7_valueAt_130 : decode cX7_valueAt 130 = .ok (.iload_n 1, 1) := by decide +kernel
theorem dX7_valueAt_131 : decode cX7_valueAt 131 = .ok (.imul, 1) := by decide +kernel
theorem dX7_valueAt_132 : decode cX7_valueAt 132 = .ok (.sipush 7919, 3) := by decide +kernel
theorem dX7_valueAt_135 : decode cX7_valueAt 135 = .ok (.iload_n 1, 1) := by decide +kernel
theorem dX7_valueAt_136 : decode cX7_valueAt 136 = .ok (.imul, 1) := by decide +kernel
theorem dX7_valueAt_137 : decode cX7_valueAt 137 = .ok (.iadd, 1) := by decide +kernel
theorem dX7_valueAt_138 : decode cX7_valueAt 138 = .ok (.ldc 41, 2) := by decide +kernel
theorem dX7_valueAt_140 : decode cX7_valueAt 140 = .ok (.aload_n 0, 1) := by decide +kernel
theorem dX7_valueAt_141 : decode cX7_valueAt 141 = .ok (.getfield 15, 3) := by decide +kernel
theorem dX7_valueAt_144 : decode cX7_valueAt 144 = .ok (.imul, 1) := by decide +kernel
theorem dX7_valueAt_145 : decode cX7_valueAt 145 = .ok (.iadd, 1) := by decide +kernel
theorem dX7_valueAt_146 : decode cX7_valueAt 146 = .ok (.iconst 2, 1) := by decide +kernel
theorem dX7_valueAt_147 : decode cX7_valueAt 147 = .ok (.aload_n 0, 1) := by decide +kernel
theorem dX7_valueAt_148 : decode cX7_valueAt 148 = .ok (.getfield 28, 3) := by decide +kernel
theorem dX7_valueAt_151 : decode cX7_valueAt 151 = .ok (.imul, 1) := by decide +kernel
theorem dX7_valueAt_152 : decode cX7_valueAt 152 = .ok (.iconst 1, 1) := by decide +kernel
theorem dX7_valueAt_153 : decode cX7_valueAt 153 = .ok (.iadd, 1) := by decide +kernel
theorem dX7_valueAt_154 : decode cX7_valueAt 154 = .ok (.invokestatic 21, 3) := by decide +kernel
theorem dX7_valueAt_157 : decode cX7_valueAt 157 = .ok (.aload_n 0, 1) := by decide +kernel
theorem dX7_valueAt_158 : decode cX7_valueAt 158 = .ok (.getfield 28, 3) := by decide +kernel
theorem dX7_valueAt_161 : decode cX7_valueAt 161 = .ok (.isub, 1) := by decide +kernel
theorem dX7_valueAt_162 : decode cX7_valueAt 162 = .ok (.ireturn, 1) := by decide +kernel
theorem dX8_init_0 : decode cX8_init 0 = .ok (.aload_n 0, 1) := by decide +kernel
theorem dX8_init_1 : decode cX8_init 1 = .ok (.invokespecial 3, 3) := by decide +kernel
theorem dX8_init_4 : decode cX8_init 4 = .ok (.aload_n 0, 1) := by decide +kernel
theorem dX8_init_5 : decode cX8_init 5 = .ok (.bipush 12, 2) := by decide +kernel
theorem dX8_init_7 : decode cX8_init 7 = .ok (.newarray .boolean, 2) := by decide +kernel
theorem dX8_init_9 : decode cX8_init 9 = .ok (.putfield 9, 3) := by decide +kernel
theorem dX8_init_12 : decode cX8_init 12 = .ok (.aload_n 0, 1) := by decide +kernel
theorem dX8_init_13 : decode cX8_init 13 = .ok (.bipush 12, 2) := by decide +kernel
theorem dX8_init_15 : decode cX8_init 15 = .ok (.newarray .int, 2) := by decide +kernel
theorem dX8_init_17 : decode cX8_init 17 = .ok (.putfield 15, 3) := by decide +kernel
theorem dX8_init_20 : decode cX8_init 20 = .ok (.aload_n 0, 1) := by decide +kernel
theorem dX8_init_21 : decode cX8_init 21 = .ok (.bipush 6, 2) := by decide +kernel
theorem dX8_init_23 : decode cX8_init 23 = .ok (.newarray .boolean, 2) := by decide +kernel
theorem dX8_init_25 : decode cX8_init 25 = .ok (.putfield 19, 3) := by decide +kernel
theorem dX8_init_28 : decode cX8_init 28 = .ok (.aload_n 0, 1) := by decide +kernel
theorem dX8_init_29 : decode cX8_init 29 = .ok (.bipush 6, 2) := by decide +kernel
theorem dX8_init_31 : decode cX8_init 31 = .ok (.newarray .int, 2) := by decide +kernel
theorem dX8_init_33 : decode cX8_init 33 = .ok (.putfield 22, 3) := by decide +kernel
theorem dX8_init_36 : decode cX8_init 36 = .ok (.aload_n 0, 1) := by decide +kernel
theorem dX8_init_37 : decode cX8_init 37 = .ok (.bipush 6, 2) := by decide +kernel
theorem dX8_init_39 : decode cX8_init 39 = .ok (.newarray .int, 2) := by decide +kernel
theorem dX8_init_41 : decode cX8_init 41 = .ok (.putfield 25, 3) := by decide +kernel
theorem dX8_init_44 : decode cX8_init 44 = .ok (.aload_n 0, 1) := by decide +kernel
theorem dX8_init_45 : decode cX8_init 45 = .ok (.bipush 6, 2) := by decide +kernel
theorem dX8_init_47 : decode cX8_init 47 = .ok (.newarray .int, 2) := by decide +kernel
theorem dX8_init_49 : decode cX8_init 49 = .ok (.putfield 28, 3) := by decide +kernel
theorem dX8_init_52 : decode cX8_init 52 = .ok (.aload_n 0, 1) := by decide +kernel
theorem dX8_init_53 : decode cX8_init 53 = .ok (.bipush 6, 2) := by decide +kernel
theorem dX8_init_55 : decode cX8_init 55 = .ok (.newarray .int, 2) := by decide +kernel
theorem dX8_init_57 : decode cX8_init 57 = .ok (.putfield 31, 3) := by decide +kernel
theorem dX8_init_60 : decode cX8_init 60 = .ok (.aload_n 0, 1) := by decide +kernel
theorem dX8_init_61 : decode cX8_init 61 = .ok (.new 34, 3) := by decide +kernel
theorem dX8_init_64 : decode cX8_init 64 = .ok (.dup, 1) := by decide +kernel
theorem dX8_init_65 : decode cX8_init 65 = .ok (.sipush 2400, 3) := by decide +kernel
theorem dX8_init_68 : decode cX8_init 68 = .ok (.invokespecial 36, 3) := by decide +kernel
theorem dX8_init_71 : decode cX8_init 71 = .ok (.putfield 39, 3) := by decide +kernel
theorem dX8_init_74 : decode cX8_init 74 = .ok (.aload_n 0, 1) := by decide +kernel
theorem dX8_init_75 : decode cX8_init 75 = .ok (.new 34, 3) := by decide +kernel
theorem dX8_init_78 : decode cX8_init 78 = .ok (.dup, 1) := by decide +kernel
theorem dX8_init_79 : decode cX8_init 79 = .ok (.iconst 1, 1) := by decide +kernel
theorem dX8_init_80 : decode cX8_init 80 = .ok (.invokespecial 36, 3) := by decide +kernel
theorem dX8_init_83 : decode cX8_init 83 = .ok (.putfield 43, 3) := by decide +kernel
theorem dX8_init_86 : decode cX8_init 86 = .ok (.return_, 1) := by decide +kernel
theorem dX8_placeOf_0 : decode cX8_placeOf 0 = .ok (.iload_n 0, 1) := by decide +kernel
theorem dX8_placeOf_1 : decode cX8_placeOf 1 = .ok (.sipush 200, 3) := by decide +kernel
theorem dX8_placeOf_4 : decode cX8_placeOf 4 = .ok (.imul, 1) := by decide +kernel
theorem dX8_placeOf_5 : decode cX8_placeOf 5 = .ok (.iload_n 1, 1) := by decide +kernel
theorem dX8_placeOf_6 : decode cX8_placeOf 6 = .ok (.iadd, 1) := by decide +kernel
theorem dX8_placeOf_7 : decode cX8_placeOf 7 = .ok (.ireturn, 1) := by decide +kernel
theorem dX8_begin_0 : decode cX8_begin 0 = .ok (.aload_n 0, 1) := by decide +kernel
theorem dX8_begin_1 : decode cX8_begin 1 = .ok (.aload_n 1, 1) := by decide +kernel
theorem dX8_begin_2 : decode cX8_begin 2 = .ok (.getfield 46, 3) := by decide +kernel
theorem dX8_begin_5 : decode cX8_begin 5 = .ok (.putfield 52, 3) := by decide +kernel
theorem dX8_begin_8 : decode cX8_begin 8 = .ok (.aload_n 0, 1) := by decide +kernel
theorem dX8_begin_9 : decode cX8_begin 9 = .ok (.aload_n 1, 1) := by decide +kernel
theorem dX8_begin_10 : decode cX8_begin 10 = .ok (.getfield 53, 3) := by decide +kernel
theorem dX8_begin_13 : decode cX8_begin 13 = .ok (.putfield 55, 3) := by decide +kernel
theorem dX8_begin_16 : decode cX8_begin 16 = .ok (.iconst 0, 1) := by decide +kernel
theorem dX8_begin_17 : decode cX8_begin 17 = .ok (.istore_n 2, 1) := by decide +kernel
theorem dX8_begin_18 : decode cX8_begin 18 = .ok (.iload_n 2, 1) := by decide +kernel
theorem dX8_begin_19 : decode cX8_begin 19 = .ok (.bipush 12, 2) := by decide +kernel
theorem dX8_begin_21 : decode cX8_begin 21 = .ok (.if_icmp .ge 40, 3) := by decide +kernel
theorem dX8_begin_24 : decode cX8_begin 24 = .ok (.aload_n 0, 1) := by decide +kernel
theorem dX8_begin_25 : decode cX8_begin 25 = .ok (.getfield 9, 3) := by decide +kernel
theorem dX8_begin_28 : decode cX8_begin 28 = .ok (.iload_n 2, 1) := by decide +kernel
theorem dX8_begin_29 : decode cX8_begin 29 = .ok (.iconst 0, 1) := by decide +kernel
theorem dX8_begin_30 : decode cX8_begin 30 = .ok (.bastore, 1) := by decide +kernel
theorem dX8_begin_31 : decode cX8_begin 31 = .ok (.aload_n 0, 1) := by decide +kernel
theorem dX8_begin_32 : decode cX8_begin 32 = .ok (.getfield 15, 3) := by decide +kernel
theorem dX8_begin_35 : decode cX8_begin 35 = .ok (.iload_n 2, 1) := by decide +kernel
theorem dX8_begin_36 : decode cX8_begin 36 = .ok (.iload_n 2, 1) := by decide +kernel
theorem dX8_begin_37 : decode cX8_begin 37 = .ok (.aload_n 1, 1) := by decide +kernel
theorem dX8_begin_38 : decode cX8_begin 38 = .ok (.getfield 58, 3) := by decide +kernel
theorem dX8_begin_41 : decode cX8_begin 41 = .ok (.if_icmp .ge 12, 3) := by decide +kernel
theorem dX8_begin_44 : decode cX8_begin 44 = .ok (.aload_n 1, 1) := by decide +kernel
theorem dX8_begin_45 : decode cX8_begin 45 = .ok (.getfield 61, 3) := by decide +kernel
theorem dX8_begin_48 : decode cX8_begin 48 = .ok (.iload_n 2, 1) := by decide +kernel
theorem dX8_begin_49 : decode cX8_begin 49 = .ok (.iaload, 1) := by decide +kernel
theorem dX8_begin_50 : decode cX8_begin 50 = .ok (.goto 4, 3) := by decide +kernel
theorem dX8_begin_53 : decode cX8_begin 53 = .ok (.iconst 1, 1) := by decide +kernel
theorem dX8_begin_54 : decode cX8_begin 54 = .ok (.iastore, 1) := by decide +kernel
theorem dX8_begin_55 : decode cX8_begin 55 = .ok (.iinc 2 1, 3) := by decide +kernel
theorem dX8_begin_58 : decode cX8_begin 58 = .ok (.goto (-40), 3) := by decide +kernel
theorem dX8_begin_61 : decode cX8_begin 61 = .ok (.iconst 0, 1) := by decide +kernel
theorem dX8_begin_62 : decode cX8_begin 62 = .ok (.istore_n 2, 1) := by decide +kernel
theorem dX8_begin_63 : decode cX8_begin 63 = .ok (.iload_n 2, 1) := by decide +kernel
theorem dX8_begin_64 : decode cX8_begin 64 = .ok (.bipush 6, 2) := by decide +kernel
theorem dX8_begin_66 : decode cX8_begin 66 = .ok (.if_icmp .ge 74, 3) := by decide +kernel
theorem dX8_begin_69 : decode cX8_begin 69 = .ok (.aload_n 1, 1) := by decide +kernel
theorem dX8_begin_70 : decode cX8_begin 70 = .ok (.getfield 64, 3) := by decide +kernel
theorem dX8_begin_73 : decode cX8_begin 73 = .ok (.iload_n 2, 1) := by decide +kernel
theorem dX8_begin_74 : decode cX8_begin 74 = .ok (.aaload, 1) := by decide +kernel
theorem dX8_begin_75 : decode cX8_begin 75 = .ok (.astore_n 3, 1) := by decide +kernel
theorem dX8_begin_76 : decode cX8_begin 76 = .ok (.aload_n 0, 1) := by decide +kernel
theorem dX8_begin_77 : decode cX8_begin 77 = .ok (.getfield 19, 3) := by decide +kernel
theorem dX8_begin_80 : decode cX8_begin 80 = .ok (.iload_n 2, 1) := by decide +kernel
theorem dX8_begin_81 : decode cX8_begin 81 = .ok (.aload_n 3, 1) := by decide +kernel
theorem dX8_begin_82 : decode cX8_begin 82 = .ok (.getfield 68, 3) := by decide +kernel
theorem dX8_begin_85 : decode cX8_begin 85 = .ok (.ifCond .ne 7, 3) := by decide +kernel
theorem dX8_begin_88 : decode cX8_begin 88 = .ok (.iconst 1, 1) := by decide +kernel
theorem dX8_begin_89 : decode cX8_begin 89 = .ok (.goto 4, 3) := by decide +kernel
theorem dX8_begin_92 : decode cX8_begin 92 = .ok (.iconst 0, 1) := by decide +kernel
theorem dX8_begin_93 : decode cX8_begin 93 = .ok (.bastore, 1) := by decide +kernel
theorem dX8_begin_94 : decode cX8_begin 94 = .ok (.aload_n 0, 1) := by decide +kernel
theorem dX8_begin_95 : decode cX8_begin 95 = .ok (.getfield 22, 3) := by decide +kernel
theorem dX8_begin_98 : decode cX8_begin 98 = .ok (.iload_n 2, 1) := by decide +kernel
theorem dX8_begin_99 : decode cX8_begin 99 = .ok (.aload_n 3, 1) := by decide +kernel
theorem dX8_begin_100 : decode cX8_begin 100 = .ok (.getfield 74, 3) := by decide +kernel
theorem dX8_begin_103 : decode cX8_begin 103 = .ok (.iastore, 1) := by decide +kernel
theorem dX8_begin_104 : decode cX8_begin 104 = .ok (.aload_n 0, 1) := by decide +kernel
theorem dX8_begin_105 : decode cX8_begin 105 = .ok (.getfield 25, 3) := by decide +kernel
theorem dX8_begin_108 : decode cX8_begin 108 = .ok (.iload_n 2, 1) := by decide +kernel
theorem dX8_begin_109 : decode cX8_begin 109 = .ok (.aload_n 3, 1) := by decide +kernel
theorem dX8_begin_110 : decode cX8_begin 110 = .ok (.getfield 76, 3) := by decide +kernel
theorem dX8_begin_113 : decode cX8_begin 113 = .ok (.iastore, 1) := by decide +kernel
theorem dX8_begin_114 : decode cX8_begin 114 = .ok (.aload_n 0, 1) := by decide +kernel
theorem dX8_begin_115 : decode cX8_begin 115 = .ok (.getfield 28, 3) := by decide +kernel
theorem dX8_begin_118 : decode cX8_begin 118 = .ok (.iload_n 2, 1) := by decide +kernel
theorem dX8_begin_119 : decode cX8_begin 119 = .ok (.aload_n 3, 1) := by decide +kernel
theorem dX8_begin_120 : decode cX8_begin 120 = .ok (.getfield 78, 3) := by decide +kernel
theorem dX8_begin_123 : decode cX8_begin 123 = .ok (.iastore, 1) := by decide +kernel
theorem dX8_begin_124 : decode cX8_begin 124 = .ok (.aload_n 0, 1) := by decide +kernel
theorem dX8_begin_125 : decode cX8_begin 125 = .ok (.getfield 31, 3) := by decide +kernel
theorem dX8_begin_128 : decode cX8_begin 128 = .ok (.iload_n 2, 1) := by decide +kernel
theorem dX8_begin_129 : decode cX8_begin 129 = .ok (.aload_n 3, 1) := by decide +kernel
theorem dX8_begin_130 : decode cX8_begin 130 = .ok (.getfield 80, 3) := by decide +kernel
theorem dX8_begin_133 : decode cX8_begin 133 = .ok (.iastore, 1) := by decide +kernel
theorem dX8_begin_134 : decode cX8_begin 134 = .ok (.iinc 2 1, 3) := by decide +kernel
theorem dX8_begin_137 : decode cX8_begin 137 = .ok (.goto (-74), 3) := by decide +kernel
theorem dX8_begin_140 : decode cX8_begin 140 = .ok (.return_, 1) := by decide +kernel
theorem dX8_copyFrom_0 : decode cX8_copyFrom 0 = .ok (.aload_n 0, 1) := by decide +kernel
theorem dX8_copyFrom_1 : decode cX8_copyFrom 1 = .ok (.aload_n 1, 1) := by decide +kernel
theorem dX8_copyFrom_2 : decode cX8_copyFrom 2 = .ok (.getfield 52, 3) := by decide +kernel
theorem dX8_copyFrom_5 : decode cX8_copyFrom 5 = .ok (.putfield 52, 3) := by decide +kernel
theorem dX8_copyFrom_8 : decode cX8_copyFrom 8 = .ok (.aload_n 0, 1) := by decide +kernel
theorem dX8_copyFrom_9 : decode cX8_copyFrom 9 = .ok (.aload_n 1, 1) := by decide +kernel
theorem dX8_copyFrom_10 : decode cX8_copyFrom 10 = .ok (.getfield 55, 3) := by decide +kernel
theorem dX8_copyFrom_13 : decode cX8_copyFrom 13 = .ok (.putfield 55, 3) := by decide +kernel
theorem dX8_copyFrom_16 : decode cX8_copyFrom 16 = .ok (.aload_n 0, 1) := by decide +kernel
theorem dX8_copyFrom_17 : decode cX8_copyFrom 17 = .ok (.aload_n 1, 1) := by decide +kernel
theorem dX8_copyFrom_18 : decode cX8_copyFrom 18 = .ok (.getfield 82, 3) := by decide +kernel
theorem dX8_copyFrom_21 : decode cX8_copyFrom 21 = .ok (.putfield 82, 3) := by decide +kernel
theorem dX8_copyFrom_24 : decode cX8_copyFrom 24 = .ok (.iconst 0, 1) := by decide +kernel
theorem dX8_copyFrom_25 : decode cX8_copyFrom 25 = .ok (.istore_n 2, 1) := by decide +kernel
theorem dX8_copyFrom_26 : decode cX8_copyFrom 26 = .ok (.iload_n 2, 1) := by decide +kernel
theorem dX8_copyFrom_27 : decode cX8_copyFrom 27 = .ok (.bipush 12, 2) := by decide +kernel
theorem dX8_copyFrom_29 : decode cX8_copyFrom 29 = .ok (.if_icmp .ge 33, 3) := by decide +kernel
theorem dX8_copyFrom_32 : decode cX8_copyFrom 32 = .ok (.aload_n 0, 1) := by decide +kernel
theorem dX8_copyFrom_33 : decode cX8_copyFrom 33 = .ok (.getfield 9, 3) := by decide +kernel
theorem dX8_copyFrom_36 : decode cX8_copyFrom 36 = .ok (.iload_n 2, 1) := by decide +kernel
theorem dX8_copyFrom_37 : decode cX8_copyFrom 37 = .ok (.aload_n 1, 1) := by decide +kernel
theorem dX8_copyFrom_38 : decode cX8_copyFrom 38 = .ok (.getfield 9, 3) := by decide +kernel
theorem dX8_copyFrom_41 : decode cX8_copyFrom 41 = .ok (.iload_n 2, 1) := by decide +kernel
theorem dX8_copyFrom_42 : decode cX8_copyFrom 42 = .ok (.baload, 1) := by decide +kernel
theorem dX8_copyFrom_43 : decode cX8_copyFrom 43 = .ok (.bastore, 1) := by decide +kernel
theorem dX8_copyFrom_44 : decode cX8_copyFrom 44 = .ok (.aload_n 0, 1) := by decide +kernel
theorem dX8_copyFrom_45 : decode cX8_copyFrom 45 = .ok (.getfield 15, 3) := by decide +kernel
theorem dX8_copyFrom_48 : decode cX8_copyFrom 48 = .ok (.iload_n 2, 1) := by decide +kernel
theorem dX8_copyFrom_49 : decode cX8_copyFrom 49 = .ok (.aload_n 1, 1) := by decide +kernel
theorem dX8_copyFrom_50 : decode cX8_copyFrom 50 = .ok (.getfield 15, 3) := by decide +kernel
theorem dX8_copyFrom_53 : decode cX8_copyFrom 53 = .ok (.iload_n 2, 1) := by decide +kernel
theorem dX8_copyFrom_54 : decode cX8_copyFrom 54 = .ok (.iaload, 1) := by decide +kernel
theorem dX8_copyFrom_55 : decode cX8_copyFrom 55 = .ok (.iastore, 1) := by decide +kernel
theorem dX8_copyFrom_56 : decode cX8_copyFrom 56 = .ok (.iinc 2 1, 3) := by decide +kernel
theorem dX8_copyFrom_59 : decode cX8_copyFrom 59 = .ok (.goto (-33), 3) := by decide +kernel
theorem dX8_copyFrom_62 : decode cX8_copyFrom 62 = .ok (.iconst 0, 1) := by decide +kernel
theorem dX8_copyFrom_63 : decode cX8_copyFrom 63 = .ok (.istore_n 2, 1) := by decide +kernel
theorem dX8_copyFrom_64 : decode cX8_copyFrom 64 = .ok (.iload_n 2, 1) := by decide +kernel
theorem dX8_copyFrom_65 : decode cX8_copyFrom 65 = .ok (.bipush 6, 2) := by decide +kernel
theorem dX8_copyFrom_67 : decode cX8_copyFrom 67 = .ok (.if_icmp .ge 69, 3) := by decide +kernel
theorem dX8_copyFrom_70 : decode cX8_copyFrom 70 = .ok (.aload_n 0, 1) := by decide +kernel
theorem dX8_copyFrom_71 : decode cX8_copyFrom 71 = .ok (.getfield 19, 3) := by decide +kernel
theorem dX8_copyFrom_74 : decode cX8_copyFrom 74 = .ok (.iload_n 2, 1) := by decide +kernel
theorem dX8_copyFrom_75 : decode cX8_copyFrom 75 = .ok (.aload_n 1, 1) := by decide +kernel
theorem dX8_copyFrom_76 : decode cX8_copyFrom 76 = .ok (.getfield 19, 3) := by decide +kernel
theorem dX8_copyFrom_79 : decode cX8_copyFrom 79 = .ok (.iload_n 2, 1) := by decide +kernel
theorem dX8_copyFrom_80 : decode cX8_copyFrom 80 = .ok (.baload, 1) := by decide +kernel
theorem dX8_copyFrom_81 : decode cX8_copyFrom 81 = .ok (.bastore, 1) := by decide +kernel
theorem dX8_copyFrom_82 : decode cX8_copyFrom 82 = .ok (.aload_n 0, 1) := by decide +kernel
theorem dX8_copyFrom_83 : decode cX8_copyFrom 83 = .ok (.getfield 22, 3) := by decide +kernel
theorem dX8_copyFrom_86 : decode cX8_copyFrom 86 = .ok (.iload_n 2, 1) := by decide +kernel
theorem dX8_copyFrom_87 : decode cX8_copyFrom 87 = .ok (.aload_n 1, 1) := by decide +kernel
theorem dX8_copyFrom_88 : decode cX8_copyFrom 88 = .ok (.getfield 22, 3) := by decide +kernel
theorem dX8_copyFrom_91 : decode cX8_copyFrom 91 = .ok (.iload_n 2, 1) := by decide +kernel
theorem dX8_copyFrom_92 : decode cX8_copyFrom 92 = .ok (.iaload, 1) := by decide +kernel
theorem dX8_copyFrom_93 : decode cX8_copyFrom 93 = .ok (.iastore, 1) := by decide +kernel
theorem dX8_copyFrom_94 : decode cX8_copyFrom 94 = .ok (.aload_n 0, 1) := by decide +kernel
theorem dX8_copyFrom_95 : decode cX8_copyFrom 95 = .ok (.getfield 25, 3) := by decide +kernel
theorem dX8_copyFrom_98 : decode cX8_copyFrom 98 = .ok (.iload_n 2, 1) := by decide +kernel
theorem dX8_copyFrom_99 : decode cX8_copyFrom 99 = .ok (.aload_n 1, 1) := by decide +kernel
theorem dX8_copyFrom_100 : decode cX8_copyFrom 100 = .ok (.getfield 25, 3) := by decide +kernel
theorem dX8_copyFrom_103 : decode cX8_copyFrom 103 = .ok (.iload_n 2, 1) := by decide +kernel
theorem dX8_copyFrom_104 : decode cX8_copyFrom 104 = .ok (.iaload, 1) := by decide +kernel
theorem dX8_copyFrom_105 : decode cX8_copyFrom 105 = .ok (.iastore, 1) := by decide +kernel
theorem dX8_copyFrom_106 : decode cX8_copyFrom 106 = .ok (.aload_n 0, 1) := by decide +kernel
theorem dX8_copyFrom_107 : decode cX8_copyFrom 107 = .ok (.getfield 28, 3) := by decide +kernel
theorem dX8_copyFrom_110 : decode cX8_copyFrom 110 = .ok (.iload_n 2, 1) := by decide +kernel
theorem dX8_copyFrom_111 : decode cX8_copyFrom 111 = .ok (.aload_n 1, 1) := by decide +kernel
theorem dX8_copyFrom_112 : decode cX8_copyFrom 112 = .ok (.getfield 28, 3) := by decide +kernel
theorem dX8_copyFrom_115 : decode cX8_copyFrom 115 = .ok (.iload_n 2, 1) := by decide +kernel
theorem dX8_copyFrom_116 : decode cX8_copyFrom 116 = .ok (.iaload, 1) := by decide +kernel
theorem dX8_copyFrom_117 : decode cX8_copyFrom 117 = .ok (.iastore, 1) := by decide +kernel
theorem dX8_copyFrom_118 : decode cX8_copyFrom 118 = .ok (.aload_n 0, 1) := by decide +kernel
theorem dX8_copyFrom_119 : decode cX8_copyFrom 119 = .ok (.getfield 31, 3) := by decide +kernel
theorem dX8_copyFrom_122 : decode cX8_copyFrom 122 = .ok (.iload_n 2, 1) := by decide +kernel
theorem dX8_copyFrom_123 : decode cX8_copyFrom 123 = .ok (.aload_n 1, 1) := by decide +kernel
theorem dX8_copyFrom_124 : decode cX8_copyFrom 124 = .ok (.getfield 31, 3) := by decide +kernel
theorem dX8_copyFrom_127 : decode cX8_copyFrom 127 = .ok (.iload_n 2, 1) := by decide +kernel
theorem dX8_copyFrom_128 : decode cX8_copyFrom 128 = .ok (.iaload, 1) := by decide +kernel
theorem dX8_copyFrom_129 : decode cX8_copyFrom 129 = .ok (.iastore, 1) := by decide +kernel
theorem dX8_copyFrom_130 : decode cX8_copyFrom 130 = .ok (.iinc 2 1, 3) := by decide +kernel
theorem dX8_copyFrom_133 : decode cX8_copyFrom 133 = .ok (.goto (-69), 3) := by decide +kernel
theorem dX8_copyFrom_136 : decode cX8_copyFrom 136 = .ok (.aload_n 0, 1) := by decide +kernel
theorem dX8_copyFrom_137 : decode cX8_copyFrom 137 = .ok (.getfield 39, 3) := by decide +kernel
theorem dX8_copyFrom_140 : decode cX8_copyFrom 140 = .ok (.aload_n 1, 1) := by decide +kernel
theorem dX8_copyFrom_141 : decode cX8_copyFrom 141 = .ok (.getfield 39, 3) := by decide +kernel
theorem dX8_copyFrom_144 : decode cX8_copyFrom 144 = .ok (.invokevirtual 85, 3) := by decide +kernel
theorem dX8_copyFrom_147 : decode cX8_copyFrom 147 = .ok (.return_, 1) := by decide +kernel
theorem dX8_activeMics_0 : decode cX8_activeMics 0 = .ok (.iconst 0, 1) := by decide +kernel
theorem dX8_activeMics_1 : decode cX8_activeMics 1 = .ok (.istore_n 1, 1) := by decide +kernel
theorem dX8_activeMics_2 : decode cX8_activeMics 2 = .ok (.iconst 0, 1) := by decide +kernel
theorem dX8_activeMics_3 : decode cX8_activeMics 3 = .ok (.istore_n 2, 1) := by decide +kernel
theorem dX8_activeMics_4 : decode cX8_activeMics 4 = .ok (.iload_n 2, 1) := by decide +kernel
theorem dX8_activeMics_5 : decode cX8_activeMics 5 = .ok (.aload_n 0, 1) := by decide +kernel
theorem dX8_activeMics_6 : decode cX8_activeMics 6 = .ok (.getfield 52, 3) := by decide +kernel
theorem dX8_activeMics_9 : decode cX8_activeMics 9 = .ok (.if_icmp .ge 26, 3) := by decide +kernel
theorem dX8_activeMics_12 : decode cX8_activeMics 12 = .ok (.iload_n 1, 1) := by decide +kernel
theorem dX8_activeMics_13 : decode cX8_activeMics 13 = .ok (.aload_n 0, 1) := by decide +kernel
theorem dX8_activeMics_14 : decode cX8_activeMics 14 = .ok (.getfield 9, 3) := by decide +kernel
theorem dX8_activeMics_17 : decode cX8_activeMics 17 = .ok (.iload_n 2, 1) := by decide +kernel
theorem dX8_activeMics_18 : decode cX8_activeMics 18 = .ok (.baload, 1) := by decide +kernel
theorem dX8_activeMics_19 : decode cX8_activeMics 19 = .ok (.ifCond .eq 7, 3) := by decide +kernel
theorem dX8_activeMics_22 : decode cX8_activeMics 22 = .ok (.iconst 0, 1) := by decide +kernel
theorem dX8_activeMics_23 : decode cX8_activeMics 23 = .ok (.goto 4, 3) := by decide +kernel
theorem dX8_activeMics_26 : decode cX8_activeMics 26 = .ok (.iconst 1, 1) := by decide +kernel
theorem dX8_activeMics_27 : decode cX8_activeMics 27 = .ok (.iadd, 1) := by decide +kernel
theorem dX8_activeMics_28 : decode cX8_activeMics 28 = .ok (.istore_n 1, 1) := by decide +kernel
theorem dX8_activeMics_29 : decode cX8_activeMics 29 = .ok (.iinc 2 1, 3) := by decide +kernel
theorem dX8_activeMics_32 : decode cX8_activeMics 32 = .ok (.goto (-28), 3) := by decide +kernel
theorem dX8_activeMics_35 : decode cX8_activeMics 35 = .ok (.iload_n 1, 1) := by decide +kernel
theorem dX8_activeMics_36 : decode cX8_activeMics 36 = .ok (.ireturn, 1) := by decide +kernel
theorem dX8_activeWeight_0 : decode cX8_activeWeight 0 = .ok (.iconst 0, 1) := by decide +kernel
theorem dX8_activeWeight_1 : decode cX8_activeWeight 1 = .ok (.istore_n 1, 1) := by decide +kernel
theorem dX8_activeWeight_2 : decode cX8_activeWeight 2 = .ok (.iconst 0, 1) := by decide +kernel
theorem dX8_activeWeight_3 : decode cX8_activeWeight 3 = .ok (.istore_n 2, 1) := by decide +kernel
theorem dX8_activeWeight_4 : decode cX8_activeWeight 4 = .ok (.iload_n 2, 1) := by decide +kernel
theorem dX8_activeWeight_5 : decode cX8_activeWeight 5 = .ok (.aload_n 0, 1) := by decide +kernel
theorem dX8_activeWeight_6 : decode cX8_activeWeight 6 = .ok (.getfield 52, 3) := by decide +kernel
theorem dX8_activeWeight_9 : decode cX8_activeWeight 9 = .ok (.if_icmp .ge 31, 3) := by decide +kernel
theorem dX8_activeWeight_12 : decode cX8_activeWeight 12 = .ok (.iload_n 1, 1) := by decide +kernel
theorem dX8_activeWeight_13 : decode cX8_activeWeight 13 = .ok (.aload_n 0, 1) := by decide +kernel
theorem dX8_activeWeight_14 : decode cX8_activeWeight 14 = .ok (.getfield 9, 3) := by decide +kernel
theorem dX8_activeWeight_17 : decode cX8_activeWeight 17 = .ok (.iload_n 2, 1) := by decide +kernel
theorem dX8_activeWeight_18 : decode cX8_activeWeight 18 = .ok (.baload, 1) := by decide +kernel
theorem dX8_activeWeight_19 : decode cX8_activeWeight 19 = .ok (.ifCond .eq 7, 3) := by decide +kernel
theorem dX8_activeWeight_22 : decode cX8_activeWeight 22 = .ok (.iconst 0, 1) := by decide +kernel
theorem dX8_activeWeight_23 : decode cX8_activeWeight 23 = .ok (.goto 9, 3) := by decide +kernel
theorem dX8_activeWeight_26 : decode cX8_activeWeight 26 = .ok (.aload_n 0, 1) := by decide +kernel
theorem dX8_activeWeight_27 : decode cX8_activeWeight 27 = .ok (.getfield 15, 3) := by decide +kernel
theorem dX8_activeWeight_30 : decode cX8_activeWeight 30 = .ok (.iload_n 2, 1) := by decide +kernel
theorem dX8_activeWeight_31 : decode cX8_activeWeight 31 = .ok (.iaload, 1) := by decide +kernel
theorem dX8_activeWeight_32 : decode cX8_activeWeight 32 = .ok (.iadd, 1) := by decide +kernel
theorem dX8_activeWeight_33 : decode cX8_activeWeight 33 = .ok (.istore_n 1, 1) := by decide +kernel
theorem dX8_activeWeight_34 : decode cX8_activeWeight 34 = .ok (.iinc 2 1, 3) := by decide +kernel
theorem dX8_activeWeight_37 : decode cX8_activeWeight 37 = .ok (.goto (-33), 3) := by decide +kernel
theorem dX8_activeWeight_40 : decode cX8_activeWeight 40 = .ok (.iload_n 1, 1) := by decide +kernel
theorem dX8_activeWeight_41 : decode cX8_activeWeight 41 = .ok (.ireturn, 1) := by decide +kernel
theorem dX8_greatestDelay_0 : decode cX8_greatestDelay 0 = .ok (.iconst 0, 1) := by decide +kernel
theorem dX8_greatestDelay_1 : decode cX8_greatestDelay 1 = .ok (.istore_n 2, 1) := by decide +kernel
theorem dX8_greatestDelay_2 : decode cX8_greatestDelay 2 = .ok (.iconst 0, 1) := by decide +kernel
theorem dX8_greatestDelay_3 : decode cX8_greatestDelay 3 = .ok (.istore_n 3, 1) := by decide +kernel
theorem dX8_greatestDelay_4 : decode cX8_greatestDelay 4 = .ok (.iload_n 3, 1) := by decide +kernel
theorem dX8_greatestDelay_5 : decode cX8_greatestDelay 5 = .ok (.aload_n 0, 1) := by decide +kernel
theorem dX8_greatestDelay_6 : decode cX8_greatestDelay 6 = .ok (.getfield 52, 3) := by decide +kernel
theorem dX8_greatestDelay_9 : decode cX8_greatestDelay 9 = .ok (.if_icmp .ge 26, 3) := by decide +kernel
theorem dX8_greatestDelay_12 : decode cX8_greatestDelay 12 = .ok (.aload_n 0, 1) := by decide +kernel
theorem dX8_greatestDelay_13 : decode cX8_greatestDelay 13 = .ok (.getfield 9, 3) := by decide +kernel
theorem dX8_greatestDelay_16 : decode cX8_greatestDelay 16 = .ok (.iload_n 3, 1) := by decide +kernel
theorem dX8_greatestDelay_17 : decode cX8_greatestDelay 17 = .ok (.baload, 1) := by decide +kernel
theorem dX8_greatestDelay_18 : decode cX8_greatestDelay 18 = .ok (.ifCond .ne 11, 3) := by decide +kernel
theorem dX8_greatestDelay_21 : decode cX8_greatestDelay 21 = .ok (.iload_n 2, 1) := by decide +kernel
theorem dX8_greatestDelay_22 : decode cX8_greatestDelay 22 = .ok (.aload_n 1, 1) := by decide +kernel
theorem dX8_greatestDelay_23 : decode cX8_greatestDelay 23 = .ok (.iload_n 3, 1) := by decide +kernel
theorem dX8_greatestDelay_24 : decode cX8_greatestDelay 24 = .ok (.iaload, 1) := by decide +kernel
theorem dX8_greatestDelay_25 : decode cX8_greatestDelay 25 = .ok (.invokestatic 89, 3) := by decide +kernel
theorem dX8_greatestDelay_28 : decode cX8_greatestDelay 28 = .ok (.istore_n 2, 1) := by decide +kernel
theorem dX8_greatestDelay_29 : decode cX8_greatestDelay 29 = .ok (.iinc 3 1, 3) := by decide +kernel
theorem dX8_greatestDelay_32 : decode cX8_greatestDelay 32 = .ok (.goto (-28), 3) := by decide +kernel
theorem dX8_greatestDelay_35 : decode cX8_greatestDelay 35 = .ok (.iload_n 2, 1) := by decide +kernel
theorem dX8_greatestDelay_36 : decode cX8_greatestDelay 36 = .ok (.ireturn, 1) := by decide +kernel
theorem dX8_smallestDelay_0 : decode cX8_smallestDelay 0 = .ok (.aload_n 0, 1) := by decide +kernel
theorem dX8_smallestDelay_1 : decode cX8_smallestDelay 1 = .ok (.aload_n 1, 1) := by decide +kernel
theorem dX8_smallestDelay_2 : decode cX8_smallestDelay 2 = .ok (.invokevirtual 95, 3) := by decide +kernel
theorem dX8_smallestDelay_5 : decode cX8_smallestDelay 5 = .ok (.istore_n 2, 1) := by decide +kernel
theorem dX8_smallestDelay_6 : decode cX8_smallestDelay 6 = .ok (.iconst 0, 1) := by decide +kernel
theorem dX8_smallestDelay_7 : decode cX8_smallestDelay 7 = .ok (.istore_n 3, 1) := by decide +kernel
theorem dX8_smallestDelay_8 : decode cX8_smallestDelay 8 = .ok (.iload_n 3, 1) := by decide +kernel
theorem dX8_smallestDelay_9 : decode cX8_smallestDelay 9 = .ok (.aload_n 0, 1) := by decide +kernel
theorem dX8_smallestDelay_10 : decode cX8_smallestDelay 10 = .ok (.getfield 52, 3) := by decide +kernel
theorem dX8_smallestDelay_13 : decode cX8_smallestDelay 13 = .ok (.if_icmp .ge 26, 3) := by decide +kernel
theorem dX8_smallestDelay_16 : decode cX8_smallestDelay 16 = .ok (.aload_n 0, 1) := by decide +kernel
theorem dX8_smallestDelay_17 : decode cX8_smallestDelay 17 = .ok (.getfield 9, 3) := by decide +kernel
theorem dX8_smallestDelay_20 : decode cX8_smallestDelay 20 = .ok (.iload_n 3, 1) := by decide +kernel
theorem dX8_smallestDelay_21 : decode cX8_smallestDelay 21 = .ok (.baload, 1) := by decide +kernel
theorem dX8_smallestDelay_22 : decode cX8_smallestDelay 22 = .ok (.ifCond .ne 11, 3) := by decide +kernel
theorem dX8_smallestDelay_25 : decode cX8_smallestDelay 25 = .ok (.iload_n 2, 1) := by decide +kernel
theorem dX8_smallestDelay_26 : decode cX8_smallestDelay 26 = .ok (.aload_n 1, 1) := by decide +kernel
theorem dX8_smallestDelay_27 : decode cX8_smallestDelay 27 = .ok (.iload_n 3, 1) := by decide +kernel
theorem dX8_smallestDelay_28 : decode cX8_smallestDelay 28 = .ok (.iaload, 1) := by decide +kernel
theorem dX8_smallestDelay_29 : decode cX8_smallestDelay 29 = .ok (.invokestatic 99, 3) := by decide +kernel
theorem dX8_smallestDelay_32 : decode cX8_smallestDelay 32 = .ok (.istore_n 2, 1) := by decide +kernel
theorem dX8_smallestDelay_33 : decode cX8_smallestDelay 33 = .ok (.iinc 3 1, 3) := by decide +kernel
theorem dX8_smallestDelay_36 : decode cX8_smallestDelay 36 = .ok (.goto (-28), 3) := by decide +kernel
theorem dX8_smallestDelay_39 : decode cX8_smallestDelay 39 = .ok (.iload_n 2, 1) := by decide +kernel
theorem dX8_smallestDelay_40 : decode cX8_smallestDelay 40 = .ok (.ireturn, 1) := by decide +kernel
theorem dX8_windowOf_0 : decode cX8_windowOf 0 = .ok (.aload_n 0, 1) := by decide +kernel
theorem dX8_windowOf_1 : decode cX8_windowOf 1 = .ok (.getfield 55, 3) := by decide +kernel
theorem dX8_windowOf_4 : decode cX8_windowOf 4 = .ok (.aload_n 0, 1) := by decide +kernel
theorem dX8_windowOf_5 : decode cX8_windowOf 5 = .ok (.aload_n 1, 1) := by decide +kernel
theorem dX8_windowOf_6 : decode cX8_windowOf 6 = .ok (.invokevirtual 95, 3) := by decide +kernel
theorem dX8_windowOf_9 : decode cX8_windowOf 9 = .ok (.isub, 1) := by decide +kernel
theorem dX8_windowOf_10 : decode cX8_windowOf 10 = .ok (.iconst 0, 1) := by decide +kernel
theorem dX8_windowOf_11 : decode cX8_windowOf 11 = .ok (.invokestatic 89, 3) := by decide +kernel
theorem dX8_windowOf_14 : decode cX8_windowOf 14 = .ok (.ireturn, 1) := by decide +kernel
theorem dX8_focus_0 : decode cX8_focus 0 = .ok (.aload_n 0, 1) := by decide +kernel
theorem dX8_focus_1 : decode cX8_focus 1 = .ok (.getfield 43, 3) := by decide +kernel
theorem dX8_focus_4 : decode cX8_focus 4 = .ok (.invokevirtual 102, 3) := by decide +kernel
theorem dX8_focus_7 : decode cX8_focus 7 = .ok (.aload_n 0, 1) := by decide +kernel
theorem dX8_focus_8 : decode cX8_focus 8 = .ok (.getfield 43, 3) := by decide +kernel
theorem dX8_focus_11 : decode cX8_focus 11 = .ok (.aload_n 0, 1) := by decide +kernel
theorem dX8_focus_12 : decode cX8_focus 12 = .ok (.getfield 39, 3) := by decide +kernel
theorem dX8_focus_15 : decode cX8_focus 15 = .ok (.getfield 105, 3) := by decide +kernel
theorem dX8_focus_18 : decode cX8_focus 18 = .ok (.invokevirtual 108, 3) := by decide +kernel
theorem dX8_focus_21 : decode cX8_focus 21 = .ok (.iconst 0, 1) := by decide +kernel
theorem dX8_focus_22 : decode cX8_focus 22 = .ok (.istore_n 3, 1) := by decide +kernel
theorem dX8_focus_23 : decode cX8_focus 23 = .ok (.iload_n 3, 1) := by decide +kernel
theorem dX8_focus_24 : decode cX8_focus 24 = .ok (.aload_n 0, 1) := by decide +kernel
theorem dX8_focus_25 : decode cX8_focus 25 = .ok (.getfield 39, 3) := by decide +kernel
theorem dX8_focus_28 : decode cX8_focus 28 = .ok (.getfield 105, 3) := by decide +kernel
theorem dX8_focus_31 : decode cX8_focus 31 = .ok (.if_icmp .ge 35, 3) := by decide +kernel
theorem dX8_focus_34 : decode cX8_focus 34 = .ok (.aload_n 0, 1) := by decide +kernel
theorem dX8_focus_35 : decode cX8_focus 35 = .ok (.getfield 43, 3) := by decide +kernel
theorem dX8_focus_38 : decode cX8_focus 38 = .ok (.getfield 111, 3) := by decide +kernel
theorem dX8_focus_41 : decode cX8_focus 41 = .ok (.iload_n 3, 1) := by decide +kernel
theorem dX8_focus_42 : decode cX8_focus 42 = .ok (.aaload, 1) := by decide +kernel
theorem dX8_focus_43 : decode cX8_focus 43 = .ok (.iconst 0, 1) := by decide +kernel
theorem dX8_focus_44 : decode cX8_focus 44 = .ok (.aload_n 0, 1) := by decide +kernel
theorem dX8_focus_45 : decode cX8_focus 45 = .ok (.aload_n 0, 1) := by decide +kernel
theorem dX8_focus_46 : decode cX8_focus 46 = .ok (.getfield 39, 3) := by decide +kernel
theorem dX8_focus_49 : decode cX8_focus 49 = .ok (.getfield 111, 3) := by decide +kernel
theorem dX8_focus_52 : decode cX8_focus 52 = .ok (.iload_n 3, 1) := by decide +kernel
theorem dX8_focus_53 : decode cX8_focus 53 = .ok (.aaload, 1) := by decide +kernel
theorem dX8_focus_54 : decode cX8_focus 54 = .ok (.aload_n 1, 1) := by decide +kernel
theorem dX8_focus_55 : decode cX8_focus 55 = .ok (.iload_n 2, 1) := by decide +kernel
theorem dX8_focus_56 : decode cX8_focus 56 = .ok (.invokevirtual 115, 3) := by decide +kernel
theorem dX8_focus_59 : decode cX8_focus 59 = .ok (.lastore, 1) := by decide +kernel
theorem dX8_focus_60 : decode cX8_focus 60 = .ok (.iinc 3 1, 3) := by decide +kernel
theorem dX8_focus_63 : decode cX8_focus 63 = .ok (.goto (-40), 3) := by decide +kernel
theorem dX8_focus_66 : decode cX8_focus 66 = .ok (.aload_n 0, 1) := by decide +kernel
theorem dX8_focus_67 : decode cX8_focus 67 = .ok (.getfield 43, 3) := by decide +kernel
theorem dX8_focus_70 : decode cX8_focus 70 = .ok (.iconst 0, 1) := by decide +kernel
theorem dX8_focus_71 : decode cX8_focus 71 = .ok (.invokevirtual 119, 3) := by decide +kernel
theorem dX8_focus_74 : decode cX8_focus 74 = .ok (.return_, 1) := by decide +kernel
theorem dX8_weighted_0 : decode cX8_weighted 0 = .ok (.lconst 0, 1) := by decide +kernel
theorem dX8_weighted_1 : decode cX8_weighted 1 = .ok (.lstore 4, 2) := by decide +kernel
theorem dX8_weighted_3 : decode cX8_weighted 3 = .ok (.iconst 0, 1) := by decide +kernel
theorem dX8_weighted_4 : decode cX8_weighted 4 = .ok (.istore 6, 2) := by decide +kernel
theorem dX8_weighted_6 : decode cX8_weighted 6 = .ok (.iload 6, 2) := by decide +kernel
theorem dX8_weighted_8 : decode cX8_weighted 8 = .ok (.aload_n 0, 1) := by decide +kernel
theorem dX8_weighted_9 : decode cX8_weighted 9 = .ok (.getfield 52, 3) := by decide +kernel
theorem dX8_weighted_12 : decode cX8_weighted 12 = .ok (.if_icmp .ge 64, 3) := by decide +kernel
theorem dX8_weighted_15 : decode cX8_weighted 15 = .ok (.iload_n 3, 1) := by decide +kernel
theorem dX8_weighted_16 : decode cX8_weighted 16 = .ok (.aload_n 2, 1) := by decide +kernel
theorem dX8_weighted_17 : decode cX8_weighted 17 = .ok (.iload 6, 2) := by decide +kernel
theorem dX8_weighted_19 : decode cX8_weighted 19 = .ok (.iaload, 1) := by decide +kernel
theorem dX8_weighted_20 : decode cX8_weighted 20 = .ok (.iadd, 1) := by decide +kernel
theorem dX8_weighted_21 : decode cX8_weighted 21 = .ok (.istore 7, 2) := by decide +kernel
theorem dX8_weighted_23 : decode cX8_weighted 23 = .ok (.aload_n 0, 1) := by decide +kernel
theorem dX8_weighted_24 : decode cX8_weighted 24 = .ok (.getfield 9, 3) := by decide +kernel
theorem dX8_weighted_27 : decode cX8_weighted 27 = .ok (.iload 6, 2) := by decide +kernel
theorem dX8_weighted_29 : decode cX8_weighted 29 = .ok (.baload, 1) := by decide +kernel
theorem dX8_weighted_30 : decode cX8_weighted 30 = .ok (.ifCond .ne 40, 3) := by decide +kernel
theorem dX8_weighted_33 : decode cX8_weighted 33 = .ok (.iload 7, 2) := by decide +kernel
theorem dX8_weighted_35 : decode cX8_weighted 35 = .ok (.ifCond .lt 35, 3) := by decide +kernel
theorem dX8_weighted_38 : decode cX8_weighted 38 = .ok (.iload 7, 2) := by decide +kernel
theorem dX8_weighted_40 : decode cX8_weighted 40 = .ok (.aload_n 0, 1) := by decide +kernel
theorem dX8_weighted_41 : decode cX8_weighted 41 = .ok (.getfield 55, 3) := by decide +kernel
theorem dX8_weighted_44 : decode cX8_weighted 44 = .ok (.if_icmp .ge 26, 3) := by decide +kernel
theorem dX8_weighted_47 : decode cX8_weighted 47 = .ok (.lload 4, 2) := by decide +kernel
theorem dX8_weighted_49 : decode cX8_weighted 49 = .ok (.aload_n 0, 1) := by decide +kernel
theorem dX8_weighted_50 : decode cX8_weighted 50 = .ok (.getfield 15, 3) := by decide +kernel
theorem dX8_weighted_53 : decode cX8_weighted 53 = .ok (.iload 6, 2) := by decide +kernel
theorem dX8_weighted_55 : decode cX8_weighted 55 = .ok (.iaload, 1) := by decide +kernel
theorem dX8_weighted_56 : decode cX8_weighted 56 = .ok (.i2l, 1) := by decide +kernel
theorem dX8_weighted_57 : decode cX8_weighted 57 = .ok (.aload_n 1, 1) := by decide +kernel
theorem dX8_weighted_58 : decode cX8_weighted 58 = .ok (.iload 6, 2) := by decide +kernel
theorem dX8_weighted_60 : decode cX8_weighted 60 = .ok (.iload 7, 2) := by decide +kernel
theorem dX8_weighted_62 : decode cX8_weighted 62 = .ok (.invokestatic 122, 3) := by decide +kernel
theorem dX8_weighted_65 : decode cX8_weighted 65 = .ok (.laload, 1) := by decide +kernel
theorem dX8_weighted_66 : decode cX8_weighted 66 = .ok (.lmul, 1) := by decide +kernel
theorem dX8_weighted_67 : decode cX8_weighted 67 = .ok (.ladd, 1) := by decide +kernel
theorem dX8_weighted_68 : decode cX8_weighted 68 = .ok (.lstore 4, 2) := by decide +kernel
theorem dX8_weighted_70 : decode cX8_weighted 70 = .ok (.iinc 6 1, 3) := by decide +kernel
theorem dX8_weighted_73 : decode cX8_weighted 73 = .ok (.goto (-67), 3) := by decide +kernel
theorem dX8_weighted_76 : decode cX8_weighted 76 = .ok (.lload 4, 2) := by decide +kernel
theorem dX8_weighted_78 : decode cX8_weighted 78 = .ok (.lreturn, 1) := by decide +kernel
theorem dX8_powerOf_0 : decode cX8_powerOf 0 = .ok (.aload_n 0, 1) := by decide +kernel
theorem dX8_powerOf_1 : decode cX8_powerOf 1 = .ok (.aload_n 1, 1) := by decide +kernel
theorem dX8_powerOf_2 : decode cX8_powerOf 2 = .ok (.iconst 0, 1) := by decide +kernel
theorem dX8_powerOf_3 : decode cX8_powerOf 3 = .ok (.aload_n 0, 1) := by decide +kernel
theorem dX8_powerOf_4 : decode cX8_powerOf 4 = .ok (.aload_n 1, 1) := by decide +kernel
theorem dX8_powerOf_5 : decode cX8_powerOf 5 = .ok (.invokevirtual 125, 3) := by decide +kernel
theorem dX8_powerOf_8 : decode cX8_powerOf 8 = .ok (.aload_n 2, 1) := by decide +kernel
theorem dX8_powerOf_9 : decode cX8_powerOf 9 = .ok (.iload_n 3, 1) := by decide +kernel
theorem dX8_powerOf_10 : decode cX8_powerOf 10 = .ok (.invokevirtual 128, 3) := by decide +kernel
theorem dX8_powerOf_13 : decode cX8_powerOf 13 = .ok (.return_, 1) := by decide +kernel
theorem dX8_blockPowerOf_0 : decode cX8_blockPowerOf 0 = .ok (.iload_n 2, 1) := by decide +kernel
theorem dX8_blockPowerOf_1 : decode cX8_blockPowerOf 1 = .ok (.iload_n 3, 1) := by decide +kernel
theorem dX8_blockPowerOf_2 : decode cX8_blockPowerOf 2 = .ok (.iadd, 1) := by decide +kernel
theorem dX8_blockPowerOf_3 : decode cX8_blockPowerOf 3 = .ok (.aload_n 0, 1) := by decide +kernel
theorem dX8_blockPowerOf_4 : decode cX8_blockPowerOf 4 = .ok (.aload_n 1, 1) := by decide +kernel
theorem dX8_blockPowerOf_5 : decode cX8_blockPowerOf 5 = .ok (.invokevirtual 125, 3) := by decide +kernel
theorem dX8_blockPowerOf_8 : decode cX8_blockPowerOf 8 = .ok (.invokestatic 99, 3) := by decide +kernel
theorem dX8_blockPowerOf_11 : decode cX8_blockPowerOf 11 = .ok (.istore 6, 2) := by decide +kernel
theorem dX8_blockPowerOf_13 : decode cX8_blockPowerOf 13 = .ok (.aload 4, 2) := by decide +kernel
theorem dX8_blockPowerOf_15 : decode cX8_blockPowerOf 15 = .ok (.iload 5, 2) := by decide +kernel
theorem dX8_blockPowerOf_17 : decode cX8_blockPowerOf 17 = .ok (.invokevirtual 132, 3) := by decide +kernel
theorem dX8_blockPowerOf_20 : decode cX8_blockPowerOf 20 = .ok (.iload_n 2, 1) := by decide +kernel
theorem dX8_blockPowerOf_21 : decode cX8_blockPowerOf 21 = .ok (.istore 7, 2) := by decide +kernel
theorem dX8_blockPowerOf_23 : decode cX8_blockPowerOf 23 = .ok (.iload 7, 2) := by decide +kernel
theorem dX8_blockPowerOf_25 : decode cX8_blockPowerOf 25 = .ok (.iload 6, 2) := by decide +kernel
theorem dX8_blockPowerOf_27 : decode cX8_blockPowerOf 27 = .ok (.if_icmp .ge 33, 3) := by decide +kernel
theorem dX8_blockPowerOf_30 : decode cX8_blockPowerOf 30 = .ok (.aload_n 0, 1) := by decide +kernel
theorem dX8_blockPowerOf_31 : decode cX8_blockPowerOf 31 = .ok (.aload_n 1, 1) := by decide +kernel
theorem dX8_blockPowerOf_32 : decode cX8_blockPowerOf 32 = .ok (.iload 7, 2) := by decide +kernel
theorem dX8_blockPowerOf_34 : decode cX8_blockPowerOf 34 = .ok (.invokevirtual 135, 3) := by decide +kernel
theorem dX8_blockPowerOf_37 : decode cX8_blockPowerOf 37 = .ok (.aload 4, 2) := by decide +kernel
theorem dX8_blockPowerOf_39 : decode cX8_blockPowerOf 39 = .ok (.iload 5, 2) := by decide +kernel
theorem dX8_blockPowerOf_41 : decode cX8_blockPowerOf 41 = .ok (.aload_n 0, 1) := by decide +kernel
theorem dX8_blockPowerOf_42 : decode cX8_blockPowerOf 42 = .ok (.getfield 43, 3) := by decide +kernel
theorem dX8_blockPowerOf_45 : decode cX8_blockPowerOf 45 = .ok (.iconst 0, 1) := by decide +kernel
theorem dX8_blockPowerOf_46 : decode cX8_blockPowerOf 46 = .ok (.aload_n 0, 1) := by decide +kernel
theorem dX8_blockPowerOf_47 : decode cX8_blockPowerOf 47 = .ok (.getfield 43, 3) := by decide +kernel
theorem dX8_blockPowerOf_50 : decode cX8_blockPowerOf 50 = .ok (.iconst 0, 1) := by decide +kernel
theorem dX8_blockPowerOf_51 : decode cX8_blockPowerOf 51 = .ok (.invokevirtual 139, 3) := by decide +kernel
theorem dX8_blockPowerOf_54 : decode cX8_blockPowerOf 54 = .ok (.iinc 7 1, 3) := by decide +kernel
theorem dX8_blockPowerOf_57 : decode cX8_blockPowerOf 57 = .ok (.goto (-34), 3) := by decide +kernel
theorem dX8_blockPowerOf_60 : decode cX8_blockPowerOf 60 = .ok (.aload 4, 2) := by decide +kernel
theorem dX8_blockPowerOf_62 : decode cX8_blockPowerOf 62 = .ok (.iload 5, 2) := by decide +kernel
theorem dX8_blockPowerOf_64 : decode cX8_blockPowerOf 64 = .ok (.iload_n 3, 1) := by decide +kernel
theorem dX8_blockPowerOf_65 : decode cX8_blockPowerOf 65 = .ok (.invokevirtual 143, 3) := by decide +kernel
theorem dX8_blockPowerOf_68 : decode cX8_blockPowerOf 68 = .ok (.return_, 1) := by decide +kernel
theorem dX8_productSum_0 : decode cX8_productSum 0 = .ok (.aload 4, 2) := by decide +kernel
theorem dX8_productSum_2 : decode cX8_productSum 2 = .ok (.iload 5, 2) := by decide +kernel
theorem dX8_productSum_4 : decode cX8_productSum 4 = .ok (.invokevirtual 132, 3) := by decide +kernel
theorem dX8_productSum_7 : decode cX8_productSum 7 = .ok (.iconst 0, 1) := by decide +kernel
theorem dX8_productSum_8 : decode cX8_productSum 8 = .ok (.istore 6, 2) := by decide +kernel
theorem dX8_productSum_10 : decode cX8_productSum 10 = .ok (.iload 6, 2) := by decide +kernel
theorem dX8_productSum_12 : decode cX8_productSum 12 = .ok (.iload_n 3, 1) := by decide +kernel
theorem dX8_productSum_13 : decode cX8_productSum 13 = .ok (.iadd, 1) := by decide +kernel
theorem dX8_productSum_14 : decode cX8_productSum 14 = .ok (.aload_n 0, 1) := by decide +kernel
theorem dX8_productSum_15 : decode cX8_productSum 15 = .ok (.getfield 55, 3) := by decide +kernel
theorem dX8_productSum_18 : decode cX8_productSum 18 = .ok (.if_icmp .ge 38, 3) := by decide +kernel
theorem dX8_productSum_21 : decode cX8_productSum 21 = .ok (.aload 4, 2) := by decide +kernel
theorem dX8_productSum_23 : decode cX8_productSum 23 = .ok (.iload 5, 2) := by decide +kernel
theorem dX8_productSum_25 : decode cX8_productSum 25 = .ok (.aload_n 0, 1) := by decide +kernel
theorem dX8_productSum_26 : decode cX8_productSum 26 = .ok (.getfield 39, 3) := by decide +kernel
theorem dX8_productSum_29 : decode cX8_productSum 29 = .ok (.iload_n 1, 1) := by decide +kernel
theorem dX8_productSum_30 : decode cX8_productSum 30 = .ok (.iload 6, 2) := by decide +kernel
theorem dX8_productSum_32 : decode cX8_productSum 32 = .ok (.invokestatic 122, 3) := by decide +kernel
theorem dX8_productSum_35 : decode cX8_productSum 35 = .ok (.aload_n 0, 1) := by decide +kernel
theorem dX8_productSum_36 : decode cX8_productSum 36 = .ok (.getfield 39, 3) := by decide +kernel
theorem dX8_productSum_39 : decode cX8_productSum 39 = .ok (.iload_n 2, 1) := by decide +kernel
theorem dX8_productSum_40 : decode cX8_productSum 40 = .ok (.iload 6, 2) := by decide +kernel
theorem dX8_productSum_42 : decode cX8_productSum 42 = .ok (.iload_n 3, 1) := by decide +kernel
theorem dX8_productSum_43 : decode cX8_productSum 43 = .ok (.iadd, 1) := by decide +kernel
theorem dX8_productSum_44 : decode cX8_productSum 44 = .ok (.invokestatic 122, 3) := by decide +kernel
theorem dX8_productSum_47 : decode cX8_productSum 47 = .ok (.invokevirtual 139, 3) := by decide +kernel
theorem dX8_productSum_50 : decode cX8_productSum 50 = .ok (.iinc 6 1, 3) := by decide +kernel
theorem dX8_productSum_53 : decode cX8_productSum 53 = .ok (.goto (-43), 3) := by decide +kernel
theorem dX8_productSum_56 : decode cX8_productSum 56 = .ok (.return_, 1) := by decide +kernel
theorem dX8_subtractBeam_0 : decode cX8_subtractBeam 0 = .ok (.bipush 100, 2) := by decide +kernel
theorem dX8_subtractBeam_2 : decode cX8_subtractBeam 2 = .ok (.aload_n 0, 1) := by decide +kernel
theorem dX8_subtractBeam_3 : decode cX8_subtractBeam 3 = .ok (.invokevirtual 147, 3) := by decide +kernel
theorem dX8_subtractBeam_6 : decode cX8_subtractBeam 6 = .ok (.imul, 1) := by decide +kernel
theorem dX8_subtractBeam_7 : decode cX8_subtractBeam 7 = .ok (.istore_n 3, 1) := by decide +kernel
theorem dX8_subtractBeam_8 : decode cX8_subtractBeam 8 = .ok (.aload_n 0, 1) := by decide +kernel
theorem dX8_subtractBeam_9 : decode cX8_subtractBeam 9 = .ok (.aload_n 1, 1) := by decide +kernel
theorem dX8_subtractBeam_10 : decode cX8_subtractBeam 10 = .ok (.invokevirtual 125, 3) := by decide +kernel
theorem dX8_subtractBeam_13 : decode cX8_subtractBeam 13 = .ok (.istore 4, 2) := by decide +kernel
theorem dX8_subtractBeam_15 : decode cX8_subtractBeam 15 = .ok (.iconst 0, 1) := by decide +kernel
theorem dX8_subtractBeam_16 : decode cX8_subtractBeam 16 = .ok (.istore 5, 2) := by decide +kernel
theorem dX8_subtractBeam_18 : decode cX8_subtractBeam 18 = .ok (.iload 5, 2) := by decide +kernel
theorem dX8_subtractBeam_20 : decode cX8_subtractBeam 20 = .ok (.iload 4, 2) := by decide +kernel
theorem dX8_subtractBeam_22 : decode cX8_subtractBeam 22 = .ok (.if_icmp .ge 105, 3) := by decide +kernel
theorem dX8_subtractBeam_25 : decode cX8_subtractBeam 25 = .ok (.aload_n 0, 1) := by decide +kernel
theorem dX8_subtractBeam_26 : decode cX8_subtractBeam 26 = .ok (.aload_n 1, 1) := by decide +kernel
theorem dX8_subtractBeam_27 : decode cX8_subtractBeam 27 = .ok (.iload 5, 2) := by decide +kernel
theorem dX8_subtractBeam_29 : decode cX8_subtractBeam 29 = .ok (.invokevirtual 135, 3) := by decide +kernel
theorem dX8_subtractBeam_32 : decode cX8_subtractBeam 32 = .ok (.aload_n 0, 1) := by decide +kernel
theorem dX8_subtractBeam_33 : decode cX8_subtractBeam 33 = .ok (.getfield 43, 3) := by decide +kernel
theorem dX8_subtractBeam_36 : decode cX8_subtractBeam 36 = .ok (.iconst 0, 1) := by decide +kernel
theorem dX8_subtractBeam_37 : decode cX8_subtractBeam 37 = .ok (.iload_n 2, 1) := by decide +kernel
theorem dX8_subtractBeam_38 : decode cX8_subtractBeam 38 = .ok (.invokevirtual 151, 3) := by decide +kernel
theorem dX8_subtractBeam_41 : decode cX8_subtractBeam 41 = .ok (.aload_n 0, 1) := by decide +kernel
theorem dX8_subtractBeam_42 : decode cX8_subtractBeam 42 = .ok (.getfield 43, 3) := by decide +kernel
theorem dX8_subtractBeam_45 : decode cX8_subtractBeam 45 = .ok (.iconst 0, 1) := by decide +kernel
theorem dX8_subtractBeam_46 : decode cX8_subtractBeam 46 = .ok (.iload_n 3, 1) := by decide +kernel
theorem dX8_subtractBeam_47 : decode cX8_subtractBeam 47 = .ok (.invokevirtual 143, 3) := by decide +kernel
theorem dX8_subtractBeam_50 : decode cX8_subtractBeam 50 = .ok (.iconst 0, 1) := by decide +kernel
theorem dX8_subtractBeam_51 : decode cX8_subtractBeam 51 = .ok (.istore 6, 2) := by decide +kernel
theorem dX8_subtractBeam_53 : decode cX8_subtractBeam 53 = .ok (.iload 6, 2) := by decide +kernel
theorem dX8_subtractBeam_55 : decode cX8_subtractBeam 55 = .ok (.aload_n 0, 1) := by decide +kernel
theorem dX8_subtractBeam_56 : decode cX8_subtractBeam 56 = .ok (.getfield 52, 3) := by decide +kernel
theorem dX8_subtractBeam_59 : decode cX8_subtractBeam 59 = .ok (.if_icmp .ge 62, 3) := by decide +kernel
theorem dX8_subtractBeam_62 : decode cX8_subtractBeam 62 = .ok (.iload 5, 2) := by decide +kernel
theorem dX8_subtractBeam_64 : decode cX8_subtractBeam 64 = .ok (.aload_n 1, 1) := by decide +kernel
theorem dX8_subtractBeam_65 : decode cX8_subtractBeam 65 = .ok (.iload 6, 2) := by decide +kernel
theorem dX8_subtractBeam_67 : decode cX8_subtractBeam 67 = .ok (.iaload, 1) := by decide +kernel
theorem dX8_subtractBeam_68 : decode cX8_subtractBeam 68 = .ok (.iadd, 1) := by decide +kernel
theorem dX8_subtractBeam_69 : decode cX8_subtractBeam 69 = .ok (.istore 7, 2) := by decide +kernel
theorem dX8_subtractBeam_71 : decode cX8_subtractBeam 71 = .ok (.aload_n 0, 1) := by decide +kernel
theorem dX8_subtractBeam_72 : decode cX8_subtractBeam 72 = .ok (.getfield 9, 3) := by decide +kernel
theorem dX8_subtractBeam_75 : decode cX8_subtractBeam 75 = .ok (.iload 6, 2) := by decide +kernel
theorem dX8_subtractBeam_77 : decode cX8_subtractBeam 77 = .ok (.baload, 1) := by decide +kernel
theorem dX8_subtractBeam_78 : decode cX8_subtractBeam 78 = .ok (.ifCond .ne 37, 3) := by decide +kernel
theorem dX8_subtractBeam_81 : decode cX8_subtractBeam 81 = .ok (.iload 7, 2) := by decide +kernel
theorem dX8_subtractBeam_83 : decode cX8_subtractBeam 83 = .ok (.ifCond .lt 32, 3) := by decide +kernel
theorem dX8_subtractBeam_86 : decode cX8_subtractBeam 86 = .ok (.iload 7, 2) := by decide +kernel
theorem dX8_subtractBeam_88 : decode cX8_subtractBeam 88 = .ok (.aload_n 0, 1) := by decide +kernel
theorem dX8_subtractBeam_89 : decode cX8_subtractBeam 89 = .ok (.getfield 55, 3) := by decide +kernel
theorem dX8_subtractBeam_92 : decode cX8_subtractBeam 92 = .ok (.if_icmp .ge 23, 3) := by decide +kernel
theorem dX8_subtractBeam_95 : decode cX8_subtractBeam 95 = .ok (.aload_n 0, 1) := by decide +kernel
theorem dX8_subtractBeam_96 : decode cX8_subtractBeam 96 = .ok (.getfield 39, 3) := by decide +kernel
theorem dX8_subtractBeam_99 : decode cX8_subtractBeam 99 = .ok (.iload 6, 2) := by decide +kernel
theorem dX8_subtractBeam_101 : decode cX8_subtractBeam 101 = .ok (.iload 7, 2) := by decide +kernel
theorem dX8_subtractBeam_103 : decode cX8_subtractBeam 103 = .ok (.invokestatic 122, 3) := by decide +kernel
theorem dX8_subtractBeam_106 : decode cX8_subtractBeam 106 = .ok (.aload_n 0, 1) := by decide +kernel
theorem dX8_subtractBeam_107 : decode cX8_subtractBeam 107 = .ok (.getfield 43, 3) := by decide +kernel
theorem dX8_subtractBeam_110 : decode cX8_subtractBeam 110 = .ok (.iconst 0, 1) := by decide +kernel
theorem dX8_subtractBeam_111 : decode cX8_subtractBeam 111 = .ok (.iconst (-1), 1) := by decide +kernel
theorem dX8_subtractBeam_112 : decode cX8_subtractBeam 112 = .ok (.invokevirtual 154, 3) := by decide +kernel
theorem dX8_subtractBeam_115 : decode cX8_subtractBeam 115 = .ok (.iinc 6 1, 3) := by decide +kernel
theorem dX8_subtractBeam_118 : decode cX8_subtractBeam 118 = .ok (.goto (-65), 3) := by decide +kernel
theorem dX8_subtractBeam_121 : decode cX8_subtractBeam 121 = .ok (.iinc 5 1, 3) := by decide +kernel
theorem dX8_subtractBeam_124 : decode cX8_subtractBeam 124 = .ok (.goto (-106), 3) := by decide +kernel
theorem dX8_subtractBeam_127 : decode cX8_subtractBeam 127 = .ok (.aload_n 0, 1) := by decide +kernel
theorem dX8_subtractBeam_128 : decode cX8_subtractBeam 128 = .ok (.dup, 1) := by decide +kernel
theorem dX8_subtractBeam_129 : decode cX8_subtractBeam 129 = .ok (.getfield 82, 3) := by decide +kernel
theorem dX8_subtractBeam_132 : decode cX8_subtractBeam 132 = .ok (.iconst 1, 1) := by decide +kernel
theorem dX8_subtractBeam_133 : decode cX8_subtractBeam 133 = .ok (.iadd, 1) := by decide +kernel
theorem dX8_subtractBeam_134 : decode cX8_subtractBeam 134 = .ok (.putfield 82, 3) := by decide +kernel
theorem dX8_subtractBeam_137 : decode cX8_subtractBeam 137 = .ok (.return_, 1) := by decide +kernel
theorem dX9_init_0 : decode cX9_init 0 = .ok (.aload_n 0, 1) := by decide +kernel
theorem dX9_init_1 : decode cX9_init 1 = .ok (.invokespecial 3, 3) := by decide +kernel
theorem dX9_init_4 : decode cX9_init 4 = .ok (.aload_n 0, 1) := by decide +kernel
theorem dX9_init_5 : decode cX9_init 5 = .ok (.sipush 1000, 3) := by decide +kernel
theorem dX9_init_8 : decode cX9_init 8 = .ok (.newarray .int, 2) := by decide +kernel
theorem dX9_init_10 : decode cX9_init 10 = .ok (.putfield 9, 3) := by decide +kernel
theorem dX9_init_13 : decode cX9_init 13 = .ok (.aload_n 0, 1) := by decide +kernel
theorem dX9_init_14 : decode cX9_init 14 = .ok (.sipush 1001, 3) := by decide +kernel
theorem dX9_init_17 : decode cX9_init 17 = .ok (.newarray .int, 2) := by decide +kernel
theorem dX9_init_19 : decode cX9_init 19 = .ok (.putfield 15, 3) := by decide +kernel
theorem dX9_init_22 : decode cX9_init 22 = .ok (.aload_n 0, 1) := by decide +kernel
theorem dX9_init_23 : decode cX9_init 23 = .ok (.sipush 1001, 3) := by decide +kernel
theorem dX9_init_26 : decode cX9_init 26 = .ok (.newarray .int, 2) := by decide +kernel
theorem dX9_init_28 : decode cX9_init 28 = .ok (.putfield 18, 3) := by decide +kernel
theorem dX9_init_31 : decode cX9_init 31 = .ok (.aload_n 0, 1) := by decide +kernel
theorem dX9_init_32 : decode cX9_init 32 = .ok (.sipush 1001, 3) := by decide +kernel
theorem dX9_init_35 : decode cX9_init 35 = .ok (.newarray .int, 2) := by decide +kernel
theorem dX9_init_37 : decode cX9_init 37 = .ok (.putfield 21, 3) := by decide +kernel
theorem dX9_init_40 : decode cX9_init 40 = .ok (.return_, 1) := by decide +kernel
theorem dX9_addWord_0 : decode cX9_addWord 0 = .ok (.bipush 24, 2) := by decide +kernel
theorem dX9_addWord_2 : decode cX9_addWord 2 = .ok (.istore_n 2, 1) := by decide +kernel
theorem dX9_addWord_3 : decode cX9_addWord 3 = .ok (.iload_n 2, 1) := by decide +kernel
theorem dX9_addWord_4 : decode cX9_addWord 4 = .ok (.ifCond .lt 45, 3) := by decide +kernel
theorem dX9_addWord_7 : decode cX9_addWord 7 = .ok (.aload_n 0, 1) := by decide +kernel
theorem dX9_addWord_8 : decode cX9_addWord 8 = .ok (.getfield 24, 3) := by decide +kernel
theorem dX9_addWord_11 : decode cX9_addWord 11 = .ok (.sipush 1000, 3) := by decide +kernel
theorem dX9_addWord_14 : decode cX9_addWord 14 = .ok (.if_icmp .ge 29, 3) := by decide +kernel
theorem dX9_addWord_17 : decode cX9_addWord 17 = .ok (.aload_n 0, 1) := by decide +kernel
theorem dX9_addWord_18 : decode cX9_addWord 18 = .ok (.getfield 9, 3) := by decide +kernel
theorem dX9_addWord_21 : decode cX9_addWord 21 = .ok (.aload_n 0, 1) := by decide +kernel
theorem dX9_addWord_22 : decode cX9_addWord 22 = .ok (.getfield 24, 3) := by decide +kernel
theorem dX9_addWord_25 : decode cX9_addWord 25 = .ok (.iload_n 1, 1) := by decide +kernel
theorem dX9_addWord_26 : decode cX9_addWord 26 = .ok (.iload_n 2, 1) := by decide +kernel
theorem dX9_addWord_27 : decode cX9_addWord 27 = .ok (.iushr, 1) := by decide +kernel
theorem dX9_addWord_28 : decode cX9_addWord 28 = .ok (.sipush 255, 3) := by decide +kernel
theorem dX9_addWord_31 : decode cX9_addWord 31 = .ok (.iand, 1) := by decide +kernel
theorem dX9_addWord_32 : decode cX9_addWord 32 = .ok (.iastore, 1) := by decide +kernel
theorem dX9_addWord_33 : decode cX9_addWord 33 = .ok (.aload_n 0, 1) := by decide +kernel
theorem dX9_addWord_34 : decode cX9_addWord 34 = .ok (.dup, 1) := by decide +kernel
theorem dX9_addWord_35 : decode cX9_addWord 35 = .ok (.getfield 24, 3) := by decide +kernel
theorem dX9_addWord_38 : decode cX9_addWord 38 = .ok (.iconst 1, 1) := by decide +kernel
theorem dX9_addWord_39 : decode cX9_addWord 39 = .ok (.iadd, 1) := by decide +kernel
theorem dX9_addWord_40 : decode cX9_addWord 40 = .ok (.putfield 24, 3) := by decide +kernel
theorem dX9_addWord_43 : decode cX9_addWord 43 = .ok (.iinc 2 (-8), 3) := by decide +kernel
theorem dX9_addWord_46 : decode cX9_addWord 46 = .ok (.goto (-43), 3) := by decide +kernel
theorem dX9_addWord_49 : decode cX9_addWord 49 = .ok (.return_, 1) := by decide +kernel
theorem dX9_cut_0 : decode cX9_cut 0 = .ok (.aload_n 0, 1) := by decide +kernel
theorem dX9_cut_1 : decode cX9_cut 1 = .ok (.iconst 0, 1) := by decide +kernel
theorem dX9_cut_2 : decode cX9_cut 2 = .ok (.putfield 28, 3) := by decide +kernel
theorem dX9_cut_5 : decode cX9_cut 5 = .ok (.iconst 0, 1) := by decide +kernel
theorem dX9_cut_6 : decode cX9_cut 6 = .ok (.istore_n 2, 1) := by decide +kernel
theorem dX9_cut_7 : decode cX9_cut 7 = .ok (.iconst 0, 1) := by decide +kernel
theorem dX9_cut_8 : decode cX9_cut 8 = .ok (.istore_n 3, 1) := by decide +kernel
theorem dX9_cut_9 : decode cX9_cut 9 = .ok (.iload_n 3, 1) := by decide +kernel
theorem dX9_cut_10 : decode cX9_cut 10 = .ok (.iload_n 1, 1) := by decide +kernel
theorem dX9_cut_11 : decode cX9_cut 11 = .ok (.if_icmp .ge 21, 3) := by decide +kernel
theorem dX9_cut_14 : decode cX9_cut 14 = .ok (.iload_n 2, 1) := by decide +kernel
theorem dX9_cut_15 : decode cX9_cut 15 = .ok (.iload_n 1, 1) := by decide +kernel
theorem dX9_cut_16 : decode cX9_cut 16 = .ok (.if_icmp .ge 16, 3) := by decide +kernel
theorem dX9_cut_19 : decode cX9_cut 19 = .ok (.aload_n 0, 1) := by decide +kernel
theorem dX9_cut_20 : decode cX9_cut 20 = .ok (.iload_n 1, 1) := by decide +kernel
theorem dX9_cut_21 : decode cX9_cut 21 = .ok (.iload_n 2, 1) := by decide +kernel
theorem dX9_cut_22 : decode cX9_cut 22 = .ok (.invokevirtual 31, 3) := by decide +kernel
theorem dX9_cut_25 : decode cX9_cut 25 = .ok (.istore_n 2, 1) := by decide +kernel
theorem dX9_cut_26 : decode cX9_cut 26 = .ok (.iinc 3 1, 3) := by decide +kernel
theorem dX9_cut_29 : decode cX9_cut 29 = .ok (.goto (-20), 3) := by decide +kernel
theorem dX9_cut_32 : decode cX9_cut 32 = .ok (.aload_n 0, 1) := by decide +kernel
theorem dX9_cut_33 : decode cX9_cut 33 = .ok (.iconst 5, 1) := by decide +kernel
theorem dX9_cut_34 : decode cX9_cut 34 = .ok (.iload_n 1, 1) := by decide +kernel
theorem dX9_cut_35 : decode cX9_cut 35 = .ok (.iload_n 1, 1) := by decide +kernel
theorem dX9_cut_36 : decode cX9_cut 36 = .ok (.invokevirtual 35, 3) := by decide +kernel
theorem dX9_cut_39 : decode cX9_cut 39 = .ok (.return_, 1) := by decide +kernel
theorem dX9_cutOne_0 : decode cX9_cutOne 0 = .ok (.aload_n 0, 1) := by decide +kernel
theorem dX9_cutOne_1 : decode cX9_cutOne 1 = .ok (.getfield 9, 3) := by decide +kernel
theorem dX9_cutOne_4 : decode cX9_cutOne 4 = .ok (.iload_n 2, 1) := by decide +kernel
theorem dX9_cutOne_5 : decode cX9_cutOne 5 = .ok (.iaload, 1) := by decide +kernel
theorem dX9_cutOne_6 : decode cX9_cutOne 6 = .ok (.istore_n 3, 1) := by decide +kernel
theorem dX9_cutOne_7 : decode cX9_cutOne 7 = .ok (.iload_n 2, 1) := by decide +kernel
theorem dX9_cutOne_8 : decode cX9_cutOne 8 = .ok (.iconst 1, 1) := by decide +kernel
theorem dX9_cutOne_9 : decode cX9_cutOne 9 = .ok (.iadd, 1) := by decide +kernel
theorem dX9_cutOne_10 : decode cX9_cutOne 10 = .ok (.istore 4, 2) := by decide +kernel
theorem dX9_cutOne_12 : decode cX9_cutOne 12 = .ok (.iload_n 3, 1) := by decide +kernel
theorem dX9_cutOne_13 : decode cX9_cutOne 13 = .ok (.bipush 97, 2) := by decide +kernel
theorem dX9_cutOne_15 : decode cX9_cutOne 15 = .ok (.if_icmp .lt 46, 3) := by decide +kernel
theorem dX9_cutOne_18 : decode cX9_cutOne 18 = .ok (.iload_n 3, 1) := by decide +kernel
theorem dX9_cutOne_19 : decode cX9_cutOne 19 = .ok (.bipush 122, 2) := by decide +kernel
theorem dX9_cutOne_21 : decode cX9_cutOne 21 = .ok (.if_icmp .gt 40, 3) := by decide +kernel
theorem dX9_cutOne_24 : decode cX9_cutOne 24 = .ok (.aload_n 0, 1) := by decide +kernel
theorem dX9_cutOne_25 : decode cX9_cutOne 25 = .ok (.iload_n 1, 1) := by decide +kernel
theorem dX9_cutOne_26 : decode cX9_cutOne 26 = .ok (.iload_n 2, 1) := by decide +kernel
theorem dX9_cutOne_27 : decode cX9_cutOne 27 = .ok (.bipush 97, 2) := by decide +kernel
theorem dX9_cutOne_29 : decode cX9_cutOne 29 = .ok (.bipush 122, 2) := by decide +kernel
theorem dX9_cutOne_31 : decode cX9_cutOne 31 = .ok (.invokevirtual 39, 3) := by decide +kernel
theorem dX9_cutOne_34 : decode cX9_cutOne 34 = .ok (.istore 4, 2) := by decide +kernel
theorem dX9_cutOne_36 : decode cX9_cutOne 36 = .ok (.aload_n 0, 1) := by decide +kernel
theorem dX9_cutOne_37 : decode cX9_cutOne 37 = .ok (.iload 4, 2) := by decide +kernel
theorem dX9_cutOne_39 : decode cX9_cutOne 39 = .ok (.iload_n 2, 1) := by decide +kernel
theorem dX9_cutOne_40 : decode cX9_cutOne 40 = .ok (.isub, 1) := by decide +kernel
theorem dX9_cutOne_41 : decode cX9_cutOne 41 = .ok (.bipush 8, 2) := by decide +kernel
theorem dX9_cutOne_43 : decode cX9_cutOne 43 = .ok (.if_icmp .gt 7, 3) := by decide +kernel
theorem dX9_cutOne_46 : decode cX9_cutOne 46 = .ok (.iconst 1, 1) := by decide +kernel
theorem dX9_cutOne_47 : decode cX9_cutOne 47 = .ok (.goto 5, 3) := by decide +kernel
theorem dX9_cutOne_50 : decode cX9_cutOne 50 = .ok (.bipush 6, 2) := by decide +kernel
theorem dX9_cutOne_52 : decode cX9_cutOne 52 = .ok (.iload_n 2, 1) := by decide +kernel
theorem dX9_cutOne_53 : decode cX9_cutOne 53 = .ok (.iload 4, 2) := by decide +kernel
theorem dX9_cutOne_55 : decode cX9_cutOne 55 = .ok (.invokevirtual 35, 3) := by decide +kernel
theorem dX9_cutOne_58 : decode cX9_cutOne 58 = .ok (.goto 100, 3) := by decide +kernel
theorem dX9_cutOne_61 : decode cX9_cutOne 61 = .ok (.iload_n 3, 1) := by decide +kernel
theorem dX9_cutOne_62 : decode cX9_cutOne 62 = .ok (.bipush 48, 2) := by decide +kernel
theorem dX9_cutOne_64 : decode cX9_cutOne 64 = .ok (.if_icmp .lt 45, 3) := by decide +kernel
theorem dX9_cutOne_67 : decode cX9_cutOne 67 = .ok (.iload_n 3, 1) := by decide +kernel
theorem dX9_cutOne_68 : decode cX9_cutOne 68 = .ok (.bipush 57, 2) := by decide +kernel
theorem dX9_cutOne_70 : decode cX9_cutOne 70 = .ok (.if_icmp .gt 39, 3) := by decide +kernel
theorem dX9_cutOne_73 : decode cX9_cutOne 73 = .ok (.aload_n 0, 1) := by decide +kernel
theorem dX9_cutOne_74 : decode cX9_cutOne 74 = .ok (.iload_n 1, 1) := by decide +kernel
theorem dX9_cutOne_75 : decode cX9_cutOne 75 = .ok (.iload_n 2, 1) := by decide +kernel
theorem dX9_cutOne_76 : decode cX9_cutOne 76 = .ok (.bipush 48, 2) := by decide +kernel
theorem dX9_cutOne_78 : decode cX9_cutOne 78 = .ok (.bipush 57, 2) := by decide +kernel
theorem dX9_cutOne_80 : decode cX9_cutOne 80 = .ok (.invokevirtual 39, 3) := by decide +kernel
theorem dX9_cutOne_83 : decode cX9_cutOne 83 = .ok (.istore 4, 2) := by decide +kernel
theorem dX9_cutOne_85 : decode cX9_cutOne 85 = .ok (.aload_n 0, 1) := by decide +kernel
theorem dX9_cutOne_86 : decode cX9_cutOne 86 = .ok (.iload 4, 2) := by decide +kernel
theorem dX9_cutOne_88 : decode cX9_cutOne 88 = .ok (.iload_n 2, 1) := by decide +kernel
theorem dX9_cutOne_89 : decode cX9_cutOne 89 = .ok (.isub, 1) := by decide +kernel
theorem dX9_cutOne_90 : decode cX9_cutOne 90 = .ok (.iconst 4, 1) := by decide +kernel
theorem dX9_cutOne_91 : decode cX9_cutOne 91 = .ok (.if_icmp .gt 7, 3) := by decide +kernel
theorem dX9_cutOne_94 : decode cX9_cutOne 94 = .ok (.iconst 2, 1) := by decide +kernel
theorem dX9_cutOne_95 : decode cX9_cutOne 95 = .ok (.goto 5, 3) := by decide +kernel
theorem dX9_cutOne_98 : decode cX9_cutOne 98 = .ok (.bipush 6, 2) := by decide +kernel
theorem dX9_cutOne_100 : decode cX9_cutOne 100 = .ok (.iload_n 2, 1) := by decide +kernel
theorem dX9_cutOne_101 : decode cX9_cutOne 101 = .ok (.iload 4, 2) := by decide +kernel
theorem dX9_cutOne_103 : decode cX9_cutOne 103 = .ok (.invokevirtual 35, 3) := by decide +kernel
theorem dX9_cutOne_106 : decode cX9_cutOne 106 = .ok (.goto 52, 3) := by decide +kernel
theorem dX9_cutOne_109 : decode cX9_cutOne 109 = .ok (.iload_n 3, 1) := by decide +kernel
theorem dX9_cutOne_110 : decode cX9_cutOne 110 = .ok (.bipush 45, 2) := by decide +kernel
theorem dX9_cutOne_112 : decode cX9_cutOne 112 = .ok (.if_icmp .ne 14, 3) := by decide +kernel
theorem dX9_cutOne_115 : decode cX9_cutOne 115 = .ok (.aload_n 0, 1) := by decide +kernel
theorem dX9_cutOne_116 : decode cX9_cutOne 116 = .ok (.iconst 3, 1) := by decide +kernel
theorem dX9_cutOne_117 : decode cX9_cutOne 117 = .ok (.iload_n 2, 1) := by decide +kernel
theorem dX9_cutOne_118 : decode cX9_cutOne 118 = .ok (.iload 4, 2) := by decide +kernel
theorem dX9_cutOne_120 : decode cX9_cutOne 120 = .ok (.invokevirtual 35, 3) := by decide +kernel
theorem dX9_cutOne_123 : decode cX9_cutOne 123 = .ok (.goto 35, 3) := by decide +kernel
theorem dX9_cutOne_126 : decode cX9_cutOne 126 = .ok (.iload_n 3, 1) := by decide +kernel
theorem dX9_cutOne_127 : decode cX9_cutOne 127 = .ok (.bipush 59, 2) := by decide +kernel
theorem dX9_cutOne_129 : decode cX9_cutOne 129 = .ok (.if_icmp .ne 14, 3) := by decide +kernel
theorem dX9_cutOne_132 : decode cX9_cutOne 132 = .ok (.aload_n 0, 1) := by decide +kernel
theorem dX9_cutOne_133 : decode cX9_cutOne 133 = .ok (.iconst 4, 1) := by decide +kernel
theorem dX9_cutOne_134 : decode cX9_cutOne 134 = .ok (.iload_n 2, 1) := by decide +kernel
theorem dX9_cutOne_135 : decode cX9_cutOne 135 = .ok (.iload 4, 2) := by decide +kernel
theorem dX9_cutOne_137 : decode cX9_cutOne 137 = .ok (.invokevirtual 35, 3) := by decide +kernel
theorem dX9_cutOne_140 : decode cX9_cutOne 140 = .ok (.goto 18, 3) := by decide +kernel
theorem dX9_cutOne_143 : decode cX9_cutOne 143 = .ok (.iload_n 3, 1) := by decide +kernel
theorem dX9_cutOne_144 : decode cX9_cutOne 144 = .ok (.bipush 32, 2) := by decide +kernel
theorem dX9_cutOne_146 : decode cX9_cutOne 146 = .ok (.if_icmp .eq 12, 3) := by decide +kernel
theorem dX9_cutOne_149 : decode cX9_cutOne 149 = .ok (.aload_n 0, 1) := by decide +kernel
theorem dX9_cutOne_150 : decode cX9_cutOne 150 = .ok (.bipush 6, 2) := by decide +kernel
theorem dX9_cutOne_152 : decode cX9_cutOne 152 = .ok (.iload_n 2, 1) := by decide +kernel
theorem dX9_cutOne_153 : decode cX9_cutOne 153 = .ok (.iload 4, 2) := by decide +kernel
theorem dX9_cutOne_155 : decode cX9_cutOne 155 = .ok (.invokevirtual 35, 3) := by decide +kernel
theorem dX9_cutOne_158 : decode cX9_cutOne 158 = .ok (.iload 4, 2) := by decide +kernel
theorem dX9_cutOne_160 : decode cX9_cutOne 160 = .ok (.ireturn, 1) := by decide +kernel
theorem dX9_runEnd_0 : decode cX9_runEnd 0 = .ok (.iload_n 2, 1) := by decide +kernel
theorem dX9_runEnd_1 : decode cX9_runEnd 1 = .ok (.istore 5, 2) := by decide +kernel
theorem dX9_runEnd_3 : decode cX9_runEnd 3 = .ok (.iload 5, 2) := by decide +kernel
theorem dX9_runEnd_5 : decode cX9_runEnd 5 = .ok (.iload_n 1, 1) := by decide +kernel
theorem dX9_runEnd_6 : decode cX9_runEnd 6 = .ok (.if_icmp .ge 35, 3) := by decide +kernel
theorem dX9_runEnd_9 : decode cX9_runEnd 9 = .ok (.aload_n 0, 1) := by decide +kernel
theorem dX9_runEnd_10 : decode cX9_runEnd 10 = .ok (.getfield 9, 3) := by decide +kernel
theorem dX9_runEnd_13 : decode cX9_runEnd 13 = .ok (.iload 5, 2) := by decide +kernel
theorem dX9_runEnd_15 : decode cX9_runEnd 15 = .ok (.iaload, 1) := by decide +kernel
theorem dX9_runEnd_16 : decode cX9_runEnd 16 = .ok (.iload_n 3, 1) := by decide +kernel
theorem dX9_runEnd_17 : decode cX9_runEnd 17 = .ok (.if_icmp .lt 15, 3) := by decide +kernel
theorem dX9_runEnd_20 : decode cX9_runEnd 20 = .ok (.aload_n 0, 1) := by decide +kernel
theorem dX9_runEnd_21 : decode cX9_runEnd 21 = .ok (.getfield 9, 3) := by decide +kernel
theorem dX9_runEnd_24 : decode cX9_runEnd 24 = .ok (.iload 5, 2) := by decide +kernel
theorem dX9_runEnd_26 : decode cX9_runEnd 26 = .ok (.iaload, 1) := by decide +kernel
theorem dX9_runEnd_27 : decode cX9_runEnd 27 = .ok (.iload 4, 2) := by decide +kernel
theorem dX9_runEnd_29 : decode cX9_runEnd 29 = .ok (.if_icmp .le 6, 3) := by decide +kernel
theorem dX9_runEnd_32 : decode cX9_runEnd 32 = .ok (.iload 5, 2) := by decide +kernel
theorem dX9_runEnd_34 : decode cX9_runEnd 34 = .ok (.ireturn, 1) := by decide +kernel
theorem dX9_runEnd_35 : decode cX9_runEnd 35 = .ok (.iinc 5 1, 3) := by decide +kernel
theorem dX9_runEnd_38 : decode cX9_runEnd 38 = .ok (.goto (-35), 3) := by decide +kernel
theorem dX9_runEnd_41 : decode cX9_runEnd 41 = .ok (.iload_n 1, 1) := by decide +kernel
theorem dX9_runEnd_42 : decode cX9_runEnd 42 = .ok (.ireturn, 1) := by decide +kernel
theorem dX9_add_0 : decode cX9_add 0 = .ok (.aload_n 0, 1) := by decide +kernel
theorem dX9_add_1 : decode cX9_add 1 = .ok (.getfield 28, 3) := by decide +kernel
theorem dX9_add_4 : decode cX9_add 4 = .ok (.aload_n 0, 1) := by decide +kernel
theorem dX9_add_5 : decode cX9_add 5 = .ok (.getfield 15, 3) := by decide +kernel
theorem dX9_add_8 : decode cX9_add 8 = .ok (.arraylength, 1) := by decide +kernel
theorem dX9_add_9 : decode cX9_add 9 = .ok (.if_icmp .ge 43, 3) := by decide +kernel
theorem dX9_add_12 : decode cX9_add 12 = .ok (.aload_n 0, 1) := by decide +kernel
theorem dX9_add_13 : decode cX9_add 13 = .ok (.getfield 15, 3) := by decide +kernel
theorem dX9_add_16 : decode cX9_add 16 = .ok (.aload_n 0, 1) := by decide +kernel
theorem dX9_add_17 : decode cX9_add 17 = .ok (.getfield 28, 3) := by decide +kernel
theorem dX9_add_20 : decode cX9_add 20 = .ok (.iload_n 1, 1) := by decide +kernel
theorem dX9_add_21 : decode cX9_add 21 = .ok (.iastore, 1) := by decide +kernel
theorem dX9_add_22 : decode cX9_add 22 = .ok (.aload_n 0, 1) := by decide +kernel
theorem dX9_add_23 : decode cX9_add 23 = .ok (.getfield 18, 3) := by decide +kernel
theorem dX9_add_26 : decode cX9_add 26 = .ok (.aload_n 0, 1) := by decide +kernel
theorem dX9_add_27 : decode cX9_add 27 = .ok (.getfield 28, 3) := by decide +kernel
theorem dX9_add_30 : decode cX9_add 30 = .ok (.iload_n 2, 1) := by decide +kernel
theorem dX9_add_31 : decode cX9_add 31 = .ok (.iastore, 1) := by decide +kernel
theorem dX9_add_32 : decode cX9_add 32 = .ok (.aload_n 0, 1) := by decide +kernel
theorem dX9_add_33 : decode cX9_add 33 = .ok (.getfield 21, 3) := by decide +kernel
theorem dX9_add_36 : decode cX9_add 36 = .ok (.aload_n 0, 1) := by decide +kernel
theorem dX9_add_37 : decode cX9_add 37 = .ok (.getfield 28, 3) := by decide +kernel
theorem dX9_add_40 : decode cX9_add 40 = .ok (.iload_n 3, 1) := by decide +kernel
theorem dX9_add_41 : decode cX9_add 41 = .ok (.iastore, 1) := by decide +kernel
theorem dX9_add_42 : decode cX9_add 42 = .ok (.aload_n 0, 1) := by decide +kernel
theorem dX9_add_43 : decode cX9_add 43 = .ok (.dup, 1) := by decide +kernel
theorem dX9_add_44 : decode cX9_add 44 = .ok (.getfield 28, 3) := by decide +kernel
theorem dX9_add_47 : decode cX9_add 47 = .ok (.iconst 1, 1) := by decide +kernel
theorem dX9_add_48 : decode cX9_add 48 = .ok (.iadd, 1) := by decide +kernel
theorem dX9_add_49 : decode cX9_add 49 = .ok (.putfield 28, 3) := by decide +kernel
theorem dX9_add_52 : decode cX9_add 52 = .ok (.return_, 1) := by decide +kernel
theorem dX10_init_0 : decode cX10_init 0 = .ok (.aload_n 0, 1) := by decide +kernel
theorem dX10_init_1 : decode cX10_init 1 = .ok (.invokespecial 3, 3) := by decide +kernel
theorem dX10_init_4 : decode cX10_init 4 = .ok (.aload_n 0, 1) := by decide +kernel
theorem dX10_init_5 : decode cX10_init 5 = .ok (.bipush 40, 2) := by decide +kernel
theorem dX10_init_7 : decode cX10_init 7 = .ok (.iconst 0, 1) := by decide +kernel
theorem dX10_init_8 : decode cX10_init 8 = .ok (.multianewarray 9 2, 4) := by decide +kernel
theorem dX10_init_12 : decode cX10_init 12 = .ok (.putfield 11, 3) := by decide +kernel
theorem dX10_init_15 : decode cX10_init 15 = .ok (.aload_n 0, 1) := by decide +kernel
theorem dX10_init_16 : decode cX10_init 16 = .ok (.iconst 1, 1) := by decide +kernel
theorem dX10_init_17 : decode cX10_init 17 = .ok (.putfield 16, 3) := by decide +kernel
theorem dX10_init_20 : decode cX10_init 20 = .ok (.aload_n 0, 1) := by decide +kernel
theorem dX10_init_21 : decode cX10_init 21 = .ok (.iload_n 1, 1) := by decide +kernel
theorem dX10_init_22 : decode cX10_init 22 = .ok (.iconst 0, 1) := by decide +kernel
theorem dX10_init_23 : decode cX10_init 23 = .ok (.invokestatic 20, 3) := by decide +kernel
theorem dX10_init_26 : decode cX10_init 26 = .ok (.putfield 26, 3) := by decide +kernel
theorem dX10_init_29 : decode cX10_init 29 = .ok (.aload_n 0, 1) := by decide +kernel
theorem dX10_init_30 : decode cX10_init 30 = .ok (.getfield 11, 3) := by decide +kernel
theorem dX10_init_33 : decode cX10_init 33 = .ok (.iconst 0, 1) := by decide +kernel
theorem dX10_init_34 : decode cX10_init 34 = .ok (.iload_n 1, 1) := by decide +kernel
theorem dX10_init_35 : decode cX10_init 35 = .ok (.iconst 0, 1) := by decide +kernel
theorem dX10_init_36 : decode cX10_init 36 = .ok (.invokestatic 20, 3) := by decide +kernel
theorem dX10_init_39 : decode cX10_init 39 = .ok (.newarray .long, 2) := by decide +kernel
theorem dX10_init_41 : decode cX10_init 41 = .ok (.aastore, 1) := by decide +kernel
theorem dX10_init_42 : decode cX10_init 42 = .ok (.return_, 1) := by decide +kernel
theorem dX10_narrow_0 : decode cX10_narrow 0 = .ok (.aload_n 0, 1) := by decide +kernel
theorem dX10_narrow_1 : decode cX10_narrow 1 = .ok (.iconst 1, 1) := by decide +kernel
theorem dX10_narrow_2 : decode cX10_narrow 2 = .ok (.putfield 16, 3) := by decide +kernel
theorem dX10_narrow_5 : decode cX10_narrow 5 = .ok (.return_, 1) := by decide +kernel
theorem dX10_clear_0 : decode cX10_clear 0 = .ok (.iconst 0, 1) := by decide +kernel
theorem dX10_clear_1 : decode cX10_clear 1 = .ok (.istore_n 2, 1) := by decide +kernel
theorem dX10_clear_2 : decode cX10_clear 2 = .ok (.iload_n 2, 1) := by decide +kernel
theorem dX10_clear_3 : decode cX10_clear 3 = .ok (.aload_n 0, 1) := by decide +kernel
theorem dX10_clear_4 : decode cX10_clear 4 = .ok (.getfield 16, 3) := by decide +kernel
theorem dX10_clear_7 : decode cX10_clear 7 = .ok (.if_icmp .ge 18, 3) := by decide +kernel
theorem dX10_clear_10 : decode cX10_clear 10 = .ok (.aload_n 0, 1) := by decide +kernel
theorem dX10_clear_11 : decode cX10_clear 11 = .ok (.getfield 11, 3) := by decide +kernel
theorem dX10_clear_14 : decode cX10_clear 14 = .ok (.iload_n 2, 1) := by decide +kernel
theorem dX10_clear_15 : decode cX10_clear 15 = .ok (.aaload, 1) := by decide +kernel
theorem dX10_clear_16 : decode cX10_clear 16 = .ok (.iload_n 1, 1) := by decide +kernel
theorem dX10_clear_17 : decode cX10_clear 17 = .ok (.lconst 0, 1) := by decide +kernel
theorem dX10_clear_18 : decode cX10_clear 18 = .ok (.lastore, 1) := by decide +kernel
theorem dX10_clear_19 : decode cX10_clear 19 = .ok (.iinc 2 1, 3) := by decide +kernel
theorem dX10_clear_22 : decode cX10_clear 22 = .ok (.goto (-20), 3) := by decide +kernel
theorem dX10_clear_25 : decode cX10_clear 25 = .ok (.return_, 1) := by decide +kernel
theorem dX10_put_0 : decode cX10_put 0 = .ok (.aload_n 0, 1) := by decide +kernel
theorem dX10_put_1 : decode cX10_put 1 = .ok (.iload_n 1, 1) := by decide +kernel
theorem dX10_put_2 : decode cX10_put 2 = .ok (.invokevirtual 29, 3) := by decide +kernel
theorem dX10_put_5 : decode cX10_put 5 = .ok (.aload_n 0, 1) := by decide +kernel
theorem dX10_put_6 : decode cX10_put 6 = .ok (.getfield 11, 3) := by decide +kernel
theorem dX10_put_9 : decode cX10_put 9 = .ok (.iconst 0, 1) := by decide +kernel
theorem dX10_put_10 : decode cX10_put 10 = .ok (.aaload, 1) := by decide +kernel
theorem dX10_put_11 : decode cX10_put 11 = .ok (.iload_n 1, 1) := by decide +kernel
theorem dX10_put_12 : decode cX10_put 12 = .ok (.iload_n 2, 1) := by decide +kernel
theorem dX10_put_13 : decode cX10_put 13 = .ok (.i2l, 1) := by decide +kernel
theorem dX10_put_14 : decode cX10_put 14 = .ok (.lastore, 1) := by decide +kernel
theorem dX10_put_15 : decode cX10_put 15 = .ok (.aload_n 0, 1) := by decide +kernel
theorem dX10_put_16 : decode cX10_put 16 = .ok (.iload_n 1, 1) := by decide +kernel
theorem dX10_put_17 : decode cX10_put 17 = .ok (.invokevirtual 33, 3) := by decide +kernel
theorem dX10_put_20 : decode cX10_put 20 = .ok (.return_, 1) := by decide +kernel
theorem dX10_set_0 : decode cX10_set 0 = .ok (.aload_n 0, 1) := by decide +kernel
theorem dX10_set_1 : decode cX10_set 1 = .ok (.iload_n 1, 1) := by decide +kernel
theorem dX10_set_2 : decode cX10_set 2 = .ok (.invokevirtual 29, 3) := by decide +kernel
theorem dX10_set_5 : decode cX10_set 5 = .ok (.aload_n 0, 1) := by decide +kernel
theorem dX10_set_6 : decode cX10_set 6 = .ok (.iload_n 1, 1) := by decide +kernel
theorem dX10_set_7 : decode cX10_set 7 = .ok (.aload_n 2, 1) := by decide +kernel
theorem dX10_set_8 : decode cX10_set 8 = .ok (.iload_n 3, 1) := by decide +kernel
theorem dX10_set_9 : decode cX10_set 9 = .ok (.iconst 1, 1) := by decide +kernel
theorem dX10_set_10 : decode cX10_set 10 = .ok (.invokevirtual 36, 3) := by decide +kernel
theorem dX10_set_13 : decode cX10_set 13 = .ok (.return_, 1) := by decide +kernel
theorem dX10_copyFrom_0 : decode cX10_copyFrom 0 = .ok (.aload_n 0, 1) := by decide +kernel
theorem dX10_copyFrom_1 : decode cX10_copyFrom 1 = .ok (.aload_n 1, 1) := by decide +kernel
theorem dX10_copyFrom_2 : decode cX10_copyFrom 2 = .ok (.getfield 16, 3) := by decide +kernel
theorem dX10_copyFrom_5 : decode cX10_copyFrom 5 = .ok (.invokevirtual 40, 3) := by decide +kernel
theorem dX10_copyFrom_8 : decode cX10_copyFrom 8 = .ok (.aload_n 0, 1) := by decide +kernel
theorem dX10_copyFrom_9 : decode cX10_copyFrom 9 = .ok (.aload_n 1, 1) := by decide +kernel
theorem dX10_copyFrom_10 : decode cX10_copyFrom 10 = .ok (.getfield 16, 3) := by decide +kernel
theorem dX10_copyFrom_13 : decode cX10_copyFrom 13 = .ok (.putfield 16, 3) := by decide +kernel
theorem dX10_copyFrom_16 : decode cX10_copyFrom 16 = .ok (.iconst 0, 1) := by decide +kernel
theorem dX10_copyFrom_17 : decode cX10_copyFrom 17 = .ok (.istore_n 2, 1) := by decide +kernel
theorem dX10_copyFrom_18 : decode cX10_copyFrom 18 = .ok (.iload_n 2, 1) := by decide +kernel
theorem dX10_copyFrom_19 : decode cX10_copyFrom 19 = .ok (.aload_n 0, 1) := by decide +kernel
theorem dX10_copyFrom_20 : decode cX10_copyFrom 20 = .ok (.getfield 16, 3) := by decide +kernel
theorem dX10_copyFrom_23 : decode cX10_copyFrom 23 = .ok (.if_icmp .ge 37, 3) := by decide +kernel
theorem dX10_copyFrom_26 : decode cX10_copyFrom 26 = .ok (.aload_n 1, 1) := by decide +kernel
theorem dX10_copyFrom_27 : decode cX10_copyFrom 27 = .ok (.getfield 11, 3) := by decide +kernel
theorem dX10_copyFrom_30 : decode cX10_copyFrom 30 = .ok (.iload_n 2, 1) := by decide +kernel
theorem dX10_copyFrom_31 : decode cX10_copyFrom 31 = .ok (.aaload, 1) := by decide +kernel
theorem dX10_copyFrom_32 : decode cX10_copyFrom 32 = .ok (.iconst 0, 1) := by decide +kernel
theorem dX10_copyFrom_33 : decode cX10_copyFrom 33 = .ok (.aload_n 0, 1) := by decide +kernel
theorem dX10_copyFrom_34 : decode cX10_copyFrom 34 = .ok (.getfield 11, 3) := by decide +kernel
theorem dX10_copyFrom_37 : decode cX10_copyFrom 37 = .ok (.iload_n 2, 1) := by decide +kernel
theorem dX10_copyFrom_38 : decode cX10_copyFrom 38 = .ok (.aaload, 1) := by decide +kernel
theorem dX10_copyFrom_39 : decode cX10_copyFrom 39 = .ok (.iconst 0, 1) := by decide +kernel
theorem dX10_copyFrom_40 : decode cX10_copyFrom 40 = .ok (.aload_n 0, 1) := by decide +kernel
theorem dX10_copyFrom_41 : decode cX10_copyFrom 41 = .ok (.getfield 26, 3) := by decide +kernel
theorem dX10_copyFrom_44 : decode cX10_copyFrom 44 = .ok (.aload_n 1, 1) := by decide +kernel
theorem dX10_copyFrom_45 : decode cX10_copyFrom 45 = .ok (.getfield 26, 3) := by decide +kernel
theorem dX10_copyFrom_48 : decode cX10_copyFrom 48 = .ok (.invokestatic 43, 3) := by decide +kernel
theorem dX10_copyFrom_51 : decode cX10_copyFrom 51 = .ok (.invokestatic 46, 3) := by decide +kernel
theorem dX10_copyFrom_54 : decode cX10_copyFrom 54 = .ok (.iinc 2 1, 3) := by decide +kernel
theorem dX10_copyFrom_57 : decode cX10_copyFrom 57 = .ok (.goto (-39), 3) := by decide +kernel
theorem dX10_copyFrom_60 : decode cX10_copyFrom 60 = .ok (.return_, 1) := by decide +kernel
theorem dX10_add_0 : decode cX10_add 0 = .ok (.aload_n 0, 1) := by decide +kernel
theorem dX10_add_1 : decode cX10_add 1 = .ok (.aload_n 2, 1) := by decide +kernel
theorem dX10_add_2 : decode cX10_add 2 = .ok (.getfield 16, 3) := by decide +kernel
theorem dX10_add_5 : decode cX10_add 5 = .ok (.invokevirtual 40, 3) := by decide +kernel
theorem dX10_add_8 : decode cX10_add 8 = .ok (.iconst 0, 1) := by decide +kernel
theorem dX10_add_9 : decode cX10_add 9 = .ok (.istore 5, 2) := by decide +kernel
theorem dX10_add_11 : decode cX10_add 11 = .ok (.iload 5, 2) := by decide +kernel
theorem dX10_add_13 : decode cX10_add 13 = .ok (.aload_n 2, 1) := by decide +kernel
theorem dX10_add_14 : decode cX10_add 14 = .ok (.getfield 16, 3) := by decide +kernel
theorem dX10_add_17 : decode cX10_add 17 = .ok (.if_icmp .ge 34, 3) := by decide +kernel
theorem dX10_add_20 : decode cX10_add 20 = .ok (.aload_n 0, 1) := by decide +kernel
theorem dX10_add_21 : decode cX10_add 21 = .ok (.getfield 11, 3) := by decide +kernel
theorem dX10_add_24 : decode cX10_add 24 = .ok (.iload 5, 2) := by decide +kernel
theorem dX10_add_26 : decode cX10_add 26 = .ok (.aaload, 1) := by decide +kernel
theorem dX10_add_27 : decode cX10_add 27 = .ok (.iload_n 1, 1) := by decide +kernel
theorem dX10_add_28 : decode cX10_add 28 = .ok (.dup2, 1) := by decide +kernel
theorem dX10_add_29 : decode cX10_add 29 = .ok (.laload, 1) := by decide +kernel
theorem dX10_add_30 : decode cX10_add 30 = .ok (.iload 4, 2) := by decide +kernel
theorem dX10_add_32 : decode cX10_add 32 = .ok (.i2l, 1) := by decide +kernel
theorem dX10_add_33 : decode cX10_add 33 = .ok (.aload_n 2, 1) := by decide +kernel
theorem dX10_add_34 : decode cX10_add 34 = .ok (.getfield 11, 3) := by decide +kernel
theorem dX10_add_37 : decode cX10_add 37 = .ok (.iload 5, 2) := by decide +kernel
theorem dX10_add_39 : decode cX10_add 39 = .ok (.aaload, 1) := by decide +kernel
theorem dX10_add_40 : decode cX10_add 40 = .ok (.iload_n 3, 1) := by decide +kernel
theorem dX10_add_41 : decode cX10_add 41 = .ok (.laload, 1) := by decide +kernel
theorem dX10_add_42 : decode cX10_add 42 = .ok (.lmul, 1) := by decide +kernel
theorem dX10_add_43 : decode cX10_add 43 = .ok (.ladd, 1) := by decide +kernel
theorem dX10_add_44 : decode cX10_add 44 = .ok (.lastore, 1) := by decide +kernel
theorem dX10_add_45 : decode cX10_add 45 = .ok (.iinc 5 1, 3) := by decide +kernel
theorem dX10_add_48 : decode cX10_add 48 = .ok (.goto (-37), 3) := by decide +kernel
theorem dX10_add_51 : decode cX10_add 51 = .ok (.aload_n 0, 1) := by decide +kernel
theorem dX10_add_52 : decode cX10_add 52 = .ok (.iload_n 1, 1) := by decide +kernel
theorem dX10_add_53 : decode cX10_add 53 = .ok (.invokevirtual 33, 3) := by decide +kernel
theorem dX10_add_56 : decode cX10_add 56 = .ok (.return_, 1) := by decide +kernel
theorem dX10_addProduct_0 : decode cX10_addProduct 0 = .ok (.aload_n 0, 1) := by decide +kernel
theorem dX10_addProduct_1 : decode cX10_addProduct 1 = .ok (.aload_n 2, 1) := by decide +kernel
theorem dX10_addProduct_2 : decode cX10_addProduct 2 = .ok (.getfield 16, 3) := by decide +kernel
theorem dX10_addProduct_5 : decode cX10_addProduct 5 = .ok (.aload 4, 2) := by decide +kernel
theorem dX10_addProduct_7 : decode cX10_addProduct 7 = .ok (.getfield 16, 3) := by decide +kernel
theorem dX10_addProduct_10 : decode cX10_addProduct 10 = .ok (.iadd, 1) := by decide +kernel
theorem dX10_addProduct_11 : decode cX10_addProduct 11 = .ok (.invokevirtual 40, 3) := by decide +kernel
theorem dX10_addProduct_14 : decode cX10_addProduct 14 = .ok (.iconst 0, 1) := by decide +kernel
theorem dX10_addProduct_15 : decode cX10_addProduct 15 = .ok (.istore 6, 2) := by decide +kernel
theorem dX10_addProduct_17 : decode cX10_addProduct 17 = .ok (.iload 6, 2) := by decide +kernel
theorem dX10_addProduct_19 : decode cX10_addProduct 19 = .ok (.aload_n 0, 1) := by decide +kernel
theorem dX10_addProduct_20 : decode cX10_addProduct 20 = .ok (.getfield 16, 3) := by decide +kernel
theorem dX10_addProduct_23 : decode cX10_addProduct 23 = .ok (.if_icmp .ge 110, 3) := by decide +kernel
theorem dX10_addProduct_26 : decode cX10_addProduct 26 = .ok (.iload 6, 2) := by decide +kernel
theorem dX10_addProduct_28 : decode cX10_addProduct 28 = .ok (.aload_n 2, 1) := by decide +kernel
theorem dX10_addProduct_29 : decode cX10_addProduct 29 = .ok (.getfield 16, 3) := by decide +kernel
theorem dX10_addProduct_32 : decode cX10_addProduct 32 = .ok (.aload 4, 2) := by decide +kernel
theorem dX10_addProduct_34 : decode cX10_addProduct 34 = .ok (.getfield 16, 3) := by decide +kernel
theorem dX10_addProduct_37 : decode cX10_addProduct 37 = .ok (.iadd, 1) := by decide +kernel
theorem dX10_addProduct_38 : decode cX10_addProduct 38 = .ok (.iconst 1, 1) := by decide +kernel
theorem dX10_addProduct_39 : decode cX10_addProduct 39 = .ok (.isub, 1) := by decide +kernel
theorem dX10_addProduct_40 : decode cX10_addProduct 40 = .ok (.if_icmp .ge 93, 3) := by decide +kernel
theorem dX10_addProduct_43 : decode cX10_addProduct 43 = .ok (.lconst 0, 1) := by decide +kernel
theorem dX10_addProduct_44 : decode cX10_addProduct 44 = .ok (.lstore 7, 2) := by decide +kernel
theorem dX10_addProduct_46 : decode cX10_addProduct 46 = .ok (.iload 6, 2) := by decide +kernel
theorem dX10_addProduct_48 : decode cX10_addProduct 48 = .ok (.aload 4, 2) := by decide +kernel
theorem dX10_addProduct_50 : decode cX10_addProduct 50 = .ok (.getfield 16, 3) := by decide +kernel
theorem dX10_addProduct_53 : decode cX10_addProduct 53 = .ok (.isub, 1) := by decide +kernel
theorem dX10_addProduct_54 : decode cX10_addProduct 54 = .ok (.iconst 1, 1) := by decide +kernel
theorem dX10_addProduct_55 : decode cX10_addProduct 55 = .ok (.iadd, 1) := by decide +kernel
theorem dX10_addProduct_56 : decode cX10_addProduct 56 = .ok (.iconst 0, 1) := by decide +kernel
theorem dX10_addProduct_57 : decode cX10_addProduct 57 = .ok (.invokestatic 20, 3) := by decide +kernel
theorem dX10_addProduct_60 : decode cX10_addProduct 60 = .ok (.istore 9, 2) := by decide +kernel
theorem dX10_addProduct_62 : decode cX10_addProduct 62 = .ok (.iload 9, 2) := by decide +kernel
theorem dX10_addProduct_64 : decode cX10_addProduct 64 = .ok (.iload 6, 2) := by decide +kernel
theorem dX10_addProduct_66 : decode cX10_addProduct 66 = .ok (.if_icmp .gt 47, 3) := by decide +kernel
theorem dX10_addProduct_69 : decode cX10_addProduct 69 = .ok (.iload 9, 2) := by decide +kernel
theorem dX10_addProduct_71 : decode cX10_addProduct 71 = .ok (.aload_n 2, 1) := by decide +kernel
theorem dX10_addProduct_72 : decode cX10_addProduct 72 = .ok (.getfield 16, 3) := by decide +kernel
theorem dX10_addProduct_75 : decode cX10_addProduct 75 = .ok (.if_icmp .ge 38, 3) := by decide +kernel
theorem dX10_addProduct_78 : decode cX10_addProduct 78 = .ok (.lload 7, 2) := by decide +kernel
theorem dX10_addProduct_80 : decode cX10_addProduct 80 = .ok (.aload_n 2, 1) := by decide +kernel
theorem dX10_addProduct_81 : decode cX10_addProduct 81 = .ok (.getfield 11, 3) := by decide +kernel
theorem dX10_addProduct_84 : decode cX10_addProduct 84 = .ok (.iload 9, 2) := by decide +kernel
theorem dX10_addProduct_86 : decode cX10_addProduct 86 = .ok (.aaload, 1) := by decide +kernel
theorem dX10_addProduct_87 : decode cX10_addProduct 87 = .ok (.iload_n 3, 1) := by decide +kernel
theorem dX10_addProduct_88 : decode cX10_addProduct 88 = .ok (.laload, 1) := by decide +kernel
theorem dX10_addProduct_89 : decode cX10_addProduct 89 = .ok (.aload 4, 2) := by decide +kernel
theorem dX10_addProduct_91 : decode cX10_addProduct 91 = .ok (.getfield 11, 3) := by decide +kernel
theorem dX10_addProduct_94 : decode cX10_addProduct 94 = .ok (.iload 6, 2) := by decide +kernel
theorem dX10_addProduct_96 : decode cX10_addProduct 96 = .ok (.iload 9, 2) := by decide +kernel
theorem dX10_addProduct_98 : decode cX10_addProduct 98 = .ok (.isub, 1) := by decide +kernel
theorem dX10_addProduct_99 : decode cX10_addProduct 99 = .ok (.aaload, 1) := by decide +kernel
theorem dX10_addProduct_100 : decode cX10_addProduct 100 = .ok (.iload 5, 2) := by decide +kernel
theorem dX10_addProduct_102 : decode cX10_addProduct 102 = .ok (.laload, 1) := by decide +kernel
theorem dX10_addProduct_103 : decode cX10_addProduct 103 = .ok (.lmul, 1) := by decide +kernel
theorem dX10_addProduct_104 : decode cX10_addProduct 104 = .ok (.ladd, 1) := by decide +kernel
theorem dX10_addProduct_105 : decode cX10_addProduct 105 = .ok (.lstore 7, 2) := by decide +kernel
theorem dX10_addProduct_107 : decode cX10_addProduct 107 = .ok (.iinc 9 1, 3) := by decide +kernel
theorem dX10_addProduct_110 : decode cX10_addProduct 110 = .ok (.goto (-48), 3) := by decide +kernel
theorem dX10_addProduct_113 : decode cX10_addProduct 113 = .ok (.aload_n 0, 1) := by decide +kernel
theorem dX10_addProduct_114 : decode cX10_addProduct 114 = .ok (.getfield 11, 3) := by decide +kernel
theorem dX10_addProduct_117 : decode cX10_addProduct 117 = .ok (.iload 6, 2) := by decide +kernel
theorem dX10_addProduct_119 : decode cX10_addProduct 119 = .ok (.aaload, 1) := by decide +kernel
theorem dX10_addProduct_120 : decode cX10_addProduct 120 = .ok (.iload_n 1, 1) := by decide +kernel
theorem dX10_addProduct_121 : decode cX10_addProduct 121 = .ok (.dup2, 1) := by decide +kernel
theorem dX10_addProduct_122 : decode cX10_addProduct 122 = .ok (.laload, 1) := by decide +kernel
theorem dX10_addProduct_123 : decode cX10_addProduct 123 = .ok (.lload 7, 2) := by decide +kernel
theorem dX10_addProduct_125 : decode cX10_addProduct 125 = .ok (.ladd, 1) := by decide +kernel
theorem dX10_addProduct_126 : decode cX10_addProduct 126 = .ok (.lastore, 1) := by decide +kernel
theorem dX10_addProduct_127 : decode cX10_addProduct 127 = .ok (.iinc 6 1, 3) := by decide +kernel
theorem dX10_addProduct_130 : decode cX10_addProduct 130 = .ok (.goto (-113), 3) := by decide +kernel
theorem dX10_addProduct_133 : decode cX10_addProduct 133 = .ok (.aload_n 0, 1) := by decide +kernel
theorem dX10_addProduct_134 : decode cX10_addProduct 134 = .ok (.iload_n 1, 1) := by decide +kernel
theorem dX10_addProduct_135 : decode cX10_addProduct 135 = .ok (.invokevirtual 33, 3) := by decide +kernel
theorem dX10_addProduct_138 : decode cX10_addProduct 138 = .ok (.return_, 1) := by decide +kernel
theorem dX10_multiply_0 : decode cX10_multiply 0 = .ok (.iconst 0, 1) := by decide +kernel
theorem dX10_multiply_1 : decode cX10_multiply 1 = .ok (.istore_n 3, 1) := by decide +kernel
theorem dX10_multiply_2 : decode cX10_multiply 2 = .ok (.iload_n 3, 1) := by decide +kernel
theorem dX10_multiply_3 : decode cX10_multiply 3 = .ok (.aload_n 0, 1) := by decide +kernel
theorem dX10_multiply_4 : decode cX10_multiply 4 = .ok (.getfield 16, 3) := by decide +kernel
theorem dX10_multiply_7 : decode cX10_multiply 7 = .ok (.if_icmp .ge 22, 3) := by decide +kernel
theorem dX10_multiply_10 : decode cX10_multiply 10 = .ok (.aload_n 0, 1) := by decide +kernel
theorem dX10_multiply_11 : decode cX10_multiply 11 = .ok (.getfield 11, 3) := by decide +kernel
theorem dX10_multiply_14 : decode cX10_multiply 14 = .ok (.iload_n 3, 1) := by decide +kernel
theorem dX10_multiply_15 : decode cX10_multiply 15 = .ok (.aaload, 1) := by decide +kernel
theorem dX10_multiply_16 : decode cX10_multiply 16 = .ok (.iload_n 1, 1) := by decide +kernel
theorem dX10_multiply_17 : decode cX10_multiply 17 = .ok (.dup2, 1) := by decide +kernel
theorem dX10_multiply_18 : decode cX10_multiply 18 = .ok (.laload, 1) := by decide +kernel
theorem dX10_multiply_19 : decode cX10_multiply 19 = .ok (.iload_n 2, 1) := by decide +kernel
theorem dX10_multiply_20 : decode cX10_multiply 20 = .ok (.i2l, 1) := by decide +kernel
theorem dX10_multiply_21 : decode cX10_multiply 21 = .ok (.lmul, 1) := by decide +kernel
theorem dX10_multiply_22 : decode cX10_multiply 22 = .ok (.lastore, 1) := by decide +kernel
theorem dX10_multiply_23 : decode cX10_multiply 23 = .ok (.iinc 3 1, 3) := by decide +kernel
theorem dX10_multiply_26 : decode cX10_multiply 26 = .ok (.goto (-24), 3) := by decide +kernel
theorem dX10_multiply_29 : decode cX10_multiply 29 = .ok (.aload_n 0, 1) := by decide +kernel
theorem dX10_multiply_30 : decode cX10_multiply 30 = .ok (.iload_n 1, 1) := by decide +kernel
theorem dX10_multiply_31 : decode cX10_multiply 31 = .ok (.invokevirtual 33, 3) := by decide +kernel
theorem dX10_multiply_34 : decode cX10_multiply 34 = .ok (.return_, 1) := by decide +kernel
theorem dX10_divide_0 : decode cX10_divide 0 = .ok (.iload_n 2, 1) := by decide +kernel
theorem dX10_divide_1 : decode cX10_divide 1 = .ok (.ifCond .gt 4, 3) := by decide +kernel
theorem dX10_divide_4 : decode cX10_divide 4 = .ok (.return_, 1) := by decide +kernel
theorem dX10_divide_5 : decode cX10_divide 5 = .ok (.aload_n 0, 1) := by decide +kernel
theorem dX10_divide_6 : decode cX10_divide 6 = .ok (.getfield 11, 3) := by decide +kernel
theorem dX10_divide_9 : decode cX10_divide 9 = .ok (.aload_n 0, 1) := by decide +kernel
theorem dX10_divide_10 : decode cX10_divide 10 = .ok (.getfield 16, 3) := by decide +kernel
theorem dX10_divide_13 : decode cX10_divide 13 = .ok (.iconst 1, 1) := by decide +kernel
theorem dX10_divide_14 : decode cX10_divide 14 = .ok (.isub, 1) := by decide +kernel
theorem dX10_divide_15 : decode cX10_divide 15 = .ok (.aaload, 1) := by decide +kernel
theorem dX10_divide_16 : decode cX10_divide 16 = .ok (.iload_n 1, 1) := by decide +kernel
theorem dX10_divide_17 : decode cX10_divide 17 = .ok (.laload, 1) := by decide +kernel
theorem dX10_divide_18 : decode cX10_divide 18 = .ok (.lconst 0, 1) := by decide +kernel
theorem dX10_divide_19 : decode cX10_divide 19 = .ok (.lcmp, 1) := by decide +kernel
theorem dX10_divide_20 : decode cX10_divide 20 = .ok (.ifCond .ge 7, 3) := by decide +kernel
theorem dX10_divide_23 : decode cX10_divide 23 = .ok (.iconst 1, 1) := by decide +kernel
theorem dX10_divide_24 : decode cX10_divide 24 = .ok (.goto 4, 3) := by decide +kernel
theorem dX10_divide_27 : decode cX10_divide 27 = .ok (.iconst 0, 1) := by decide +kernel
theorem dX10_divide_28 : decode cX10_divide 28 = .ok (.istore_n 3, 1) := by decide +kernel
theorem dX10_divide_29 : decode cX10_divide 29 = .ok (.lconst 0, 1) := by decide +kernel
theorem dX10_divide_30 : decode cX10_divide 30 = .ok (.lstore 4, 2) := by decide +kernel
theorem dX10_divide_32 : decode cX10_divide 32 = .ok (.aload_n 0, 1) := by decide +kernel
theorem dX10_divide_33 : decode cX10_divide 33 = .ok (.getfield 16, 3) := by decide +kernel
theorem dX10_divide_36 : decode cX10_divide 36 = .ok (.iconst 1, 1) := by decide +kernel
theorem dX10_divide_37 : decode cX10_divide 37 = .ok (.isub, 1) := by decide +kernel
theorem dX10_divide_38 : decode cX10_divide 38 = .ok (.istore 6, 2) := by decide +kernel
theorem dX10_divide_40 : decode cX10_divide 40 = .ok (.iload 6, 2) := by decide +kernel
theorem dX10_divide_42 : decode cX10_divide 42 = .ok (.ifCond .lt 51, 3) := by decide +kernel
theorem dX10_divide_45 : decode cX10_divide 45 = .ok (.lload 4, 2) := by decide +kernel
theorem dX10_divide_47 : decode cX10_divide 47 = .ok (.bipush 28, 2) := by decide +kernel
theorem dX10_divide_49 : decode cX10_divide 49 = .ok (.lshl, 1) := by decide +kernel
theorem dX10_divide_50 : decode cX10_divide 50 = .ok (.aload_n 0, 1) := by decide +kernel
theorem dX10_divide_51 : decode cX10_divide 51 = .ok (.getfield 11, 3) := by decide +kernel
theorem dX10_divide_54 : decode cX10_divide 54 = .ok (.iload 6, 2) := by decide +kernel
theorem dX10_divide_56 : decode cX10_divide 56 = .ok (.aaload, 1) := by decide +kernel
theorem dX10_divide_57 : decode cX10_divide 57 = .ok (.iload_n 1, 1) := by decide +kernel
theorem dX10_divide_58 : decode cX10_divide 58 = .ok (.laload, 1) := by decide +kernel
theorem dX10_divide_59 : decode cX10_divide 59 = .ok (.ladd, 1) := by decide +kernel
theorem dX10_divide_60 : decode cX10_divide 60 = .ok (.lstore 7, 2) := by decide +kernel
theorem dX10_divide_62 : decode cX10_divide 62 = .ok (.aload_n 0, 1) := by decide +kernel
theorem dX10_divide_63 : decode cX10_divide 63 = .ok (.getfield 11, 3) := by decide +kernel
theorem dX10_divide_66 : decode cX10_divide 66 = .ok (.iload 6, 2) := by decide +kernel
theorem dX10_divide_68 : decode cX10_divide 68 = .ok (.aaload, 1) := by decide +kernel
theorem dX10_divide_69 : decode cX10_divide 69 = .ok (.iload_n 1, 1) := by decide +kernel
theorem dX10_divide_70 : decode cX10_divide 70 = .ok (.lload 7, 2) := by decide +kernel
theorem dX10_divide_72 : decode cX10_divide 72 = .ok (.iload_n 2, 1) := by decide +kernel
theorem dX10_divide_73 : decode cX10_divide 73 = .ok (.i2l, 1) := by decide +kernel
theorem dX10_divide_74 : decode cX10_divide 74 = .ok (.invokestatic 52, 3) := by decide +kernel
theorem dX10_divide_77 : decode cX10_divide 77 = .ok (.lastore, 1) := by decide +kernel
theorem dX10_divide_78 : decode cX10_divide 78 = .ok (.lload 7, 2) := by decide +kernel
theorem dX10_divide_80 : decode cX10_divide 80 = .ok (.iload_n 2, 1) := by decide +kernel
theorem dX10_divide_81 : decode cX10_divide 81 = .ok (.i2l, 1) := by decide +kernel
theorem dX10_divide_82 : decode cX10_divide 82 = .ok (.invokestatic 56, 3) := by decide +kernel
theorem dX10_divide_85 : decode cX10_divide 85 = .ok (.lstore 4, 2) := by decide +kernel
theorem dX10_divide_87 : decode cX10_divide 87 = .ok (.iinc 6 (-1), 3) := by decide +kernel
theorem dX10_divide_90 : decode cX10_divide 90 = .ok (.goto (-50), 3) := by decide +kernel
theorem dX10_divide_93 : decode cX10_divide 93 = .ok (.iload_n 3, 1) := by decide +kernel
theorem dX10_divide_94 : decode cX10_divide 94 = .ok (.ifCond .eq 27, 3) := by decide +kernel
theorem dX10_divide_97 : decode cX10_divide 97 = .ok (.lload 4, 2) := by decide +kernel
theorem dX10_divide_99 : decode cX10_divide 99 = .ok (.lconst 0, 1) := by decide +kernel
theorem dX10_divide_100 : decode cX10_divide 100 = .ok (.lcmp, 1) := by decide +kernel
theorem dX10_divide_101 : decode cX10_divide 101 = .ok (.ifCond .le 20, 3) := by decide +kernel
theorem dX10_divide_104 : decode cX10_divide 104 = .ok (.aload_n 0, 1) := by decide +kernel
theorem dX10_divide_105 : decode cX10_divide 105 = .ok (.getfield 11, 3) := by decide +kernel
theorem dX10_divide_108 : decode cX10_divide 108 = .ok (.iconst 0, 1) := by decide +kernel
theorem dX10_divide_109 : decode cX10_divide 109 = .ok (.aaload, 1) := by decide +kernel
theorem dX10_divide_110 : decode cX10_divide 110 = .ok (.iload_n 1, 1) := by decide +kernel
theorem dX10_divide_111 : decode cX10_divide 111 = .ok (.dup2, 1) := by decide +kernel
theorem dX10_divide_112 : decode cX10_divide 112 = .ok (.laload, 1) := by decide +kernel
theorem dX10_divide_113 : decode cX10_divide 113 = .ok (.lconst 1, 1) := by decide +kernel
theorem dX10_divide_114 : decode cX10_divide 114 = .ok (.ladd, 1) := by decide +kernel
theorem dX10_divide_115 : decode cX10_divide 115 = .ok (.lastore, 1) := by decide +kernel
theorem dX10_divide_116 : decode cX10_divide 116 = .ok (.aload_n 0, 1) := by decide +kernel
theorem dX10_divide_117 : decode cX10_divide 117 = .ok (.iload_n 1, 1) := by decide +kernel
theorem dX10_divide_118 : decode cX10_divide 118 = .ok (.invokevirtual 33, 3) := by decide +kernel
theorem dX10_divide_121 : decode cX10_divide 121 = .ok (.return_, 1) := by decide +kernel
theorem dX10_settle_0 : decode cX10_settle 0 = .ok (.iconst 0, 1) := by decide +kernel
theorem dX10_settle_1 : decode cX10_settle 1 = .ok (.istore_n 2, 1) := by decide +kernel
theorem dX10_settle_2 : decode cX10_settle 2 = .ok (.iload_n 2, 1) := by decide +kernel
theorem dX10_settle_3 : decode cX10_settle 3 = .ok (.iconst 1, 1) := by decide +kernel
theorem dX10_settle_4 : decode cX10_settle 4 = .ok (.iadd, 1) := by decide +kernel
theorem dX10_settle_5 : decode cX10_settle 5 = .ok (.aload_n 0, 1) := by decide +kernel
theorem dX10_settle_6 : decode cX10_settle 6 = .ok (.getfield 16, 3) := by decide +kernel
theorem dX10_settle_9 : decode cX10_settle 9 = .ok (.if_icmp .ge 48, 3) := by decide +kernel
theorem dX10_settle_12 : decode cX10_settle 12 = .ok (.aload_n 0, 1) := by decide +kernel
theorem dX10_settle_13 : decode cX10_settle 13 = .ok (.getfield 11, 3) := by decide +kernel
theorem dX10_settle_16 : decode cX10_settle 16 = .ok (.iload_n 2, 1) := by decide +kernel
theorem dX10_settle_17 : decode cX10_settle 17 = .ok (.aaload, 1) := by decide +kernel
theorem dX10_settle_18 : decode cX10_settle 18 = .ok (.iload_n 1, 1) := by decide +kernel
theorem dX10_settle_19 : decode cX10_settle 19 = .ok (.laload, 1) := by decide +kernel
theorem dX10_settle_20 : decode cX10_settle 20 = .ok (.lstore_n 3, 1) := by decide +kernel
theorem dX10_settle_21 : decode cX10_settle 21 = .ok (.aload_n 0, 1) := by decide +kernel
theorem dX10_settle_22 : decode cX10_settle 22 = .ok (.getfield 11, 3) := by decide +kernel
theorem dX10_settle_25 : decode cX10_settle 25 = .ok (.iload_n 2, 1) := by decide +kernel
theorem dX10_settle_26 : decode cX10_settle 26 = .ok (.aaload, 1) := by decide +kernel
theorem dX10_settle_27 : decode cX10_settle 27 = .ok (.iload_n 1, 1) := by decide +kernel
theorem dX10_settle_28 : decode cX10_settle 28 = .ok (.lload_n 3, 1) := by decide +kernel
theorem dX10_settle_29 : decode cX10_settle 29 = .ok (.ldc2_w 59, 3) := by decide +kernel
theorem dX10_settle_32 : decode cX10_settle 32 = .ok (.land, 1) := by decide +kernel
theorem dX10_settle_33 : decode cX10_settle 33 = .ok (.lastore, 1) := by decide +kernel
theorem dX10_settle_34 : decode cX10_settle 34 = .ok (.aload_n 0, 1) := by decide +kernel
theorem dX10_settle_35 : decode cX10_settle 35 = .ok (.getfield 11, 3) := by decide +kernel
theorem dX10_settle_38 : decode cX10_settle 38 = .ok (.iload_n 2, 1) := by decide +kernel
theorem dX10_settle_39 : decode cX10_settle 39 = .ok (.iconst 1, 1) := by decide +kernel
theorem dX10_settle_40 : decode cX10_settle 40 = .ok (.iadd, 1) := by decide +kernel
theorem dX10_settle_41 : decode cX10_settle 41 = .ok (.aaload, 1) := by decide +kernel
theorem dX10_settle_42 : decode cX10_settle 42 = .ok (.iload_n 1, 1) := by decide +kernel
theorem dX10_settle_43 : decode cX10_settle 43 = .ok (.dup2, 1) := by decide +kernel
theorem dX10_settle_44 : decode cX10_settle 44 = .ok (.laload, 1) := by decide +kernel
theorem dX10_settle_45 : decode cX10_settle 45 = .ok (.lload_n 3, 1) := by decide +kernel
theorem dX10_settle_46 : decode cX10_settle 46 = .ok (.bipush 28, 2) := by decide +kernel
theorem dX10_settle_48 : decode cX10_settle 48 = .ok (.lshr, 1) := by decide +kernel
theorem dX10_settle_49 : decode cX10_settle 49 = .ok (.ladd, 1) := by decide +kernel
theorem dX10_settle_50 : decode cX10_settle 50 = .ok (.lastore, 1) := by decide +kernel
theorem dX10_settle_51 : decode cX10_settle 51 = .ok (.iinc 2 1, 3) := by decide +kernel
theorem dX10_settle_54 : decode cX10_settle 54 = .ok (.goto (-52), 3) := by decide +kernel
theorem dX10_settle_57 : decode cX10_settle 57 = .ok (.aload_n 0, 1) := by decide +kernel
theorem dX10_settle_58 : decode cX10_settle 58 = .ok (.getfield 16, 3) := by decide +kernel
theorem dX10_settle_61 : decode cX10_settle 61 = .ok (.iconst 1, 1) := by decide +kernel
theorem dX10_settle_62 : decode cX10_settle 62 = .ok (.isub, 1) := by decide +kernel
theorem dX10_settle_63 : decode cX10_settle 63 = .ok (.istore_n 2, 1) := by decide +kernel
theorem dX10_settle_64 : decode cX10_settle 64 = .ok (.iload_n 2, 1) := by decide +kernel
theorem dX10_settle_65 : decode cX10_settle 65 = .ok (.iconst 1, 1) := by decide +kernel
theorem dX10_settle_66 : decode cX10_settle 66 = .ok (.iadd, 1) := by decide +kernel
theorem dX10_settle_67 : decode cX10_settle 67 = .ok (.bipush 40, 2) := by decide +kernel
theorem dX10_settle_69 : decode cX10_settle 69 = .ok (.if_icmp .ge 30, 3) := by decide +kernel
theorem dX10_settle_72 : decode cX10_settle 72 = .ok (.aload_n 0, 1) := by decide +kernel
theorem dX10_settle_73 : decode cX10_settle 73 = .ok (.getfield 11, 3) := by decide +kernel
theorem dX10_settle_76 : decode cX10_settle 76 = .ok (.iload_n 2, 1) := by decide +kernel
theorem dX10_settle_77 : decode cX10_settle 77 = .ok (.aaload, 1) := by decide +kernel
theorem dX10_settle_78 : decode cX10_settle 78 = .ok (.iload_n 1, 1) := by decide +kernel
theorem dX10_settle_79 : decode cX10_settle 79 = .ok (.laload, 1) := by decide +kernel
theorem dX10_settle_80 : decode cX10_settle 80 = .ok (.invokestatic 61, 3) := by decide +kernel
theorem dX10_settle_83 : decode cX10_settle 83 = .ok (.ifCond .eq 16, 3) := by decide +kernel
theorem dX10_settle_86 : decode cX10_settle 86 = .ok (.aload_n 0, 1) := by decide +kernel
theorem dX10_settle_87 : decode cX10_settle 87 = .ok (.iload_n 2, 1) := by decide +kernel
theorem dX10_settle_88 : decode cX10_settle 88 = .ok (.iconst 2, 1) := by decide +kernel
theorem dX10_settle_89 : decode cX10_settle 89 = .ok (.iadd, 1) := by decide +kernel
theorem dX10_settle_90 : decode cX10_settle 90 = .ok (.invokevirtual 40, 3) := by decide +kernel
theorem dX10_settle_93 : decode cX10_settle 93 = .ok (.iinc 2 1, 3) := by decide +kernel
theorem dX10_settle_96 : decode cX10_settle 96 = .ok (.goto (-32), 3) := by decide +kernel
theorem dX10_settle_99 : decode cX10_settle 99 = .ok (.return_, 1) := by decide +kernel
theorem dX10_isBeyondPart_0 : decode cX10_isBeyondPart 0 = .ok (.lload_n 0, 1) := by decide +kernel
theorem dX10_isBeyondPart_1 : decode cX10_isBeyondPart 1 = .ok (.bipush 28, 2) := by decide +kernel
theorem dX10_isBeyondPart_3 : decode cX10_isBeyondPart 3 = .ok (.lshr, 1) := by decide +kernel
theorem dX10_isBeyondPart_4 : decode cX10_isBeyondPart 4 = .ok (.lstore_n 2, 1) := by decide +kernel
theorem dX10_isBeyondPart_5 : decode cX10_isBeyondPart 5 = .ok (.lload_n 2, 1) := by decide +kernel
theorem dX10_isBeyondPart_6 : decode cX10_isBeyondPart 6 = .ok (.lconst 0, 1) := by decide +kernel
theorem dX10_isBeyondPart_7 : decode cX10_isBeyondPart 7 = .ok (.lcmp, 1) := by decide +kernel
theorem dX10_isBeyondPart_8 : decode cX10_isBeyondPart 8 = .ok (.ifCond .eq 15, 3) := by decide +kernel
theorem dX10_isBeyondPart_11 : decode cX10_isBeyondPart 11 = .ok (.lload_n 2, 1) := by decide +kernel
theorem dX10_isBeyondPart_12 : decode cX10_isBeyondPart 12 = .ok (.ldc2_w 65, 3) := by decide +kernel
theorem dX10_isBeyondPart_15 : decode cX10_isBeyondPart 15 = .ok (.lcmp, 1) := by decide +kernel
theorem dX10_isBeyondPart_16 : decode cX10_isBeyondPart 16 = .ok (.ifCond .eq 7, 3) := by decide +kernel
theorem dX10_isBeyondPart_19 : decode cX10_isBeyondPart 19 = .ok (.iconst 1, 1) := by decide +kernel
theorem dX10_isBeyondPart_20 : decode cX10_isBeyondPart 20 = .ok (.goto 4, 3) := by decide +kernel
theorem dX10_isBeyondPart_23 : decode cX10_isBeyondPart 23 = .ok (.iconst 0, 1) := by decide +kernel
theorem dX10_isBeyondPart_24 : decode cX10_isBeyondPart 24 = .ok (.ireturn, 1) := by decide +kernel
theorem dX10_widenTo_0 : decode cX10_widenTo 0 = .ok (.aload_n 0, 1) := by decide +kernel
theorem dX10_widenTo_1 : decode cX10_widenTo 1 = .ok (.getfield 16, 3) := by decide +kernel
theorem dX10_widenTo_4 : decode cX10_widenTo 4 = .ok (.istore_n 2, 1) := by decide +kernel
theorem dX10_widenTo_5 : decode cX10_widenTo 5 = .ok (.iload_n 2, 1) := by decide +kernel
theorem dX10_widenTo_6 : decode cX10_widenTo 6 = .ok (.iload_n 1, 1) := by decide +kernel
theorem dX10_widenTo_7 : decode cX10_widenTo 7 = .ok (.if_icmp .ge 101, 3) := by decide +kernel
theorem dX10_widenTo_10 : decode cX10_widenTo 10 = .ok (.iload_n 2, 1) := by decide +kernel
theorem dX10_widenTo_11 : decode cX10_widenTo 11 = .ok (.bipush 40, 2) := by decide +kernel
theorem dX10_widenTo_13 : decode cX10_widenTo 13 = .ok (.if_icmp .ge 95, 3) := by decide +kernel
theorem dX10_widenTo_16 : decode cX10_widenTo 16 = .ok (.aload_n 0, 1) := by decide +kernel
theorem dX10_widenTo_17 : decode cX10_widenTo 17 = .ok (.getfield 11, 3) := by decide +kernel
theorem dX10_widenTo_20 : decode cX10_widenTo 20 = .ok (.iload_n 2, 1) := by decide +kernel
theorem dX10_widenTo_21 : decode cX10_widenTo 21 = .ok (.aaload, 1) := by decide +kernel
theorem dX10_widenTo_22 : decode cX10_widenTo 22 = .ok (.arraylength, 1) := by decide +kernel
theorem dX10_widenTo_23 : decode cX10_widenTo 23 = .ok (.ifCond .ne 15, 3) := by decide +kernel
theorem dX10_widenTo_26 : decode cX10_widenTo 26 = .ok (.aload_n 0, 1) := by decide +kernel
theorem dX10_widenTo_27 : decode cX10_widenTo 27 = .ok (.getfield 11, 3) := by decide +kernel
theorem dX10_widenTo_30 : decode cX10_widenTo 30 = .ok (.iload_n 2, 1) := by decide +kernel
theorem dX10_widenTo_31 : decode cX10_widenTo 31 = .ok (.aload_n 0, 1) := by decide +kernel
theorem dX10_widenTo_32 : decode cX10_widenTo 32 = .ok (.getfield 26, 3) := by decide +kernel
theorem dX10_widenTo_35 : decode cX10_widenTo 35 = .ok (.newarray .long, 2) := by decide +kernel
theorem dX10_widenTo_37 : decode cX10_widenTo 37 = .ok (.aastore, 1) := by decide +kernel
theorem dX10_widenTo_38 : decode cX10_widenTo 38 = .ok (.iconst 0, 1) := by decide +kernel
theorem dX10_widenTo_39 : decode cX10_widenTo 39 = .ok (.istore_n 3, 1) := by decide +kernel
theorem dX10_widenTo_40 : decode cX10_widenTo 40 = .ok (.iload_n 3, 1) := by decide +kernel
theorem dX10_widenTo_41 : decode cX10_widenTo 41 = .ok (.aload_n 0, 1) := by decide +kernel
theorem dX10_widenTo_42 : decode cX10_widenTo 42 = .ok (.getfield 26, 3) := by decide +kernel
theorem dX10_widenTo_45 : decode cX10_widenTo 45 = .ok (.if_icmp .ge 50, 3) := by decide +kernel
theorem dX10_widenTo_48 : decode cX10_widenTo 48 = .ok (.aload_n 0, 1) := by decide +kernel
theorem dX10_widenTo_49 : decode cX10_widenTo 49 = .ok (.getfield 11, 3) := by decide +kernel
theorem dX10_widenTo_52 : decode cX10_widenTo 52 = .ok (.iload_n 2, 1) := by decide +kernel
theorem dX10_widenTo_53 : decode cX10_widenTo 53 = .ok (.iconst 1, 1) := by decide +kernel
theorem dX10_widenTo_54 : decode cX10_widenTo 54 = .ok (.isub, 1) := by decide +kernel
theorem dX10_widenTo_55 : decode cX10_widenTo 55 = .ok (.aaload, 1) := by decide +kernel
theorem dX10_widenTo_56 : decode cX10_widenTo 56 = .ok (.iload_n 3, 1) := by decide +kernel
theorem dX10_widenTo_57 : decode cX10_widenTo 57 = .ok (.laload, 1) := by decide +kernel
theorem dX10_widenTo_58 : decode cX10_widenTo 58 = .ok (.lstore 4, 2) := by decide +kernel
theorem dX10_widenTo_60 : decode cX10_widenTo 60 = .ok (.aload_n 0, 1) := by decide +kernel
theorem dX10_widenTo_61 : decode cX10_widenTo 61 = .ok (.getfield 11, 3) := by decide +kernel
theorem dX10_widenTo_64 : decode cX10_widenTo 64 = .ok (.iload_n 2, 1) := by decide +kernel
theorem dX10_widenTo_65 : decode cX10_widenTo 65 = .ok (.iconst 1, 1) := by decide +kernel
theorem dX10_widenTo_66 : decode cX10_widenTo 66 = .ok (.isub, 1) := by decide +kernel
theorem dX10_widenTo_67 : decode cX10_widenTo 67 = .ok (.aaload, 1) := by decide +kernel
theorem dX10_widenTo_68 : decode cX10_widenTo 68 = .ok (.iload_n 3, 1) := by decide +kernel
theorem dX10_widenTo_69 : decode cX10_widenTo 69 = .ok (.lload 4, 2) := by decide +kernel
theorem dX10_widenTo_71 : decode cX10_widenTo 71 = .ok (.ldc2_w 59, 3) := by decide +kernel
theorem dX10_widenTo_74 : decode cX10_widenTo 74 = .ok (.land, 1) := by decide +kernel
theorem dX10_widenTo_75 : decode cX10_widenTo 75 = .ok (.lastore, 1) := by decide +kernel
theorem dX10_widenTo_76 : decode cX10_widenTo 76 = .ok (.aload_n 0, 1) := by decide +kernel
theorem dX10_widenTo_77 : decode cX10_widenTo 77 = .ok (.getfield 11, 3) := by decide +kernel
theorem dX10_widenTo_80 : decode cX10_widenTo 80 = .ok (.iload_n 2, 1) := by decide +kernel
theorem dX10_widenTo_81 : decode cX10_widenTo 81 = .ok (.aaload, 1) := by decide +kernel
theorem dX10_widenTo_82 : decode cX10_widenTo 82 = .ok (.iload_n 3, 1) := by decide +kernel
theorem dX10_widenTo_83 : decode cX10_widenTo 83 = .ok (.lload 4, 2) := by decide +kernel
theorem dX10_widenTo_85 : decode cX10_widenTo 85 = .ok (.bipush 28, 2) := by decide +kernel
theorem dX10_widenTo_87 : decode cX10_widenTo 87 = .ok (.lshr, 1) := by decide +kernel
theorem dX10_widenTo_88 : decode cX10_widenTo 88 = .ok (.lastore, 1) := by decide +kernel
theorem dX10_widenTo_89 : decode cX10_widenTo 89 = .ok (.iinc 3 1, 3) := by decide +kernel
theorem dX10_widenTo_92 : decode cX10_widenTo 92 = .ok (.goto (-52), 3) := by decide +kernel
theorem dX10_widenTo_95 : decode cX10_widenTo 95 = .ok (.aload_n 0, 1) := by decide +kernel
theorem dX10_widenTo_96 : decode cX10_widenTo 96 = .ok (.iload_n 2, 1) := by decide +kernel
theorem dX10_widenTo_97 : decode cX10_widenTo 97 = .ok (.iconst 1, 1) := by decide +kernel
theorem dX10_widenTo_98 : decode cX10_widenTo 98 = .ok (.iadd, 1) := by decide +kernel
theorem dX10_widenTo_99 : decode cX10_widenTo 99 = .ok (.putfield 16, 3) := by decide +kernel
theorem dX10_widenTo_102 : decode cX10_widenTo 102 = .ok (.iinc 2 1, 3) := by decide +kernel
theorem dX10_widenTo_105 : decode cX10_widenTo 105 = .ok (.goto (-100), 3) := by decide +kernel
theorem dX10_widenTo_108 : decode cX10_widenTo 108 = .ok (.return_, 1) := by decide +kernel
theorem dX10_compare_0 : decode cX10_compare 0 = .ok (.iconst 0, 1) := by decide +kernel
theorem dX10_compare_1 : decode cX10_compare 1 = .ok (.istore_n 3, 1) := by decide +kernel
theorem dX10_compare_2 : decode cX10_compare 2 = .ok (.aload_n 0, 1) := by decide +kernel
theorem dX10_compare_3 : decode cX10_compare 3 = .ok (.getfield 16, 3) := by decide +kernel
theorem dX10_compare_6 : decode cX10_compare 6 = .ok (.iconst 1, 1) := by decide +kernel
theorem dX10_compare_7 : decode cX10_compare 7 = .ok (.isub, 1) := by decide +kernel
theorem dX10_compare_8 : decode cX10_compare 8 = .ok (.istore 4, 2) := by decide +kernel
theorem dX10_compare_10 : decode cX10_compare 10 = .ok (.iload 4, 2) := by decide +kernel
theorem dX10_compare_12 : decode cX10_compare 12 = .ok (.ifCond .lt 35, 3) := by decide +kernel
theorem dX10_compare_15 : decode cX10_compare 15 = .ok (.iload_n 3, 1) := by decide +kernel
theorem dX10_compare_16 : decode cX10_compare 16 = .ok (.ifCond .ne 31, 3) := by decide +kernel
theorem dX10_compare_19 : decode cX10_compare 19 = .ok (.aload_n 0, 1) := by decide +kernel
theorem dX10_compare_20 : decode cX10_compare 20 = .ok (.getfield 11, 3) := by decide +kernel
theorem dX10_compare_23 : decode cX10_compare 23 = .ok (.iload 4, 2) := by decide +kernel
theorem dX10_compare_25 : decode cX10_compare 25 = .ok (.aaload, 1) := by decide +kernel
theorem dX10_compare_26 : decode cX10_compare 26 = .ok (.iload_n 1, 1) := by decide +kernel
theorem dX10_compare_27 : decode cX10_compare 27 = .ok (.laload, 1) := by decide +kernel
theorem dX10_compare_28 : decode cX10_compare 28 = .ok (.aload_n 0, 1) := by decide +kernel
theorem dX10_compare_29 : decode cX10_compare 29 = .ok (.getfield 11, 3) := by decide +kernel
theorem dX10_compare_32 : decode cX10_compare 32 = .ok (.iload 4, 2) := by decide +kernel
theorem dX10_compare_34 : decode cX10_compare 34 = .ok (.aaload, 1) := by decide +kernel
theorem dX10_compare_35 : decode cX10_compare 35 = .ok (.iload_n 2, 1) := by decide +kernel
theorem dX10_compare_36 : decode cX10_compare 36 = .ok (.laload, 1) := by decide +kernel
theorem dX10_compare_37 : decode cX10_compare 37 = .ok (.invokestatic 67, 3) := by decide +kernel
theorem dX10_compare_40 : decode cX10_compare 40 = .ok (.istore_n 3, 1) := by decide +kernel
theorem dX10_compare_41 : decode cX10_compare 41 = .ok (.iinc 4 (-1), 3) := by decide +kernel
theorem dX10_compare_44 : decode cX10_compare 44 = .ok (.goto (-34), 3) := by decide +kernel
theorem dX10_compare_47 : decode cX10_compare 47 = .ok (.iload_n 3, 1) := by decide +kernel
theorem dX10_compare_48 : decode cX10_compare 48 = .ok (.ireturn, 1) := by decide +kernel
theorem dX10_isZero_0 : decode cX10_isZero 0 = .ok (.lconst 0, 1) := by decide +kernel
theorem dX10_isZero_1 : decode cX10_isZero 1 = .ok (.lstore_n 2, 1) := by decide +kernel
theorem dX10_isZero_2 : decode cX10_isZero 2 = .ok (.iconst 0, 1) := by decide +kernel
theorem dX10_isZero_3 : decode cX10_isZero 3 = .ok (.istore 4, 2) := by decide +kernel
theorem dX10_isZero_5 : decode cX10_isZero 5 = .ok (.iload 4, 2) := by decide +kernel
theorem dX10_isZero_7 : decode cX10_isZero 7 = .ok (.aload_n 0, 1) := by decide +kernel
theorem dX10_isZero_8 : decode cX10_isZero 8 = .ok (.getfield 16, 3) := by decide +kernel
theorem dX10_isZero_11 : decode cX10_isZero 11 = .ok (.if_icmp .ge 21, 3) := by decide +kernel
theorem dX10_isZero_14 : decode cX10_isZero 14 = .ok (.lload_n 2, 1) := by decide +kernel
theorem dX10_isZero_15 : decode cX10_isZero 15 = .ok (.aload_n 0, 1) := by decide +kernel
theorem dX10_isZero_16 : decode cX10_isZero 16 = .ok (.getfield 11, 3) := by decide +kernel
theorem dX10_isZero_19 : decode cX10_isZero 19 = .ok (.iload 4, 2) := by decide +kernel
theorem dX10_isZero_21 : decode cX10_isZero 21 = .ok (.aaload, 1) := by decide +kernel
theorem dX10_isZero_22 : decode cX10_isZero 22 = .ok (.iload_n 1, 1) := by decide +kernel
theorem dX10_isZero_23 : decode cX10_isZero 23 = .ok (.laload, 1) := by decide +kernel
theorem dX10_isZero_24 : decode cX10_isZero 24 = .ok (.lor, 1) := by decide +kernel
theorem dX10_isZero_25 : decode cX10_isZero 25 = .ok (.lstore_n 2, 1) := by decide +kernel
theorem dX10_isZero_26 : decode cX10_isZero 26 = .ok (.iinc 4 1, 3) := by decide +kernel
theorem dX10_isZero_29 : decode cX10_isZero 29 = .ok (.goto (-24), 3) := by decide +kernel
theorem dX10_isZero_32 : decode cX10_isZero 32 = .ok (.lload_n 2, 1) := by decide +kernel
theorem dX10_isZero_33 : decode cX10_isZero 33 = .ok (.lconst 0, 1) := by decide +kernel
theorem dX10_isZero_34 : decode cX10_isZero 34 = .ok (.lcmp, 1) := by decide +kernel
theorem dX10_isZero_35 : decode cX10_isZero 35 = .ok (.ifCond .ne 7, 3) := by decide +kernel
theorem dX10_isZero_38 : decode cX10_isZero 38 = .ok (.iconst 1, 1) := by decide +kernel
theorem dX10_isZero_39 : decode cX10_isZero 39 = .ok (.goto 4, 3) := by decide +kernel
theorem dX10_isZero_42 : decode cX10_isZero 42 = .ok (.iconst 0, 1) := by decide +kernel
theorem dX10_isZero_43 : decode cX10_isZero 43 = .ok (.ireturn, 1) := by decide +kernel
theorem dX10_value_0 : decode cX10_value 0 = .ok (.lconst 0, 1) := by decide +kernel
theorem dX10_value_1 : decode cX10_value 1 = .ok (.lstore_n 2, 1) := by decide +kernel
theorem dX10_value_2 : decode cX10_value 2 = .ok (.aload_n 0, 1) := by decide +kernel
theorem dX10_value_3 : decode cX10_value 3 = .ok (.getfield 16, 3) := by decide +kernel
theorem dX10_value_6 : decode cX10_value 6 = .ok (.iconst 1, 1) := by decide +kernel
theorem dX10_value_7 : decode cX10_value 7 = .ok (.isub, 1) := by decide +kernel
theorem dX10_value_8 : decode cX10_value 8 = .ok (.istore 4, 2) := by decide +kernel
theorem dX10_value_10 : decode cX10_value 10 = .ok (.iload 4, 2) := by decide +kernel
theorem dX10_value_12 : decode cX10_value 12 = .ok (.ifCond .lt 24, 3) := by decide +kernel
theorem dX10_value_15 : decode cX10_value 15 = .ok (.lload_n 2, 1) := by decide +kernel
theorem dX10_value_16 : decode cX10_value 16 = .ok (.bipush 28, 2) := by decide +kernel
theorem dX10_value_18 : decode cX10_value 18 = .ok (.lshl, 1) := by decide +kernel
theorem dX10_value_19 : decode cX10_value 19 = .ok (.aload_n 0, 1) := by decide +kernel
theorem dX10_value_20 : decode cX10_value 20 = .ok (.getfield 11, 3) := by decide +kernel
theorem dX10_value_23 : decode cX10_value 23 = .ok (.iload 4, 2) := by decide +kernel
theorem dX10_value_25 : decode cX10_value 25 = .ok (.aaload, 1) := by decide +kernel
theorem dX10_value_26 : decode cX10_value 26 = .ok (.iload_n 1, 1) := by decide +kernel
theorem dX10_value_27 : decode cX10_value 27 = .ok (.laload, 1) := by decide +kernel
theorem dX10_value_28 : decode cX10_value 28 = .ok (.ladd, 1) := by decide +kernel
theorem dX10_value_29 : decode cX10_value 29 = .ok (.lstore_n 2, 1) := by decide +kernel
theorem dX10_value_30 : decode cX10_value 30 = .ok (.iinc 4 (-1), 3) := by decide +kernel
theorem dX10_value_33 : decode cX10_value 33 = .ok (.goto (-23), 3) := by decide +kernel
theorem dX10_value_36 : decode cX10_value 36 = .ok (.lload_n 2, 1) := by decide +kernel
theorem dX10_value_37 : decode cX10_value 37 = .ok (.lreturn, 1) := by decide +kernel
theorem dX10_ratio_0 : decode cX10_ratio 0 = .ok (.aload_n 0, 1) := by decide +kernel
theorem dX10_ratio_1 : decode cX10_ratio 1 = .ok (.iload_n 2, 1) := by decide +kernel
theorem dX10_ratio_2 : decode cX10_ratio 2 = .ok (.invokevirtual 73, 3) := by decide +kernel
theorem dX10_ratio_5 : decode cX10_ratio 5 = .ok (.fstore_n 3, 1) := by decide +kernel
theorem dX10_ratio_6 : decode cX10_ratio 6 = .ok (.fload_n 3, 1) := by decide +kernel
theorem dX10_ratio_7 : decode cX10_ratio 7 = .ok (.fconst 0, 1) := by decide +kernel
theorem dX10_ratio_8 : decode cX10_ratio 8 = .ok (.fcmp .l, 1) := by decide +kernel
theorem dX10_ratio_9 : decode cX10_ratio 9 = .ok (.ifCond .ne 5, 3) := by decide +kernel
theorem dX10_ratio_12 : decode cX10_ratio 12 = .ok (.fconst 0, 1) := by decide +kernel
theorem dX10_ratio_13 : decode cX10_ratio 13 = .ok (.freturn, 1) := by decide +kernel
theorem dX10_ratio_14 : decode cX10_ratio 14 = .ok (.aload_n 0, 1) := by decide +kernel
theorem dX10_ratio_15 : decode cX10_ratio 15 = .ok (.iload_n 1, 1) := by decide +kernel
theorem dX10_ratio_16 : decode cX10_ratio 16 = .ok (.invokevirtual 73, 3) := by decide +kernel
theorem dX10_ratio_19 : decode cX10_ratio 19 = .ok (.fload_n 3, 1) := by decide +kernel
theorem dX10_ratio_20 : decode cX10_ratio 20 = .ok (.fdiv, 1) := by decide +kernel
theorem dX10_ratio_21 : decode cX10_ratio 21 = .ok (.fstore 4, 2) := by decide +kernel
theorem dX10_ratio_23 : decode cX10_ratio 23 = .ok (.aload_n 0, 1) := by decide +kernel
theorem dX10_ratio_24 : decode cX10_ratio 24 = .ok (.iload_n 2, 1) := by decide +kernel
theorem dX10_ratio_25 : decode cX10_ratio 25 = .ok (.invokevirtual 77, 3) := by decide +kernel
theorem dX10_ratio_28 : decode cX10_ratio 28 = .ok (.istore 5, 2) := by decide +kernel
theorem dX10_ratio_30 : decode cX10_ratio 30 = .ok (.iload 5, 2) := by decide +kernel
theorem dX10_ratio_32 : decode cX10_ratio 32 = .ok (.aload_n 0, 1) := by decide +kernel
theorem dX10_ratio_33 : decode cX10_ratio 33 = .ok (.iload_n 1, 1) := by decide +kernel
theorem dX10_ratio_34 : decode cX10_ratio 34 = .ok (.invokevirtual 77, 3) := by decide +kernel
theorem dX10_ratio_37 : decode cX10_ratio 37 = .ok (.if_icmp .ge 16, 3) := by decide +kernel
theorem dX10_ratio_40 : decode cX10_ratio 40 = .ok (.fload 4, 2) := by decide +kernel
theorem dX10_ratio_42 : decode cX10_ratio 42 = .ok (.ldc 81, 2) := by decide +kernel
theorem dX10_ratio_44 : decode cX10_ratio 44 = .ok (.fmul, 1) := by decide +kernel
theorem dX10_ratio_45 : decode cX10_ratio 45 = .ok (.fstore 4, 2) := by decide +kernel
theorem dX10_ratio_47 : decode cX10_ratio 47 = .ok (.iinc 5 1, 3) := by decide +kernel
theorem dX10_ratio_50 : decode cX10_ratio 50 = .ok (.goto (-20), 3) := by decide +kernel
theorem dX10_ratio_53 : decode cX10_ratio 53 = .ok (.fload 4, 2) := by decide +kernel
theorem dX10_ratio_55 : decode cX10_ratio 55 = .ok (.freturn, 1) := by decide +kernel
theorem dX10_leading_0 : decode cX10_leading 0 = .ok (.aload_n 0, 1) := by decide +kernel
theorem dX10_leading_1 : decode cX10_leading 1 = .ok (.iload_n 1, 1) := by decide +kernel
theorem dX10_leading_2 : decode cX10_leading 2 = .ok (.invokevirtual 77, 3) := by decide +kernel
theorem dX10_leading_5 : decode cX10_leading 5 = .ok (.istore_n 2, 1) := by decide +kernel
theorem dX10_leading_6 : decode cX10_leading 6 = .ok (.lconst 0, 1) := by decide +kernel
theorem dX10_leading_7 : decode cX10_leading 7 = .ok (.lstore_n 3, 1) := by decide +kernel
theorem dX10_leading_8 : decode cX10_leading 8 = .ok (.iconst 0, 1) := by decide +kernel
theorem dX10_leading_9 : decode cX10_leading 9 = .ok (.istore 5, 2) := by decide +kernel
theorem dX10_leading_11 : decode cX10_leading 11 = .ok (.iload 5, 2) := by decide +kernel
theorem dX10_leading_13 : decode cX10_leading 13 = .ok (.iload_n 2, 1) := by decide +kernel
theorem dX10_leading_14 : decode cX10_leading 14 = .ok (.if_icmp .ge 21, 3) := by decide +kernel
theorem dX10_leading_17 : decode cX10_leading 17 = .ok (.lload_n 3, 1) := by decide +kernel
theorem dX10_leading_18 : decode cX10_leading 18 = .ok (.aload_n 0, 1) := by decide +kernel
theorem dX10_leading_19 : decode cX10_leading 19 = .ok (.getfield 11, 3) := by decide +kernel
theorem dX10_leading_22 : decode cX10_leading 22 = .ok (.iload 5, 2) := by decide +kernel
theorem dX10_leading_24 : decode cX10_leading 24 = .ok (.aaload, 1) := by decide +kernel
theorem dX10_leading_25 : decode cX10_leading 25 = .ok (.iload_n 1, 1) := by decide +kernel
theorem dX10_leading_26 : decode cX10_leading 26 = .ok (.laload, 1) := by decide +kernel
theorem dX10_leading_27 : decode cX10_leading 27 = .ok (.lor, 1) := by decide +kernel
theorem dX10_leading_28 : decode cX10_leading 28 = .ok (.lstore_n 3, 1) := by decide +kernel
theorem dX10_leading_29 : decode cX10_leading 29 = .ok (.iinc 5 1, 3) := by decide +kernel
theorem dX10_leading_32 : decode cX10_leading 32 = .ok (.goto (-21), 3) := by decide +kernel
theorem dX10_leading_35 : decode cX10_leading 35 = .ok (.aload_n 0, 1) := by decide +kernel
theorem dX10_leading_36 : decode cX10_leading 36 = .ok (.getfield 11, 3) := by decide +kernel
theorem dX10_leading_39 : decode cX10_leading 39 = .ok (.iload_n 2, 1) := by decide +kernel
theorem dX10_leading_40 : decode cX10_leading 40 = .ok (.aaload, 1) := by decide +kernel
theorem dX10_leading_41 : decode cX10_leading 41 = .ok (.iload_n 1, 1) := by decide +kernel
theorem dX10_leading_42 : decode cX10_leading 42 = .ok (.laload, 1) := by decide +kernel
theorem dX10_leading_43 : decode cX10_leading 43 = .ok (.lstore 5, 2) := by decide +kernel
theorem dX10_leading_45 : decode cX10_leading 45 = .ok (.iload_n 2, 1) := by decide +kernel
theorem dX10_leading_46 : decode cX10_leading 46 = .ok (.iconst 1, 1) := by decide +kernel
theorem dX10_leading_47 : decode cX10_leading 47 = .ok (.iadd, 1) := by decide +kernel
theorem dX10_leading_48 : decode cX10_leading 48 = .ok (.aload_n 0, 1) := by decide +kernel
theorem dX10_leading_49 : decode cX10_leading 49 = .ok (.getfield 16, 3) := by decide +kernel
theorem dX10_leading_52 : decode cX10_leading 52 = .ok (.if_icmp .ge 21, 3) := by decide +kernel
theorem dX10_leading_55 : decode cX10_leading 55 = .ok (.lload 5, 2) := by decide +kernel
theorem dX10_leading_57 : decode cX10_leading 57 = .ok (.aload_n 0, 1) := by decide +kernel
theorem dX10_leading_58 : decode cX10_leading 58 = .ok (.getfield 11, 3) := by decide +kernel
theorem dX10_leading_61 : decode cX10_leading 61 = .ok (.iload_n 2, 1) := by decide +kernel
theorem dX10_leading_62 : decode cX10_leading 62 = .ok (.iconst 1, 1) := by decide +kernel
theorem dX10_leading_63 : decode cX10_leading 63 = .ok (.iadd, 1) := by decide +kernel
theorem dX10_leading_64 : decode cX10_leading 64 = .ok (.aaload, 1) := by decide +kernel
theorem dX10_leading_65 : decode cX10_leading 65 = .ok (.iload_n 1, 1) := by decide +kernel
theorem dX10_leading_66 : decode cX10_leading 66 = .ok (.laload, 1) := by decide +kernel
theorem dX10_leading_67 : decode cX10_leading 67 = .ok (.bipush 28, 2) := by decide +kernel
theorem dX10_leading_69 : decode cX10_leading 69 = .ok (.lshl, 1) := by decide +kernel
theorem dX10_leading_70 : decode cX10_leading 70 = .ok (.ladd, 1) := by decide +kernel
theorem dX10_leading_71 : decode cX10_leading 71 = .ok (.lstore 5, 2) := by decide +kernel
theorem dX10_leading_73 : decode cX10_leading 73 = .ok (.lload_n 3, 1) := by decide +kernel
theorem dX10_leading_74 : decode cX10_leading 74 = .ok (.lconst 0, 1) := by decide +kernel
theorem dX10_leading_75 : decode cX10_leading 75 = .ok (.lcmp, 1) := by decide +kernel
theorem dX10_leading_76 : decode cX10_leading 76 = .ok (.ifCond .ne 8, 3) := by decide +kernel
theorem dX10_leading_79 : decode cX10_leading 79 = .ok (.lload 5, 2) := by decide +kernel
theorem dX10_leading_81 : decode cX10_leading 81 = .ok (.goto 7, 3) := by decide +kernel
theorem dX10_leading_84 : decode cX10_leading 84 = .ok (.lload 5, 2) := by decide +kernel
theorem dX10_leading_86 : decode cX10_leading 86 = .ok (.lconst 1, 1) := by decide +kernel
theorem dX10_leading_87 : decode cX10_leading 87 = .ok (.lor, 1) := by decide +kernel
theorem dX10_leading_88 : decode cX10_leading 88 = .ok (.l2f, 1) := by decide +kernel
theorem dX10_leading_89 : decode cX10_leading 89 = .ok (.freturn, 1) := by decide +kernel
theorem dX10_partsBelow_0 : decode cX10_partsBelow 0 = .ok (.aload_n 0, 1) := by decide +kernel
theorem dX10_partsBelow_1 : decode cX10_partsBelow 1 = .ok (.getfield 16, 3) := by decide +kernel
theorem dX10_partsBelow_4 : decode cX10_partsBelow 4 = .ok (.iconst 1, 1) := by decide +kernel
theorem dX10_partsBelow_5 : decode cX10_partsBelow 5 = .ok (.isub, 1) := by decide +kernel
theorem dX10_partsBelow_6 : decode cX10_partsBelow 6 = .ok (.istore_n 2, 1) := by decide +kernel
theorem dX10_partsBelow_7 : decode cX10_partsBelow 7 = .ok (.iload_n 2, 1) := by decide +kernel
theorem dX10_partsBelow_8 : decode cX10_partsBelow 8 = .ok (.iconst 1, 1) := by decide +kernel
theorem dX10_partsBelow_9 : decode cX10_partsBelow 9 = .ok (.if_icmp .le 26, 3) := by decide +kernel
theorem dX10_partsBelow_12 : decode cX10_partsBelow 12 = .ok (.aload_n 0, 1) := by decide +kernel
theorem dX10_partsBelow_13 : decode cX10_partsBelow 13 = .ok (.getfield 11, 3) := by decide +kernel
theorem dX10_partsBelow_16 : decode cX10_partsBelow 16 = .ok (.iload_n 2, 1) := by decide +kernel
theorem dX10_partsBelow_17 : decode cX10_partsBelow 17 = .ok (.aaload, 1) := by decide +kernel
theorem dX10_partsBelow_18 : decode cX10_partsBelow 18 = .ok (.iload_n 1, 1) := by decide +kernel
theorem dX10_partsBelow_19 : decode cX10_partsBelow 19 = .ok (.laload, 1) := by decide +kernel
theorem dX10_partsBelow_20 : decode cX10_partsBelow 20 = .ok (.lconst 0, 1) := by decide +kernel
theorem dX10_partsBelow_21 : decode cX10_partsBelow 21 = .ok (.lcmp, 1) := by decide +kernel
theorem dX10_partsBelow_22 : decode cX10_partsBelow 22 = .ok (.ifCond .eq 7, 3) := by decide +kernel
theorem dX10_partsBelow_25 : decode cX10_partsBelow 25 = .ok (.iload_n 2, 1) := by decide +kernel
theorem dX10_partsBelow_26 : decode cX10_partsBelow 26 = .ok (.iconst 1, 1) := by decide +kernel
theorem dX10_partsBelow_27 : decode cX10_partsBelow 27 = .ok (.isub, 1) := by decide +kernel
theorem dX10_partsBelow_28 : decode cX10_partsBelow 28 = .ok (.ireturn, 1) := by decide +kernel
theorem dX10_partsBelow_29 : decode cX10_partsBelow 29 = .ok (.iinc 2 (-1), 3) := by decide +kernel
theorem dX10_partsBelow_32 : decode cX10_partsBelow 32 = .ok (.goto (-25), 3) := by decide +kernel
theorem dX10_partsBelow_35 : decode cX10_partsBelow 35 = .ok (.iconst 0, 1) := by decide +kernel
theorem dX10_partsBelow_36 : decode cX10_partsBelow 36 = .ok (.ireturn, 1) := by decide +kernel
theorem dX10_ranked_0 : decode cX10_ranked 0 = .ok (.iconst 0, 1) := by decide +kernel
theorem dX10_ranked_1 : decode cX10_ranked 1 = .ok (.istore_n 3, 1) := by decide +kernel
theorem dX10_ranked_2 : decode cX10_ranked 2 = .ok (.iload_n 3, 1) := by decide +kernel
theorem dX10_ranked_3 : decode cX10_ranked 3 = .ok (.iload_n 1, 1) := by decide +kernel
theorem dX10_ranked_4 : decode cX10_ranked 4 = .ok (.if_icmp .ge 63, 3) := by decide +kernel
theorem dX10_ranked_7 : decode cX10_ranked 7 = .ok (.iconst 0, 1) := by decide +kernel
theorem dX10_ranked_8 : decode cX10_ranked 8 = .ok (.istore 4, 2) := by decide +kernel
theorem dX10_ranked_10 : decode cX10_ranked 10 = .ok (.iconst 0, 1) := by decide +kernel
theorem dX10_ranked_11 : decode cX10_ranked 11 = .ok (.istore 5, 2) := by decide +kernel
theorem dX10_ranked_13 : decode cX10_ranked 13 = .ok (.iload 5, 2) := by decide +kernel
theorem dX10_ranked_15 : decode cX10_ranked 15 = .ok (.iload_n 1, 1) := by decide +kernel
theorem dX10_ranked_16 : decode cX10_ranked 16 = .ok (.if_icmp .ge 37, 3) := by decide +kernel
theorem dX10_ranked_19 : decode cX10_ranked 19 = .ok (.aload_n 0, 1) := by decide +kernel
theorem dX10_ranked_20 : decode cX10_ranked 20 = .ok (.iload 5, 2) := by decide +kernel
theorem dX10_ranked_22 : decode cX10_ranked 22 = .ok (.iload_n 3, 1) := by decide +kernel
theorem dX10_ranked_23 : decode cX10_ranked 23 = .ok (.invokevirtual 82, 3) := by decide +kernel
theorem dX10_ranked_26 : decode cX10_ranked 26 = .ok (.istore 6, 2) := by decide +kernel
theorem dX10_ranked_28 : decode cX10_ranked 28 = .ok (.iload 6, 2) := by decide +kernel
theorem dX10_ranked_30 : decode cX10_ranked 30 = .ok (.ifCond .gt 14, 3) := by decide +kernel
theorem dX10_ranked_33 : decode cX10_ranked 33 = .ok (.iload 6, 2) := by decide +kernel
theorem dX10_ranked_35 : decode cX10_ranked 35 = .ok (.ifCond .ne 12, 3) := by decide +kernel
theorem dX10_ranked_38 : decode cX10_ranked 38 = .ok (.iload 5, 2) := by decide +kernel
theorem dX10_ranked_40 : decode cX10_ranked 40 = .ok (.iload_n 3, 1) := by decide +kernel
theorem dX10_ranked_41 : decode cX10_ranked 41 = .ok (.if_icmp .ge 6, 3) := by decide +kernel
theorem dX10_ranked_44 : decode cX10_ranked 44 = .ok (.iinc 4 1, 3) := by decide +kernel
theorem dX10_ranked_47 : decode cX10_ranked 47 = .ok (.iinc 5 1, 3) := by decide +kernel
theorem dX10_ranked_50 : decode cX10_ranked 50 = .ok (.goto (-37), 3) := by decide +kernel
theorem dX10_ranked_53 : decode cX10_ranked 53 = .ok (.iload 4, 2) := by decide +kernel
theorem dX10_ranked_55 : decode cX10_ranked 55 = .ok (.iload_n 2, 1) := by decide +kernel
theorem dX10_ranked_56 : decode cX10_ranked 56 = .ok (.if_icmp .ne 5, 3) := by decide +kernel
theorem dX10_ranked_59 : decode cX10_ranked 59 = .ok (.iload_n 3, 1) := by decide +kernel
theorem dX10_ranked_60 : decode cX10_ranked 60 = .ok (.ireturn, 1) := by decide +kernel
theorem dX10_ranked_61 : decode cX10_ranked 61 = .ok (.iinc 3 1, 3) := by decide +kernel
theorem dX10_ranked_64 : decode cX10_ranked 64 = .ok (.goto (-62), 3) := by decide +kernel
theorem dX10_ranked_67 : decode cX10_ranked 67 = .ok (.iconst (-1), 1) := by decide +kernel
theorem dX10_ranked_68 : decode cX10_ranked 68 = .ok (.ireturn, 1) := by decide +kernel
theorem dX11_init_0 : decode cX11_init 0 = .ok (.aload_n 0, 1) := by decide +kernel
theorem dX11_init_1 : decode cX11_init 1 = .ok (.invokespecial 1, 3) := by decide +kernel
theorem dX11_init_4 : decode cX11_init 4 = .ok (.aload_n 0, 1) := by decide +kernel
theorem dX11_init_5 : decode cX11_init 5 = .ok (.new 7, 3) := by decide +kernel
theorem dX11_init_8 : decode cX11_init 8 = .ok (.dup, 1) := by decide +kernel
theorem dX11_init_9 : decode cX11_init 9 = .ok (.invokespecial 9, 3) := by decide +kernel
theorem dX11_init_12 : decode cX11_init 12 = .ok (.putfield 10, 3) := by decide +kernel
theorem dX11_init_15 : decode cX11_init 15 = .ok (.aload_n 0, 1) := by decide +kernel
theorem dX11_init_16 : decode cX11_init 16 = .ok (.new 16, 3) := by decide +kernel
theorem dX11_init_19 : decode cX11_init 19 = .ok (.dup, 1) := by decide +kernel
theorem dX11_init_20 : decode cX11_init 20 = .ok (.aload_n 0, 1) := by decide +kernel
theorem dX11_init_21 : decode cX11_init 21 = .ok (.getfield 10, 3) := by decide +kernel
theorem dX11_init_24 : decode cX11_init 24 = .ok (.invokespecial 18, 3) := by decide +kernel
theorem dX11_init_27 : decode cX11_init 27 = .ok (.putfield 21, 3) := by decide +kernel
theorem dX11_init_30 : decode cX11_init 30 = .ok (.aload_n 0, 1) := by decide +kernel
theorem dX11_init_31 : decode cX11_init 31 = .ok (.new 25, 3) := by decide +kernel
theorem dX11_init_34 : decode cX11_init 34 = .ok (.dup, 1) := by decide +kernel
theorem dX11_init_35 : decode cX11_init 35 = .ok (.invokespecial 27, 3) := by decide +kernel
theorem dX11_init_38 : decode cX11_init 38 = .ok (.putfield 28, 3) := by decide +kernel
theorem dX11_init_41 : decode cX11_init 41 = .ok (.aload_n 0, 1) := by decide +kernel
theorem dX11_init_42 : decode cX11_init 42 = .ok (.new 32, 3) := by decide +kernel
theorem dX11_init_45 : decode cX11_init 45 = .ok (.dup, 1) := by decide +kernel
theorem dX11_init_46 : decode cX11_init 46 = .ok (.invokespecial 34, 3) := by decide +kernel
theorem dX11_init_49 : decode cX11_init 49 = .ok (.putfield 35, 3) := by decide +kernel
theorem dX11_init_52 : decode cX11_init 52 = .ok (.aload_n 0, 1) := by decide +kernel
theorem dX11_init_53 : decode cX11_init 53 = .ok (.new 39, 3) := by decide +kernel
theorem dX11_init_56 : decode cX11_init 56 = .ok (.dup, 1) := by decide +kernel
theorem dX11_init_57 : decode cX11_init 57 = .ok (.invokespecial 41, 3) := by decide +kernel
theorem dX11_init_60 : decode cX11_init 60 = .ok (.putfield 42, 3) := by decide +kernel
theorem dX11_init_63 : decode cX11_init 63 = .ok (.aload_n 0, 1) := by decide +kernel
theorem dX11_init_64 : decode cX11_init 64 = .ok (.new 39, 3) := by decide +kernel
theorem dX11_init_67 : decode cX11_init 67 = .ok (.dup, 1) := by decide +kernel
theorem dX11_init_68 : decode cX11_init 68 = .ok (.invokespecial 41, 3) := by decide +kernel
theorem dX11_init_71 : decode cX11_init 71 = .ok (.putfield 46, 3) := by decide +kernel
theorem dX11_init_74 : decode cX11_init 74 = .ok (.aload_n 0, 1) := by decide +kernel
theorem dX11_init_75 : decode cX11_init 75 = .ok (.new 49, 3) := by decide +kernel
theorem dX11_init_78 : decode cX11_init 78 = .ok (.dup, 1) := by decide +kernel
theorem dX11_init_79 : decode cX11_init 79 = .ok (.invokespecial 51, 3) := by decide +kernel
theorem dX11_init_82 : decode cX11_init 82 = .ok (.putfield 52, 3) := by decide +kernel
theorem dX11_init_85 : decode cX11_init 85 = .ok (.aload_n 0, 1) := by decide +kernel
theorem dX11_init_86 : decode cX11_init 86 = .ok (.new 49, 3) := by decide +kernel
theorem dX11_init_89 : decode cX11_init 89 = .ok (.dup, 1) := by decide +kernel
theorem dX11_init_90 : decode cX11_init 90 = .ok (.invokespecial 51, 3) := by decide +kernel
theorem dX11_init_93 : decode cX11_init 93 = .ok (.putfield 56, 3) := by decide +kernel
theorem dX11_init_96 : decode cX11_init 96 = .ok (.aload_n 0, 1) := by decide +kernel
theorem dX11_init_97 : decode cX11_init 97 = .ok (.bipush 6, 2) := by decide +kernel
theorem dX11_init_99 : decode cX11_init 99 = .ok (.anewarray 49, 3) := by decide +kernel
theorem dX11_init_102 : decode cX11_init 102 = .ok (.putfield 59, 3) := by decide +kernel
theorem dX11_init_105 : decode cX11_init 105 = .ok (.aload_n 0, 1) := by decide +kernel
theorem dX11_init_106 : decode cX11_init 106 = .ok (.iconst 2, 1) := by decide +kernel
theorem dX11_init_107 : decode cX11_init 107 = .ok (.anewarray 49, 3) := by decide +kernel
theorem dX11_init_110 : decode cX11_init 110 = .ok (.putfield 63, 3) := by decide +kernel
theorem dX11_init_113 : decode cX11_init 113 = .ok (.aload_n 0, 1) := by decide +kernel
theorem dX11_init_114 : decode cX11_init 114 = .ok (.iconst 2, 1) := by decide +kernel
theorem dX11_init_115 : decode cX11_init 115 = .ok (.newarray .boolean, 2) := by decide +kernel
theorem dX11_init_117 : decode cX11_init 117 = .ok (.putfield 66, 3) := by decide +kernel
theorem dX11_init_120 : decode cX11_init 120 = .ok (.aload_n 0, 1) := by decide +kernel
theorem dX11_init_121 : decode cX11_init 121 = .ok (.bipush 12, 2) := by decide +kernel
theorem dX11_init_123 : decode cX11_init 123 = .ok (.newarray .int, 2) := by decide +kernel
theorem dX11_init_125 : decode cX11_init 125 = .ok (.putfield 70, 3) := by decide +kernel
theorem dX11_init_128 : decode cX11_init 128 = .ok (.aload_n 0, 1) := by decide +kernel
theorem dX11_init_129 : decode cX11_init 129 = .ok (.new 74, 3) := by decide +kernel
theorem dX11_init_132 : decode cX11_init 132 = .ok (.dup, 1) := by decide +kernel
theorem dX11_init_133 : decode cX11_init 133 = .ok (.bipush 12, 2) := by decide +kernel
theorem dX11_init_135 : decode cX11_init 135 = .ok (.invokespecial 76, 3) := by decide +kernel
theorem dX11_init_138 : decode cX11_init 138 = .ok (.putfield 79, 3) := by decide +kernel
theorem dX11_init_141 : decode cX11_init 141 = .ok (.aload_n 0, 1) := by decide +kernel
theorem dX11_init_142 : decode cX11_init 142 = .ok (.sipush 155, 3) := by decide +kernel
theorem dX11_init_145 : decode cX11_init 145 = .ok (.newarray .int, 2) := by decide +kernel
theorem dX11_init_147 : decode cX11_init 147 = .ok (.putfield 83, 3) := by decide +kernel
theorem dX11_init_150 : decode cX11_init 150 = .ok (.aload_n 0, 1) := by decide +kernel
theorem dX11_init_151 : decode cX11_init 151 = .ok (.new 86, 3) := by decide +kernel
theorem dX11_init_154 : decode cX11_init 154 = .ok (.dup, 1) := by decide +kernel
theorem dX11_init_155 : decode cX11_init 155 = .ok (.invokespecial 88, 3) := by decide +kernel
theorem dX11_init_158 : decode cX11_init 158 = .ok (.putfield 89, 3) := by decide +kernel
theorem dX11_init_161 : decode cX11_init 161 = .ok (.aload_n 0, 1) := by decide +kernel
theorem dX11_init_162 : decode cX11_init 162 = .ok (.new 86, 3) := by decide +kernel
theorem dX11_init_165 : decode cX11_init 165 = .ok (.dup, 1) := by decide +kernel
theorem dX11_init_166 : decode cX11_init 166 = .ok (.invokespecial 88, 3) := by decide +kernel
theorem dX11_init_169 : decode cX11_init 169 = .ok (.putfield 93, 3) := by decide +kernel
theorem dX11_init_172 : decode cX11_init 172 = .ok (.iconst 0, 1) := by decide +kernel
theorem dX11_init_173 : decode cX11_init 173 = .ok (.istore_n 1, 1) := by decide +kernel
theorem dX11_init_174 : decode cX11_init 174 = .ok (.iload_n 1, 1) := by decide +kernel
theorem dX11_init_175 : decode cX11_init 175 = .ok (.bipush 6, 2) := by decide +kernel
theorem dX11_init_177 : decode cX11_init 177 = .ok (.if_icmp .ge 22, 3) := by decide +kernel
theorem dX11_init_180 : decode cX11_init 180 = .ok (.aload_n 0, 1) := by decide +kernel
theorem dX11_init_181 : decode cX11_init 181 = .ok (.getfield 59, 3) := by decide +kernel
theorem dX11_init_184 : decode cX11_init 184 = .ok (.iload_n 1, 1) := by decide +kernel
theorem dX11_init_185 : decode cX11_init 185 = .ok (.new 49, 3) := by decide +kernel
theorem dX11_init_188 : decode cX11_init 188 = .ok (.dup, 1) := by decide +kernel
theorem dX11_init_189 : decode cX11_init 189 = .ok (.invokespecial 51, 3) := by decide +kernel
theorem dX11_init_192 : decode cX11_init 192 = .ok (.aastore, 1) := by decide +kernel
theorem dX11_init_193 : decode cX11_init 193 = .ok (.iinc 1 1, 3) := by decide +kernel
theorem dX11_init_196 : decode cX11_init 196 = .ok (.goto (-22), 3) := by decide +kernel
theorem dX11_init_199 : decode cX11_init 199 = .ok (.iconst 0, 1) := by decide +kernel
theorem dX11_init_200 : decode cX11_init 200 = .ok (.istore_n 1, 1) := by decide +kernel
theorem dX11_init_201 : decode cX11_init 201 = .ok (.iload_n 1, 1) := by decide +kernel
theorem dX11_init_202 : decode cX11_init 202 = .ok (.iconst 2, 1) := by decide +kernel
theorem dX11_init_203 : decode cX11_init 203 = .ok (.if_icmp .ge 22, 3) := by decide +kernel
theorem dX11_init_206 : decode cX11_init 206 = .ok (.aload_n 0, 1) := by decide +kernel
theorem dX11_init_207 : decode cX11_init 207 = .ok (.getfield 63, 3) := by decide +kernel
theorem dX11_init_210 : decode cX11_init 210 = .ok (.iload_n 1, 1) := by decide +kernel
theorem dX11_init_211 : decode cX11_init 211 = .ok (.new 49, 3) := by decide +kernel
theorem dX11_init_214 : decode cX11_init 214 = .ok (.dup, 1) := by decide +kernel
theorem dX11_init_215 : decode cX11_init 215 = .ok (.invokespecial 51, 3) := by decide +kernel
theorem dX11_init_218 : decode cX11_init 218 = .ok (.aastore, 1) := by decide +kernel
theorem dX11_init_219 : decode cX11_init 219 = .ok (.iinc 1 1, 3) := by decide +kernel
theorem dX11_init_222 : decode cX11_init 222 = .ok (.goto (-21), 3) := by decide +kernel
theorem dX11_init_225 : decode cX11_init 225 = .ok (.return_, 1) := by decide +kernel
theorem dX11_append_0 : decode cX11_append 0 = .ok (.aload_n 0, 1) := by decide +kernel
theorem dX11_append_1 : decode cX11_append 1 = .ok (.getfield 10, 3) := by decide +kernel
theorem dX11_append_4 : decode cX11_append 4 = .ok (.getfield 96, 3) := by decide +kernel
theorem dX11_append_7 : decode cX11_append 7 = .ok (.bipush 20, 2) := by decide +kernel
theorem dX11_append_9 : decode cX11_append 9 = .ok (.iadd, 1) := by decide +kernel
theorem dX11_append_10 : decode cX11_append 10 = .ok (.sipush 1000, 3) := by decide +kernel
theorem dX11_append_13 : decode cX11_append 13 = .ok (.if_icmp .le 5, 3) := by decide +kernel
theorem dX11_append_16 : decode cX11_append 16 = .ok (.iconst (-1), 1) := by decide +kernel
theorem dX11_append_17 : decode cX11_append 17 = .ok (.ireturn, 1) := by decide +kernel
theorem dX11_append_18 : decode cX11_append 18 = .ok (.aload_n 0, 1) := by decide +kernel
theorem dX11_append_19 : decode cX11_append 19 = .ok (.getfield 10, 3) := by decide +kernel
theorem dX11_append_22 : decode cX11_append 22 = .ok (.iload_n 1, 1) := by decide +kernel
theorem dX11_append_23 : decode cX11_append 23 = .ok (.invokevirtual 100, 3) := by decide +kernel
theorem dX11_append_26 : decode cX11_append 26 = .ok (.aload_n 0, 1) := by decide +kernel
theorem dX11_append_27 : decode cX11_append 27 = .ok (.getfield 10, 3) := by decide +kernel
theorem dX11_append_30 : decode cX11_append 30 = .ok (.iload_n 2, 1) := by decide +kernel
theorem dX11_append_31 : decode cX11_append 31 = .ok (.invokevirtual 100, 3) := by decide +kernel
theorem dX11_append_34 : decode cX11_append 34 = .ok (.aload_n 0, 1) := by decide +kernel
theorem dX11_append_35 : decode cX11_append 35 = .ok (.getfield 10, 3) := by decide +kernel
theorem dX11_append_38 : decode cX11_append 38 = .ok (.iload_n 3, 1) := by decide +kernel
theorem dX11_append_39 : decode cX11_append 39 = .ok (.invokevirtual 100, 3) := by decide +kernel
theorem dX11_append_42 : decode cX11_append 42 = .ok (.aload_n 0, 1) := by decide +kernel
theorem dX11_append_43 : decode cX11_append 43 = .ok (.getfield 10, 3) := by decide +kernel
theorem dX11_append_46 : decode cX11_append 46 = .ok (.iload 4, 2) := by decide +kernel
theorem dX11_append_48 : decode cX11_append 48 = .ok (.invokevirtual 100, 3) := by decide +kernel
theorem dX11_append_51 : decode cX11_append 51 = .ok (.aload_n 0, 1) := by decide +kernel
theorem dX11_append_52 : decode cX11_append 52 = .ok (.getfield 10, 3) := by decide +kernel
theorem dX11_append_55 : decode cX11_append 55 = .ok (.iload 5, 2) := by decide +kernel
theorem dX11_append_57 : decode cX11_append 57 = .ok (.invokevirtual 100, 3) := by decide +kernel
theorem dX11_append_60 : decode cX11_append 60 = .ok (.aload_n 0, 1) := by decide +kernel
theorem dX11_append_61 : decode cX11_append 61 = .ok (.getfield 10, 3) := by decide +kernel
theorem dX11_append_64 : decode cX11_append 64 = .ok (.getfield 96, 3) := by decide +kernel
theorem dX11_append_67 : decode cX11_append 67 = .ok (.ireturn, 1) := by decide +kernel
theorem dX11_load_0 : decode cX11_load 0 = .ok (.iload_n 1, 1) := by decide +kernel
theorem dX11_load_1 : decode cX11_load 1 = .ok (.ifCond .lt 14, 3) := by decide +kernel
theorem dX11_load_4 : decode cX11_load 4 = .ok (.iload_n 1, 1) := by decide +kernel
theorem dX11_load_5 : decode cX11_load 5 = .ok (.aload_n 0, 1) := by decide +kernel
theorem dX11_load_6 : decode cX11_load 6 = .ok (.getfield 10, 3) := by decide +kernel
theorem dX11_load_9 : decode cX11_load 9 = .ok (.getfield 96, 3) := by decide +kernel
theorem dX11_load_12 : decode cX11_load 12 = .ok (.if_icmp .le 11, 3) := by decide +kernel
theorem dX11_load_15 : decode cX11_load 15 = .ok (.new 103, 3) := by decide +kernel
theorem dX11_load_18 : decode cX11_load 18 = .ok (.dup, 1) := by decide +kernel
theorem dX11_load_19 : decode cX11_load 19 = .ok (.invokespecial 105, 3) := by decide +kernel
theorem dX11_load_22 : decode cX11_load 22 = .ok (.athrow, 1) := by decide +kernel
theorem dX11_load_23 : decode cX11_load 23 = .ok (.aload_n 0, 1) := by decide +kernel
theorem dX11_load_24 : decode cX11_load 24 = .ok (.getfield 10, 3) := by decide +kernel
theorem dX11_load_27 : decode cX11_load 27 = .ok (.iconst 0, 1) := by decide +kernel
theorem dX11_load_28 : decode cX11_load 28 = .ok (.putfield 96, 3) := by decide +kernel
theorem dX11_load_31 : decode cX11_load 31 = .ok (.aload_n 0, 1) := by decide +kernel
theorem dX11_load_32 : decode cX11_load 32 = .ok (.getfield 21, 3) := by decide +kernel
theorem dX11_load_35 : decode cX11_load 35 = .ok (.iload_n 1, 1) := by decide +kernel
theorem dX11_load_36 : decode cX11_load 36 = .ok (.aload_n 0, 1) := by decide +kernel
theorem dX11_load_37 : decode cX11_load 37 = .ok (.getfield 93, 3) := by decide +kernel
theorem dX11_load_40 : decode cX11_load 40 = .ok (.invokevirtual 106, 3) := by decide +kernel
theorem dX11_load_43 : decode cX11_load 43 = .ok (.aload_n 0, 1) := by decide +kernel
theorem dX11_load_44 : decode cX11_load 44 = .ok (.getfield 89, 3) := by decide +kernel
theorem dX11_load_47 : decode cX11_load 47 = .ok (.astore_n 2, 1) := by decide +kernel
theorem dX11_load_48 : decode cX11_load 48 = .ok (.aload_n 0, 1) := by decide +kernel
theorem dX11_load_49 : decode cX11_load 49 = .ok (.aload_n 0, 1) := by decide +kernel
theorem dX11_load_50 : decode cX11_load 50 = .ok (.getfield 93, 3) := by decide +kernel
theorem dX11_load_53 : decode cX11_load 53 = .ok (.putfield 89, 3) := by decide +kernel
theorem dX11_load_56 : decode cX11_load 56 = .ok (.aload_n 0, 1) := by decide +kernel
theorem dX11_load_57 : decode cX11_load 57 = .ok (.aload_n 2, 1) := by decide +kernel
theorem dX11_load_58 : decode cX11_load 58 = .ok (.putfield 93, 3) := by decide +kernel
theorem dX11_load_61 : decode cX11_load 61 = .ok (.aload_n 0, 1) := by decide +kernel
theorem dX11_load_62 : decode cX11_load 62 = .ok (.invokevirtual 110, 3) := by decide +kernel
theorem dX11_load_65 : decode cX11_load 65 = .ok (.aload_n 0, 1) := by decide +kernel
theorem dX11_load_66 : decode cX11_load 66 = .ok (.getfield 89, 3) := by decide +kernel
theorem dX11_load_69 : decode cX11_load 69 = .ok (.getfield 113, 3) := by decide +kernel
theorem dX11_load_72 : decode cX11_load 72 = .ok (.invokevirtual 117, 3) := by decide +kernel
theorem dX11_load_75 : decode cX11_load 75 = .ok (.ireturn, 1) := by decide +kernel
theorem dX11_parseError_0 : decode cX11_parseError 0 = .ok (.aload_n 0, 1) := by decide +kernel
theorem dX11_parseError_1 : decode cX11_parseError 1 = .ok (.getfield 21, 3) := by decide +kernel
theorem dX11_parseError_4 : decode cX11_parseError 4 = .ok (.getfield 123, 3) := by decide +kernel
theorem dX11_parseError_7 : decode cX11_parseError 7 = .ok (.ireturn, 1) := by decide +kernel
theorem dX11_errorPosition_0 : decode cX11_errorPosition 0 = .ok (.aload_n 0, 1) := by decide +kernel
theorem dX11_errorPosition_1 : decode cX11_errorPosition 1 = .ok (.getfield 21, 3) := by decide +kernel
theorem dX11_errorPosition_4 : decode cX11_errorPosition 4 = .ok (.getfield 126, 3) := by decide +kernel
theorem dX11_errorPosition_7 : decode cX11_errorPosition 7 = .ok (.ireturn, 1) := by decide +kernel
theorem dX11_buffered_0 : decode cX11_buffered 0 = .ok (.aload_n 0, 1) := by decide +kernel
theorem dX11_buffered_1 : decode cX11_buffered 1 = .ok (.getfield 10, 3) := by decide +kernel
theorem dX11_buffered_4 : decode cX11_buffered 4 = .ok (.getfield 96, 3) := by decide +kernel
theorem dX11_buffered_7 : decode cX11_buffered 7 = .ok (.ireturn, 1) := by decide +kernel
theorem dX11_mics_0 : decode cX11_mics 0 = .ok (.aload_n 0, 1) := by decide +kernel
theorem dX11_mics_1 : decode cX11_mics 1 = .ok (.getfield 89, 3) := by decide +kernel
theorem dX11_mics_4 : decode cX11_mics 4 = .ok (.getfield 129, 3) := by decide +kernel
theorem dX11_mics_7 : decode cX11_mics 7 = .ok (.ireturn, 1) := by decide +kernel
theorem dX11_micAt_0 : decode cX11_micAt 0 = .ok (.aload_n 0, 1) := by decide +kernel
theorem dX11_micAt_1 : decode cX11_micAt 1 = .ok (.invokevirtual 132, 3) := by decide +kernel
theorem dX11_micAt_4 : decode cX11_micAt 4 = .ok (.aload_n 0, 1) := by decide +kernel
theorem dX11_micAt_5 : decode cX11_micAt 5 = .ok (.iload_n 1, 1) := by decide +kernel
theorem dX11_micAt_6 : decode cX11_micAt 6 = .ok (.invokevirtual 135, 3) := by decide +kernel
theorem dX11_micAt_9 : decode cX11_micAt 9 = .ok (.iload_n 2, 1) := by decide +kernel
theorem dX11_micAt_10 : decode cX11_micAt 10 = .ok (.iconst 0, 1) := by decide +kernel
theorem dX11_micAt_11 : decode cX11_micAt 11 = .ok (.iconst 3, 1) := by decide +kernel
theorem dX11_micAt_12 : decode cX11_micAt 12 = .ok (.invokestatic 138, 3) := by decide +kernel
theorem dX11_micAt_15 : decode cX11_micAt 15 = .ok (.iload_n 2, 1) := by decide +kernel
theorem dX11_micAt_16 : decode cX11_micAt 16 = .ok (.tableswitch 67 0 2 #[28, 41, 54], 28) := by decide +kernel
theorem dX11_micAt_44 : decode cX11_micAt 44 = .ok (.aload_n 0, 1) := by decide +kernel
theorem dX11_micAt_45 : decode cX11_micAt 45 = .ok (.getfield 89, 3) := by decide +kernel
theorem dX11_micAt_48 : decode cX11_micAt 48 = .ok (.getfield 142, 3) := by decide +kernel
theorem dX11_micAt_51 : decode cX11_micAt 51 = .ok (.iload_n 1, 1) := by decide +kernel
theorem dX11_micAt_52 : decode cX11_micAt 52 = .ok (.aaload, 1) := by decide +kernel
theorem dX11_micAt_53 : decode cX11_micAt 53 = .ok (.getfield 146, 3) := by decide +kernel
theorem dX11_micAt_56 : decode cX11_micAt 56 = .ok (.ireturn, 1) := by decide +kernel
theorem dX11_micAt_57 : decode cX11_micAt 57 = .ok (.aload_n 0, 1) := by decide +kernel
theorem dX11_micAt_58 : decode cX11_micAt 58 = .ok (.getfield 89, 3) := by decide +kernel
theorem dX11_micAt_61 : decode cX11_micAt 61 = .ok (.getfield 142, 3) := by decide +kernel
theorem dX11_micAt_64 : decode cX11_micAt 64 = .ok (.iload_n 1, 1) := by decide +kernel
theorem dX11_micAt_65 : decode cX11_micAt 65 = .ok (.aaload, 1) := by decide +kernel
theorem dX11_micAt_66 : decode cX11_micAt 66 = .ok (.getfield 151, 3) := by decide +kernel
theorem dX11_micAt_69 : decode cX11_micAt 69 = .ok (.ireturn, 1) := by decide +kernel
theorem dX11_micAt_70 : decode cX11_micAt 70 = .ok (.aload_n 0, 1) := by decide +kernel
theorem dX11_micAt_71 : decode cX11_micAt 71 = .ok (.getfield 89, 3) := by decide +kernel
theorem dX11_micAt_74 : decode cX11_micAt 74 = .ok (.getfield 142, 3) := by decide +kernel
theorem dX11_micAt_77 : decode cX11_micAt 77 = .ok (.iload_n 1, 1) := by decide +kernel
theorem dX11_micAt_78 : decode cX11_micAt 78 = .ok (.aaload, 1) := by decide +kernel
theorem dX11_micAt_79 : decode cX11_micAt 79 = .ok (.getfield 154, 3) := by decide +kernel
theorem dX11_micAt_82 : decode cX11_micAt 82 = .ok (.ireturn, 1) := by decide +kernel
theorem dX11_micAt_83 : decode cX11_micAt 83 = .ok (.aload_n 0, 1) := by decide +kernel
theorem dX11_micAt_84 : decode cX11_micAt 84 = .ok (.getfield 52, 3) := by decide +kernel
theorem dX11_micAt_87 : decode cX11_micAt 87 = .ok (.getfield 157, 3) := by decide +kernel
theorem dX11_micAt_90 : decode cX11_micAt 90 = .ok (.iload_n 1, 1) := by decide +kernel
theorem dX11_micAt_91 : decode cX11_micAt 91 = .ok (.iaload, 1) := by decide +kernel
theorem dX11_micAt_92 : decode cX11_micAt 92 = .ok (.ireturn, 1) := by decide +kernel
theorem dX11_isMuted_0 : decode cX11_isMuted 0 = .ok (.aload_n 0, 1) := by decide +kernel
theorem dX11_isMuted_1 : decode cX11_isMuted 1 = .ok (.invokevirtual 132, 3) := by decide +kernel
theorem dX11_isMuted_4 : decode cX11_isMuted 4 = .ok (.aload_n 0, 1) := by decide +kernel
theorem dX11_isMuted_5 : decode cX11_isMuted 5 = .ok (.iload_n 1, 1) := by decide +kernel
theorem dX11_isMuted_6 : decode cX11_isMuted 6 = .ok (.invokevirtual 135, 3) := by decide +kernel
theorem dX11_isMuted_9 : decode cX11_isMuted 9 = .ok (.aload_n 0, 1) := by decide +kernel
theorem dX11_isMuted_10 : decode cX11_isMuted 10 = .ok (.getfield 52, 3) := by decide +kernel
theorem dX11_isMuted_13 : decode cX11_isMuted 13 = .ok (.getfield 160, 3) := by decide +kernel
theorem dX11_isMuted_16 : decode cX11_isMuted 16 = .ok (.iload_n 1, 1) := by decide +kernel
theorem dX11_isMuted_17 : decode cX11_isMuted 17 = .ok (.baload, 1) := by decide +kernel
theorem dX11_isMuted_18 : decode cX11_isMuted 18 = .ok (.ireturn, 1) := by decide +kernel
theorem dX11_columns_0 : decode cX11_columns 0 = .ok (.aload_n 0, 1) := by decide +kernel
theorem dX11_columns_1 : decode cX11_columns 1 = .ok (.getfield 89, 3) := by decide +kernel
theorem dX11_columns_4 : decode cX11_columns 4 = .ok (.getfield 113, 3) := by decide +kernel
theorem dX11_columns_7 : decode cX11_columns 7 = .ok (.getfield 163, 3) := by decide +kernel
theorem dX11_columns_10 : decode cX11_columns 10 = .ok (.ireturn, 1) := by decide +kernel
theorem dX11_rows_0 : decode cX11_rows 0 = .ok (.aload_n 0, 1) := by decide +kernel
theorem dX11_rows_1 : decode cX11_rows 1 = .ok (.getfield 89, 3) := by decide +kernel
theorem dX11_rows_4 : decode cX11_rows 4 = .ok (.getfield 113, 3) := by decide +kernel
theorem dX11_rows_7 : decode cX11_rows 7 = .ok (.getfield 166, 3) := by decide +kernel
theorem dX11_rows_10 : decode cX11_rows 10 = .ok (.ireturn, 1) := by decide +kernel
theorem dX11_cellAt_0 : decode cX11_cellAt 0 = .ok (.aload_n 0, 1) := by decide +kernel
theorem dX11_cellAt_1 : decode cX11_cellAt 1 = .ok (.invokevirtual 132, 3) := by decide +kernel
theorem dX11_cellAt_4 : decode cX11_cellAt 4 = .ok (.aload_n 0, 1) := by decide +kernel
theorem dX11_cellAt_5 : decode cX11_cellAt 5 = .ok (.iload_n 1, 1) := by decide +kernel
theorem dX11_cellAt_6 : decode cX11_cellAt 6 = .ok (.invokevirtual 169, 3) := by decide +kernel
theorem dX11_cellAt_9 : decode cX11_cellAt 9 = .ok (.iload_n 2, 1) := by decide +kernel
theorem dX11_cellAt_10 : decode cX11_cellAt 10 = .ok (.iconst 0, 1) := by decide +kernel
theorem dX11_cellAt_11 : decode cX11_cellAt 11 = .ok (.iconst 1, 1) := by decide +kernel
theorem dX11_cellAt_12 : decode cX11_cellAt 12 = .ok (.invokestatic 138, 3) := by decide +kernel
theorem dX11_cellAt_15 : decode cX11_cellAt 15 = .ok (.iload_n 2, 1) := by decide +kernel
theorem dX11_cellAt_16 : decode cX11_cellAt 16 = .ok (.ifCond .ne 17, 3) := by decide +kernel
theorem dX11_cellAt_19 : decode cX11_cellAt 19 = .ok (.aload_n 0, 1) := by decide +kernel
theorem dX11_cellAt_20 : decode cX11_cellAt 20 = .ok (.getfield 89, 3) := by decide +kernel
theorem dX11_cellAt_23 : decode cX11_cellAt 23 = .ok (.getfield 113, 3) := by decide +kernel
theorem dX11_cellAt_26 : decode cX11_cellAt 26 = .ok (.iload_n 1, 1) := by decide +kernel
theorem dX11_cellAt_27 : decode cX11_cellAt 27 = .ok (.invokevirtual 172, 3) := by decide +kernel
theorem dX11_cellAt_30 : decode cX11_cellAt 30 = .ok (.goto 14, 3) := by decide +kernel
theorem dX11_cellAt_33 : decode cX11_cellAt 33 = .ok (.aload_n 0, 1) := by decide +kernel
theorem dX11_cellAt_34 : decode cX11_cellAt 34 = .ok (.getfield 89, 3) := by decide +kernel
theorem dX11_cellAt_37 : decode cX11_cellAt 37 = .ok (.getfield 113, 3) := by decide +kernel
theorem dX11_cellAt_40 : decode cX11_cellAt 40 = .ok (.iload_n 1, 1) := by decide +kernel
theorem dX11_cellAt_41 : decode cX11_cellAt 41 = .ok (.invokevirtual 176, 3) := by decide +kernel
theorem dX11_cellAt_44 : decode cX11_cellAt 44 = .ok (.ireturn, 1) := by decide +kernel
theorem dX11_sources_0 : decode cX11_sources 0 = .ok (.aload_n 0, 1) := by decide +kernel
theorem dX11_sources_1 : decode cX11_sources 1 = .ok (.getfield 89, 3) := by decide +kernel
theorem dX11_sources_4 : decode cX11_sources 4 = .ok (.getfield 179, 3) := by decide +kernel
theorem dX11_sources_7 : decode cX11_sources 7 = .ok (.ireturn, 1) := by decide +kernel
theorem dX11_sourceAt_0 : decode cX11_sourceAt 0 = .ok (.aload_n 0, 1) := by decide +kernel
theorem dX11_sourceAt_1 : decode cX11_sourceAt 1 = .ok (.invokevirtual 132, 3) := by decide +kernel
theorem dX11_sourceAt_4 : decode cX11_sourceAt 4 = .ok (.aload_n 0, 1) := by decide +kernel
theorem dX11_sourceAt_5 : decode cX11_sourceAt 5 = .ok (.iload_n 1, 1) := by decide +kernel
theorem dX11_sourceAt_6 : decode cX11_sourceAt 6 = .ok (.invokevirtual 182, 3) := by decide +kernel
theorem dX11_sourceAt_9 : decode cX11_sourceAt 9 = .ok (.iload_n 2, 1) := by decide +kernel
theorem dX11_sourceAt_10 : decode cX11_sourceAt 10 = .ok (.iconst 0, 1) := by decide +kernel
theorem dX11_sourceAt_11 : decode cX11_sourceAt 11 = .ok (.iconst 1, 1) := by decide +kernel
theorem dX11_sourceAt_12 : decode cX11_sourceAt 12 = .ok (.invokestatic 138, 3) := by decide +kernel
theorem dX11_sourceAt_15 : decode cX11_sourceAt 15 = .ok (.iload_n 3, 1) := by decide +kernel
theorem dX11_sourceAt_16 : decode cX11_sourceAt 16 = .ok (.iconst 0, 1) := by decide +kernel
theorem dX11_sourceAt_17 : decode cX11_sourceAt 17 = .ok (.aload_n 0, 1) := by decide +kernel
theorem dX11_sourceAt_18 : decode cX11_sourceAt 18 = .ok (.getfield 89, 3) := by decide +kernel
theorem dX11_sourceAt_21 : decode cX11_sourceAt 21 = .ok (.getfield 185, 3) := by decide +kernel
theorem dX11_sourceAt_24 : decode cX11_sourceAt 24 = .ok (.iconst 1, 1) := by decide +kernel
theorem dX11_sourceAt_25 : decode cX11_sourceAt 25 = .ok (.isub, 1) := by decide +kernel
theorem dX11_sourceAt_26 : decode cX11_sourceAt 26 = .ok (.invokestatic 138, 3) := by decide +kernel
theorem dX11_sourceAt_29 : decode cX11_sourceAt 29 = .ok (.iload_n 2, 1) := by decide +kernel
theorem dX11_sourceAt_30 : decode cX11_sourceAt 30 = .ok (.ifCond .ne 28, 3) := by decide +kernel
theorem dX11_sourceAt_33 : decode cX11_sourceAt 33 = .ok (.aload_n 0, 1) := by decide +kernel
theorem dX11_sourceAt_34 : decode cX11_sourceAt 34 = .ok (.getfield 52, 3) := by decide +kernel
theorem dX11_sourceAt_37 : decode cX11_sourceAt 37 = .ok (.getfield 188, 3) := by decide +kernel
theorem dX11_sourceAt_40 : decode cX11_sourceAt 40 = .ok (.iload_n 1, 1) := by decide +kernel
theorem dX11_sourceAt_41 : decode cX11_sourceAt 41 = .ok (.iaload, 1) := by decide +kernel
theorem dX11_sourceAt_42 : decode cX11_sourceAt 42 = .ok (.aload_n 0, 1) := by decide +kernel
theorem dX11_sourceAt_43 : decode cX11_sourceAt 43 = .ok (.getfield 52, 3) := by decide +kernel
theorem dX11_sourceAt_46 : decode cX11_sourceAt 46 = .ok (.getfield 190, 3) := by decide +kernel
theorem dX11_sourceAt_49 : decode cX11_sourceAt 49 = .ok (.iload_n 1, 1) := by decide +kernel
theorem dX11_sourceAt_50 : decode cX11_sourceAt 50 = .ok (.iaload, 1) := by decide +kernel
theorem dX11_sourceAt_51 : decode cX11_sourceAt 51 = .ok (.iload_n 3, 1) := by decide +kernel
theorem dX11_sourceAt_52 : decode cX11_sourceAt 52 = .ok (.invokestatic 193, 3) := by decide +kernel
theorem dX11_sourceAt_55 : decode cX11_sourceAt 55 = .ok (.goto 25, 3) := by decide +kernel
theorem dX11_sourceAt_58 : decode cX11_sourceAt 58 = .ok (.aload_n 0, 1) := by decide +kernel
theorem dX11_sourceAt_59 : decode cX11_sourceAt 59 = .ok (.getfield 52, 3) := by decide +kernel
theorem dX11_sourceAt_62 : decode cX11_sourceAt 62 = .ok (.getfield 197, 3) := by decide +kernel
theorem dX11_sourceAt_65 : decode cX11_sourceAt 65 = .ok (.iload_n 1, 1) := by decide +kernel
theorem dX11_sourceAt_66 : decode cX11_sourceAt 66 = .ok (.iaload, 1) := by decide +kernel
theorem dX11_sourceAt_67 : decode cX11_sourceAt 67 = .ok (.aload_n 0, 1) := by decide +kernel
theorem dX11_sourceAt_68 : decode cX11_sourceAt 68 = .ok (.getfield 52, 3) := by decide +kernel
theorem dX11_sourceAt_71 : decode cX11_sourceAt 71 = .ok (.getfield 199, 3) := by decide +kernel
theorem dX11_sourceAt_74 : decode cX11_sourceAt 74 = .ok (.iload_n 1, 1) := by decide +kernel
theorem dX11_sourceAt_75 : decode cX11_sourceAt 75 = .ok (.iaload, 1) := by decide +kernel
theorem dX11_sourceAt_76 : decode cX11_sourceAt 76 = .ok (.iload_n 3, 1) := by decide +kernel
theorem dX11_sourceAt_77 : decode cX11_sourceAt 77 = .ok (.invokestatic 193, 3) := by decide +kernel
theorem dX11_sourceAt_80 : decode cX11_sourceAt 80 = .ok (.ireturn, 1) := by decide +kernel
theorem dX11_isOn_0 : decode cX11_isOn 0 = .ok (.aload_n 0, 1) := by decide +kernel
theorem dX11_isOn_1 : decode cX11_isOn 1 = .ok (.invokevirtual 132, 3) := by decide +kernel
theorem dX11_isOn_4 : decode cX11_isOn 4 = .ok (.aload_n 0, 1) := by decide +kernel
theorem dX11_isOn_5 : decode cX11_isOn 5 = .ok (.iload_n 1, 1) := by decide +kernel
theorem dX11_isOn_6 : decode cX11_isOn 6 = .ok (.invokevirtual 182, 3) := by decide +kernel
theorem dX11_isOn_9 : decode cX11_isOn 9 = .ok (.aload_n 0, 1) := by decide +kernel
theorem dX11_isOn_10 : decode cX11_isOn 10 = .ok (.getfield 52, 3) := by decide +kernel
theorem dX11_isOn_13 : decode cX11_isOn 13 = .ok (.getfield 202, 3) := by decide +kernel
theorem dX11_isOn_16 : decode cX11_isOn 16 = .ok (.iload_n 1, 1) := by decide +kernel
theorem dX11_isOn_17 : decode cX11_isOn 17 = .ok (.baload, 1) := by decide +kernel
theorem dX11_isOn_18 : decode cX11_isOn 18 = .ok (.ireturn, 1) := by decide +kernel
theorem dX11_waveAt_0 : decode cX11_waveAt 0 = .ok (.aload_n 0, 1) := by decide +kernel
theorem dX11_waveAt_1 : decode cX11_waveAt 1 = .ok (.invokevirtual 132, 3) := by decide +kernel
theorem dX11_waveAt_4 : decode cX11_waveAt 4 = .ok (.aload_n 0, 1) := by decide +kernel
theorem dX11_waveAt_5 : decode cX11_waveAt 5 = .ok (.iload_n 1, 1) := by decide +kernel
theorem dX11_waveAt_6 : decode cX11_waveAt 6 = .ok (.invokevirtual 182, 3) := by decide +kernel
theorem dX11_waveAt_9 : decode cX11_waveAt 9 = .ok (.iload_n 2, 1) := by decide +kernel
theorem dX11_waveAt_10 : decode cX11_waveAt 10 = .ok (.iconst 0, 1) := by decide +kernel
theorem dX11_waveAt_11 : decode cX11_waveAt 11 = .ok (.aload_n 0, 1) := by decide +kernel
theorem dX11_waveAt_12 : decode cX11_waveAt 12 = .ok (.getfield 89, 3) := by decide +kernel
theorem dX11_waveAt_15 : decode cX11_waveAt 15 = .ok (.getfield 185, 3) := by decide +kernel
theorem dX11_waveAt_18 : decode cX11_waveAt 18 = .ok (.iconst 1, 1) := by decide +kernel
theorem dX11_waveAt_19 : decode cX11_waveAt 19 = .ok (.isub, 1) := by decide +kernel
theorem dX11_waveAt_20 : decode cX11_waveAt 20 = .ok (.invokestatic 138, 3) := by decide +kernel
theorem dX11_waveAt_23 : decode cX11_waveAt 23 = .ok (.aload_n 0, 1) := by decide +kernel
theorem dX11_waveAt_24 : decode cX11_waveAt 24 = .ok (.getfield 89, 3) := by decide +kernel
theorem dX11_waveAt_27 : decode cX11_waveAt 27 = .ok (.getfield 205, 3) := by decide +kernel
theorem dX11_waveAt_30 : decode cX11_waveAt 30 = .ok (.iload_n 1, 1) := by decide +kernel
theorem dX11_waveAt_31 : decode cX11_waveAt 31 = .ok (.aaload, 1) := by decide +kernel
theorem dX11_waveAt_32 : decode cX11_waveAt 32 = .ok (.iload_n 2, 1) := by decide +kernel
theorem dX11_waveAt_33 : decode cX11_waveAt 33 = .ok (.invokevirtual 209, 3) := by decide +kernel
theorem dX11_waveAt_36 : decode cX11_waveAt 36 = .ok (.ireturn, 1) := by decide +kernel
theorem dX11_samples_0 : decode cX11_samples 0 = .ok (.aload_n 0, 1) := by decide +kernel
theorem dX11_samples_1 : decode cX11_samples 1 = .ok (.getfield 89, 3) := by decide +kernel
theorem dX11_samples_4 : decode cX11_samples 4 = .ok (.getfield 185, 3) := by decide +kernel
theorem dX11_samples_7 : decode cX11_samples 7 = .ok (.ireturn, 1) := by decide +kernel
theorem dX11_delay_0 : decode cX11_delay 0 = .ok (.aload_n 0, 1) := by decide +kernel
theorem dX11_delay_1 : decode cX11_delay 1 = .ok (.invokevirtual 132, 3) := by decide +kernel
theorem dX11_delay_4 : decode cX11_delay 4 = .ok (.aload_n 0, 1) := by decide +kernel
theorem dX11_delay_5 : decode cX11_delay 5 = .ok (.iload_n 1, 1) := by decide +kernel
theorem dX11_delay_6 : decode cX11_delay 6 = .ok (.invokevirtual 135, 3) := by decide +kernel
theorem dX11_delay_9 : decode cX11_delay 9 = .ok (.aload_n 0, 1) := by decide +kernel
theorem dX11_delay_10 : decode cX11_delay 10 = .ok (.iload_n 2, 1) := by decide +kernel
theorem dX11_delay_11 : decode cX11_delay 11 = .ok (.invokevirtual 169, 3) := by decide +kernel
theorem dX11_delay_14 : decode cX11_delay 14 = .ok (.aload_n 0, 1) := by decide +kernel
theorem dX11_delay_15 : decode cX11_delay 15 = .ok (.getfield 89, 3) := by decide +kernel
theorem dX11_delay_18 : decode cX11_delay 18 = .ok (.getfield 214, 3) := by decide +kernel
theorem dX11_delay_21 : decode cX11_delay 21 = .ok (.iload_n 2, 1) := by decide +kernel
theorem dX11_delay_22 : decode cX11_delay 22 = .ok (.aaload, 1) := by decide +kernel
theorem dX11_delay_23 : decode cX11_delay 23 = .ok (.iload_n 1, 1) := by decide +kernel
theorem dX11_delay_24 : decode cX11_delay 24 = .ok (.iaload, 1) := by decide +kernel
theorem dX11_delay_25 : decode cX11_delay 25 = .ok (.ireturn, 1) := by decide +kernel
theorem dX11_delayTo_0 : decode cX11_delayTo 0 = .ok (.aload_n 0, 1) := by decide +kernel
theorem dX11_delayTo_1 : decode cX11_delayTo 1 = .ok (.invokevirtual 132, 3) := by decide +kernel
theorem dX11_delayTo_4 : decode cX11_delayTo 4 = .ok (.aload_n 0, 1) := by decide +kernel
theorem dX11_delayTo_5 : decode cX11_delayTo 5 = .ok (.iload_n 1, 1) := by decide +kernel
theorem dX11_delayTo_6 : decode cX11_delayTo 6 = .ok (.invokevirtual 135, 3) := by decide +kernel
theorem dX11_delayTo_9 : decode cX11_delayTo 9 = .ok (.iload_n 2, 1) := by decide +kernel
theorem dX11_delayTo_10 : decode cX11_delayTo 10 = .ok (.sipush (-9999), 3) := by decide +kernel
theorem dX11_delayTo_13 : decode cX11_delayTo 13 = .ok (.sipush 9999, 3) := by decide +kernel
theorem dX11_delayTo_16 : decode cX11_delayTo 16 = .ok (.invokestatic 138, 3) := by decide +kernel
theorem dX11_delayTo_19 : decode cX11_delayTo 19 = .ok (.iload_n 3, 1) := by decide +kernel
theorem dX11_delayTo_20 : decode cX11_delayTo 20 = .ok (.sipush (-9999), 3) := by decide +kernel
theorem dX11_delayTo_23 : decode cX11_delayTo 23 = .ok (.sipush 9999, 3) := by decide +kernel
theorem dX11_delayTo_26 : decode cX11_delayTo 26 = .ok (.invokestatic 138, 3) := by decide +kernel
theorem dX11_delayTo_29 : decode cX11_delayTo 29 = .ok (.aload_n 0, 1) := by decide +kernel
theorem dX11_delayTo_30 : decode cX11_delayTo 30 = .ok (.getfield 89, 3) := by decide +kernel
theorem dX11_delayTo_33 : decode cX11_delayTo 33 = .ok (.aload_n 0, 1) := by decide +kernel
theorem dX11_delayTo_34 : decode cX11_delayTo 34 = .ok (.getfield 89, 3) := by decide +kernel
theorem dX11_delayTo_37 : decode cX11_delayTo 37 = .ok (.getfield 142, 3) := by decide +kernel
theorem dX11_delayTo_40 : decode cX11_delayTo 40 = .ok (.iload_n 1, 1) := by decide +kernel
theorem dX11_delayTo_41 : decode cX11_delayTo 41 = .ok (.aaload, 1) := by decide +kernel
theorem dX11_delayTo_42 : decode cX11_delayTo 42 = .ok (.iload_n 2, 1) := by decide +kernel
theorem dX11_delayTo_43 : decode cX11_delayTo 43 = .ok (.iload_n 3, 1) := by decide +kernel
theorem dX11_delayTo_44 : decode cX11_delayTo 44 = .ok (.invokevirtual 218, 3) := by decide +kernel
theorem dX11_delayTo_47 : decode cX11_delayTo 47 = .ok (.ireturn, 1) := by decide +kernel
theorem dX11_spread_0 : decode cX11_spread 0 = .ok (.aload_n 0, 1) := by decide +kernel
theorem dX11_spread_1 : decode cX11_spread 1 = .ok (.invokevirtual 132, 3) := by decide +kernel
theorem dX11_spread_4 : decode cX11_spread 4 = .ok (.aload_n 0, 1) := by decide +kernel
theorem dX11_spread_5 : decode cX11_spread 5 = .ok (.iload_n 1, 1) := by decide +kernel
theorem dX11_spread_6 : decode cX11_spread 6 = .ok (.invokevirtual 169, 3) := by decide +kernel
theorem dX11_spread_9 : decode cX11_spread 9 = .ok (.aload_n 0, 1) := by decide +kernel
theorem dX11_spread_10 : decode cX11_spread 10 = .ok (.getfield 89, 3) := by decide +kernel
theorem dX11_spread_13 : decode cX11_spread 13 = .ok (.getfield 214, 3) := by decide +kernel
theorem dX11_spread_16 : decode cX11_spread 16 = .ok (.iload_n 1, 1) := by decide +kernel
theorem dX11_spread_17 : decode cX11_spread 17 = .ok (.aaload, 1) := by decide +kernel
theorem dX11_spread_18 : decode cX11_spread 18 = .ok (.astore_n 2, 1) := by decide +kernel
theorem dX11_spread_19 : decode cX11_spread 19 = .ok (.aload_n 0, 1) := by decide +kernel
theorem dX11_spread_20 : decode cX11_spread 20 = .ok (.getfield 52, 3) := by decide +kernel
theorem dX11_spread_23 : decode cX11_spread 23 = .ok (.aload_n 2, 1) := by decide +kernel
theorem dX11_spread_24 : decode cX11_spread 24 = .ok (.invokevirtual 222, 3) := by decide +kernel
theorem dX11_spread_27 : decode cX11_spread 27 = .ok (.aload_n 0, 1) := by decide +kernel
theorem dX11_spread_28 : decode cX11_spread 28 = .ok (.getfield 52, 3) := by decide +kernel
theorem dX11_spread_31 : decode cX11_spread 31 = .ok (.aload_n 2, 1) := by decide +kernel
theorem dX11_spread_32 : decode cX11_spread 32 = .ok (.invokevirtual 226, 3) := by decide +kernel
theorem dX11_spread_35 : decode cX11_spread 35 = .ok (.isub, 1) := by decide +kernel
theorem dX11_spread_36 : decode cX11_spread 36 = .ok (.ireturn, 1) := by decide +kernel
theorem dX11_window_0 : decode cX11_window 0 = .ok (.aload_n 0, 1) := by decide +kernel
theorem dX11_window_1 : decode cX11_window 1 = .ok (.invokevirtual 132, 3) := by decide +kernel
theorem dX11_window_4 : decode cX11_window 4 = .ok (.aload_n 0, 1) := by decide +kernel
theorem dX11_window_5 : decode cX11_window 5 = .ok (.iload_n 1, 1) := by decide +kernel
theorem dX11_window_6 : decode cX11_window 6 = .ok (.invokevirtual 169, 3) := by decide +kernel
theorem dX11_window_9 : decode cX11_window 9 = .ok (.aload_n 0, 1) := by decide +kernel
theorem dX11_window_10 : decode cX11_window 10 = .ok (.getfield 52, 3) := by decide +kernel
theorem dX11_window_13 : decode cX11_window 13 = .ok (.aload_n 0, 1) := by decide +kernel
theorem dX11_window_14 : decode cX11_window 14 = .ok (.getfield 89, 3) := by decide +kernel
theorem dX11_window_17 : decode cX11_window 17 = .ok (.getfield 214, 3) := by decide +kernel
theorem dX11_window_20 : decode cX11_window 20 = .ok (.iload_n 1, 1) := by decide +kernel
theorem dX11_window_21 : decode cX11_window 21 = .ok (.aaload, 1) := by decide +kernel
theorem dX11_window_22 : decode cX11_window 22 = .ok (.invokevirtual 229, 3) := by decide +kernel
theorem dX11_window_25 : decode cX11_window 25 = .ok (.ireturn, 1) := by decide +kernel
theorem dX11_sample_0 : decode cX11_sample 0 = .ok (.aload_n 0, 1) := by decide +kernel
theorem dX11_sample_1 : decode cX11_sample 1 = .ok (.invokevirtual 132, 3) := by decide +kernel
theorem dX11_sample_4 : decode cX11_sample 4 = .ok (.aload_n 0, 1) := by decide +kernel
theorem dX11_sample_5 : decode cX11_sample 5 = .ok (.iload_n 1, 1) := by decide +kernel
theorem dX11_sample_6 : decode cX11_sample 6 = .ok (.invokevirtual 135, 3) := by decide +kernel
theorem dX11_sample_9 : decode cX11_sample 9 = .ok (.iload_n 2, 1) := by decide +kernel
theorem dX11_sample_10 : decode cX11_sample 10 = .ok (.iconst 0, 1) := by decide +kernel
theorem dX11_sample_11 : decode cX11_sample 11 = .ok (.aload_n 0, 1) := by decide +kernel
theorem dX11_sample_12 : decode cX11_sample 12 = .ok (.getfield 89, 3) := by decide +kernel
theorem dX11_sample_15 : decode cX11_sample 15 = .ok (.getfield 185, 3) := by decide +kernel
theorem dX11_sample_18 : decode cX11_sample 18 = .ok (.iconst 1, 1) := by decide +kernel
theorem dX11_sample_19 : decode cX11_sample 19 = .ok (.isub, 1) := by decide +kernel
theorem dX11_sample_20 : decode cX11_sample 20 = .ok (.invokestatic 138, 3) := by decide +kernel
theorem dX11_sample_23 : decode cX11_sample 23 = .ok (.aload_n 0, 1) := by decide +kernel
theorem dX11_sample_24 : decode cX11_sample 24 = .ok (.getfield 52, 3) := by decide +kernel
theorem dX11_sample_27 : decode cX11_sample 27 = .ok (.getfield 232, 3) := by decide +kernel
theorem dX11_sample_30 : decode cX11_sample 30 = .ok (.iload_n 1, 1) := by decide +kernel
theorem dX11_sample_31 : decode cX11_sample 31 = .ok (.iload_n 2, 1) := by decide +kernel
theorem dX11_sample_32 : decode cX11_sample 32 = .ok (.invokestatic 234, 3) := by decide +kernel
theorem dX11_sample_35 : decode cX11_sample 35 = .ok (.invokevirtual 238, 3) := by decide +kernel
theorem dX11_sample_38 : decode cX11_sample 38 = .ok (.l2i, 1) := by decide +kernel
theorem dX11_sample_39 : decode cX11_sample 39 = .ok (.ireturn, 1) := by decide +kernel
theorem dX11_beam_0 : decode cX11_beam 0 = .ok (.aload_n 0, 1) := by decide +kernel
theorem dX11_beam_1 : decode cX11_beam 1 = .ok (.invokevirtual 132, 3) := by decide +kernel
theorem dX11_beam_4 : decode cX11_beam 4 = .ok (.aload_n 0, 1) := by decide +kernel
theorem dX11_beam_5 : decode cX11_beam 5 = .ok (.iload_n 1, 1) := by decide +kernel
theorem dX11_beam_6 : decode cX11_beam 6 = .ok (.invokevirtual 169, 3) := by decide +kernel
theorem dX11_beam_9 : decode cX11_beam 9 = .ok (.iload_n 2, 1) := by decide +kernel
theorem dX11_beam_10 : decode cX11_beam 10 = .ok (.iconst 0, 1) := by decide +kernel
theorem dX11_beam_11 : decode cX11_beam 11 = .ok (.aload_n 0, 1) := by decide +kernel
theorem dX11_beam_12 : decode cX11_beam 12 = .ok (.getfield 52, 3) := by decide +kernel
theorem dX11_beam_15 : decode cX11_beam 15 = .ok (.aload_n 0, 1) := by decide +kernel
theorem dX11_beam_16 : decode cX11_beam 16 = .ok (.getfield 89, 3) := by decide +kernel
theorem dX11_beam_19 : decode cX11_beam 19 = .ok (.getfield 214, 3) := by decide +kernel
theorem dX11_beam_22 : decode cX11_beam 22 = .ok (.iload_n 1, 1) := by decide +kernel
theorem dX11_beam_23 : decode cX11_beam 23 = .ok (.aaload, 1) := by decide +kernel
theorem dX11_beam_24 : decode cX11_beam 24 = .ok (.invokevirtual 229, 3) := by decide +kernel
theorem dX11_beam_27 : decode cX11_beam 27 = .ok (.iconst 1, 1) := by decide +kernel
theorem dX11_beam_28 : decode cX11_beam 28 = .ok (.isub, 1) := by decide +kernel
theorem dX11_beam_29 : decode cX11_beam 29 = .ok (.invokestatic 138, 3) := by decide +kernel
theorem dX11_beam_32 : decode cX11_beam 32 = .ok (.aload_n 0, 1) := by decide +kernel
theorem dX11_beam_33 : decode cX11_beam 33 = .ok (.getfield 52, 3) := by decide +kernel
theorem dX11_beam_36 : decode cX11_beam 36 = .ok (.aload_n 0, 1) := by decide +kernel
theorem dX11_beam_37 : decode cX11_beam 37 = .ok (.getfield 89, 3) := by decide +kernel
theorem dX11_beam_40 : decode cX11_beam 40 = .ok (.getfield 214, 3) := by decide +kernel
theorem dX11_beam_43 : decode cX11_beam 43 = .ok (.iload_n 1, 1) := by decide +kernel
theorem dX11_beam_44 : decode cX11_beam 44 = .ok (.aaload, 1) := by decide +kernel
theorem dX11_beam_45 : decode cX11_beam 45 = .ok (.iload_n 2, 1) := by decide +kernel
theorem dX11_beam_46 : decode cX11_beam 46 = .ok (.invokevirtual 242, 3) := by decide +kernel
theorem dX11_beam_49 : decode cX11_beam 49 = .ok (.aload_n 0, 1) := by decide +kernel
theorem dX11_beam_50 : decode cX11_beam 50 = .ok (.getfield 52, 3) := by decide +kernel
theorem dX11_beam_53 : decode cX11_beam 53 = .ok (.getfield 246, 3) := by decide +kernel
theorem dX11_beam_56 : decode cX11_beam 56 = .ok (.iconst 0, 1) := by decide +kernel
theorem dX11_beam_57 : decode cX11_beam 57 = .ok (.invokevirtual 238, 3) := by decide +kernel
theorem dX11_beam_60 : decode cX11_beam 60 = .ok (.l2i, 1) := by decide +kernel
theorem dX11_beam_61 : decode cX11_beam 61 = .ok (.ireturn, 1) := by decide +kernel
theorem dX11_power_0 : decode cX11_power 0 = .ok (.aload_n 0, 1) := by decide +kernel
theorem dX11_power_1 : decode cX11_power 1 = .ok (.invokevirtual 132, 3) := by decide +kernel
theorem dX11_power_4 : decode cX11_power 4 = .ok (.aload_n 0, 1) := by decide +kernel
theorem dX11_power_5 : decode cX11_power 5 = .ok (.iload_n 1, 1) := by decide +kernel
theorem dX11_power_6 : decode cX11_power 6 = .ok (.invokevirtual 169, 3) := by decide +kernel
theorem dX11_power_9 : decode cX11_power 9 = .ok (.aload_n 0, 1) := by decide +kernel
theorem dX11_power_10 : decode cX11_power 10 = .ok (.invokevirtual 249, 3) := by decide +kernel
theorem dX11_power_13 : decode cX11_power 13 = .ok (.getfield 253, 3) := by decide +kernel
theorem dX11_power_16 : decode cX11_power 16 = .ok (.iload_n 1, 1) := by decide +kernel
theorem dX11_power_17 : decode cX11_power 17 = .ok (.invokevirtual 238, 3) := by decide +kernel
theorem dX11_power_20 : decode cX11_power 20 = .ok (.lreturn, 1) := by decide +kernel
theorem dX11_powerAt_0 : decode cX11_powerAt 0 = .ok (.aload_n 0, 1) := by decide +kernel
theorem dX11_powerAt_1 : decode cX11_powerAt 1 = .ok (.invokevirtual 132, 3) := by decide +kernel
theorem dX11_powerAt_4 : decode cX11_powerAt 4 = .ok (.iload_n 1, 1) := by decide +kernel
theorem dX11_powerAt_5 : decode cX11_powerAt 5 = .ok (.sipush (-9999), 3) := by decide +kernel
theorem dX11_powerAt_8 : decode cX11_powerAt 8 = .ok (.sipush 9999, 3) := by decide +kernel
theorem dX11_powerAt_11 : decode cX11_powerAt 11 = .ok (.invokestatic 138, 3) := by decide +kernel
theorem dX11_powerAt_14 : decode cX11_powerAt 14 = .ok (.iload_n 2, 1) := by decide +kernel
theorem dX11_powerAt_15 : decode cX11_powerAt 15 = .ok (.sipush (-9999), 3) := by decide +kernel
theorem dX11_powerAt_18 : decode cX11_powerAt 18 = .ok (.sipush 9999, 3) := by decide +kernel
theorem dX11_powerAt_21 : decode cX11_powerAt 21 = .ok (.invokestatic 138, 3) := by decide +kernel
theorem dX11_powerAt_24 : decode cX11_powerAt 24 = .ok (.aload_n 0, 1) := by decide +kernel
theorem dX11_powerAt_25 : decode cX11_powerAt 25 = .ok (.getfield 89, 3) := by decide +kernel
theorem dX11_powerAt_28 : decode cX11_powerAt 28 = .ok (.iload_n 1, 1) := by decide +kernel
theorem dX11_powerAt_29 : decode cX11_powerAt 29 = .ok (.iload_n 2, 1) := by decide +kernel
theorem dX11_powerAt_30 : decode cX11_powerAt 30 = .ok (.aload_n 0, 1) := by decide +kernel
theorem dX11_powerAt_31 : decode cX11_powerAt 31 = .ok (.getfield 70, 3) := by decide +kernel
theorem dX11_powerAt_34 : decode cX11_powerAt 34 = .ok (.invokevirtual 256, 3) := by decide +kernel
theorem dX11_powerAt_37 : decode cX11_powerAt 37 = .ok (.aload_n 0, 1) := by decide +kernel
theorem dX11_powerAt_38 : decode cX11_powerAt 38 = .ok (.getfield 52, 3) := by decide +kernel
theorem dX11_powerAt_41 : decode cX11_powerAt 41 = .ok (.aload_n 0, 1) := by decide +kernel
theorem dX11_powerAt_42 : decode cX11_powerAt 42 = .ok (.getfield 70, 3) := by decide +kernel
theorem dX11_powerAt_45 : decode cX11_powerAt 45 = .ok (.aload_n 0, 1) := by decide +kernel
theorem dX11_powerAt_46 : decode cX11_powerAt 46 = .ok (.getfield 79, 3) := by decide +kernel
theorem dX11_powerAt_49 : decode cX11_powerAt 49 = .ok (.iconst 0, 1) := by decide +kernel
theorem dX11_powerAt_50 : decode cX11_powerAt 50 = .ok (.invokevirtual 260, 3) := by decide +kernel
theorem dX11_powerAt_53 : decode cX11_powerAt 53 = .ok (.aload_n 0, 1) := by decide +kernel
theorem dX11_powerAt_54 : decode cX11_powerAt 54 = .ok (.getfield 79, 3) := by decide +kernel
theorem dX11_powerAt_57 : decode cX11_powerAt 57 = .ok (.iconst 0, 1) := by decide +kernel
theorem dX11_powerAt_58 : decode cX11_powerAt 58 = .ok (.invokevirtual 238, 3) := by decide +kernel
theorem dX11_powerAt_61 : decode cX11_powerAt 61 = .ok (.lreturn, 1) := by decide +kernel
theorem dX11_best_0 : decode cX11_best 0 = .ok (.aload_n 0, 1) := by decide +kernel
theorem dX11_best_1 : decode cX11_best 1 = .ok (.invokevirtual 132, 3) := by decide +kernel
theorem dX11_best_4 : decode cX11_best 4 = .ok (.aload_n 0, 1) := by decide +kernel
theorem dX11_best_5 : decode cX11_best 5 = .ok (.invokevirtual 249, 3) := by decide +kernel
theorem dX11_best_8 : decode cX11_best 8 = .ok (.getfield 264, 3) := by decide +kernel
theorem dX11_best_11 : decode cX11_best 11 = .ok (.ireturn, 1) := by decide +kernel
theorem dX11_bestPower_0 : decode cX11_bestPower 0 = .ok (.aload_n 0, 1) := by decide +kernel
theorem dX11_bestPower_1 : decode cX11_bestPower 1 = .ok (.invokevirtual 132, 3) := by decide +kernel
theorem dX11_bestPower_4 : decode cX11_bestPower 4 = .ok (.aload_n 0, 1) := by decide +kernel
theorem dX11_bestPower_5 : decode cX11_bestPower 5 = .ok (.invokevirtual 249, 3) := by decide +kernel
theorem dX11_bestPower_8 : decode cX11_bestPower 8 = .ok (.astore_n 1, 1) := by decide +kernel
theorem dX11_bestPower_9 : decode cX11_bestPower 9 = .ok (.aload_n 1, 1) := by decide +kernel
theorem dX11_bestPower_10 : decode cX11_bestPower 10 = .ok (.getfield 253, 3) := by decide +kernel
theorem dX11_bestPower_13 : decode cX11_bestPower 13 = .ok (.aload_n 1, 1) := by decide +kernel
theorem dX11_bestPower_14 : decode cX11_bestPower 14 = .ok (.getfield 264, 3) := by decide +kernel
theorem dX11_bestPower_17 : decode cX11_bestPower 17 = .ok (.invokevirtual 238, 3) := by decide +kernel
theorem dX11_bestPower_20 : decode cX11_bestPower 20 = .ok (.lreturn, 1) := by decide +kernel
theorem dX11_meanPower_0 : decode cX11_meanPower 0 = .ok (.aload_n 0, 1) := by decide +kernel
theorem dX11_meanPower_1 : decode cX11_meanPower 1 = .ok (.invokevirtual 132, 3) := by decide +kernel
theorem dX11_meanPower_4 : decode cX11_meanPower 4 = .ok (.aload_n 0, 1) := by decide +kernel
theorem dX11_meanPower_5 : decode cX11_meanPower 5 = .ok (.invokevirtual 249, 3) := by decide +kernel
theorem dX11_meanPower_8 : decode cX11_meanPower 8 = .ok (.aload_n 0, 1) := by decide +kernel
theorem dX11_meanPower_9 : decode cX11_meanPower 9 = .ok (.getfield 89, 3) := by decide +kernel
theorem dX11_meanPower_12 : decode cX11_meanPower 12 = .ok (.getfield 113, 3) := by decide +kernel
theorem dX11_meanPower_15 : decode cX11_meanPower 15 = .ok (.getfield 267, 3) := by decide +kernel
theorem dX11_meanPower_18 : decode cX11_meanPower 18 = .ok (.aload_n 0, 1) := by decide +kernel
theorem dX11_meanPower_19 : decode cX11_meanPower 19 = .ok (.getfield 89, 3) := by decide +kernel
theorem dX11_meanPower_22 : decode cX11_meanPower 22 = .ok (.getfield 113, 3) := by decide +kernel
theorem dX11_meanPower_25 : decode cX11_meanPower 25 = .ok (.aload_n 0, 1) := by decide +kernel
theorem dX11_meanPower_26 : decode cX11_meanPower 26 = .ok (.getfield 79, 3) := by decide +kernel
theorem dX11_meanPower_29 : decode cX11_meanPower 29 = .ok (.iconst 0, 1) := by decide +kernel
theorem dX11_meanPower_30 : decode cX11_meanPower 30 = .ok (.invokevirtual 270, 3) := by decide +kernel
theorem dX11_meanPower_33 : decode cX11_meanPower 33 = .ok (.aload_n 0, 1) := by decide +kernel
theorem dX11_meanPower_34 : decode cX11_meanPower 34 = .ok (.getfield 79, 3) := by decide +kernel
theorem dX11_meanPower_37 : decode cX11_meanPower 37 = .ok (.iconst 0, 1) := by decide +kernel
theorem dX11_meanPower_38 : decode cX11_meanPower 38 = .ok (.aload_n 0, 1) := by decide +kernel
theorem dX11_meanPower_39 : decode cX11_meanPower 39 = .ok (.getfield 89, 3) := by decide +kernel
theorem dX11_meanPower_42 : decode cX11_meanPower 42 = .ok (.getfield 113, 3) := by decide +kernel
theorem dX11_meanPower_45 : decode cX11_meanPower 45 = .ok (.invokevirtual 117, 3) := by decide +kernel
theorem dX11_meanPower_48 : decode cX11_meanPower 48 = .ok (.invokevirtual 274, 3) := by decide +kernel
theorem dX11_meanPower_51 : decode cX11_meanPower 51 = .ok (.aload_n 0, 1) := by decide +kernel
theorem dX11_meanPower_52 : decode cX11_meanPower 52 = .ok (.getfield 79, 3) := by decide +kernel
theorem dX11_meanPower_55 : decode cX11_meanPower 55 = .ok (.iconst 0, 1) := by decide +kernel
theorem dX11_meanPower_56 : decode cX11_meanPower 56 = .ok (.invokevirtual 238, 3) := by decide +kernel
theorem dX11_meanPower_59 : decode cX11_meanPower 59 = .ok (.lreturn, 1) := by decide +kernel
theorem dX11_peaks_0 : decode cX11_peaks 0 = .ok (.aload_n 0, 1) := by decide +kernel
theorem dX11_peaks_1 : decode cX11_peaks 1 = .ok (.invokevirtual 132, 3) := by decide +kernel
theorem dX11_peaks_4 : decode cX11_peaks 4 = .ok (.aload_n 0, 1) := by decide +kernel
theorem dX11_peaks_5 : decode cX11_peaks 5 = .ok (.invokevirtual 249, 3) := by decide +kernel
theorem dX11_peaks_8 : decode cX11_peaks 8 = .ok (.getfield 278, 3) := by decide +kernel
theorem dX11_peaks_11 : decode cX11_peaks 11 = .ok (.ireturn, 1) := by decide +kernel
theorem dX11_peakAt_0 : decode cX11_peakAt 0 = .ok (.aload_n 0, 1) := by decide +kernel
theorem dX11_peakAt_1 : decode cX11_peakAt 1 = .ok (.invokevirtual 132, 3) := by decide +kernel
theorem dX11_peakAt_4 : decode cX11_peakAt 4 = .ok (.aload_n 0, 1) := by decide +kernel
theorem dX11_peakAt_5 : decode cX11_peakAt 5 = .ok (.invokevirtual 249, 3) := by decide +kernel
theorem dX11_peakAt_8 : decode cX11_peakAt 8 = .ok (.astore_n 2, 1) := by decide +kernel
theorem dX11_peakAt_9 : decode cX11_peakAt 9 = .ok (.iload_n 1, 1) := by decide +kernel
theorem dX11_peakAt_10 : decode cX11_peakAt 10 = .ok (.aload_n 2, 1) := by decide +kernel
theorem dX11_peakAt_11 : decode cX11_peakAt 11 = .ok (.getfield 278, 3) := by decide +kernel
theorem dX11_peakAt_14 : decode cX11_peakAt 14 = .ok (.invokestatic 281, 3) := by decide +kernel
theorem dX11_peakAt_17 : decode cX11_peakAt 17 = .ok (.aload_n 2, 1) := by decide +kernel
theorem dX11_peakAt_18 : decode cX11_peakAt 18 = .ok (.iload_n 1, 1) := by decide +kernel
theorem dX11_peakAt_19 : decode cX11_peakAt 19 = .ok (.invokevirtual 284, 3) := by decide +kernel
theorem dX11_peakAt_22 : decode cX11_peakAt 22 = .ok (.ireturn, 1) := by decide +kernel
theorem dX11_isPeak_0 : decode cX11_isPeak 0 = .ok (.aload_n 0, 1) := by decide +kernel
theorem dX11_isPeak_1 : decode cX11_isPeak 1 = .ok (.invokevirtual 132, 3) := by decide +kernel
theorem dX11_isPeak_4 : decode cX11_isPeak 4 = .ok (.aload_n 0, 1) := by decide +kernel
theorem dX11_isPeak_5 : decode cX11_isPeak 5 = .ok (.iload_n 1, 1) := by decide +kernel
theorem dX11_isPeak_6 : decode cX11_isPeak 6 = .ok (.invokevirtual 169, 3) := by decide +kernel
theorem dX11_isPeak_9 : decode cX11_isPeak 9 = .ok (.aload_n 0, 1) := by decide +kernel
theorem dX11_isPeak_10 : decode cX11_isPeak 10 = .ok (.invokevirtual 249, 3) := by decide +kernel
theorem dX11_isPeak_13 : decode cX11_isPeak 13 = .ok (.iload_n 1, 1) := by decide +kernel
theorem dX11_isPeak_14 : decode cX11_isPeak 14 = .ok (.aload_n 0, 1) := by decide +kernel
theorem dX11_isPeak_15 : decode cX11_isPeak 15 = .ok (.getfield 89, 3) := by decide +kernel
theorem dX11_isPeak_18 : decode cX11_isPeak 18 = .ok (.getfield 113, 3) := by decide +kernel
theorem dX11_isPeak_21 : decode cX11_isPeak 21 = .ok (.invokevirtual 287, 3) := by decide +kernel
theorem dX11_isPeak_24 : decode cX11_isPeak 24 = .ok (.ireturn, 1) := by decide +kernel
theorem dX11_zonePower_0 : decode cX11_zonePower 0 = .ok (.aload_n 0, 1) := by decide +kernel
theorem dX11_zonePower_1 : decode cX11_zonePower 1 = .ok (.invokevirtual 132, 3) := by decide +kernel
theorem dX11_zonePower_4 : decode cX11_zonePower 4 = .ok (.iload_n 1, 1) := by decide +kernel
theorem dX11_zonePower_5 : decode cX11_zonePower 5 = .ok (.aload_n 0, 1) := by decide +kernel
theorem dX11_zonePower_6 : decode cX11_zonePower 6 = .ok (.getfield 89, 3) := by decide +kernel
theorem dX11_zonePower_9 : decode cX11_zonePower 9 = .ok (.getfield 113, 3) := by decide +kernel
theorem dX11_zonePower_12 : decode cX11_zonePower 12 = .ok (.getfield 291, 3) := by decide +kernel
theorem dX11_zonePower_15 : decode cX11_zonePower 15 = .ok (.invokestatic 281, 3) := by decide +kernel
theorem dX11_zonePower_18 : decode cX11_zonePower 18 = .ok (.aload_n 0, 1) := by decide +kernel
theorem dX11_zonePower_19 : decode cX11_zonePower 19 = .ok (.invokevirtual 249, 3) := by decide +kernel
theorem dX11_zonePower_22 : decode cX11_zonePower 22 = .ok (.aload_n 0, 1) := by decide +kernel
theorem dX11_zonePower_23 : decode cX11_zonePower 23 = .ok (.getfield 89, 3) := by decide +kernel
theorem dX11_zonePower_26 : decode cX11_zonePower 26 = .ok (.getfield 113, 3) := by decide +kernel
theorem dX11_zonePower_29 : decode cX11_zonePower 29 = .ok (.getfield 294, 3) := by decide +kernel
theorem dX11_zonePower_32 : decode cX11_zonePower 32 = .ok (.iload_n 1, 1) := by decide +kernel
theorem dX11_zonePower_33 : decode cX11_zonePower 33 = .ok (.aaload, 1) := by decide +kernel
theorem dX11_zonePower_34 : decode cX11_zonePower 34 = .ok (.aload_n 0, 1) := by decide +kernel
theorem dX11_zonePower_35 : decode cX11_zonePower 35 = .ok (.getfield 89, 3) := by decide +kernel
theorem dX11_zonePower_38 : decode cX11_zonePower 38 = .ok (.getfield 113, 3) := by decide +kernel
theorem dX11_zonePower_41 : decode cX11_zonePower 41 = .ok (.aload_n 0, 1) := by decide +kernel
theorem dX11_zonePower_42 : decode cX11_zonePower 42 = .ok (.getfield 79, 3) := by decide +kernel
theorem dX11_zonePower_45 : decode cX11_zonePower 45 = .ok (.iconst 0, 1) := by decide +kernel
theorem dX11_zonePower_46 : decode cX11_zonePower 46 = .ok (.invokevirtual 270, 3) := by decide +kernel
theorem dX11_zonePower_49 : decode cX11_zonePower 49 = .ok (.aload_n 0, 1) := by decide +kernel
theorem dX11_zonePower_50 : decode cX11_zonePower 50 = .ok (.getfield 79, 3) := by decide +kernel
theorem dX11_zonePower_53 : decode cX11_zonePower 53 = .ok (.iconst 0, 1) := by decide +kernel
theorem dX11_zonePower_54 : decode cX11_zonePower 54 = .ok (.invokevirtual 238, 3) := by decide +kernel
theorem dX11_zonePower_57 : decode cX11_zonePower 57 = .ok (.lreturn, 1) := by decide +kernel
theorem dX11_zoneBest_0 : decode cX11_zoneBest 0 = .ok (.aload_n 0, 1) := by decide +kernel
theorem dX11_zoneBest_1 : decode cX11_zoneBest 1 = .ok (.invokevirtual 132, 3) := by decide +kernel
theorem dX11_zoneBest_4 : decode cX11_zoneBest 4 = .ok (.iload_n 1, 1) := by decide +kernel
theorem dX11_zoneBest_5 : decode cX11_zoneBest 5 = .ok (.aload_n 0, 1) := by decide +kernel
theorem dX11_zoneBest_6 : decode cX11_zoneBest 6 = .ok (.getfield 89, 3) := by decide +kernel
theorem dX11_zoneBest_9 : decode cX11_zoneBest 9 = .ok (.getfield 113, 3) := by decide +kernel
theorem dX11_zoneBest_12 : decode cX11_zoneBest 12 = .ok (.getfield 291, 3) := by decide +kernel
theorem dX11_zoneBest_15 : decode cX11_zoneBest 15 = .ok (.invokestatic 281, 3) := by decide +kernel
theorem dX11_zoneBest_18 : decode cX11_zoneBest 18 = .ok (.aload_n 0, 1) := by decide +kernel
theorem dX11_zoneBest_19 : decode cX11_zoneBest 19 = .ok (.getfield 89, 3) := by decide +kernel
theorem dX11_zoneBest_22 : decode cX11_zoneBest 22 = .ok (.getfield 113, 3) := by decide +kernel
theorem dX11_zoneBest_25 : decode cX11_zoneBest 25 = .ok (.aload_n 0, 1) := by decide +kernel
theorem dX11_zoneBest_26 : decode cX11_zoneBest 26 = .ok (.getfield 89, 3) := by decide +kernel
theorem dX11_zoneBest_29 : decode cX11_zoneBest 29 = .ok (.getfield 113, 3) := by decide +kernel
theorem dX11_zoneBest_32 : decode cX11_zoneBest 32 = .ok (.getfield 294, 3) := by decide +kernel
theorem dX11_zoneBest_35 : decode cX11_zoneBest 35 = .ok (.iload_n 1, 1) := by decide +kernel
theorem dX11_zoneBest_36 : decode cX11_zoneBest 36 = .ok (.aaload, 1) := by decide +kernel
theorem dX11_zoneBest_37 : decode cX11_zoneBest 37 = .ok (.aload_n 0, 1) := by decide +kernel
theorem dX11_zoneBest_38 : decode cX11_zoneBest 38 = .ok (.invokevirtual 249, 3) := by decide +kernel
theorem dX11_zoneBest_41 : decode cX11_zoneBest 41 = .ok (.getfield 253, 3) := by decide +kernel
theorem dX11_zoneBest_44 : decode cX11_zoneBest 44 = .ok (.iconst 0, 1) := by decide +kernel
theorem dX11_zoneBest_45 : decode cX11_zoneBest 45 = .ok (.invokevirtual 297, 3) := by decide +kernel
theorem dX11_zoneBest_48 : decode cX11_zoneBest 48 = .ok (.ireturn, 1) := by decide +kernel
theorem dX11_contrast_0 : decode cX11_contrast 0 = .ok (.aload_n 0, 1) := by decide +kernel
theorem dX11_contrast_1 : decode cX11_contrast 1 = .ok (.invokevirtual 132, 3) := by decide +kernel
theorem dX11_contrast_4 : decode cX11_contrast 4 = .ok (.aload_n 0, 1) := by decide +kernel
theorem dX11_contrast_5 : decode cX11_contrast 5 = .ok (.invokevirtual 249, 3) := by decide +kernel
theorem dX11_contrast_8 : decode cX11_contrast 8 = .ok (.astore_n 1, 1) := by decide +kernel
theorem dX11_contrast_9 : decode cX11_contrast 9 = .ok (.aload_n 1, 1) := by decide +kernel
theorem dX11_contrast_10 : decode cX11_contrast 10 = .ok (.aload_n 0, 1) := by decide +kernel
theorem dX11_contrast_11 : decode cX11_contrast 11 = .ok (.getfield 89, 3) := by decide +kernel
theorem dX11_contrast_14 : decode cX11_contrast 14 = .ok (.getfield 113, 3) := by decide +kernel
theorem dX11_contrast_17 : decode cX11_contrast 17 = .ok (.invokevirtual 117, 3) := by decide +kernel
theorem dX11_contrast_20 : decode cX11_contrast 20 = .ok (.invokevirtual 301, 3) := by decide +kernel
theorem dX11_contrast_23 : decode cX11_contrast 23 = .ok (.istore_n 2, 1) := by decide +kernel
theorem dX11_contrast_24 : decode cX11_contrast 24 = .ok (.iload_n 2, 1) := by decide +kernel
theorem dX11_contrast_25 : decode cX11_contrast 25 = .ok (.iconst (-1), 1) := by decide +kernel
theorem dX11_contrast_26 : decode cX11_contrast 26 = .ok (.if_icmp .ne 7, 3) := by decide +kernel
theorem dX11_contrast_29 : decode cX11_contrast 29 = .ok (.fconst 0, 1) := by decide +kernel
theorem dX11_contrast_30 : decode cX11_contrast 30 = .ok (.goto 15, 3) := by decide +kernel
theorem dX11_contrast_33 : decode cX11_contrast 33 = .ok (.aload_n 1, 1) := by decide +kernel
theorem dX11_contrast_34 : decode cX11_contrast 34 = .ok (.getfield 253, 3) := by decide +kernel
theorem dX11_contrast_37 : decode cX11_contrast 37 = .ok (.aload_n 1, 1) := by decide +kernel
theorem dX11_contrast_38 : decode cX11_contrast 38 = .ok (.getfield 264, 3) := by decide +kernel
theorem dX11_contrast_41 : decode cX11_contrast 41 = .ok (.iload_n 2, 1) := by decide +kernel
theorem dX11_contrast_42 : decode cX11_contrast 42 = .ok (.invokevirtual 304, 3) := by decide +kernel
theorem dX11_contrast_45 : decode cX11_contrast 45 = .ok (.freturn, 1) := by decide +kernel
theorem dX11_alias_0 : decode cX11_alias 0 = .ok (.aload_n 0, 1) := by decide +kernel
theorem dX11_alias_1 : decode cX11_alias 1 = .ok (.invokevirtual 132, 3) := by decide +kernel
theorem dX11_alias_4 : decode cX11_alias 4 = .ok (.aload_n 0, 1) := by decide +kernel
theorem dX11_alias_5 : decode cX11_alias 5 = .ok (.iload_n 1, 1) := by decide +kernel
theorem dX11_alias_6 : decode cX11_alias 6 = .ok (.invokevirtual 169, 3) := by decide +kernel
theorem dX11_alias_9 : decode cX11_alias 9 = .ok (.aload_n 0, 1) := by decide +kernel
theorem dX11_alias_10 : decode cX11_alias 10 = .ok (.iload_n 2, 1) := by decide +kernel
theorem dX11_alias_11 : decode cX11_alias 11 = .ok (.invokevirtual 169, 3) := by decide +kernel
theorem dX11_alias_14 : decode cX11_alias 14 = .ok (.iload_n 3, 1) := by decide +kernel
theorem dX11_alias_15 : decode cX11_alias 15 = .ok (.iconst 2, 1) := by decide +kernel
theorem dX11_alias_16 : decode cX11_alias 16 = .ok (.bipush 99, 2) := by decide +kernel
theorem dX11_alias_18 : decode cX11_alias 18 = .ok (.invokestatic 138, 3) := by decide +kernel
theorem dX11_alias_21 : decode cX11_alias 21 = .ok (.aload_n 0, 1) := by decide +kernel
theorem dX11_alias_22 : decode cX11_alias 22 = .ok (.iload_n 1, 1) := by decide +kernel
theorem dX11_alias_23 : decode cX11_alias 23 = .ok (.iload_n 2, 1) := by decide +kernel
theorem dX11_alias_24 : decode cX11_alias 24 = .ok (.iload_n 3, 1) := by decide +kernel
theorem dX11_alias_25 : decode cX11_alias 25 = .ok (.invokevirtual 308, 3) := by decide +kernel
theorem dX11_alias_28 : decode cX11_alias 28 = .ok (.ireturn, 1) := by decide +kernel
theorem dX11_isAlias_0 : decode cX11_isAlias 0 = .ok (.aload_n 0, 1) := by decide +kernel
theorem dX11_isAlias_1 : decode cX11_isAlias 1 = .ok (.invokevirtual 132, 3) := by decide +kernel
theorem dX11_isAlias_4 : decode cX11_isAlias 4 = .ok (.aload_n 0, 1) := by decide +kernel
theorem dX11_isAlias_5 : decode cX11_isAlias 5 = .ok (.iload_n 1, 1) := by decide +kernel
theorem dX11_isAlias_6 : decode cX11_isAlias 6 = .ok (.invokevirtual 169, 3) := by decide +kernel
theorem dX11_isAlias_9 : decode cX11_isAlias 9 = .ok (.iload_n 2, 1) := by decide +kernel
theorem dX11_isAlias_10 : decode cX11_isAlias 10 = .ok (.iconst 2, 1) := by decide +kernel
theorem dX11_isAlias_11 : decode cX11_isAlias 11 = .ok (.bipush 99, 2) := by decide +kernel
theorem dX11_isAlias_13 : decode cX11_isAlias 13 = .ok (.invokestatic 138, 3) := by decide +kernel
theorem dX11_isAlias_16 : decode cX11_isAlias 16 = .ok (.iload_n 3, 1) := by decide +kernel
theorem dX11_isAlias_17 : decode cX11_isAlias 17 = .ok (.iconst 1, 1) := by decide +kernel
theorem dX11_isAlias_18 : decode cX11_isAlias 18 = .ok (.bipush 100, 2) := by decide +kernel
theorem dX11_isAlias_20 : decode cX11_isAlias 20 = .ok (.invokestatic 138, 3) := by decide +kernel
theorem dX11_isAlias_23 : decode cX11_isAlias 23 = .ok (.aload_n 0, 1) := by decide +kernel
theorem dX11_isAlias_24 : decode cX11_isAlias 24 = .ok (.aload_n 0, 1) := by decide +kernel
theorem dX11_isAlias_25 : decode cX11_isAlias 25 = .ok (.invokevirtual 249, 3) := by decide +kernel
theorem dX11_isAlias_28 : decode cX11_isAlias 28 = .ok (.iload_n 1, 1) := by decide +kernel
theorem dX11_isAlias_29 : decode cX11_isAlias 29 = .ok (.iload_n 2, 1) := by decide +kernel
theorem dX11_isAlias_30 : decode cX11_isAlias 30 = .ok (.iload_n 3, 1) := by decide +kernel
theorem dX11_isAlias_31 : decode cX11_isAlias 31 = .ok (.invokevirtual 311, 3) := by decide +kernel
theorem dX11_isAlias_34 : decode cX11_isAlias 34 = .ok (.ireturn, 1) := by decide +kernel
theorem dX11_aliases_0 : decode cX11_aliases 0 = .ok (.aload_n 0, 1) := by decide +kernel
theorem dX11_aliases_1 : decode cX11_aliases 1 = .ok (.invokevirtual 132, 3) := by decide +kernel
theorem dX11_aliases_4 : decode cX11_aliases 4 = .ok (.iload_n 1, 1) := by decide +kernel
theorem dX11_aliases_5 : decode cX11_aliases 5 = .ok (.iconst 2, 1) := by decide +kernel
theorem dX11_aliases_6 : decode cX11_aliases 6 = .ok (.bipush 99, 2) := by decide +kernel
theorem dX11_aliases_8 : decode cX11_aliases 8 = .ok (.invokestatic 138, 3) := by decide +kernel
theorem dX11_aliases_11 : decode cX11_aliases 11 = .ok (.iload_n 2, 1) := by decide +kernel
theorem dX11_aliases_12 : decode cX11_aliases 12 = .ok (.iconst 1, 1) := by decide +kernel
theorem dX11_aliases_13 : decode cX11_aliases 13 = .ok (.bipush 100, 2) := by decide +kernel
theorem dX11_aliases_15 : decode cX11_aliases 15 = .ok (.invokestatic 138, 3) := by decide +kernel
theorem dX11_aliases_18 : decode cX11_aliases 18 = .ok (.aload_n 0, 1) := by decide +kernel
theorem dX11_aliases_19 : decode cX11_aliases 19 = .ok (.invokevirtual 249, 3) := by decide +kernel
theorem dX11_aliases_22 : decode cX11_aliases 22 = .ok (.astore_n 3, 1) := by decide +kernel
theorem dX11_aliases_23 : decode cX11_aliases 23 = .ok (.iconst 0, 1) := by decide +kernel
theorem dX11_aliases_24 : decode cX11_aliases 24 = .ok (.istore 4, 2) := by decide +kernel
theorem dX11_aliases_26 : decode cX11_aliases 26 = .ok (.iconst 0, 1) := by decide +kernel
theorem dX11_aliases_27 : decode cX11_aliases 27 = .ok (.istore 5, 2) := by decide +kernel
theorem dX11_aliases_29 : decode cX11_aliases 29 = .ok (.iload 5, 2) := by decide +kernel
theorem dX11_aliases_31 : decode cX11_aliases 31 = .ok (.aload_n 0, 1) := by decide +kernel
theorem dX11_aliases_32 : decode cX11_aliases 32 = .ok (.getfield 89, 3) := by decide +kernel
theorem dX11_aliases_35 : decode cX11_aliases 35 = .ok (.getfield 113, 3) := by decide +kernel
theorem dX11_aliases_38 : decode cX11_aliases 38 = .ok (.invokevirtual 117, 3) := by decide +kernel
theorem dX11_aliases_41 : decode cX11_aliases 41 = .ok (.if_icmp .ge 24, 3) := by decide +kernel
theorem dX11_aliases_44 : decode cX11_aliases 44 = .ok (.aload_n 0, 1) := by decide +kernel
theorem dX11_aliases_45 : decode cX11_aliases 45 = .ok (.aload_n 3, 1) := by decide +kernel
theorem dX11_aliases_46 : decode cX11_aliases 46 = .ok (.iload 5, 2) := by decide +kernel
theorem dX11_aliases_48 : decode cX11_aliases 48 = .ok (.iload_n 1, 1) := by decide +kernel
theorem dX11_aliases_49 : decode cX11_aliases 49 = .ok (.iload_n 2, 1) := by decide +kernel
theorem dX11_aliases_50 : decode cX11_aliases 50 = .ok (.invokevirtual 311, 3) := by decide +kernel
theorem dX11_aliases_53 : decode cX11_aliases 53 = .ok (.ifCond .eq 6, 3) := by decide +kernel
theorem dX11_aliases_56 : decode cX11_aliases 56 = .ok (.iinc 4 1, 3) := by decide +kernel
theorem dX11_aliases_59 : decode cX11_aliases 59 = .ok (.iinc 5 1, 3) := by decide +kernel
theorem dX11_aliases_62 : decode cX11_aliases 62 = .ok (.goto (-33), 3) := by decide +kernel
theorem dX11_aliases_65 : decode cX11_aliases 65 = .ok (.iload 4, 2) := by decide +kernel
theorem dX11_aliases_67 : decode cX11_aliases 67 = .ok (.ireturn, 1) := by decide +kernel
theorem dX11_blockPower_0 : decode cX11_blockPower 0 = .ok (.aload_n 0, 1) := by decide +kernel
theorem dX11_blockPower_1 : decode cX11_blockPower 1 = .ok (.invokevirtual 132, 3) := by decide +kernel
theorem dX11_blockPower_4 : decode cX11_blockPower 4 = .ok (.aload_n 0, 1) := by decide +kernel
theorem dX11_blockPower_5 : decode cX11_blockPower 5 = .ok (.iload_n 1, 1) := by decide +kernel
theorem dX11_blockPower_6 : decode cX11_blockPower 6 = .ok (.invokevirtual 169, 3) := by decide +kernel
theorem dX11_blockPower_9 : decode cX11_blockPower 9 = .ok (.iload_n 2, 1) := by decide +kernel
theorem dX11_blockPower_10 : decode cX11_blockPower 10 = .ok (.iconst 0, 1) := by decide +kernel
theorem dX11_blockPower_11 : decode cX11_blockPower 11 = .ok (.aload_n 0, 1) := by decide +kernel
theorem dX11_blockPower_12 : decode cX11_blockPower 12 = .ok (.getfield 89, 3) := by decide +kernel
theorem dX11_blockPower_15 : decode cX11_blockPower 15 = .ok (.getfield 185, 3) := by decide +kernel
theorem dX11_blockPower_18 : decode cX11_blockPower 18 = .ok (.iconst 1, 1) := by decide +kernel
theorem dX11_blockPower_19 : decode cX11_blockPower 19 = .ok (.isub, 1) := by decide +kernel
theorem dX11_blockPower_20 : decode cX11_blockPower 20 = .ok (.invokestatic 138, 3) := by decide +kernel
theorem dX11_blockPower_23 : decode cX11_blockPower 23 = .ok (.iload_n 3, 1) := by decide +kernel
theorem dX11_blockPower_24 : decode cX11_blockPower 24 = .ok (.iconst 1, 1) := by decide +kernel
theorem dX11_blockPower_25 : decode cX11_blockPower 25 = .ok (.aload_n 0, 1) := by decide +kernel
theorem dX11_blockPower_26 : decode cX11_blockPower 26 = .ok (.getfield 89, 3) := by decide +kernel
theorem dX11_blockPower_29 : decode cX11_blockPower 29 = .ok (.getfield 185, 3) := by decide +kernel
theorem dX11_blockPower_32 : decode cX11_blockPower 32 = .ok (.invokestatic 138, 3) := by decide +kernel
theorem dX11_blockPower_35 : decode cX11_blockPower 35 = .ok (.aload_n 0, 1) := by decide +kernel
theorem dX11_blockPower_36 : decode cX11_blockPower 36 = .ok (.getfield 52, 3) := by decide +kernel
theorem dX11_blockPower_39 : decode cX11_blockPower 39 = .ok (.aload_n 0, 1) := by decide +kernel
theorem dX11_blockPower_40 : decode cX11_blockPower 40 = .ok (.getfield 89, 3) := by decide +kernel
theorem dX11_blockPower_43 : decode cX11_blockPower 43 = .ok (.getfield 214, 3) := by decide +kernel
theorem dX11_blockPower_46 : decode cX11_blockPower 46 = .ok (.iload_n 1, 1) := by decide +kernel
theorem dX11_blockPower_47 : decode cX11_blockPower 47 = .ok (.aaload, 1) := by decide +kernel
theorem dX11_blockPower_48 : decode cX11_blockPower 48 = .ok (.iload_n 2, 1) := by decide +kernel
theorem dX11_blockPower_49 : decode cX11_blockPower 49 = .ok (.iload_n 3, 1) := by decide +kernel
theorem dX11_blockPower_50 : decode cX11_blockPower 50 = .ok (.aload_n 0, 1) := by decide +kernel
theorem dX11_blockPower_51 : decode cX11_blockPower 51 = .ok (.getfield 79, 3) := by decide +kernel
theorem dX11_blockPower_54 : decode cX11_blockPower 54 = .ok (.iconst 0, 1) := by decide +kernel
theorem dX11_blockPower_55 : decode cX11_blockPower 55 = .ok (.invokevirtual 315, 3) := by decide +kernel
theorem dX11_blockPower_58 : decode cX11_blockPower 58 = .ok (.aload_n 0, 1) := by decide +kernel
theorem dX11_blockPower_59 : decode cX11_blockPower 59 = .ok (.getfield 79, 3) := by decide +kernel
theorem dX11_blockPower_62 : decode cX11_blockPower 62 = .ok (.iconst 0, 1) := by decide +kernel
theorem dX11_blockPower_63 : decode cX11_blockPower 63 = .ok (.invokevirtual 238, 3) := by decide +kernel
theorem dX11_blockPower_66 : decode cX11_blockPower 66 = .ok (.lreturn, 1) := by decide +kernel
theorem dX11_blockBest_0 : decode cX11_blockBest 0 = .ok (.aload_n 0, 1) := by decide +kernel
theorem dX11_blockBest_1 : decode cX11_blockBest 1 = .ok (.invokevirtual 132, 3) := by decide +kernel
theorem dX11_blockBest_4 : decode cX11_blockBest 4 = .ok (.iload_n 1, 1) := by decide +kernel
theorem dX11_blockBest_5 : decode cX11_blockBest 5 = .ok (.iconst 0, 1) := by decide +kernel
theorem dX11_blockBest_6 : decode cX11_blockBest 6 = .ok (.aload_n 0, 1) := by decide +kernel
theorem dX11_blockBest_7 : decode cX11_blockBest 7 = .ok (.getfield 89, 3) := by decide +kernel
theorem dX11_blockBest_10 : decode cX11_blockBest 10 = .ok (.getfield 185, 3) := by decide +kernel
theorem dX11_blockBest_13 : decode cX11_blockBest 13 = .ok (.iconst 1, 1) := by decide +kernel
theorem dX11_blockBest_14 : decode cX11_blockBest 14 = .ok (.isub, 1) := by decide +kernel
theorem dX11_blockBest_15 : decode cX11_blockBest 15 = .ok (.invokestatic 138, 3) := by decide +kernel
theorem dX11_blockBest_18 : decode cX11_blockBest 18 = .ok (.iload_n 2, 1) := by decide +kernel
theorem dX11_blockBest_19 : decode cX11_blockBest 19 = .ok (.iconst 1, 1) := by decide +kernel
theorem dX11_blockBest_20 : decode cX11_blockBest 20 = .ok (.aload_n 0, 1) := by decide +kernel
theorem dX11_blockBest_21 : decode cX11_blockBest 21 = .ok (.getfield 89, 3) := by decide +kernel
theorem dX11_blockBest_24 : decode cX11_blockBest 24 = .ok (.getfield 185, 3) := by decide +kernel
theorem dX11_blockBest_27 : decode cX11_blockBest 27 = .ok (.invokestatic 138, 3) := by decide +kernel
theorem dX11_blockBest_30 : decode cX11_blockBest 30 = .ok (.aload_n 0, 1) := by decide +kernel
theorem dX11_blockBest_31 : decode cX11_blockBest 31 = .ok (.getfield 35, 3) := by decide +kernel
theorem dX11_blockBest_34 : decode cX11_blockBest 34 = .ok (.aload_n 0, 1) := by decide +kernel
theorem dX11_blockBest_35 : decode cX11_blockBest 35 = .ok (.getfield 89, 3) := by decide +kernel
theorem dX11_blockBest_38 : decode cX11_blockBest 38 = .ok (.aload_n 0, 1) := by decide +kernel
theorem dX11_blockBest_39 : decode cX11_blockBest 39 = .ok (.getfield 52, 3) := by decide +kernel
theorem dX11_blockBest_42 : decode cX11_blockBest 42 = .ok (.iload_n 1, 1) := by decide +kernel
theorem dX11_blockBest_43 : decode cX11_blockBest 43 = .ok (.iload_n 2, 1) := by decide +kernel
theorem dX11_blockBest_44 : decode cX11_blockBest 44 = .ok (.invokevirtual 319, 3) := by decide +kernel
theorem dX11_blockBest_47 : decode cX11_blockBest 47 = .ok (.ireturn, 1) := by decide +kernel
theorem dX11_path_0 : decode cX11_path 0 = .ok (.aload_n 0, 1) := by decide +kernel
theorem dX11_path_1 : decode cX11_path 1 = .ok (.invokevirtual 132, 3) := by decide +kernel
theorem dX11_path_4 : decode cX11_path 4 = .ok (.iload_n 1, 1) := by decide +kernel
theorem dX11_path_5 : decode cX11_path 5 = .ok (.iconst 4, 1) := by decide +kernel
theorem dX11_path_6 : decode cX11_path 6 = .ok (.aload_n 0, 1) := by decide +kernel
theorem dX11_path_7 : decode cX11_path 7 = .ok (.getfield 89, 3) := by decide +kernel
theorem dX11_path_10 : decode cX11_path 10 = .ok (.getfield 185, 3) := by decide +kernel
theorem dX11_path_13 : decode cX11_path 13 = .ok (.invokestatic 138, 3) := by decide +kernel
theorem dX11_path_16 : decode cX11_path 16 = .ok (.iconst 0, 1) := by decide +kernel
theorem dX11_path_17 : decode cX11_path 17 = .ok (.istore_n 2, 1) := by decide +kernel
theorem dX11_path_18 : decode cX11_path 18 = .ok (.aload_n 0, 1) := by decide +kernel
theorem dX11_path_19 : decode cX11_path 19 = .ok (.getfield 35, 3) := by decide +kernel
theorem dX11_path_22 : decode cX11_path 22 = .ok (.aload_n 0, 1) := by decide +kernel
theorem dX11_path_23 : decode cX11_path 23 = .ok (.getfield 89, 3) := by decide +kernel
theorem dX11_path_26 : decode cX11_path 26 = .ok (.aload_n 0, 1) := by decide +kernel
theorem dX11_path_27 : decode cX11_path 27 = .ok (.getfield 52, 3) := by decide +kernel
theorem dX11_path_30 : decode cX11_path 30 = .ok (.iconst 0, 1) := by decide +kernel
theorem dX11_path_31 : decode cX11_path 31 = .ok (.iload_n 1, 1) := by decide +kernel
theorem dX11_path_32 : decode cX11_path 32 = .ok (.invokevirtual 319, 3) := by decide +kernel
theorem dX11_path_35 : decode cX11_path 35 = .ok (.istore_n 3, 1) := by decide +kernel
theorem dX11_path_36 : decode cX11_path 36 = .ok (.iload_n 1, 1) := by decide +kernel
theorem dX11_path_37 : decode cX11_path 37 = .ok (.istore 4, 2) := by decide +kernel
theorem dX11_path_39 : decode cX11_path 39 = .ok (.iload 4, 2) := by decide +kernel
theorem dX11_path_41 : decode cX11_path 41 = .ok (.iload_n 1, 1) := by decide +kernel
theorem dX11_path_42 : decode cX11_path 42 = .ok (.iadd, 1) := by decide +kernel
theorem dX11_path_43 : decode cX11_path 43 = .ok (.aload_n 0, 1) := by decide +kernel
theorem dX11_path_44 : decode cX11_path 44 = .ok (.getfield 89, 3) := by decide +kernel
theorem dX11_path_47 : decode cX11_path 47 = .ok (.getfield 185, 3) := by decide +kernel
theorem dX11_path_50 : decode cX11_path 50 = .ok (.if_icmp .gt 53, 3) := by decide +kernel
theorem dX11_path_53 : decode cX11_path 53 = .ok (.aload_n 0, 1) := by decide +kernel
theorem dX11_path_54 : decode cX11_path 54 = .ok (.getfield 35, 3) := by decide +kernel
theorem dX11_path_57 : decode cX11_path 57 = .ok (.aload_n 0, 1) := by decide +kernel
theorem dX11_path_58 : decode cX11_path 58 = .ok (.getfield 89, 3) := by decide +kernel
theorem dX11_path_61 : decode cX11_path 61 = .ok (.aload_n 0, 1) := by decide +kernel
theorem dX11_path_62 : decode cX11_path 62 = .ok (.getfield 52, 3) := by decide +kernel
theorem dX11_path_65 : decode cX11_path 65 = .ok (.iload 4, 2) := by decide +kernel
theorem dX11_path_67 : decode cX11_path 67 = .ok (.iload_n 1, 1) := by decide +kernel
theorem dX11_path_68 : decode cX11_path 68 = .ok (.invokevirtual 319, 3) := by decide +kernel
theorem dX11_path_71 : decode cX11_path 71 = .ok (.istore 5, 2) := by decide +kernel
theorem dX11_path_73 : decode cX11_path 73 = .ok (.iload_n 2, 1) := by decide +kernel
theorem dX11_path_74 : decode cX11_path 74 = .ok (.iload 5, 2) := by decide +kernel
theorem dX11_path_76 : decode cX11_path 76 = .ok (.iload_n 3, 1) := by decide +kernel
theorem dX11_path_77 : decode cX11_path 77 = .ok (.if_icmp .ne 7, 3) := by decide +kernel
theorem dX11_path_80 : decode cX11_path 80 = .ok (.iconst 0, 1) := by decide +kernel
theorem dX11_path_81 : decode cX11_path 81 = .ok (.goto 4, 3) := by decide +kernel
theorem dX11_path_84 : decode cX11_path 84 = .ok (.iconst 1, 1) := by decide +kernel
theorem dX11_path_85 : decode cX11_path 85 = .ok (.iadd, 1) := by decide +kernel
theorem dX11_path_86 : decode cX11_path 86 = .ok (.istore_n 2, 1) := by decide +kernel
theorem dX11_path_87 : decode cX11_path 87 = .ok (.iload 5, 2) := by decide +kernel
theorem dX11_path_89 : decode cX11_path 89 = .ok (.istore_n 3, 1) := by decide +kernel
theorem dX11_path_90 : decode cX11_path 90 = .ok (.iload 4, 2) := by decide +kernel
theorem dX11_path_92 : decode cX11_path 92 = .ok (.iload_n 1, 1) := by decide +kernel
theorem dX11_path_93 : decode cX11_path 93 = .ok (.iconst 1, 1) := by decide +kernel
theorem dX11_path_94 : decode cX11_path 94 = .ok (.invokestatic 323, 3) := by decide +kernel
theorem dX11_path_97 : decode cX11_path 97 = .ok (.iadd, 1) := by decide +kernel
theorem dX11_path_98 : decode cX11_path 98 = .ok (.istore 4, 2) := by decide +kernel
theorem dX11_path_100 : decode cX11_path 100 = .ok (.goto (-61), 3) := by decide +kernel
theorem dX11_path_103 : decode cX11_path 103 = .ok (.iload_n 2, 1) := by decide +kernel
theorem dX11_path_104 : decode cX11_path 104 = .ok (.ireturn, 1) := by decide +kernel
theorem dX11_trackScore_0 : decode cX11_trackScore 0 = .ok (.aload_n 0, 1) := by decide +kernel
theorem dX11_trackScore_1 : decode cX11_trackScore 1 = .ok (.invokevirtual 132, 3) := by decide +kernel
theorem dX11_trackScore_4 : decode cX11_trackScore 4 = .ok (.iload_n 1, 1) := by decide +kernel
theorem dX11_trackScore_5 : decode cX11_trackScore 5 = .ok (.iconst 4, 1) := by decide +kernel
theorem dX11_trackScore_6 : decode cX11_trackScore 6 = .ok (.aload_n 0, 1) := by decide +kernel
theorem dX11_trackScore_7 : decode cX11_trackScore 7 = .ok (.getfield 89, 3) := by decide +kernel
theorem dX11_trackScore_10 : decode cX11_trackScore 10 = .ok (.getfield 185, 3) := by decide +kernel
theorem dX11_trackScore_13 : decode cX11_trackScore 13 = .ok (.invokestatic 138, 3) := by decide +kernel
theorem dX11_trackScore_16 : decode cX11_trackScore 16 = .ok (.aload_n 0, 1) := by decide +kernel
theorem dX11_trackScore_17 : decode cX11_trackScore 17 = .ok (.getfield 35, 3) := by decide +kernel
theorem dX11_trackScore_20 : decode cX11_trackScore 20 = .ok (.aload_n 0, 1) := by decide +kernel
theorem dX11_trackScore_21 : decode cX11_trackScore 21 = .ok (.getfield 89, 3) := by decide +kernel
theorem dX11_trackScore_24 : decode cX11_trackScore 24 = .ok (.aload_n 0, 1) := by decide +kernel
theorem dX11_trackScore_25 : decode cX11_trackScore 25 = .ok (.getfield 52, 3) := by decide +kernel
theorem dX11_trackScore_28 : decode cX11_trackScore 28 = .ok (.iload_n 1, 1) := by decide +kernel
theorem dX11_trackScore_29 : decode cX11_trackScore 29 = .ok (.invokevirtual 328, 3) := by decide +kernel
theorem dX11_trackScore_32 : decode cX11_trackScore 32 = .ok (.aload_n 0, 1) := by decide +kernel
theorem dX11_trackScore_33 : decode cX11_trackScore 33 = .ok (.getfield 35, 3) := by decide +kernel
theorem dX11_trackScore_36 : decode cX11_trackScore 36 = .ok (.getfield 332, 3) := by decide +kernel
theorem dX11_trackScore_39 : decode cX11_trackScore 39 = .ok (.aload_n 0, 1) := by decide +kernel
theorem dX11_trackScore_40 : decode cX11_trackScore 40 = .ok (.getfield 35, 3) := by decide +kernel
theorem dX11_trackScore_43 : decode cX11_trackScore 43 = .ok (.aload_n 0, 1) := by decide +kernel
theorem dX11_trackScore_44 : decode cX11_trackScore 44 = .ok (.getfield 89, 3) := by decide +kernel
theorem dX11_trackScore_47 : decode cX11_trackScore 47 = .ok (.getfield 113, 3) := by decide +kernel
theorem dX11_trackScore_50 : decode cX11_trackScore 50 = .ok (.iconst 0, 1) := by decide +kernel
theorem dX11_trackScore_51 : decode cX11_trackScore 51 = .ok (.invokevirtual 335, 3) := by decide +kernel
theorem dX11_trackScore_54 : decode cX11_trackScore 54 = .ok (.invokevirtual 238, 3) := by decide +kernel
theorem dX11_trackScore_57 : decode cX11_trackScore 57 = .ok (.lreturn, 1) := by decide +kernel
theorem dX11_trackCell_0 : decode cX11_trackCell 0 = .ok (.aload_n 0, 1) := by decide +kernel
theorem dX11_trackCell_1 : decode cX11_trackCell 1 = .ok (.invokevirtual 132, 3) := by decide +kernel
theorem dX11_trackCell_4 : decode cX11_trackCell 4 = .ok (.iload_n 1, 1) := by decide +kernel
theorem dX11_trackCell_5 : decode cX11_trackCell 5 = .ok (.iconst 4, 1) := by decide +kernel
theorem dX11_trackCell_6 : decode cX11_trackCell 6 = .ok (.if_icmp .lt 18, 3) := by decide +kernel
theorem dX11_trackCell_9 : decode cX11_trackCell 9 = .ok (.iload_n 1, 1) := by decide +kernel
theorem dX11_trackCell_10 : decode cX11_trackCell 10 = .ok (.aload_n 0, 1) := by decide +kernel
theorem dX11_trackCell_11 : decode cX11_trackCell 11 = .ok (.getfield 89, 3) := by decide +kernel
theorem dX11_trackCell_14 : decode cX11_trackCell 14 = .ok (.getfield 185, 3) := by decide +kernel
theorem dX11_trackCell_17 : decode cX11_trackCell 17 = .ok (.if_icmp .gt 7, 3) := by decide +kernel
theorem dX11_trackCell_20 : decode cX11_trackCell 20 = .ok (.iconst 1, 1) := by decide +kernel
theorem dX11_trackCell_21 : decode cX11_trackCell 21 = .ok (.goto 4, 3) := by decide +kernel
theorem dX11_trackCell_24 : decode cX11_trackCell 24 = .ok (.iconst 0, 1) := by decide +kernel
theorem dX11_trackCell_25 : decode cX11_trackCell 25 = .ok (.istore_n 3, 1) := by decide +kernel
theorem dX11_trackCell_26 : decode cX11_trackCell 26 = .ok (.iload_n 3, 1) := by decide +kernel
theorem dX11_trackCell_27 : decode cX11_trackCell 27 = .ok (.ifCond .eq 21, 3) := by decide +kernel
theorem dX11_trackCell_30 : decode cX11_trackCell 30 = .ok (.iload_n 2, 1) := by decide +kernel
theorem dX11_trackCell_31 : decode cX11_trackCell 31 = .ok (.aload_n 0, 1) := by decide +kernel
theorem dX11_trackCell_32 : decode cX11_trackCell 32 = .ok (.getfield 89, 3) := by decide +kernel
theorem dX11_trackCell_35 : decode cX11_trackCell 35 = .ok (.getfield 185, 3) := by decide +kernel
theorem dX11_trackCell_38 : decode cX11_trackCell 38 = .ok (.i2l, 1) := by decide +kernel
theorem dX11_trackCell_39 : decode cX11_trackCell 39 = .ok (.iload_n 1, 1) := by decide +kernel
theorem dX11_trackCell_40 : decode cX11_trackCell 40 = .ok (.i2l, 1) := by decide +kernel
theorem dX11_trackCell_41 : decode cX11_trackCell 41 = .ok (.invokestatic 339, 3) := by decide +kernel
theorem dX11_trackCell_44 : decode cX11_trackCell 44 = .ok (.l2i, 1) := by decide +kernel
theorem dX11_trackCell_45 : decode cX11_trackCell 45 = .ok (.invokestatic 281, 3) := by decide +kernel
theorem dX11_trackCell_48 : decode cX11_trackCell 48 = .ok (.iload_n 1, 1) := by decide +kernel
theorem dX11_trackCell_49 : decode cX11_trackCell 49 = .ok (.iconst 4, 1) := by decide +kernel
theorem dX11_trackCell_50 : decode cX11_trackCell 50 = .ok (.aload_n 0, 1) := by decide +kernel
theorem dX11_trackCell_51 : decode cX11_trackCell 51 = .ok (.getfield 89, 3) := by decide +kernel
theorem dX11_trackCell_54 : decode cX11_trackCell 54 = .ok (.getfield 185, 3) := by decide +kernel
theorem dX11_trackCell_57 : decode cX11_trackCell 57 = .ok (.invokestatic 138, 3) := by decide +kernel
theorem dX11_trackCell_60 : decode cX11_trackCell 60 = .ok (.aload_n 0, 1) := by decide +kernel
theorem dX11_trackCell_61 : decode cX11_trackCell 61 = .ok (.getfield 35, 3) := by decide +kernel
theorem dX11_trackCell_64 : decode cX11_trackCell 64 = .ok (.aload_n 0, 1) := by decide +kernel
theorem dX11_trackCell_65 : decode cX11_trackCell 65 = .ok (.getfield 89, 3) := by decide +kernel
theorem dX11_trackCell_68 : decode cX11_trackCell 68 = .ok (.aload_n 0, 1) := by decide +kernel
theorem dX11_trackCell_69 : decode cX11_trackCell 69 = .ok (.getfield 52, 3) := by decide +kernel
theorem dX11_trackCell_72 : decode cX11_trackCell 72 = .ok (.iload_n 1, 1) := by decide +kernel
theorem dX11_trackCell_73 : decode cX11_trackCell 73 = .ok (.invokevirtual 328, 3) := by decide +kernel
theorem dX11_trackCell_76 : decode cX11_trackCell 76 = .ok (.aload_n 0, 1) := by decide +kernel
theorem dX11_trackCell_77 : decode cX11_trackCell 77 = .ok (.getfield 35, 3) := by decide +kernel
theorem dX11_trackCell_80 : decode cX11_trackCell 80 = .ok (.aload_n 0, 1) := by decide +kernel
theorem dX11_trackCell_81 : decode cX11_trackCell 81 = .ok (.getfield 89, 3) := by decide +kernel
theorem dX11_trackCell_84 : decode cX11_trackCell 84 = .ok (.getfield 113, 3) := by decide +kernel
theorem dX11_trackCell_87 : decode cX11_trackCell 87 = .ok (.iload_n 2, 1) := by decide +kernel
theorem dX11_trackCell_88 : decode cX11_trackCell 88 = .ok (.invokevirtual 335, 3) := by decide +kernel
theorem dX11_trackCell_91 : decode cX11_trackCell 91 = .ok (.ireturn, 1) := by decide +kernel
theorem dX11_movingPower_0 : decode cX11_movingPower 0 = .ok (.aload_n 0, 1) := by decide +kernel
theorem dX11_movingPower_1 : decode cX11_movingPower 1 = .ok (.invokevirtual 132, 3) := by decide +kernel
theorem dX11_movingPower_4 : decode cX11_movingPower 4 = .ok (.aload_n 0, 1) := by decide +kernel
theorem dX11_movingPower_5 : decode cX11_movingPower 5 = .ok (.iload_n 1, 1) := by decide +kernel
theorem dX11_movingPower_6 : decode cX11_movingPower 6 = .ok (.invokevirtual 169, 3) := by decide +kernel
theorem dX11_movingPower_9 : decode cX11_movingPower 9 = .ok (.iload_n 2, 1) := by decide +kernel
theorem dX11_movingPower_10 : decode cX11_movingPower 10 = .ok (.sipush (-999), 3) := by decide +kernel
theorem dX11_movingPower_13 : decode cX11_movingPower 13 = .ok (.sipush 999, 3) := by decide +kernel
theorem dX11_movingPower_16 : decode cX11_movingPower 16 = .ok (.invokestatic 138, 3) := by decide +kernel
theorem dX11_movingPower_19 : decode cX11_movingPower 19 = .ok (.iload_n 3, 1) := by decide +kernel
theorem dX11_movingPower_20 : decode cX11_movingPower 20 = .ok (.sipush (-999), 3) := by decide +kernel
theorem dX11_movingPower_23 : decode cX11_movingPower 23 = .ok (.sipush 999, 3) := by decide +kernel
theorem dX11_movingPower_26 : decode cX11_movingPower 26 = .ok (.invokestatic 138, 3) := by decide +kernel
theorem dX11_movingPower_29 : decode cX11_movingPower 29 = .ok (.aload_n 0, 1) := by decide +kernel
theorem dX11_movingPower_30 : decode cX11_movingPower 30 = .ok (.iload_n 1, 1) := by decide +kernel
theorem dX11_movingPower_31 : decode cX11_movingPower 31 = .ok (.iload_n 2, 1) := by decide +kernel
theorem dX11_movingPower_32 : decode cX11_movingPower 32 = .ok (.iload_n 3, 1) := by decide +kernel
theorem dX11_movingPower_33 : decode cX11_movingPower 33 = .ok (.iconst 0, 1) := by decide +kernel
theorem dX11_movingPower_34 : decode cX11_movingPower 34 = .ok (.invokevirtual 343, 3) := by decide +kernel
theorem dX11_movingPower_37 : decode cX11_movingPower 37 = .ok (.aload_n 0, 1) := by decide +kernel
theorem dX11_movingPower_38 : decode cX11_movingPower 38 = .ok (.getfield 79, 3) := by decide +kernel
theorem dX11_movingPower_41 : decode cX11_movingPower 41 = .ok (.iconst 0, 1) := by decide +kernel
theorem dX11_movingPower_42 : decode cX11_movingPower 42 = .ok (.invokevirtual 238, 3) := by decide +kernel
theorem dX11_movingPower_45 : decode cX11_movingPower 45 = .ok (.lreturn, 1) := by decide +kernel
theorem dX11_bestVelocity_0 : decode cX11_bestVelocity 0 = .ok (.aload_n 0, 1) := by decide +kernel
theorem dX11_bestVelocity_1 : decode cX11_bestVelocity 1 = .ok (.invokevirtual 132, 3) := by decide +kernel
theorem dX11_bestVelocity_4 : decode cX11_bestVelocity 4 = .ok (.aload_n 0, 1) := by decide +kernel
theorem dX11_bestVelocity_5 : decode cX11_bestVelocity 5 = .ok (.iload_n 1, 1) := by decide +kernel
theorem dX11_bestVelocity_6 : decode cX11_bestVelocity 6 = .ok (.invokevirtual 169, 3) := by decide +kernel
theorem dX11_bestVelocity_9 : decode cX11_bestVelocity 9 = .ok (.iload_n 2, 1) := by decide +kernel
theorem dX11_bestVelocity_10 : decode cX11_bestVelocity 10 = .ok (.iconst 1, 1) := by decide +kernel
theorem dX11_bestVelocity_11 : decode cX11_bestVelocity 11 = .ok (.bipush 99, 2) := by decide +kernel
theorem dX11_bestVelocity_13 : decode cX11_bestVelocity 13 = .ok (.invokestatic 138, 3) := by decide +kernel
theorem dX11_bestVelocity_16 : decode cX11_bestVelocity 16 = .ok (.iload_n 3, 1) := by decide +kernel
theorem dX11_bestVelocity_17 : decode cX11_bestVelocity 17 = .ok (.iconst 0, 1) := by decide +kernel
theorem dX11_bestVelocity_18 : decode cX11_bestVelocity 18 = .ok (.iconst 4, 1) := by decide +kernel
theorem dX11_bestVelocity_19 : decode cX11_bestVelocity 19 = .ok (.invokestatic 138, 3) := by decide +kernel
theorem dX11_bestVelocity_22 : decode cX11_bestVelocity 22 = .ok (.iconst (-1), 1) := by decide +kernel
theorem dX11_bestVelocity_23 : decode cX11_bestVelocity 23 = .ok (.istore 4, 2) := by decide +kernel
theorem dX11_bestVelocity_25 : decode cX11_bestVelocity 25 = .ok (.iload_n 3, 1) := by decide +kernel
theorem dX11_bestVelocity_26 : decode cX11_bestVelocity 26 = .ok (.ineg, 1) := by decide +kernel
theorem dX11_bestVelocity_27 : decode cX11_bestVelocity 27 = .ok (.istore 5, 2) := by decide +kernel
theorem dX11_bestVelocity_29 : decode cX11_bestVelocity 29 = .ok (.iload 5, 2) := by decide +kernel
theorem dX11_bestVelocity_31 : decode cX11_bestVelocity 31 = .ok (.iload_n 3, 1) := by decide +kernel
theorem dX11_bestVelocity_32 : decode cX11_bestVelocity 32 = .ok (.if_icmp .gt 84, 3) := by decide +kernel
theorem dX11_bestVelocity_35 : decode cX11_bestVelocity 35 = .ok (.iload_n 3, 1) := by decide +kernel
theorem dX11_bestVelocity_36 : decode cX11_bestVelocity 36 = .ok (.ineg, 1) := by decide +kernel
theorem dX11_bestVelocity_37 : decode cX11_bestVelocity 37 = .ok (.istore 6, 2) := by decide +kernel
theorem dX11_bestVelocity_39 : decode cX11_bestVelocity 39 = .ok (.iload 6, 2) := by decide +kernel
theorem dX11_bestVelocity_41 : decode cX11_bestVelocity 41 = .ok (.iload_n 3, 1) := by decide +kernel
theorem dX11_bestVelocity_42 : decode cX11_bestVelocity 42 = .ok (.if_icmp .gt 68, 3) := by decide +kernel
theorem dX11_bestVelocity_45 : decode cX11_bestVelocity 45 = .ok (.aload_n 0, 1) := by decide +kernel
theorem dX11_bestVelocity_46 : decode cX11_bestVelocity 46 = .ok (.iload_n 1, 1) := by decide +kernel
theorem dX11_bestVelocity_47 : decode cX11_bestVelocity 47 = .ok (.iload_n 2, 1) := by decide +kernel
theorem dX11_bestVelocity_48 : decode cX11_bestVelocity 48 = .ok (.iload 5, 2) := by decide +kernel
theorem dX11_bestVelocity_50 : decode cX11_bestVelocity 50 = .ok (.imul, 1) := by decide +kernel
theorem dX11_bestVelocity_51 : decode cX11_bestVelocity 51 = .ok (.iload_n 2, 1) := by decide +kernel
theorem dX11_bestVelocity_52 : decode cX11_bestVelocity 52 = .ok (.iload 6, 2) := by decide +kernel
theorem dX11_bestVelocity_54 : decode cX11_bestVelocity 54 = .ok (.imul, 1) := by decide +kernel
theorem dX11_bestVelocity_55 : decode cX11_bestVelocity 55 = .ok (.iconst 1, 1) := by decide +kernel
theorem dX11_bestVelocity_56 : decode cX11_bestVelocity 56 = .ok (.invokevirtual 343, 3) := by decide +kernel
theorem dX11_bestVelocity_59 : decode cX11_bestVelocity 59 = .ok (.iload 4, 2) := by decide +kernel
theorem dX11_bestVelocity_61 : decode cX11_bestVelocity 61 = .ok (.iconst (-1), 1) := by decide +kernel
theorem dX11_bestVelocity_62 : decode cX11_bestVelocity 62 = .ok (.if_icmp .eq 15, 3) := by decide +kernel
theorem dX11_bestVelocity_65 : decode cX11_bestVelocity 65 = .ok (.aload_n 0, 1) := by decide +kernel
theorem dX11_bestVelocity_66 : decode cX11_bestVelocity 66 = .ok (.getfield 79, 3) := by decide +kernel
theorem dX11_bestVelocity_69 : decode cX11_bestVelocity 69 = .ok (.iconst 1, 1) := by decide +kernel
theorem dX11_bestVelocity_70 : decode cX11_bestVelocity 70 = .ok (.iconst 0, 1) := by decide +kernel
theorem dX11_bestVelocity_71 : decode cX11_bestVelocity 71 = .ok (.invokevirtual 347, 3) := by decide +kernel
theorem dX11_bestVelocity_74 : decode cX11_bestVelocity 74 = .ok (.ifCond .le 30, 3) := by decide +kernel
theorem dX11_bestVelocity_77 : decode cX11_bestVelocity 77 = .ok (.aload_n 0, 1) := by decide +kernel
theorem dX11_bestVelocity_78 : decode cX11_bestVelocity 78 = .ok (.getfield 79, 3) := by decide +kernel
theorem dX11_bestVelocity_81 : decode cX11_bestVelocity 81 = .ok (.iconst 0, 1) := by decide +kernel
theorem dX11_bestVelocity_82 : decode cX11_bestVelocity 82 = .ok (.aload_n 0, 1) := by decide +kernel
theorem dX11_bestVelocity_83 : decode cX11_bestVelocity 83 = .ok (.getfield 79, 3) := by decide +kernel
theorem dX11_bestVelocity_86 : decode cX11_bestVelocity 86 = .ok (.iconst 1, 1) := by decide +kernel
theorem dX11_bestVelocity_87 : decode cX11_bestVelocity 87 = .ok (.invokevirtual 350, 3) := by decide +kernel
theorem dX11_bestVelocity_90 : decode cX11_bestVelocity 90 = .ok (.bipush 100, 2) := by decide +kernel
theorem dX11_bestVelocity_92 : decode cX11_bestVelocity 92 = .ok (.iload 5, 2) := by decide +kernel
theorem dX11_bestVelocity_94 : decode cX11_bestVelocity 94 = .ok (.iload_n 3, 1) := by decide +kernel
theorem dX11_bestVelocity_95 : decode cX11_bestVelocity 95 = .ok (.iadd, 1) := by decide +kernel
theorem dX11_bestVelocity_96 : decode cX11_bestVelocity 96 = .ok (.imul, 1) := by decide +kernel
theorem dX11_bestVelocity_97 : decode cX11_bestVelocity 97 = .ok (.iload 6, 2) := by decide +kernel
theorem dX11_bestVelocity_99 : decode cX11_bestVelocity 99 = .ok (.iadd, 1) := by decide +kernel
theorem dX11_bestVelocity_100 : decode cX11_bestVelocity 100 = .ok (.iload_n 3, 1) := by decide +kernel
theorem dX11_bestVelocity_101 : decode cX11_bestVelocity 101 = .ok (.iadd, 1) := by decide +kernel
theorem dX11_bestVelocity_102 : decode cX11_bestVelocity 102 = .ok (.istore 4, 2) := by decide +kernel
theorem dX11_bestVelocity_104 : decode cX11_bestVelocity 104 = .ok (.iinc 6 1, 3) := by decide +kernel
theorem dX11_bestVelocity_107 : decode cX11_bestVelocity 107 = .ok (.goto (-68), 3) := by decide +kernel
theorem dX11_bestVelocity_110 : decode cX11_bestVelocity 110 = .ok (.iinc 5 1, 3) := by decide +kernel
theorem dX11_bestVelocity_113 : decode cX11_bestVelocity 113 = .ok (.goto (-84), 3) := by decide +kernel
theorem dX11_bestVelocity_116 : decode cX11_bestVelocity 116 = .ok (.iload 4, 2) := by decide +kernel
theorem dX11_bestVelocity_118 : decode cX11_bestVelocity 118 = .ok (.ireturn, 1) := by decide +kernel
theorem dX11_correlation_0 : decode cX11_correlation 0 = .ok (.aload_n 0, 1) := by decide +kernel
theorem dX11_correlation_1 : decode cX11_correlation 1 = .ok (.invokevirtual 132, 3) := by decide +kernel
theorem dX11_correlation_4 : decode cX11_correlation 4 = .ok (.aload_n 0, 1) := by decide +kernel
theorem dX11_correlation_5 : decode cX11_correlation 5 = .ok (.iload_n 1, 1) := by decide +kernel
theorem dX11_correlation_6 : decode cX11_correlation 6 = .ok (.invokevirtual 135, 3) := by decide +kernel
theorem dX11_correlation_9 : decode cX11_correlation 9 = .ok (.aload_n 0, 1) := by decide +kernel
theorem dX11_correlation_10 : decode cX11_correlation 10 = .ok (.iload_n 2, 1) := by decide +kernel
theorem dX11_correlation_11 : decode cX11_correlation 11 = .ok (.invokevirtual 135, 3) := by decide +kernel
theorem dX11_correlation_14 : decode cX11_correlation 14 = .ok (.iload_n 3, 1) := by decide +kernel
theorem dX11_correlation_15 : decode cX11_correlation 15 = .ok (.iconst 0, 1) := by decide +kernel
theorem dX11_correlation_16 : decode cX11_correlation 16 = .ok (.aload_n 0, 1) := by decide +kernel
theorem dX11_correlation_17 : decode cX11_correlation 17 = .ok (.getfield 89, 3) := by decide +kernel
theorem dX11_correlation_20 : decode cX11_correlation 20 = .ok (.getfield 185, 3) := by decide +kernel
theorem dX11_correlation_23 : decode cX11_correlation 23 = .ok (.iconst 1, 1) := by decide +kernel
theorem dX11_correlation_24 : decode cX11_correlation 24 = .ok (.isub, 1) := by decide +kernel
theorem dX11_correlation_25 : decode cX11_correlation 25 = .ok (.invokestatic 138, 3) := by decide +kernel
theorem dX11_correlation_28 : decode cX11_correlation 28 = .ok (.aload_n 0, 1) := by decide +kernel
theorem dX11_correlation_29 : decode cX11_correlation 29 = .ok (.getfield 52, 3) := by decide +kernel
theorem dX11_correlation_32 : decode cX11_correlation 32 = .ok (.iload_n 1, 1) := by decide +kernel
theorem dX11_correlation_33 : decode cX11_correlation 33 = .ok (.iload_n 2, 1) := by decide +kernel
theorem dX11_correlation_34 : decode cX11_correlation 34 = .ok (.iload_n 3, 1) := by decide +kernel
theorem dX11_correlation_35 : decode cX11_correlation 35 = .ok (.aload_n 0, 1) := by decide +kernel
theorem dX11_correlation_36 : decode cX11_correlation 36 = .ok (.getfield 79, 3) := by decide +kernel
theorem dX11_correlation_39 : decode cX11_correlation 39 = .ok (.iconst 0, 1) := by decide +kernel
theorem dX11_correlation_40 : decode cX11_correlation 40 = .ok (.invokevirtual 354, 3) := by decide +kernel
theorem dX11_correlation_43 : decode cX11_correlation 43 = .ok (.aload_n 0, 1) := by decide +kernel
theorem dX11_correlation_44 : decode cX11_correlation 44 = .ok (.getfield 79, 3) := by decide +kernel
theorem dX11_correlation_47 : decode cX11_correlation 47 = .ok (.iconst 0, 1) := by decide +kernel
theorem dX11_correlation_48 : decode cX11_correlation 48 = .ok (.invokevirtual 238, 3) := by decide +kernel
theorem dX11_correlation_51 : decode cX11_correlation 51 = .ok (.lreturn, 1) := by decide +kernel
theorem dX11_bestLag_0 : decode cX11_bestLag 0 = .ok (.aload_n 0, 1) := by decide +kernel
theorem dX11_bestLag_1 : decode cX11_bestLag 1 = .ok (.invokevirtual 132, 3) := by decide +kernel
theorem dX11_bestLag_4 : decode cX11_bestLag 4 = .ok (.aload_n 0, 1) := by decide +kernel
theorem dX11_bestLag_5 : decode cX11_bestLag 5 = .ok (.iload_n 1, 1) := by decide +kernel
theorem dX11_bestLag_6 : decode cX11_bestLag 6 = .ok (.invokevirtual 135, 3) := by decide +kernel
theorem dX11_bestLag_9 : decode cX11_bestLag 9 = .ok (.aload_n 0, 1) := by decide +kernel
theorem dX11_bestLag_10 : decode cX11_bestLag 10 = .ok (.iload_n 2, 1) := by decide +kernel
theorem dX11_bestLag_11 : decode cX11_bestLag 11 = .ok (.invokevirtual 135, 3) := by decide +kernel
theorem dX11_bestLag_14 : decode cX11_bestLag 14 = .ok (.iload_n 3, 1) := by decide +kernel
theorem dX11_bestLag_15 : decode cX11_bestLag 15 = .ok (.iconst 0, 1) := by decide +kernel
theorem dX11_bestLag_16 : decode cX11_bestLag 16 = .ok (.aload_n 0, 1) := by decide +kernel
theorem dX11_bestLag_17 : decode cX11_bestLag 17 = .ok (.getfield 89, 3) := by decide +kernel
theorem dX11_bestLag_20 : decode cX11_bestLag 20 = .ok (.getfield 185, 3) := by decide +kernel
theorem dX11_bestLag_23 : decode cX11_bestLag 23 = .ok (.iconst 1, 1) := by decide +kernel
theorem dX11_bestLag_24 : decode cX11_bestLag 24 = .ok (.isub, 1) := by decide +kernel
theorem dX11_bestLag_25 : decode cX11_bestLag 25 = .ok (.invokestatic 138, 3) := by decide +kernel
theorem dX11_bestLag_28 : decode cX11_bestLag 28 = .ok (.iconst 0, 1) := by decide +kernel
theorem dX11_bestLag_29 : decode cX11_bestLag 29 = .ok (.istore 4, 2) := by decide +kernel
theorem dX11_bestLag_31 : decode cX11_bestLag 31 = .ok (.aload_n 0, 1) := by decide +kernel
theorem dX11_bestLag_32 : decode cX11_bestLag 32 = .ok (.getfield 52, 3) := by decide +kernel
theorem dX11_bestLag_35 : decode cX11_bestLag 35 = .ok (.iload_n 1, 1) := by decide +kernel
theorem dX11_bestLag_36 : decode cX11_bestLag 36 = .ok (.iload_n 2, 1) := by decide +kernel
theorem dX11_bestLag_37 : decode cX11_bestLag 37 = .ok (.iconst 0, 1) := by decide +kernel
theorem dX11_bestLag_38 : decode cX11_bestLag 38 = .ok (.aload_n 0, 1) := by decide +kernel
theorem dX11_bestLag_39 : decode cX11_bestLag 39 = .ok (.getfield 79, 3) := by decide +kernel
theorem dX11_bestLag_42 : decode cX11_bestLag 42 = .ok (.iconst 0, 1) := by decide +kernel
theorem dX11_bestLag_43 : decode cX11_bestLag 43 = .ok (.invokevirtual 354, 3) := by decide +kernel
theorem dX11_bestLag_46 : decode cX11_bestLag 46 = .ok (.iconst 1, 1) := by decide +kernel
theorem dX11_bestLag_47 : decode cX11_bestLag 47 = .ok (.istore 5, 2) := by decide +kernel
theorem dX11_bestLag_49 : decode cX11_bestLag 49 = .ok (.iload 5, 2) := by decide +kernel
theorem dX11_bestLag_51 : decode cX11_bestLag 51 = .ok (.iload_n 3, 1) := by decide +kernel
theorem dX11_bestLag_52 : decode cX11_bestLag 52 = .ok (.if_icmp .gt 54, 3) := by decide +kernel
theorem dX11_bestLag_55 : decode cX11_bestLag 55 = .ok (.aload_n 0, 1) := by decide +kernel
theorem dX11_bestLag_56 : decode cX11_bestLag 56 = .ok (.getfield 52, 3) := by decide +kernel
theorem dX11_bestLag_59 : decode cX11_bestLag 59 = .ok (.iload_n 1, 1) := by decide +kernel
theorem dX11_bestLag_60 : decode cX11_bestLag 60 = .ok (.iload_n 2, 1) := by decide +kernel
theorem dX11_bestLag_61 : decode cX11_bestLag 61 = .ok (.iload 5, 2) := by decide +kernel
theorem dX11_bestLag_63 : decode cX11_bestLag 63 = .ok (.aload_n 0, 1) := by decide +kernel
theorem dX11_bestLag_64 : decode cX11_bestLag 64 = .ok (.getfield 79, 3) := by decide +kernel
theorem dX11_bestLag_67 : decode cX11_bestLag 67 = .ok (.iconst 1, 1) := by decide +kernel
theorem dX11_bestLag_68 : decode cX11_bestLag 68 = .ok (.invokevirtual 354, 3) := by decide +kernel
theorem dX11_bestLag_71 : decode cX11_bestLag 71 = .ok (.aload_n 0, 1) := by decide +kernel
theorem dX11_bestLag_72 : decode cX11_bestLag 72 = .ok (.getfield 79, 3) := by decide +kernel
theorem dX11_bestLag_75 : decode cX11_bestLag 75 = .ok (.iconst 1, 1) := by decide +kernel
theorem dX11_bestLag_76 : decode cX11_bestLag 76 = .ok (.iconst 0, 1) := by decide +kernel
theorem dX11_bestLag_77 : decode cX11_bestLag 77 = .ok (.invokevirtual 347, 3) := by decide +kernel
theorem dX11_bestLag_80 : decode cX11_bestLag 80 = .ok (.ifCond .le 20, 3) := by decide +kernel
theorem dX11_bestLag_83 : decode cX11_bestLag 83 = .ok (.aload_n 0, 1) := by decide +kernel
theorem dX11_bestLag_84 : decode cX11_bestLag 84 = .ok (.getfield 79, 3) := by decide +kernel
theorem dX11_bestLag_87 : decode cX11_bestLag 87 = .ok (.iconst 0, 1) := by decide +kernel
theorem dX11_bestLag_88 : decode cX11_bestLag 88 = .ok (.aload_n 0, 1) := by decide +kernel
theorem dX11_bestLag_89 : decode cX11_bestLag 89 = .ok (.getfield 79, 3) := by decide +kernel
theorem dX11_bestLag_92 : decode cX11_bestLag 92 = .ok (.iconst 1, 1) := by decide +kernel
theorem dX11_bestLag_93 : decode cX11_bestLag 93 = .ok (.invokevirtual 350, 3) := by decide +kernel
theorem dX11_bestLag_96 : decode cX11_bestLag 96 = .ok (.iload 5, 2) := by decide +kernel
theorem dX11_bestLag_98 : decode cX11_bestLag 98 = .ok (.istore 4, 2) := by decide +kernel
theorem dX11_bestLag_100 : decode cX11_bestLag 100 = .ok (.iinc 5 1, 3) := by decide +kernel
theorem dX11_bestLag_103 : decode cX11_bestLag 103 = .ok (.goto (-54), 3) := by decide +kernel
theorem dX11_bestLag_106 : decode cX11_bestLag 106 = .ok (.iload 4, 2) := by decide +kernel
theorem dX11_bestLag_108 : decode cX11_bestLag 108 = .ok (.ireturn, 1) := by decide +kernel
theorem dX11_level_0 : decode cX11_level 0 = .ok (.aload_n 0, 1) := by decide +kernel
theorem dX11_level_1 : decode cX11_level 1 = .ok (.invokevirtual 132, 3) := by decide +kernel
theorem dX11_level_4 : decode cX11_level 4 = .ok (.aload_n 0, 1) := by decide +kernel
theorem dX11_level_5 : decode cX11_level 5 = .ok (.iload_n 1, 1) := by decide +kernel
theorem dX11_level_6 : decode cX11_level 6 = .ok (.invokevirtual 135, 3) := by decide +kernel
theorem dX11_level_9 : decode cX11_level 9 = .ok (.aload_n 0, 1) := by decide +kernel
theorem dX11_level_10 : decode cX11_level 10 = .ok (.iload_n 1, 1) := by decide +kernel
theorem dX11_level_11 : decode cX11_level 11 = .ok (.invokevirtual 358, 3) := by decide +kernel
theorem dX11_level_14 : decode cX11_level 14 = .ok (.aload_n 0, 1) := by decide +kernel
theorem dX11_level_15 : decode cX11_level 15 = .ok (.getfield 79, 3) := by decide +kernel
theorem dX11_level_18 : decode cX11_level 18 = .ok (.iload_n 1, 1) := by decide +kernel
theorem dX11_level_19 : decode cX11_level 19 = .ok (.invokevirtual 238, 3) := by decide +kernel
theorem dX11_level_22 : decode cX11_level 22 = .ok (.lreturn, 1) := by decide +kernel
theorem dX11_loudest_0 : decode cX11_loudest 0 = .ok (.aload_n 0, 1) := by decide +kernel
theorem dX11_loudest_1 : decode cX11_loudest 1 = .ok (.invokevirtual 132, 3) := by decide +kernel
theorem dX11_loudest_4 : decode cX11_loudest 4 = .ok (.iload_n 1, 1) := by decide +kernel
theorem dX11_loudest_5 : decode cX11_loudest 5 = .ok (.aload_n 0, 1) := by decide +kernel
theorem dX11_loudest_6 : decode cX11_loudest 6 = .ok (.getfield 89, 3) := by decide +kernel
theorem dX11_loudest_9 : decode cX11_loudest 9 = .ok (.getfield 129, 3) := by decide +kernel
theorem dX11_loudest_12 : decode cX11_loudest 12 = .ok (.invokestatic 281, 3) := by decide +kernel
theorem dX11_loudest_15 : decode cX11_loudest 15 = .ok (.iconst 0, 1) := by decide +kernel
theorem dX11_loudest_16 : decode cX11_loudest 16 = .ok (.istore_n 2, 1) := by decide +kernel
theorem dX11_loudest_17 : decode cX11_loudest 17 = .ok (.iload_n 2, 1) := by decide +kernel
theorem dX11_loudest_18 : decode cX11_loudest 18 = .ok (.aload_n 0, 1) := by decide +kernel
theorem dX11_loudest_19 : decode cX11_loudest 19 = .ok (.getfield 89, 3) := by decide +kernel
theorem dX11_loudest_22 : decode cX11_loudest 22 = .ok (.getfield 129, 3) := by decide +kernel
theorem dX11_loudest_25 : decode cX11_loudest 25 = .ok (.if_icmp .ge 14, 3) := by decide +kernel
theorem dX11_loudest_28 : decode cX11_loudest 28 = .ok (.aload_n 0, 1) := by decide +kernel
theorem dX11_loudest_29 : decode cX11_loudest 29 = .ok (.iload_n 2, 1) := by decide +kernel
theorem dX11_loudest_30 : decode cX11_loudest 30 = .ok (.invokevirtual 358, 3) := by decide +kernel
theorem dX11_loudest_33 : decode cX11_loudest 33 = .ok (.iinc 2 1, 3) := by decide +kernel
theorem dX11_loudest_36 : decode cX11_loudest 36 = .ok (.goto (-19), 3) := by decide +kernel
theorem dX11_loudest_39 : decode cX11_loudest 39 = .ok (.aload_n 0, 1) := by decide +kernel
theorem dX11_loudest_40 : decode cX11_loudest 40 = .ok (.getfield 79, 3) := by decide +kernel
theorem dX11_loudest_43 : decode cX11_loudest 43 = .ok (.aload_n 0, 1) := by decide +kernel
theorem dX11_loudest_44 : decode cX11_loudest 44 = .ok (.getfield 89, 3) := by decide +kernel
theorem dX11_loudest_47 : decode cX11_loudest 47 = .ok (.getfield 129, 3) := by decide +kernel
theorem dX11_loudest_50 : decode cX11_loudest 50 = .ok (.iload_n 1, 1) := by decide +kernel
theorem dX11_loudest_51 : decode cX11_loudest 51 = .ok (.invokevirtual 361, 3) := by decide +kernel
theorem dX11_loudest_54 : decode cX11_loudest 54 = .ok (.ireturn, 1) := by decide +kernel
theorem dX11_writeMap_0 : decode cX11_writeMap 0 = .ok (.aload_n 0, 1) := by decide +kernel
theorem dX11_writeMap_1 : decode cX11_writeMap 1 = .ok (.invokevirtual 132, 3) := by decide +kernel
theorem dX11_writeMap_4 : decode cX11_writeMap 4 = .ok (.aload_n 0, 1) := by decide +kernel
theorem dX11_writeMap_5 : decode cX11_writeMap 5 = .ok (.invokevirtual 249, 3) := by decide +kernel
theorem dX11_writeMap_8 : decode cX11_writeMap 8 = .ok (.astore_n 1, 1) := by decide +kernel
theorem dX11_writeMap_9 : decode cX11_writeMap 9 = .ok (.aload_n 0, 1) := by decide +kernel
theorem dX11_writeMap_10 : decode cX11_writeMap 10 = .ok (.iconst 0, 1) := by decide +kernel
theorem dX11_writeMap_11 : decode cX11_writeMap 11 = .ok (.putfield 364, 3) := by decide +kernel
theorem dX11_writeMap_14 : decode cX11_writeMap 14 = .ok (.iconst 0, 1) := by decide +kernel
theorem dX11_writeMap_15 : decode cX11_writeMap 15 = .ok (.istore_n 2, 1) := by decide +kernel
theorem dX11_writeMap_16 : decode cX11_writeMap 16 = .ok (.iload_n 2, 1) := by decide +kernel
theorem dX11_writeMap_17 : decode cX11_writeMap 17 = .ok (.aload_n 0, 1) := by decide +kernel
theorem dX11_writeMap_18 : decode cX11_writeMap 18 = .ok (.getfield 89, 3) := by decide +kernel
theorem dX11_writeMap_21 : decode cX11_writeMap 21 = .ok (.getfield 113, 3) := by decide +kernel
theorem dX11_writeMap_24 : decode cX11_writeMap 24 = .ok (.invokevirtual 117, 3) := by decide +kernel
theorem dX11_writeMap_27 : decode cX11_writeMap 27 = .ok (.if_icmp .ge 49, 3) := by decide +kernel
theorem dX11_writeMap_30 : decode cX11_writeMap 30 = .ok (.iload_n 2, 1) := by decide +kernel
theorem dX11_writeMap_31 : decode cX11_writeMap 31 = .ok (.ifCond .le 23, 3) := by decide +kernel
theorem dX11_writeMap_34 : decode cX11_writeMap 34 = .ok (.aload_n 0, 1) := by decide +kernel
theorem dX11_writeMap_35 : decode cX11_writeMap 35 = .ok (.getfield 89, 3) := by decide +kernel
theorem dX11_writeMap_38 : decode cX11_writeMap 38 = .ok (.getfield 113, 3) := by decide +kernel
theorem dX11_writeMap_41 : decode cX11_writeMap 41 = .ok (.iload_n 2, 1) := by decide +kernel
theorem dX11_writeMap_42 : decode cX11_writeMap 42 = .ok (.invokevirtual 367, 3) := by decide +kernel
theorem dX11_writeMap_45 : decode cX11_writeMap 45 = .ok (.ifCond .ne 9, 3) := by decide +kernel
theorem dX11_writeMap_48 : decode cX11_writeMap 48 = .ok (.aload_n 0, 1) := by decide +kernel
theorem dX11_writeMap_49 : decode cX11_writeMap 49 = .ok (.bipush 59, 2) := by decide +kernel
theorem dX11_writeMap_51 : decode cX11_writeMap 51 = .ok (.invokevirtual 370, 3) := by decide +kernel
theorem dX11_writeMap_54 : decode cX11_writeMap 54 = .ok (.aload_n 0, 1) := by decide +kernel
theorem dX11_writeMap_55 : decode cX11_writeMap 55 = .ok (.bipush 48, 2) := by decide +kernel
theorem dX11_writeMap_57 : decode cX11_writeMap 57 = .ok (.aload_n 1, 1) := by decide +kernel
theorem dX11_writeMap_58 : decode cX11_writeMap 58 = .ok (.iload_n 2, 1) := by decide +kernel
theorem dX11_writeMap_59 : decode cX11_writeMap 59 = .ok (.aload_n 0, 1) := by decide +kernel
theorem dX11_writeMap_60 : decode cX11_writeMap 60 = .ok (.getfield 79, 3) := by decide +kernel
theorem dX11_writeMap_63 : decode cX11_writeMap 63 = .ok (.invokevirtual 373, 3) := by decide +kernel
theorem dX11_writeMap_66 : decode cX11_writeMap 66 = .ok (.iadd, 1) := by decide +kernel
theorem dX11_writeMap_67 : decode cX11_writeMap 67 = .ok (.invokevirtual 370, 3) := by decide +kernel
theorem dX11_writeMap_70 : decode cX11_writeMap 70 = .ok (.iinc 2 1, 3) := by decide +kernel
theorem dX11_writeMap_73 : decode cX11_writeMap 73 = .ok (.goto (-57), 3) := by decide +kernel
theorem dX11_writeMap_76 : decode cX11_writeMap 76 = .ok (.aload_n 0, 1) := by decide +kernel
theorem dX11_writeMap_77 : decode cX11_writeMap 77 = .ok (.getfield 364, 3) := by decide +kernel
theorem dX11_writeMap_80 : decode cX11_writeMap 80 = .ok (.ireturn, 1) := by decide +kernel
theorem dX11_mapByte_0 : decode cX11_mapByte 0 = .ok (.iload_n 1, 1) := by decide +kernel
theorem dX11_mapByte_1 : decode cX11_mapByte 1 = .ok (.aload_n 0, 1) := by decide +kernel
theorem dX11_mapByte_2 : decode cX11_mapByte 2 = .ok (.getfield 364, 3) := by decide +kernel
theorem dX11_mapByte_5 : decode cX11_mapByte 5 = .ok (.invokestatic 281, 3) := by decide +kernel
theorem dX11_mapByte_8 : decode cX11_mapByte 8 = .ok (.aload_n 0, 1) := by decide +kernel
theorem dX11_mapByte_9 : decode cX11_mapByte 9 = .ok (.getfield 83, 3) := by decide +kernel
theorem dX11_mapByte_12 : decode cX11_mapByte 12 = .ok (.iload_n 1, 1) := by decide +kernel
theorem dX11_mapByte_13 : decode cX11_mapByte 13 = .ok (.iaload, 1) := by decide +kernel
theorem dX11_mapByte_14 : decode cX11_mapByte 14 = .ok (.ireturn, 1) := by decide +kernel
theorem dX11_pointBest_0 : decode cX11_pointBest 0 = .ok (.aload_n 0, 1) := by decide +kernel
theorem dX11_pointBest_1 : decode cX11_pointBest 1 = .ok (.invokevirtual 132, 3) := by decide +kernel
theorem dX11_pointBest_4 : decode cX11_pointBest 4 = .ok (.aload_n 0, 1) := by decide +kernel
theorem dX11_pointBest_5 : decode cX11_pointBest 5 = .ok (.iload_n 1, 1) := by decide +kernel
theorem dX11_pointBest_6 : decode cX11_pointBest 6 = .ok (.invokevirtual 169, 3) := by decide +kernel
theorem dX11_pointBest_9 : decode cX11_pointBest 9 = .ok (.iload_n 2, 1) := by decide +kernel
theorem dX11_pointBest_10 : decode cX11_pointBest 10 = .ok (.iconst 2, 1) := by decide +kernel
theorem dX11_pointBest_11 : decode cX11_pointBest 11 = .ok (.bipush 99, 2) := by decide +kernel
theorem dX11_pointBest_13 : decode cX11_pointBest 13 = .ok (.invokestatic 138, 3) := by decide +kernel
theorem dX11_pointBest_16 : decode cX11_pointBest 16 = .ok (.aload_n 0, 1) := by decide +kernel
theorem dX11_pointBest_17 : decode cX11_pointBest 17 = .ok (.iload_n 1, 1) := by decide +kernel
theorem dX11_pointBest_18 : decode cX11_pointBest 18 = .ok (.iload_n 2, 1) := by decide +kernel
theorem dX11_pointBest_19 : decode cX11_pointBest 19 = .ok (.invokevirtual 377, 3) := by decide +kernel
theorem dX11_pointBest_22 : decode cX11_pointBest 22 = .ok (.aload_n 0, 1) := by decide +kernel
theorem dX11_pointBest_23 : decode cX11_pointBest 23 = .ok (.invokevirtual 380, 3) := by decide +kernel
theorem dX11_pointBest_26 : decode cX11_pointBest 26 = .ok (.ireturn, 1) := by decide +kernel
theorem dX11_pointPower_0 : decode cX11_pointPower 0 = .ok (.aload_n 0, 1) := by decide +kernel
theorem dX11_pointPower_1 : decode cX11_pointPower 1 = .ok (.invokevirtual 132, 3) := by decide +kernel
theorem dX11_pointPower_4 : decode cX11_pointPower 4 = .ok (.aload_n 0, 1) := by decide +kernel
theorem dX11_pointPower_5 : decode cX11_pointPower 5 = .ok (.iload_n 1, 1) := by decide +kernel
theorem dX11_pointPower_6 : decode cX11_pointPower 6 = .ok (.invokevirtual 169, 3) := by decide +kernel
theorem dX11_pointPower_9 : decode cX11_pointPower 9 = .ok (.aload_n 0, 1) := by decide +kernel
theorem dX11_pointPower_10 : decode cX11_pointPower 10 = .ok (.iload_n 2, 1) := by decide +kernel
theorem dX11_pointPower_11 : decode cX11_pointPower 11 = .ok (.invokevirtual 169, 3) := by decide +kernel
theorem dX11_pointPower_14 : decode cX11_pointPower 14 = .ok (.iload_n 3, 1) := by decide +kernel
theorem dX11_pointPower_15 : decode cX11_pointPower 15 = .ok (.iconst 2, 1) := by decide +kernel
theorem dX11_pointPower_16 : decode cX11_pointPower 16 = .ok (.bipush 99, 2) := by decide +kernel
theorem dX11_pointPower_18 : decode cX11_pointPower 18 = .ok (.invokestatic 138, 3) := by decide +kernel
theorem dX11_pointPower_21 : decode cX11_pointPower 21 = .ok (.aload_n 0, 1) := by decide +kernel
theorem dX11_pointPower_22 : decode cX11_pointPower 22 = .ok (.iload_n 1, 1) := by decide +kernel
theorem dX11_pointPower_23 : decode cX11_pointPower 23 = .ok (.iload_n 3, 1) := by decide +kernel
theorem dX11_pointPower_24 : decode cX11_pointPower 24 = .ok (.invokevirtual 377, 3) := by decide +kernel
theorem dX11_pointPower_27 : decode cX11_pointPower 27 = .ok (.aload_n 0, 1) := by decide +kernel
theorem dX11_pointPower_28 : decode cX11_pointPower 28 = .ok (.getfield 56, 3) := by decide +kernel
theorem dX11_pointPower_31 : decode cX11_pointPower 31 = .ok (.aload_n 0, 1) := by decide +kernel
theorem dX11_pointPower_32 : decode cX11_pointPower 32 = .ok (.getfield 89, 3) := by decide +kernel
theorem dX11_pointPower_35 : decode cX11_pointPower 35 = .ok (.getfield 214, 3) := by decide +kernel
theorem dX11_pointPower_38 : decode cX11_pointPower 38 = .ok (.iload_n 2, 1) := by decide +kernel
theorem dX11_pointPower_39 : decode cX11_pointPower 39 = .ok (.aaload, 1) := by decide +kernel
theorem dX11_pointPower_40 : decode cX11_pointPower 40 = .ok (.aload_n 0, 1) := by decide +kernel
theorem dX11_pointPower_41 : decode cX11_pointPower 41 = .ok (.getfield 79, 3) := by decide +kernel
theorem dX11_pointPower_44 : decode cX11_pointPower 44 = .ok (.iconst 0, 1) := by decide +kernel
theorem dX11_pointPower_45 : decode cX11_pointPower 45 = .ok (.invokevirtual 260, 3) := by decide +kernel
theorem dX11_pointPower_48 : decode cX11_pointPower 48 = .ok (.aload_n 0, 1) := by decide +kernel
theorem dX11_pointPower_49 : decode cX11_pointPower 49 = .ok (.getfield 79, 3) := by decide +kernel
theorem dX11_pointPower_52 : decode cX11_pointPower 52 = .ok (.iconst 0, 1) := by decide +kernel
theorem dX11_pointPower_53 : decode cX11_pointPower 53 = .ok (.invokevirtual 238, 3) := by decide +kernel
theorem dX11_pointPower_56 : decode cX11_pointPower 56 = .ok (.lreturn, 1) := by decide +kernel
theorem dX11_bestWithout_0 : decode cX11_bestWithout 0 = .ok (.aload_n 0, 1) := by decide +kernel
theorem dX11_bestWithout_1 : decode cX11_bestWithout 1 = .ok (.invokevirtual 132, 3) := by decide +kernel
theorem dX11_bestWithout_4 : decode cX11_bestWithout 4 = .ok (.aload_n 0, 1) := by decide +kernel
theorem dX11_bestWithout_5 : decode cX11_bestWithout 5 = .ok (.iload_n 1, 1) := by decide +kernel
theorem dX11_bestWithout_6 : decode cX11_bestWithout 6 = .ok (.invokevirtual 135, 3) := by decide +kernel
theorem dX11_bestWithout_9 : decode cX11_bestWithout 9 = .ok (.aload_n 0, 1) := by decide +kernel
theorem dX11_bestWithout_10 : decode cX11_bestWithout 10 = .ok (.getfield 56, 3) := by decide +kernel
theorem dX11_bestWithout_13 : decode cX11_bestWithout 13 = .ok (.aload_n 0, 1) := by decide +kernel
theorem dX11_bestWithout_14 : decode cX11_bestWithout 14 = .ok (.getfield 52, 3) := by decide +kernel
theorem dX11_bestWithout_17 : decode cX11_bestWithout 17 = .ok (.invokevirtual 383, 3) := by decide +kernel
theorem dX11_bestWithout_20 : decode cX11_bestWithout 20 = .ok (.aload_n 0, 1) := by decide +kernel
theorem dX11_bestWithout_21 : decode cX11_bestWithout 21 = .ok (.getfield 56, 3) := by decide +kernel
theorem dX11_bestWithout_24 : decode cX11_bestWithout 24 = .ok (.getfield 160, 3) := by decide +kernel
theorem dX11_bestWithout_27 : decode cX11_bestWithout 27 = .ok (.iload_n 1, 1) := by decide +kernel
theorem dX11_bestWithout_28 : decode cX11_bestWithout 28 = .ok (.iconst 1, 1) := by decide +kernel
theorem dX11_bestWithout_29 : decode cX11_bestWithout 29 = .ok (.bastore, 1) := by decide +kernel
theorem dX11_bestWithout_30 : decode cX11_bestWithout 30 = .ok (.aload_n 0, 1) := by decide +kernel
theorem dX11_bestWithout_31 : decode cX11_bestWithout 31 = .ok (.invokevirtual 380, 3) := by decide +kernel
theorem dX11_bestWithout_34 : decode cX11_bestWithout 34 = .ok (.ireturn, 1) := by decide +kernel
theorem dX11_bestIfOff_0 : decode cX11_bestIfOff 0 = .ok (.aload_n 0, 1) := by decide +kernel
theorem dX11_bestIfOff_1 : decode cX11_bestIfOff 1 = .ok (.invokevirtual 132, 3) := by decide +kernel
theorem dX11_bestIfOff_4 : decode cX11_bestIfOff 4 = .ok (.aload_n 0, 1) := by decide +kernel
theorem dX11_bestIfOff_5 : decode cX11_bestIfOff 5 = .ok (.iload_n 1, 1) := by decide +kernel
theorem dX11_bestIfOff_6 : decode cX11_bestIfOff 6 = .ok (.invokevirtual 182, 3) := by decide +kernel
theorem dX11_bestIfOff_9 : decode cX11_bestIfOff 9 = .ok (.aload_n 0, 1) := by decide +kernel
theorem dX11_bestIfOff_10 : decode cX11_bestIfOff 10 = .ok (.getfield 56, 3) := by decide +kernel
theorem dX11_bestIfOff_13 : decode cX11_bestIfOff 13 = .ok (.aload_n 0, 1) := by decide +kernel
theorem dX11_bestIfOff_14 : decode cX11_bestIfOff 14 = .ok (.getfield 52, 3) := by decide +kernel
theorem dX11_bestIfOff_17 : decode cX11_bestIfOff 17 = .ok (.invokevirtual 383, 3) := by decide +kernel
theorem dX11_bestIfOff_20 : decode cX11_bestIfOff 20 = .ok (.aload_n 0, 1) := by decide +kernel
theorem dX11_bestIfOff_21 : decode cX11_bestIfOff 21 = .ok (.getfield 56, 3) := by decide +kernel
theorem dX11_bestIfOff_24 : decode cX11_bestIfOff 24 = .ok (.getfield 202, 3) := by decide +kernel
theorem dX11_bestIfOff_27 : decode cX11_bestIfOff 27 = .ok (.iload_n 1, 1) := by decide +kernel
theorem dX11_bestIfOff_28 : decode cX11_bestIfOff 28 = .ok (.iconst 0, 1) := by decide +kernel
theorem dX11_bestIfOff_29 : decode cX11_bestIfOff 29 = .ok (.bastore, 1) := by decide +kernel
theorem dX11_bestIfOff_30 : decode cX11_bestIfOff 30 = .ok (.aload_n 0, 1) := by decide +kernel
theorem dX11_bestIfOff_31 : decode cX11_bestIfOff 31 = .ok (.getfield 28, 3) := by decide +kernel
theorem dX11_bestIfOff_34 : decode cX11_bestIfOff 34 = .ok (.aload_n 0, 1) := by decide +kernel
theorem dX11_bestIfOff_35 : decode cX11_bestIfOff 35 = .ok (.getfield 89, 3) := by decide +kernel
theorem dX11_bestIfOff_38 : decode cX11_bestIfOff 38 = .ok (.aload_n 0, 1) := by decide +kernel
theorem dX11_bestIfOff_39 : decode cX11_bestIfOff 39 = .ok (.getfield 56, 3) := by decide +kernel
theorem dX11_bestIfOff_42 : decode cX11_bestIfOff 42 = .ok (.invokevirtual 387, 3) := by decide +kernel
theorem dX11_bestIfOff_45 : decode cX11_bestIfOff 45 = .ok (.aload_n 0, 1) := by decide +kernel
theorem dX11_bestIfOff_46 : decode cX11_bestIfOff 46 = .ok (.invokevirtual 380, 3) := by decide +kernel
theorem dX11_bestIfOff_49 : decode cX11_bestIfOff 49 = .ok (.ireturn, 1) := by decide +kernel
theorem dX11_mute_0 : decode cX11_mute 0 = .ok (.aload_n 0, 1) := by decide +kernel
theorem dX11_mute_1 : decode cX11_mute 1 = .ok (.invokevirtual 132, 3) := by decide +kernel
theorem dX11_mute_4 : decode cX11_mute 4 = .ok (.aload_n 0, 1) := by decide +kernel
theorem dX11_mute_5 : decode cX11_mute 5 = .ok (.iload_n 1, 1) := by decide +kernel
theorem dX11_mute_6 : decode cX11_mute 6 = .ok (.invokevirtual 135, 3) := by decide +kernel
theorem dX11_mute_9 : decode cX11_mute 9 = .ok (.aload_n 0, 1) := by decide +kernel
theorem dX11_mute_10 : decode cX11_mute 10 = .ok (.getfield 52, 3) := by decide +kernel
theorem dX11_mute_13 : decode cX11_mute 13 = .ok (.getfield 160, 3) := by decide +kernel
theorem dX11_mute_16 : decode cX11_mute 16 = .ok (.iload_n 1, 1) := by decide +kernel
theorem dX11_mute_17 : decode cX11_mute 17 = .ok (.baload, 1) := by decide +kernel
theorem dX11_mute_18 : decode cX11_mute 18 = .ok (.istore_n 3, 1) := by decide +kernel
theorem dX11_mute_19 : decode cX11_mute 19 = .ok (.aload_n 0, 1) := by decide +kernel
theorem dX11_mute_20 : decode cX11_mute 20 = .ok (.invokevirtual 391, 3) := by decide +kernel
theorem dX11_mute_23 : decode cX11_mute 23 = .ok (.aload_n 0, 1) := by decide +kernel
theorem dX11_mute_24 : decode cX11_mute 24 = .ok (.getfield 52, 3) := by decide +kernel
theorem dX11_mute_27 : decode cX11_mute 27 = .ok (.getfield 160, 3) := by decide +kernel
theorem dX11_mute_30 : decode cX11_mute 30 = .ok (.iload_n 1, 1) := by decide +kernel
theorem dX11_mute_31 : decode cX11_mute 31 = .ok (.iload_n 2, 1) := by decide +kernel
theorem dX11_mute_32 : decode cX11_mute 32 = .ok (.bastore, 1) := by decide +kernel
theorem dX11_mute_33 : decode cX11_mute 33 = .ok (.iload_n 3, 1) := by decide +kernel
theorem dX11_mute_34 : decode cX11_mute 34 = .ok (.ireturn, 1) := by decide +kernel
theorem dX11_setWeight_0 : decode cX11_setWeight 0 = .ok (.aload_n 0, 1) := by decide +kernel
theorem dX11_setWeight_1 : decode cX11_setWeight 1 = .ok (.invokevirtual 132, 3) := by decide +kernel
theorem dX11_setWeight_4 : decode cX11_setWeight 4 = .ok (.aload_n 0, 1) := by decide +kernel
theorem dX11_setWeight_5 : decode cX11_setWeight 5 = .ok (.iload_n 1, 1) := by decide +kernel
theorem dX11_setWeight_6 : decode cX11_setWeight 6 = .ok (.invokevirtual 135, 3) := by decide +kernel
theorem dX11_setWeight_9 : decode cX11_setWeight 9 = .ok (.iload_n 2, 1) := by decide +kernel
theorem dX11_setWeight_10 : decode cX11_setWeight 10 = .ok (.iconst 0, 1) := by decide +kernel
theorem dX11_setWeight_11 : decode cX11_setWeight 11 = .ok (.bipush 9, 2) := by decide +kernel
theorem dX11_setWeight_13 : decode cX11_setWeight 13 = .ok (.invokestatic 138, 3) := by decide +kernel
theorem dX11_setWeight_16 : decode cX11_setWeight 16 = .ok (.aload_n 0, 1) := by decide +kernel
theorem dX11_setWeight_17 : decode cX11_setWeight 17 = .ok (.getfield 52, 3) := by decide +kernel
theorem dX11_setWeight_20 : decode cX11_setWeight 20 = .ok (.getfield 157, 3) := by decide +kernel
theorem dX11_setWeight_23 : decode cX11_setWeight 23 = .ok (.iload_n 1, 1) := by decide +kernel
theorem dX11_setWeight_24 : decode cX11_setWeight 24 = .ok (.iaload, 1) := by decide +kernel
theorem dX11_setWeight_25 : decode cX11_setWeight 25 = .ok (.istore_n 3, 1) := by decide +kernel
theorem dX11_setWeight_26 : decode cX11_setWeight 26 = .ok (.aload_n 0, 1) := by decide +kernel
theorem dX11_setWeight_27 : decode cX11_setWeight 27 = .ok (.invokevirtual 391, 3) := by decide +kernel
theorem dX11_setWeight_30 : decode cX11_setWeight 30 = .ok (.aload_n 0, 1) := by decide +kernel
theorem dX11_setWeight_31 : decode cX11_setWeight 31 = .ok (.getfield 52, 3) := by decide +kernel
theorem dX11_setWeight_34 : decode cX11_setWeight 34 = .ok (.getfield 157, 3) := by decide +kernel
theorem dX11_setWeight_37 : decode cX11_setWeight 37 = .ok (.iload_n 1, 1) := by decide +kernel
theorem dX11_setWeight_38 : decode cX11_setWeight 38 = .ok (.iload_n 2, 1) := by decide +kernel
theorem dX11_setWeight_39 : decode cX11_setWeight 39 = .ok (.iastore, 1) := by decide +kernel
theorem dX11_setWeight_40 : decode cX11_setWeight 40 = .ok (.iload_n 3, 1) := by decide +kernel
theorem dX11_setWeight_41 : decode cX11_setWeight 41 = .ok (.ireturn, 1) := by decide +kernel
theorem dX11_setOn_0 : decode cX11_setOn 0 = .ok (.aload_n 0, 1) := by decide +kernel
theorem dX11_setOn_1 : decode cX11_setOn 1 = .ok (.invokevirtual 132, 3) := by decide +kernel
theorem dX11_setOn_4 : decode cX11_setOn 4 = .ok (.aload_n 0, 1) := by decide +kernel
theorem dX11_setOn_5 : decode cX11_setOn 5 = .ok (.iload_n 1, 1) := by decide +kernel
theorem dX11_setOn_6 : decode cX11_setOn 6 = .ok (.invokevirtual 182, 3) := by decide +kernel
theorem dX11_setOn_9 : decode cX11_setOn 9 = .ok (.aload_n 0, 1) := by decide +kernel
theorem dX11_setOn_10 : decode cX11_setOn 10 = .ok (.getfield 52, 3) := by decide +kernel
theorem dX11_setOn_13 : decode cX11_setOn 13 = .ok (.getfield 202, 3) := by decide +kernel
theorem dX11_setOn_16 : decode cX11_setOn 16 = .ok (.iload_n 1, 1) := by decide +kernel
theorem dX11_setOn_17 : decode cX11_setOn 17 = .ok (.baload, 1) := by decide +kernel
theorem dX11_setOn_18 : decode cX11_setOn 18 = .ok (.istore_n 3, 1) := by decide +kernel
theorem dX11_setOn_19 : decode cX11_setOn 19 = .ok (.aload_n 0, 1) := by decide +kernel
theorem dX11_setOn_20 : decode cX11_setOn 20 = .ok (.invokevirtual 391, 3) := by decide +kernel
theorem dX11_setOn_23 : decode cX11_setOn 23 = .ok (.aload_n 0, 1) := by decide +kernel
theorem dX11_setOn_24 : decode cX11_setOn 24 = .ok (.getfield 52, 3) := by decide +kernel
theorem dX11_setOn_27 : decode cX11_setOn 27 = .ok (.getfield 202, 3) := by decide +kernel
theorem dX11_setOn_30 : decode cX11_setOn 30 = .ok (.iload_n 1, 1) := by decide +kernel
theorem dX11_setOn_31 : decode cX11_setOn 31 = .ok (.iload_n 2, 1) := by decide +kernel
theorem dX11_setOn_32 : decode cX11_setOn 32 = .ok (.bastore, 1) := by decide +kernel
theorem dX11_setOn_33 : decode cX11_setOn 33 = .ok (.aload_n 0, 1) := by decide +kernel
theorem dX11_setOn_34 : decode cX11_setOn 34 = .ok (.getfield 28, 3) := by decide +kernel
theorem dX11_setOn_37 : decode cX11_setOn 37 = .ok (.aload_n 0, 1) := by decide +kernel
theorem dX11_setOn_38 : decode cX11_setOn 38 = .ok (.getfield 89, 3) := by decide +kernel
theorem dX11_setOn_41 : decode cX11_setOn 41 = .ok (.aload_n 0, 1) := by decide +kernel
theorem dX11_setOn_42 : decode cX11_setOn 42 = .ok (.getfield 52, 3) := by decide +kernel
theorem dX11_setOn_45 : decode cX11_setOn 45 = .ok (.invokevirtual 387, 3) := by decide +kernel
theorem dX11_setOn_48 : decode cX11_setOn 48 = .ok (.iload_n 3, 1) := by decide +kernel
theorem dX11_setOn_49 : decode cX11_setOn 49 = .ok (.ireturn, 1) := by decide +kernel
theorem dX11_moveSource_0 : decode cX11_moveSource 0 = .ok (.aload_n 0, 1) := by decide +kernel
theorem dX11_moveSource_1 : decode cX11_moveSource 1 = .ok (.invokevirtual 132, 3) := by decide +kernel
theorem dX11_moveSource_4 : decode cX11_moveSource 4 = .ok (.aload_n 0, 1) := by decide +kernel
theorem dX11_moveSource_5 : decode cX11_moveSource 5 = .ok (.iload_n 1, 1) := by decide +kernel
theorem dX11_moveSource_6 : decode cX11_moveSource 6 = .ok (.invokevirtual 182, 3) := by decide +kernel
theorem dX11_moveSource_9 : decode cX11_moveSource 9 = .ok (.iload_n 2, 1) := by decide +kernel
theorem dX11_moveSource_10 : decode cX11_moveSource 10 = .ok (.sipush (-2000), 3) := by decide +kernel
theorem dX11_moveSource_13 : decode cX11_moveSource 13 = .ok (.sipush 2000, 3) := by decide +kernel
theorem dX11_moveSource_16 : decode cX11_moveSource 16 = .ok (.invokestatic 138, 3) := by decide +kernel
theorem dX11_moveSource_19 : decode cX11_moveSource 19 = .ok (.iload_n 3, 1) := by decide +kernel
theorem dX11_moveSource_20 : decode cX11_moveSource 20 = .ok (.sipush (-2000), 3) := by decide +kernel
theorem dX11_moveSource_23 : decode cX11_moveSource 23 = .ok (.sipush 2000, 3) := by decide +kernel
theorem dX11_moveSource_26 : decode cX11_moveSource 26 = .ok (.invokestatic 138, 3) := by decide +kernel
theorem dX11_moveSource_29 : decode cX11_moveSource 29 = .ok (.aload_n 0, 1) := by decide +kernel
theorem dX11_moveSource_30 : decode cX11_moveSource 30 = .ok (.invokevirtual 391, 3) := by decide +kernel
theorem dX11_moveSource_33 : decode cX11_moveSource 33 = .ok (.aload_n 0, 1) := by decide +kernel
theorem dX11_moveSource_34 : decode cX11_moveSource 34 = .ok (.getfield 52, 3) := by decide +kernel
theorem dX11_moveSource_37 : decode cX11_moveSource 37 = .ok (.getfield 188, 3) := by decide +kernel
theorem dX11_moveSource_40 : decode cX11_moveSource 40 = .ok (.iload_n 1, 1) := by decide +kernel
theorem dX11_moveSource_41 : decode cX11_moveSource 41 = .ok (.iload_n 2, 1) := by decide +kernel
theorem dX11_moveSource_42 : decode cX11_moveSource 42 = .ok (.iastore, 1) := by decide +kernel
theorem dX11_moveSource_43 : decode cX11_moveSource 43 = .ok (.aload_n 0, 1) := by decide +kernel
theorem dX11_moveSource_44 : decode cX11_moveSource 44 = .ok (.getfield 52, 3) := by decide +kernel
theorem dX11_moveSource_47 : decode cX11_moveSource 47 = .ok (.getfield 197, 3) := by decide +kernel
theorem dX11_moveSource_50 : decode cX11_moveSource 50 = .ok (.iload_n 1, 1) := by decide +kernel
theorem dX11_moveSource_51 : decode cX11_moveSource 51 = .ok (.iload_n 3, 1) := by decide +kernel
theorem dX11_moveSource_52 : decode cX11_moveSource 52 = .ok (.iastore, 1) := by decide +kernel
theorem dX11_moveSource_53 : decode cX11_moveSource 53 = .ok (.aload_n 0, 1) := by decide +kernel
theorem dX11_moveSource_54 : decode cX11_moveSource 54 = .ok (.getfield 28, 3) := by decide +kernel
theorem dX11_moveSource_57 : decode cX11_moveSource 57 = .ok (.aload_n 0, 1) := by decide +kernel
theorem dX11_moveSource_58 : decode cX11_moveSource 58 = .ok (.getfield 89, 3) := by decide +kernel
theorem dX11_moveSource_61 : decode cX11_moveSource 61 = .ok (.aload_n 0, 1) := by decide +kernel
theorem dX11_moveSource_62 : decode cX11_moveSource 62 = .ok (.getfield 52, 3) := by decide +kernel
theorem dX11_moveSource_65 : decode cX11_moveSource 65 = .ok (.invokevirtual 387, 3) := by decide +kernel
theorem dX11_moveSource_68 : decode cX11_moveSource 68 = .ok (.aload_n 0, 1) := by decide +kernel
theorem dX11_moveSource_69 : decode cX11_moveSource 69 = .ok (.invokevirtual 249, 3) := by decide +kernel
theorem dX11_moveSource_72 : decode cX11_moveSource 72 = .ok (.getfield 264, 3) := by decide +kernel
theorem dX11_moveSource_75 : decode cX11_moveSource 75 = .ok (.ireturn, 1) := by decide +kernel
theorem dX11_setVelocity_0 : decode cX11_setVelocity 0 = .ok (.aload_n 0, 1) := by decide +kernel
theorem dX11_setVelocity_1 : decode cX11_setVelocity 1 = .ok (.invokevirtual 132, 3) := by decide +kernel
theorem dX11_setVelocity_4 : decode cX11_setVelocity 4 = .ok (.aload_n 0, 1) := by decide +kernel
theorem dX11_setVelocity_5 : decode cX11_setVelocity 5 = .ok (.iload_n 1, 1) := by decide +kernel
theorem dX11_setVelocity_6 : decode cX11_setVelocity 6 = .ok (.invokevirtual 182, 3) := by decide +kernel
theorem dX11_setVelocity_9 : decode cX11_setVelocity 9 = .ok (.iload_n 2, 1) := by decide +kernel
theorem dX11_setVelocity_10 : decode cX11_setVelocity 10 = .ok (.sipush (-999), 3) := by decide +kernel
theorem dX11_setVelocity_13 : decode cX11_setVelocity 13 = .ok (.sipush 999, 3) := by decide +kernel
theorem dX11_setVelocity_16 : decode cX11_setVelocity 16 = .ok (.invokestatic 138, 3) := by decide +kernel
theorem dX11_setVelocity_19 : decode cX11_setVelocity 19 = .ok (.iload_n 3, 1) := by decide +kernel
theorem dX11_setVelocity_20 : decode cX11_setVelocity 20 = .ok (.sipush (-999), 3) := by decide +kernel
theorem dX11_setVelocity_23 : decode cX11_setVelocity 23 = .ok (.sipush 999, 3) := by decide +kernel
theorem dX11_setVelocity_26 : decode cX11_setVelocity 26 = .ok (.invokestatic 138, 3) := by decide +kernel
theorem dX11_setVelocity_29 : decode cX11_setVelocity 29 = .ok (.aload_n 0, 1) := by decide +kernel
theorem dX11_setVelocity_30 : decode cX11_setVelocity 30 = .ok (.invokevirtual 391, 3) := by decide +kernel
theorem dX11_setVelocity_33 : decode cX11_setVelocity 33 = .ok (.aload_n 0, 1) := by decide +kernel
theorem dX11_setVelocity_34 : decode cX11_setVelocity 34 = .ok (.getfield 52, 3) := by decide +kernel
theorem dX11_setVelocity_37 : decode cX11_setVelocity 37 = .ok (.getfield 190, 3) := by decide +kernel
theorem dX11_setVelocity_40 : decode cX11_setVelocity 40 = .ok (.iload_n 1, 1) := by decide +kernel
theorem dX11_setVelocity_41 : decode cX11_setVelocity 41 = .ok (.iload_n 2, 1) := by decide +kernel
theorem dX11_setVelocity_42 : decode cX11_setVelocity 42 = .ok (.iastore, 1) := by decide +kernel
theorem dX11_setVelocity_43 : decode cX11_setVelocity 43 = .ok (.aload_n 0, 1) := by decide +kernel
theorem dX11_setVelocity_44 : decode cX11_setVelocity 44 = .ok (.getfield 52, 3) := by decide +kernel
theorem dX11_setVelocity_47 : decode cX11_setVelocity 47 = .ok (.getfield 199, 3) := by decide +kernel
theorem dX11_setVelocity_50 : decode cX11_setVelocity 50 = .ok (.iload_n 1, 1) := by decide +kernel
theorem dX11_setVelocity_51 : decode cX11_setVelocity 51 = .ok (.iload_n 3, 1) := by decide +kernel
theorem dX11_setVelocity_52 : decode cX11_setVelocity 52 = .ok (.iastore, 1) := by decide +kernel
theorem dX11_setVelocity_53 : decode cX11_setVelocity 53 = .ok (.aload_n 0, 1) := by decide +kernel
theorem dX11_setVelocity_54 : decode cX11_setVelocity 54 = .ok (.getfield 28, 3) := by decide +kernel
theorem dX11_setVelocity_57 : decode cX11_setVelocity 57 = .ok (.aload_n 0, 1) := by decide +kernel
theorem dX11_setVelocity_58 : decode cX11_setVelocity 58 = .ok (.getfield 89, 3) := by decide +kernel
theorem dX11_setVelocity_61 : decode cX11_setVelocity 61 = .ok (.aload_n 0, 1) := by decide +kernel
theorem dX11_setVelocity_62 : decode cX11_setVelocity 62 = .ok (.getfield 52, 3) := by decide +kernel
theorem dX11_setVelocity_65 : decode cX11_setVelocity 65 = .ok (.invokevirtual 387, 3) := by decide +kernel
theorem dX11_setVelocity_68 : decode cX11_setVelocity 68 = .ok (.aload_n 0, 1) := by decide +kernel
theorem dX11_setVelocity_69 : decode cX11_setVelocity 69 = .ok (.invokevirtual 249, 3) := by decide +kernel
theorem dX11_setVelocity_72 : decode cX11_setVelocity 72 = .ok (.getfield 264, 3) := by decide +kernel
theorem dX11_setVelocity_75 : decode cX11_setVelocity 75 = .ok (.ireturn, 1) := by decide +kernel
theorem dX11_clean_0 : decode cX11_clean 0 = .ok (.aload_n 0, 1) := by decide +kernel
theorem dX11_clean_1 : decode cX11_clean 1 = .ok (.invokevirtual 132, 3) := by decide +kernel
theorem dX11_clean_4 : decode cX11_clean 4 = .ok (.aload_n 0, 1) := by decide +kernel
theorem dX11_clean_5 : decode cX11_clean 5 = .ok (.getfield 52, 3) := by decide +kernel
theorem dX11_clean_8 : decode cX11_clean 8 = .ok (.invokevirtual 394, 3) := by decide +kernel
theorem dX11_clean_11 : decode cX11_clean 11 = .ok (.ifCond .ne 11, 3) := by decide +kernel
theorem dX11_clean_14 : decode cX11_clean 14 = .ok (.new 397, 3) := by decide +kernel
theorem dX11_clean_17 : decode cX11_clean 17 = .ok (.dup, 1) := by decide +kernel
theorem dX11_clean_18 : decode cX11_clean 18 = .ok (.invokespecial 399, 3) := by decide +kernel
theorem dX11_clean_21 : decode cX11_clean 21 = .ok (.athrow, 1) := by decide +kernel
theorem dX11_clean_22 : decode cX11_clean 22 = .ok (.iload_n 1, 1) := by decide +kernel
theorem dX11_clean_23 : decode cX11_clean 23 = .ok (.iconst 1, 1) := by decide +kernel
theorem dX11_clean_24 : decode cX11_clean 24 = .ok (.bipush 100, 2) := by decide +kernel
theorem dX11_clean_26 : decode cX11_clean 26 = .ok (.invokestatic 138, 3) := by decide +kernel
theorem dX11_clean_29 : decode cX11_clean 29 = .ok (.aload_n 0, 1) := by decide +kernel
theorem dX11_clean_30 : decode cX11_clean 30 = .ok (.invokevirtual 249, 3) := by decide +kernel
theorem dX11_clean_33 : decode cX11_clean 33 = .ok (.getfield 264, 3) := by decide +kernel
theorem dX11_clean_36 : decode cX11_clean 36 = .ok (.istore_n 2, 1) := by decide +kernel
theorem dX11_clean_37 : decode cX11_clean 37 = .ok (.aload_n 0, 1) := by decide +kernel
theorem dX11_clean_38 : decode cX11_clean 38 = .ok (.invokevirtual 391, 3) := by decide +kernel
theorem dX11_clean_41 : decode cX11_clean 41 = .ok (.aload_n 0, 1) := by decide +kernel
theorem dX11_clean_42 : decode cX11_clean 42 = .ok (.getfield 52, 3) := by decide +kernel
theorem dX11_clean_45 : decode cX11_clean 45 = .ok (.aload_n 0, 1) := by decide +kernel
theorem dX11_clean_46 : decode cX11_clean 46 = .ok (.getfield 89, 3) := by decide +kernel
theorem dX11_clean_49 : decode cX11_clean 49 = .ok (.getfield 214, 3) := by decide +kernel
theorem dX11_clean_52 : decode cX11_clean 52 = .ok (.iload_n 2, 1) := by decide +kernel
theorem dX11_clean_53 : decode cX11_clean 53 = .ok (.aaload, 1) := by decide +kernel
theorem dX11_clean_54 : decode cX11_clean 54 = .ok (.iload_n 1, 1) := by decide +kernel
theorem dX11_clean_55 : decode cX11_clean 55 = .ok (.invokevirtual 400, 3) := by decide +kernel
theorem dX11_clean_58 : decode cX11_clean 58 = .ok (.iload_n 2, 1) := by decide +kernel
theorem dX11_clean_59 : decode cX11_clean 59 = .ok (.ireturn, 1) := by decide +kernel
theorem dX11_cleaned_0 : decode cX11_cleaned 0 = .ok (.aload_n 0, 1) := by decide +kernel
theorem dX11_cleaned_1 : decode cX11_cleaned 1 = .ok (.invokevirtual 132, 3) := by decide +kernel
theorem dX11_cleaned_4 : decode cX11_cleaned 4 = .ok (.aload_n 0, 1) := by decide +kernel
theorem dX11_cleaned_5 : decode cX11_cleaned 5 = .ok (.getfield 52, 3) := by decide +kernel
theorem dX11_cleaned_8 : decode cX11_cleaned 8 = .ok (.getfield 403, 3) := by decide +kernel
theorem dX11_cleaned_11 : decode cX11_cleaned 11 = .ok (.ireturn, 1) := by decide +kernel
theorem dX11_undo_0 : decode cX11_undo 0 = .ok (.aload_n 0, 1) := by decide +kernel
theorem dX11_undo_1 : decode cX11_undo 1 = .ok (.getfield 406, 3) := by decide +kernel
theorem dX11_undo_4 : decode cX11_undo 4 = .ok (.ifCond .ne 11, 3) := by decide +kernel
theorem dX11_undo_7 : decode cX11_undo 7 = .ok (.new 397, 3) := by decide +kernel
theorem dX11_undo_10 : decode cX11_undo 10 = .ok (.dup, 1) := by decide +kernel
theorem dX11_undo_11 : decode cX11_undo 11 = .ok (.invokespecial 399, 3) := by decide +kernel
theorem dX11_undo_14 : decode cX11_undo 14 = .ok (.athrow, 1) := by decide +kernel
theorem dX11_undo_15 : decode cX11_undo 15 = .ok (.aload_n 0, 1) := by decide +kernel
theorem dX11_undo_16 : decode cX11_undo 16 = .ok (.getfield 52, 3) := by decide +kernel
theorem dX11_undo_19 : decode cX11_undo 19 = .ok (.aload_n 0, 1) := by decide +kernel
theorem dX11_undo_20 : decode cX11_undo 20 = .ok (.getfield 59, 3) := by decide +kernel
theorem dX11_undo_23 : decode cX11_undo 23 = .ok (.aload_n 0, 1) := by decide +kernel
theorem dX11_undo_24 : decode cX11_undo 24 = .ok (.getfield 409, 3) := by decide +kernel
theorem dX11_undo_27 : decode cX11_undo 27 = .ok (.aaload, 1) := by decide +kernel
theorem dX11_undo_28 : decode cX11_undo 28 = .ok (.invokevirtual 383, 3) := by decide +kernel
theorem dX11_undo_31 : decode cX11_undo 31 = .ok (.aload_n 0, 1) := by decide +kernel
theorem dX11_undo_32 : decode cX11_undo 32 = .ok (.aload_n 0, 1) := by decide +kernel
theorem dX11_undo_33 : decode cX11_undo 33 = .ok (.getfield 409, 3) := by decide +kernel
theorem dX11_undo_36 : decode cX11_undo 36 = .ok (.bipush 6, 2) := by decide +kernel
theorem dX11_undo_38 : decode cX11_undo 38 = .ok (.iadd, 1) := by decide +kernel
theorem dX11_undo_39 : decode cX11_undo 39 = .ok (.iconst 1, 1) := by decide +kernel
theorem dX11_undo_40 : decode cX11_undo 40 = .ok (.isub, 1) := by decide +kernel
theorem dX11_undo_41 : decode cX11_undo 41 = .ok (.bipush 6, 2) := by decide +kernel
theorem dX11_undo_43 : decode cX11_undo 43 = .ok (.irem, 1) := by decide +kernel
theorem dX11_undo_44 : decode cX11_undo 44 = .ok (.putfield 409, 3) := by decide +kernel
theorem dX11_undo_47 : decode cX11_undo 47 = .ok (.aload_n 0, 1) := by decide +kernel
theorem dX11_undo_48 : decode cX11_undo 48 = .ok (.dup, 1) := by decide +kernel
theorem dX11_undo_49 : decode cX11_undo 49 = .ok (.getfield 406, 3) := by decide +kernel
theorem dX11_undo_52 : decode cX11_undo 52 = .ok (.iconst 1, 1) := by decide +kernel
theorem dX11_undo_53 : decode cX11_undo 53 = .ok (.isub, 1) := by decide +kernel
theorem dX11_undo_54 : decode cX11_undo 54 = .ok (.putfield 406, 3) := by decide +kernel
theorem dX11_undo_57 : decode cX11_undo 57 = .ok (.aload_n 0, 1) := by decide +kernel
theorem dX11_undo_58 : decode cX11_undo 58 = .ok (.getfield 42, 3) := by decide +kernel
theorem dX11_undo_61 : decode cX11_undo 61 = .ok (.iconst 0, 1) := by decide +kernel
theorem dX11_undo_62 : decode cX11_undo 62 = .ok (.putfield 412, 3) := by decide +kernel
theorem dX11_undo_65 : decode cX11_undo 65 = .ok (.aload_n 0, 1) := by decide +kernel
theorem dX11_undo_66 : decode cX11_undo 66 = .ok (.getfield 406, 3) := by decide +kernel
theorem dX11_undo_69 : decode cX11_undo 69 = .ok (.ireturn, 1) := by decide +kernel
theorem dX11_undoable_0 : decode cX11_undoable 0 = .ok (.aload_n 0, 1) := by decide +kernel
theorem dX11_undoable_1 : decode cX11_undoable 1 = .ok (.getfield 406, 3) := by decide +kernel
theorem dX11_undoable_4 : decode cX11_undoable 4 = .ok (.ireturn, 1) := by decide +kernel
theorem dX11_save_0 : decode cX11_save 0 = .ok (.aload_n 0, 1) := by decide +kernel
theorem dX11_save_1 : decode cX11_save 1 = .ok (.invokevirtual 132, 3) := by decide +kernel
theorem dX11_save_4 : decode cX11_save 4 = .ok (.iload_n 1, 1) := by decide +kernel
theorem dX11_save_5 : decode cX11_save 5 = .ok (.iconst 2, 1) := by decide +kernel
theorem dX11_save_6 : decode cX11_save 6 = .ok (.invokestatic 281, 3) := by decide +kernel
theorem dX11_save_9 : decode cX11_save 9 = .ok (.aload_n 0, 1) := by decide +kernel
theorem dX11_save_10 : decode cX11_save 10 = .ok (.getfield 63, 3) := by decide +kernel
theorem dX11_save_13 : decode cX11_save 13 = .ok (.iload_n 1, 1) := by decide +kernel
theorem dX11_save_14 : decode cX11_save 14 = .ok (.aaload, 1) := by decide +kernel
theorem dX11_save_15 : decode cX11_save 15 = .ok (.aload_n 0, 1) := by decide +kernel
theorem dX11_save_16 : decode cX11_save 16 = .ok (.getfield 52, 3) := by decide +kernel
theorem dX11_save_19 : decode cX11_save 19 = .ok (.invokevirtual 383, 3) := by decide +kernel
theorem dX11_save_22 : decode cX11_save 22 = .ok (.aload_n 0, 1) := by decide +kernel
theorem dX11_save_23 : decode cX11_save 23 = .ok (.getfield 66, 3) := by decide +kernel
theorem dX11_save_26 : decode cX11_save 26 = .ok (.iload_n 1, 1) := by decide +kernel
theorem dX11_save_27 : decode cX11_save 27 = .ok (.iconst 1, 1) := by decide +kernel
theorem dX11_save_28 : decode cX11_save 28 = .ok (.bastore, 1) := by decide +kernel
theorem dX11_save_29 : decode cX11_save 29 = .ok (.aload_n 0, 1) := by decide +kernel
theorem dX11_save_30 : decode cX11_save 30 = .ok (.invokevirtual 249, 3) := by decide +kernel
theorem dX11_save_33 : decode cX11_save 33 = .ok (.getfield 264, 3) := by decide +kernel
theorem dX11_save_36 : decode cX11_save 36 = .ok (.ireturn, 1) := by decide +kernel
theorem dX11_restore_0 : decode cX11_restore 0 = .ok (.iload_n 1, 1) := by decide +kernel
theorem dX11_restore_1 : decode cX11_restore 1 = .ok (.iconst 2, 1) := by decide +kernel
theorem dX11_restore_2 : decode cX11_restore 2 = .ok (.invokestatic 281, 3) := by decide +kernel
theorem dX11_restore_5 : decode cX11_restore 5 = .ok (.aload_n 0, 1) := by decide +kernel
theorem dX11_restore_6 : decode cX11_restore 6 = .ok (.getfield 66, 3) := by decide +kernel
theorem dX11_restore_9 : decode cX11_restore 9 = .ok (.iload_n 1, 1) := by decide +kernel
theorem dX11_restore_10 : decode cX11_restore 10 = .ok (.baload, 1) := by decide +kernel
theorem dX11_restore_11 : decode cX11_restore 11 = .ok (.ifCond .ne 11, 3) := by decide +kernel
theorem dX11_restore_14 : decode cX11_restore 14 = .ok (.new 397, 3) := by decide +kernel
theorem dX11_restore_17 : decode cX11_restore 17 = .ok (.dup, 1) := by decide +kernel
theorem dX11_restore_18 : decode cX11_restore 18 = .ok (.invokespecial 399, 3) := by decide +kernel
theorem dX11_restore_21 : decode cX11_restore 21 = .ok (.athrow, 1) := by decide +kernel
theorem dX11_restore_22 : decode cX11_restore 22 = .ok (.aload_n 0, 1) := by decide +kernel
theorem dX11_restore_23 : decode cX11_restore 23 = .ok (.getfield 52, 3) := by decide +kernel
theorem dX11_restore_26 : decode cX11_restore 26 = .ok (.aload_n 0, 1) := by decide +kernel
theorem dX11_restore_27 : decode cX11_restore 27 = .ok (.getfield 63, 3) := by decide +kernel
theorem dX11_restore_30 : decode cX11_restore 30 = .ok (.iload_n 1, 1) := by decide +kernel
theorem dX11_restore_31 : decode cX11_restore 31 = .ok (.aaload, 1) := by decide +kernel
theorem dX11_restore_32 : decode cX11_restore 32 = .ok (.invokevirtual 383, 3) := by decide +kernel
theorem dX11_restore_35 : decode cX11_restore 35 = .ok (.aload_n 0, 1) := by decide +kernel
theorem dX11_restore_36 : decode cX11_restore 36 = .ok (.iconst 0, 1) := by decide +kernel
theorem dX11_restore_37 : decode cX11_restore 37 = .ok (.putfield 406, 3) := by decide +kernel
theorem dX11_restore_40 : decode cX11_restore 40 = .ok (.aload_n 0, 1) := by decide +kernel
theorem dX11_restore_41 : decode cX11_restore 41 = .ok (.getfield 42, 3) := by decide +kernel
theorem dX11_restore_44 : decode cX11_restore 44 = .ok (.iconst 0, 1) := by decide +kernel
theorem dX11_restore_45 : decode cX11_restore 45 = .ok (.putfield 412, 3) := by decide +kernel
theorem dX11_restore_48 : decode cX11_restore 48 = .ok (.aload_n 0, 1) := by decide +kernel
theorem dX11_restore_49 : decode cX11_restore 49 = .ok (.invokevirtual 249, 3) := by decide +kernel
theorem dX11_restore_52 : decode cX11_restore 52 = .ok (.getfield 264, 3) := by decide +kernel
theorem dX11_restore_55 : decode cX11_restore 55 = .ok (.ireturn, 1) := by decide +kernel
theorem dX11_needCamera_0 : decode cX11_needCamera 0 = .ok (.aload_n 0, 1) := by decide +kernel
theorem dX11_needCamera_1 : decode cX11_needCamera 1 = .ok (.getfield 89, 3) := by decide +kernel
theorem dX11_needCamera_4 : decode cX11_needCamera 4 = .ok (.getfield 129, 3) := by decide +kernel
theorem dX11_needCamera_7 : decode cX11_needCamera 7 = .ok (.ifCond .ne 11, 3) := by decide +kernel
theorem dX11_needCamera_10 : decode cX11_needCamera 10 = .ok (.new 397, 3) := by decide +kernel
theorem dX11_needCamera_13 : decode cX11_needCamera 13 = .ok (.dup, 1) := by decide +kernel
theorem dX11_needCamera_14 : decode cX11_needCamera 14 = .ok (.invokespecial 399, 3) := by decide +kernel
theorem dX11_needCamera_17 : decode cX11_needCamera 17 = .ok (.athrow, 1) := by decide +kernel
theorem dX11_needCamera_18 : decode cX11_needCamera 18 = .ok (.return_, 1) := by decide +kernel
theorem dX11_needMic_0 : decode cX11_needMic 0 = .ok (.iload_n 1, 1) := by decide +kernel
theorem dX11_needMic_1 : decode cX11_needMic 1 = .ok (.aload_n 0, 1) := by decide +kernel
theorem dX11_needMic_2 : decode cX11_needMic 2 = .ok (.getfield 89, 3) := by decide +kernel
theorem dX11_needMic_5 : decode cX11_needMic 5 = .ok (.getfield 129, 3) := by decide +kernel
theorem dX11_needMic_8 : decode cX11_needMic 8 = .ok (.invokestatic 281, 3) := by decide +kernel
theorem dX11_needMic_11 : decode cX11_needMic 11 = .ok (.return_, 1) := by decide +kernel
theorem dX11_needCell_0 : decode cX11_needCell 0 = .ok (.iload_n 1, 1) := by decide +kernel
theorem dX11_needCell_1 : decode cX11_needCell 1 = .ok (.aload_n 0, 1) := by decide +kernel
theorem dX11_needCell_2 : decode cX11_needCell 2 = .ok (.getfield 89, 3) := by decide +kernel
theorem dX11_needCell_5 : decode cX11_needCell 5 = .ok (.getfield 113, 3) := by decide +kernel
theorem dX11_needCell_8 : decode cX11_needCell 8 = .ok (.invokevirtual 117, 3) := by decide +kernel
theorem dX11_needCell_11 : decode cX11_needCell 11 = .ok (.invokestatic 281, 3) := by decide +kernel
theorem dX11_needCell_14 : decode cX11_needCell 14 = .ok (.return_, 1) := by decide +kernel
theorem dX11_needSource_0 : decode cX11_needSource 0 = .ok (.iload_n 1, 1) := by decide +kernel
theorem dX11_needSource_1 : decode cX11_needSource 1 = .ok (.aload_n 0, 1) := by decide +kernel
theorem dX11_needSource_2 : decode cX11_needSource 2 = .ok (.getfield 89, 3) := by decide +kernel
theorem dX11_needSource_5 : decode cX11_needSource 5 = .ok (.getfield 179, 3) := by decide +kernel
theorem dX11_needSource_8 : decode cX11_needSource 8 = .ok (.invokestatic 281, 3) := by decide +kernel
theorem dX11_needSource_11 : decode cX11_needSource 11 = .ok (.return_, 1) := by decide +kernel
theorem dX11_needIndex_0 : decode cX11_needIndex 0 = .ok (.iload_n 0, 1) := by decide +kernel
theorem dX11_needIndex_1 : decode cX11_needIndex 1 = .ok (.ifCond .lt 8, 3) := by decide +kernel
theorem dX11_needIndex_4 : decode cX11_needIndex 4 = .ok (.iload_n 0, 1) := by decide +kernel
theorem dX11_needIndex_5 : decode cX11_needIndex 5 = .ok (.iload_n 1, 1) := by decide +kernel
theorem dX11_needIndex_6 : decode cX11_needIndex 6 = .ok (.if_icmp .lt 11, 3) := by decide +kernel
theorem dX11_needIndex_9 : decode cX11_needIndex 9 = .ok (.new 103, 3) := by decide +kernel
theorem dX11_needIndex_12 : decode cX11_needIndex 12 = .ok (.dup, 1) := by decide +kernel
theorem dX11_needIndex_13 : decode cX11_needIndex 13 = .ok (.invokespecial 105, 3) := by decide +kernel
theorem dX11_needIndex_16 : decode cX11_needIndex 16 = .ok (.athrow, 1) := by decide +kernel
theorem dX11_needIndex_17 : decode cX11_needIndex 17 = .ok (.return_, 1) := by decide +kernel
theorem dX11_needRange_0 : decode cX11_needRange 0 = .ok (.iload_n 0, 1) := by decide +kernel
theorem dX11_needRange_1 : decode cX11_needRange 1 = .ok (.iload_n 1, 1) := by decide +kernel
theorem dX11_needRange_2 : decode cX11_needRange 2 = .ok (.if_icmp .lt 8, 3) := by decide +kernel
theorem dX11_needRange_5 : decode cX11_needRange 5 = .ok (.iload_n 0, 1) := by decide +kernel
theorem dX11_needRange_6 : decode cX11_needRange 6 = .ok (.iload_n 2, 1) := by decide +kernel
theorem dX11_needRange_7 : decode cX11_needRange 7 = .ok (.if_icmp .le 11, 3) := by decide +kernel
theorem dX11_needRange_10 : decode cX11_needRange 10 = .ok (.new 416, 3) := by decide +kernel
theorem dX11_needRange_13 : decode cX11_needRange 13 = .ok (.dup, 1) := by decide +kernel
theorem dX11_needRange_14 : decode cX11_needRange 14 = .ok (.invokespecial 418, 3) := by decide +kernel
theorem dX11_needRange_17 : decode cX11_needRange 17 = .ok (.athrow, 1) := by decide +kernel
theorem dX11_needRange_18 : decode cX11_needRange 18 = .ok (.return_, 1) := by decide +kernel
theorem dX11_begin_0 : decode cX11_begin 0 = .ok (.aload_n 0, 1) := by decide +kernel
theorem dX11_begin_1 : decode cX11_begin 1 = .ok (.getfield 89, 3) := by decide +kernel
theorem dX11_begin_4 : decode cX11_begin 4 = .ok (.invokevirtual 419, 3) := by decide +kernel
theorem dX11_begin_7 : decode cX11_begin 7 = .ok (.aload_n 0, 1) := by decide +kernel
theorem dX11_begin_8 : decode cX11_begin 8 = .ok (.getfield 52, 3) := by decide +kernel
theorem dX11_begin_11 : decode cX11_begin 11 = .ok (.aload_n 0, 1) := by decide +kernel
theorem dX11_begin_12 : decode cX11_begin 12 = .ok (.getfield 89, 3) := by decide +kernel
theorem dX11_begin_15 : decode cX11_begin 15 = .ok (.invokevirtual 422, 3) := by decide +kernel
theorem dX11_begin_18 : decode cX11_begin 18 = .ok (.aload_n 0, 1) := by decide +kernel
theorem dX11_begin_19 : decode cX11_begin 19 = .ok (.getfield 28, 3) := by decide +kernel
theorem dX11_begin_22 : decode cX11_begin 22 = .ok (.aload_n 0, 1) := by decide +kernel
theorem dX11_begin_23 : decode cX11_begin 23 = .ok (.getfield 89, 3) := by decide +kernel
theorem dX11_begin_26 : decode cX11_begin 26 = .ok (.aload_n 0, 1) := by decide +kernel
theorem dX11_begin_27 : decode cX11_begin 27 = .ok (.getfield 52, 3) := by decide +kernel
theorem dX11_begin_30 : decode cX11_begin 30 = .ok (.invokevirtual 387, 3) := by decide +kernel
theorem dX11_begin_33 : decode cX11_begin 33 = .ok (.aload_n 0, 1) := by decide +kernel
theorem dX11_begin_34 : decode cX11_begin 34 = .ok (.iconst 0, 1) := by decide +kernel
theorem dX11_begin_35 : decode cX11_begin 35 = .ok (.putfield 406, 3) := by decide +kernel
theorem dX11_begin_38 : decode cX11_begin 38 = .ok (.aload_n 0, 1) := by decide +kernel
theorem dX11_begin_39 : decode cX11_begin 39 = .ok (.getfield 42, 3) := by decide +kernel
theorem dX11_begin_42 : decode cX11_begin 42 = .ok (.iconst 0, 1) := by decide +kernel
theorem dX11_begin_43 : decode cX11_begin 43 = .ok (.putfield 412, 3) := by decide +kernel
theorem dX11_begin_46 : decode cX11_begin 46 = .ok (.iconst 0, 1) := by decide +kernel
theorem dX11_begin_47 : decode cX11_begin 47 = .ok (.istore_n 1, 1) := by decide +kernel
theorem dX11_begin_48 : decode cX11_begin 48 = .ok (.iload_n 1, 1) := by decide +kernel
theorem dX11_begin_49 : decode cX11_begin 49 = .ok (.iconst 2, 1) := by decide +kernel
theorem dX11_begin_50 : decode cX11_begin 50 = .ok (.if_icmp .ge 16, 3) := by decide +kernel
theorem dX11_begin_53 : decode cX11_begin 53 = .ok (.aload_n 0, 1) := by decide +kernel
theorem dX11_begin_54 : decode cX11_begin 54 = .ok (.getfield 66, 3) := by decide +kernel
theorem dX11_begin_57 : decode cX11_begin 57 = .ok (.iload_n 1, 1) := by decide +kernel
theorem dX11_begin_58 : decode cX11_begin 58 = .ok (.iconst 0, 1) := by decide +kernel
theorem dX11_begin_59 : decode cX11_begin 59 = .ok (.bastore, 1) := by decide +kernel
theorem dX11_begin_60 : decode cX11_begin 60 = .ok (.iinc 1 1, 3) := by decide +kernel
theorem dX11_begin_63 : decode cX11_begin 63 = .ok (.goto (-15), 3) := by decide +kernel
theorem dX11_begin_66 : decode cX11_begin 66 = .ok (.return_, 1) := by decide +kernel
theorem dX11_keepForUndo_0 : decode cX11_keepForUndo 0 = .ok (.aload_n 0, 1) := by decide +kernel
theorem dX11_keepForUndo_1 : decode cX11_keepForUndo 1 = .ok (.aload_n 0, 1) := by decide +kernel
theorem dX11_keepForUndo_2 : decode cX11_keepForUndo 2 = .ok (.getfield 409, 3) := by decide +kernel
theorem dX11_keepForUndo_5 : decode cX11_keepForUndo 5 = .ok (.iconst 1, 1) := by decide +kernel
theorem dX11_keepForUndo_6 : decode cX11_keepForUndo 6 = .ok (.iadd, 1) := by decide +kernel
theorem dX11_keepForUndo_7 : decode cX11_keepForUndo 7 = .ok (.bipush 6, 2) := by decide +kernel
theorem dX11_keepForUndo_9 : decode cX11_keepForUndo 9 = .ok (.irem, 1) := by decide +kernel
theorem dX11_keepForUndo_10 : decode cX11_keepForUndo 10 = .ok (.putfield 409, 3) := by decide +kernel
theorem dX11_keepForUndo_13 : decode cX11_keepForUndo 13 = .ok (.aload_n 0, 1) := by decide +kernel
theorem dX11_keepForUndo_14 : decode cX11_keepForUndo 14 = .ok (.getfield 59, 3) := by decide +kernel
theorem dX11_keepForUndo_17 : decode cX11_keepForUndo 17 = .ok (.aload_n 0, 1) := by decide +kernel
theorem dX11_keepForUndo_18 : decode cX11_keepForUndo 18 = .ok (.getfield 409, 3) := by decide +kernel
theorem dX11_keepForUndo_21 : decode cX11_keepForUndo 21 = .ok (.aaload, 1) := by decide +kernel
theorem dX11_keepForUndo_22 : decode cX11_keepForUndo 22 = .ok (.aload_n 0, 1) := by decide +kernel
theorem dX11_keepForUndo_23 : decode cX11_keepForUndo 23 = .ok (.getfield 52, 3) := by decide +kernel
theorem dX11_keepForUndo_26 : decode cX11_keepForUndo 26 = .ok (.invokevirtual 383, 3) := by decide +kernel
theorem dX11_keepForUndo_29 : decode cX11_keepForUndo 29 = .ok (.aload_n 0, 1) := by decide +kernel
theorem dX11_keepForUndo_30 : decode cX11_keepForUndo 30 = .ok (.getfield 406, 3) := by decide +kernel
theorem dX11_keepForUndo_33 : decode cX11_keepForUndo 33 = .ok (.bipush 6, 2) := by decide +kernel
theorem dX11_keepForUndo_35 : decode cX11_keepForUndo 35 = .ok (.if_icmp .ge 13, 3) := by decide +kernel
theorem dX11_keepForUndo_38 : decode cX11_keepForUndo 38 = .ok (.aload_n 0, 1) := by decide +kernel
theorem dX11_keepForUndo_39 : decode cX11_keepForUndo 39 = .ok (.dup, 1) := by decide +kernel
theorem dX11_keepForUndo_40 : decode cX11_keepForUndo 40 = .ok (.getfield 406, 3) := by decide +kernel
theorem dX11_keepForUndo_43 : decode cX11_keepForUndo 43 = .ok (.iconst 1, 1) := by decide +kernel
theorem dX11_keepForUndo_44 : decode cX11_keepForUndo 44 = .ok (.iadd, 1) := by decide +kernel
theorem dX11_keepForUndo_45 : decode cX11_keepForUndo 45 = .ok (.putfield 406, 3) := by decide +kernel
theorem dX11_keepForUndo_48 : decode cX11_keepForUndo 48 = .ok (.aload_n 0, 1) := by decide +kernel
theorem dX11_keepForUndo_49 : decode cX11_keepForUndo 49 = .ok (.getfield 42, 3) := by decide +kernel
theorem dX11_keepForUndo_52 : decode cX11_keepForUndo 52 = .ok (.iconst 0, 1) := by decide +kernel
theorem dX11_keepForUndo_53 : decode cX11_keepForUndo 53 = .ok (.putfield 412, 3) := by decide +kernel
theorem dX11_keepForUndo_56 : decode cX11_keepForUndo 56 = .ok (.return_, 1) := by decide +kernel
theorem dX11_powersNow_0 : decode cX11_powersNow 0 = .ok (.aload_n 0, 1) := by decide +kernel
theorem dX11_powersNow_1 : decode cX11_powersNow 1 = .ok (.getfield 42, 3) := by decide +kernel
theorem dX11_powersNow_4 : decode cX11_powersNow 4 = .ok (.getfield 412, 3) := by decide +kernel
theorem dX11_powersNow_7 : decode cX11_powersNow 7 = .ok (.ifCond .ne 26, 3) := by decide +kernel
theorem dX11_powersNow_10 : decode cX11_powersNow 10 = .ok (.aload_n 0, 1) := by decide +kernel
theorem dX11_powersNow_11 : decode cX11_powersNow 11 = .ok (.getfield 42, 3) := by decide +kernel
theorem dX11_powersNow_14 : decode cX11_powersNow 14 = .ok (.aload_n 0, 1) := by decide +kernel
theorem dX11_powersNow_15 : decode cX11_powersNow 15 = .ok (.getfield 89, 3) := by decide +kernel
theorem dX11_powersNow_18 : decode cX11_powersNow 18 = .ok (.aload_n 0, 1) := by decide +kernel
theorem dX11_powersNow_19 : decode cX11_powersNow 19 = .ok (.getfield 52, 3) := by decide +kernel
theorem dX11_powersNow_22 : decode cX11_powersNow 22 = .ok (.invokevirtual 425, 3) := by decide +kernel
theorem dX11_powersNow_25 : decode cX11_powersNow 25 = .ok (.aload_n 0, 1) := by decide +kernel
theorem dX11_powersNow_26 : decode cX11_powersNow 26 = .ok (.getfield 42, 3) := by decide +kernel
theorem dX11_powersNow_29 : decode cX11_powersNow 29 = .ok (.iconst 1, 1) := by decide +kernel
theorem dX11_powersNow_30 : decode cX11_powersNow 30 = .ok (.putfield 412, 3) := by decide +kernel
theorem dX11_powersNow_33 : decode cX11_powersNow 33 = .ok (.aload_n 0, 1) := by decide +kernel
theorem dX11_powersNow_34 : decode cX11_powersNow 34 = .ok (.getfield 42, 3) := by decide +kernel
theorem dX11_powersNow_37 : decode cX11_powersNow 37 = .ok (.areturn, 1) := by decide +kernel
theorem dX11_trialBest_0 : decode cX11_trialBest 0 = .ok (.aload_n 0, 1) := by decide +kernel
theorem dX11_trialBest_1 : decode cX11_trialBest 1 = .ok (.getfield 46, 3) := by decide +kernel
theorem dX11_trialBest_4 : decode cX11_trialBest 4 = .ok (.aload_n 0, 1) := by decide +kernel
theorem dX11_trialBest_5 : decode cX11_trialBest 5 = .ok (.getfield 89, 3) := by decide +kernel
theorem dX11_trialBest_8 : decode cX11_trialBest 8 = .ok (.aload_n 0, 1) := by decide +kernel
theorem dX11_trialBest_9 : decode cX11_trialBest 9 = .ok (.getfield 56, 3) := by decide +kernel
theorem dX11_trialBest_12 : decode cX11_trialBest 12 = .ok (.invokevirtual 425, 3) := by decide +kernel
theorem dX11_trialBest_15 : decode cX11_trialBest 15 = .ok (.aload_n 0, 1) := by decide +kernel
theorem dX11_trialBest_16 : decode cX11_trialBest 16 = .ok (.getfield 46, 3) := by decide +kernel
theorem dX11_trialBest_19 : decode cX11_trialBest 19 = .ok (.getfield 264, 3) := by decide +kernel
theorem dX11_trialBest_22 : decode cX11_trialBest 22 = .ok (.ireturn, 1) := by decide +kernel
theorem dX11_recordPoint_0 : decode cX11_recordPoint 0 = .ok (.aload_n 0, 1) := by decide +kernel
theorem dX11_recordPoint_1 : decode cX11_recordPoint 1 = .ok (.getfield 56, 3) := by decide +kernel
theorem dX11_recordPoint_4 : decode cX11_recordPoint 4 = .ok (.aload_n 0, 1) := by decide +kernel
theorem dX11_recordPoint_5 : decode cX11_recordPoint 5 = .ok (.getfield 52, 3) := by decide +kernel
theorem dX11_recordPoint_8 : decode cX11_recordPoint 8 = .ok (.invokevirtual 383, 3) := by decide +kernel
theorem dX11_recordPoint_11 : decode cX11_recordPoint 11 = .ok (.aload_n 0, 1) := by decide +kernel
theorem dX11_recordPoint_12 : decode cX11_recordPoint 12 = .ok (.getfield 28, 3) := by decide +kernel
theorem dX11_recordPoint_15 : decode cX11_recordPoint 15 = .ok (.aload_n 0, 1) := by decide +kernel
theorem dX11_recordPoint_16 : decode cX11_recordPoint 16 = .ok (.getfield 89, 3) := by decide +kernel
theorem dX11_recordPoint_19 : decode cX11_recordPoint 19 = .ok (.aload_n 0, 1) := by decide +kernel
theorem dX11_recordPoint_20 : decode cX11_recordPoint 20 = .ok (.getfield 56, 3) := by decide +kernel
theorem dX11_recordPoint_23 : decode cX11_recordPoint 23 = .ok (.iload_n 1, 1) := by decide +kernel
theorem dX11_recordPoint_24 : decode cX11_recordPoint 24 = .ok (.iload_n 2, 1) := by decide +kernel
theorem dX11_recordPoint_25 : decode cX11_recordPoint 25 = .ok (.invokevirtual 428, 3) := by decide +kernel
theorem dX11_recordPoint_28 : decode cX11_recordPoint 28 = .ok (.return_, 1) := by decide +kernel
theorem dX11_marksAlias_0 : decode cX11_marksAlias 0 = .ok (.aload_n 0, 1) := by decide +kernel
theorem dX11_marksAlias_1 : decode cX11_marksAlias 1 = .ok (.getfield 52, 3) := by decide +kernel
theorem dX11_marksAlias_4 : decode cX11_marksAlias 4 = .ok (.invokevirtual 431, 3) := by decide +kernel
theorem dX11_marksAlias_7 : decode cX11_marksAlias 7 = .ok (.istore 5, 2) := by decide +kernel
theorem dX11_marksAlias_9 : decode cX11_marksAlias 9 = .ok (.iload_n 2, 1) := by decide +kernel
theorem dX11_marksAlias_10 : decode cX11_marksAlias 10 = .ok (.aload_n 1, 1) := by decide +kernel
theorem dX11_marksAlias_11 : decode cX11_marksAlias 11 = .ok (.getfield 264, 3) := by decide +kernel
theorem dX11_marksAlias_14 : decode cX11_marksAlias 14 = .ok (.if_icmp .eq 48, 3) := by decide +kernel
theorem dX11_marksAlias_17 : decode cX11_marksAlias 17 = .ok (.iload 5, 2) := by decide +kernel
theorem dX11_marksAlias_19 : decode cX11_marksAlias 19 = .ok (.ifCond .le 43, 3) := by decide +kernel
theorem dX11_marksAlias_22 : decode cX11_marksAlias 22 = .ok (.aload_n 1, 1) := by decide +kernel
theorem dX11_marksAlias_23 : decode cX11_marksAlias 23 = .ok (.iload_n 2, 1) := by decide +kernel
theorem dX11_marksAlias_24 : decode cX11_marksAlias 24 = .ok (.aload_n 0, 1) := by decide +kernel
theorem dX11_marksAlias_25 : decode cX11_marksAlias 25 = .ok (.getfield 89, 3) := by decide +kernel
theorem dX11_marksAlias_28 : decode cX11_marksAlias 28 = .ok (.getfield 113, 3) := by decide +kernel
theorem dX11_marksAlias_31 : decode cX11_marksAlias 31 = .ok (.invokevirtual 287, 3) := by decide +kernel
theorem dX11_marksAlias_34 : decode cX11_marksAlias 34 = .ok (.ifCond .eq 28, 3) := by decide +kernel
theorem dX11_marksAlias_37 : decode cX11_marksAlias 37 = .ok (.bipush 100, 2) := by decide +kernel
theorem dX11_marksAlias_39 : decode cX11_marksAlias 39 = .ok (.aload_n 0, 1) := by decide +kernel
theorem dX11_marksAlias_40 : decode cX11_marksAlias 40 = .ok (.iload_n 2, 1) := by decide +kernel
theorem dX11_marksAlias_41 : decode cX11_marksAlias 41 = .ok (.aload_n 1, 1) := by decide +kernel
theorem dX11_marksAlias_42 : decode cX11_marksAlias 42 = .ok (.getfield 264, 3) := by decide +kernel
theorem dX11_marksAlias_45 : decode cX11_marksAlias 45 = .ok (.iload_n 3, 1) := by decide +kernel
theorem dX11_marksAlias_46 : decode cX11_marksAlias 46 = .ok (.invokevirtual 308, 3) := by decide +kernel
theorem dX11_marksAlias_49 : decode cX11_marksAlias 49 = .ok (.imul, 1) := by decide +kernel
theorem dX11_marksAlias_50 : decode cX11_marksAlias 50 = .ok (.iload 4, 2) := by decide +kernel
theorem dX11_marksAlias_52 : decode cX11_marksAlias 52 = .ok (.iload 5, 2) := by decide +kernel
theorem dX11_marksAlias_54 : decode cX11_marksAlias 54 = .ok (.imul, 1) := by decide +kernel
theorem dX11_marksAlias_55 : decode cX11_marksAlias 55 = .ok (.if_icmp .lt 7, 3) := by decide +kernel
theorem dX11_marksAlias_58 : decode cX11_marksAlias 58 = .ok (.iconst 1, 1) := by decide +kernel
theorem dX11_marksAlias_59 : decode cX11_marksAlias 59 = .ok (.goto 4, 3) := by decide +kernel
theorem dX11_marksAlias_62 : decode cX11_marksAlias 62 = .ok (.iconst 0, 1) := by decide +kernel
theorem dX11_marksAlias_63 : decode cX11_marksAlias 63 = .ok (.ireturn, 1) := by decide +kernel
theorem dX11_confusion_0 : decode cX11_confusion 0 = .ok (.aload_n 0, 1) := by decide +kernel
theorem dX11_confusion_1 : decode cX11_confusion 1 = .ok (.getfield 89, 3) := by decide +kernel
theorem dX11_confusion_4 : decode cX11_confusion 4 = .ok (.getfield 214, 3) := by decide +kernel
theorem dX11_confusion_7 : decode cX11_confusion 7 = .ok (.iload_n 1, 1) := by decide +kernel
theorem dX11_confusion_8 : decode cX11_confusion 8 = .ok (.aaload, 1) := by decide +kernel
theorem dX11_confusion_9 : decode cX11_confusion 9 = .ok (.astore 4, 2) := by decide +kernel
theorem dX11_confusion_11 : decode cX11_confusion 11 = .ok (.aload_n 0, 1) := by decide +kernel
theorem dX11_confusion_12 : decode cX11_confusion 12 = .ok (.getfield 89, 3) := by decide +kernel
theorem dX11_confusion_15 : decode cX11_confusion 15 = .ok (.getfield 214, 3) := by decide +kernel
theorem dX11_confusion_18 : decode cX11_confusion 18 = .ok (.iload_n 2, 1) := by decide +kernel
theorem dX11_confusion_19 : decode cX11_confusion 19 = .ok (.aaload, 1) := by decide +kernel
theorem dX11_confusion_20 : decode cX11_confusion 20 = .ok (.astore 5, 2) := by decide +kernel
theorem dX11_confusion_22 : decode cX11_confusion 22 = .ok (.iconst 0, 1) := by decide +kernel
theorem dX11_confusion_23 : decode cX11_confusion 23 = .ok (.istore 6, 2) := by decide +kernel
theorem dX11_confusion_25 : decode cX11_confusion 25 = .ok (.iconst 0, 1) := by decide +kernel
theorem dX11_confusion_26 : decode cX11_confusion 26 = .ok (.istore 7, 2) := by decide +kernel
theorem dX11_confusion_28 : decode cX11_confusion 28 = .ok (.iload 7, 2) := by decide +kernel
theorem dX11_confusion_30 : decode cX11_confusion 30 = .ok (.aload_n 0, 1) := by decide +kernel
theorem dX11_confusion_31 : decode cX11_confusion 31 = .ok (.getfield 89, 3) := by decide +kernel
theorem dX11_confusion_34 : decode cX11_confusion 34 = .ok (.getfield 129, 3) := by decide +kernel
theorem dX11_confusion_37 : decode cX11_confusion 37 = .ok (.if_icmp .ge 105, 3) := by decide +kernel
theorem dX11_confusion_40 : decode cX11_confusion 40 = .ok (.iconst 0, 1) := by decide +kernel
theorem dX11_confusion_41 : decode cX11_confusion 41 = .ok (.istore 8, 2) := by decide +kernel
theorem dX11_confusion_43 : decode cX11_confusion 43 = .ok (.iconst 0, 1) := by decide +kernel
theorem dX11_confusion_44 : decode cX11_confusion 44 = .ok (.istore 9, 2) := by decide +kernel
theorem dX11_confusion_46 : decode cX11_confusion 46 = .ok (.iload 9, 2) := by decide +kernel
theorem dX11_confusion_48 : decode cX11_confusion 48 = .ok (.aload_n 0, 1) := by decide +kernel
theorem dX11_confusion_49 : decode cX11_confusion 49 = .ok (.getfield 89, 3) := by decide +kernel
theorem dX11_confusion_52 : decode cX11_confusion 52 = .ok (.getfield 129, 3) := by decide +kernel
theorem dX11_confusion_55 : decode cX11_confusion 55 = .ok (.if_icmp .ge 72, 3) := by decide +kernel
theorem dX11_confusion_58 : decode cX11_confusion 58 = .ok (.aload 4, 2) := by decide +kernel
theorem dX11_confusion_60 : decode cX11_confusion 60 = .ok (.iload 7, 2) := by decide +kernel
theorem dX11_confusion_62 : decode cX11_confusion 62 = .ok (.iaload, 1) := by decide +kernel
theorem dX11_confusion_63 : decode cX11_confusion 63 = .ok (.aload 5, 2) := by decide +kernel
theorem dX11_confusion_65 : decode cX11_confusion 65 = .ok (.iload 7, 2) := by decide +kernel
theorem dX11_confusion_67 : decode cX11_confusion 67 = .ok (.iaload, 1) := by decide +kernel
theorem dX11_confusion_68 : decode cX11_confusion 68 = .ok (.isub, 1) := by decide +kernel
theorem dX11_confusion_69 : decode cX11_confusion 69 = .ok (.aload 4, 2) := by decide +kernel
theorem dX11_confusion_71 : decode cX11_confusion 71 = .ok (.iload 9, 2) := by decide +kernel
theorem dX11_confusion_73 : decode cX11_confusion 73 = .ok (.iaload, 1) := by decide +kernel
theorem dX11_confusion_74 : decode cX11_confusion 74 = .ok (.aload 5, 2) := by decide +kernel
theorem dX11_confusion_76 : decode cX11_confusion 76 = .ok (.iload 9, 2) := by decide +kernel
theorem dX11_confusion_78 : decode cX11_confusion 78 = .ok (.iaload, 1) := by decide +kernel
theorem dX11_confusion_79 : decode cX11_confusion 79 = .ok (.isub, 1) := by decide +kernel
theorem dX11_confusion_80 : decode cX11_confusion 80 = .ok (.isub, 1) := by decide +kernel
theorem dX11_confusion_81 : decode cX11_confusion 81 = .ok (.istore 10, 2) := by decide +kernel
theorem dX11_confusion_83 : decode cX11_confusion 83 = .ok (.aload_n 0, 1) := by decide +kernel
theorem dX11_confusion_84 : decode cX11_confusion 84 = .ok (.getfield 52, 3) := by decide +kernel
theorem dX11_confusion_87 : decode cX11_confusion 87 = .ok (.getfield 160, 3) := by decide +kernel
theorem dX11_confusion_90 : decode cX11_confusion 90 = .ok (.iload 7, 2) := by decide +kernel
theorem dX11_confusion_92 : decode cX11_confusion 92 = .ok (.baload, 1) := by decide +kernel
theorem dX11_confusion_93 : decode cX11_confusion 93 = .ok (.ifCond .ne 28, 3) := by decide +kernel
theorem dX11_confusion_96 : decode cX11_confusion 96 = .ok (.aload_n 0, 1) := by decide +kernel
theorem dX11_confusion_97 : decode cX11_confusion 97 = .ok (.getfield 52, 3) := by decide +kernel
theorem dX11_confusion_100 : decode cX11_confusion 100 = .ok (.getfield 160, 3) := by decide +kernel
theorem dX11_confusion_103 : decode cX11_confusion 103 = .ok (.iload 9, 2) := by decide +kernel
theorem dX11_confusion_105 : decode cX11_confusion 105 = .ok (.baload, 1) := by decide +kernel
theorem dX11_confusion_106 : decode cX11_confusion 106 = .ok (.ifCond .ne 15, 3) := by decide +kernel
theorem dX11_confusion_109 : decode cX11_confusion 109 = .ok (.iload 10, 2) := by decide +kernel
theorem dX11_confusion_111 : decode cX11_confusion 111 = .ok (.iload_n 3, 1) := by decide +kernel
theorem dX11_confusion_112 : decode cX11_confusion 112 = .ok (.invokestatic 434, 3) := by decide +kernel
theorem dX11_confusion_115 : decode cX11_confusion 115 = .ok (.ifCond .ne 6, 3) := by decide +kernel
theorem dX11_confusion_118 : decode cX11_confusion 118 = .ok (.iinc 8 1, 3) := by decide +kernel
theorem dX11_confusion_121 : decode cX11_confusion 121 = .ok (.iinc 9 1, 3) := by decide +kernel
theorem dX11_confusion_124 : decode cX11_confusion 124 = .ok (.goto (-78), 3) := by decide +kernel
theorem dX11_confusion_127 : decode cX11_confusion 127 = .ok (.iload 6, 2) := by decide +kernel
theorem dX11_confusion_129 : decode cX11_confusion 129 = .ok (.iload 8, 2) := by decide +kernel
theorem dX11_confusion_131 : decode cX11_confusion 131 = .ok (.invokestatic 323, 3) := by decide +kernel
theorem dX11_confusion_134 : decode cX11_confusion 134 = .ok (.istore 6, 2) := by decide +kernel
theorem dX11_confusion_136 : decode cX11_confusion 136 = .ok (.iinc 7 1, 3) := by decide +kernel
theorem dX11_confusion_139 : decode cX11_confusion 139 = .ok (.goto (-111), 3) := by decide +kernel
theorem dX11_confusion_142 : decode cX11_confusion 142 = .ok (.iload 6, 2) := by decide +kernel
theorem dX11_confusion_144 : decode cX11_confusion 144 = .ok (.ireturn, 1) := by decide +kernel
theorem dX11_powerOnTheMove_0 : decode cX11_powerOnTheMove 0 = .ok (.aload_n 0, 1) := by decide +kernel
theorem dX11_powerOnTheMove_1 : decode cX11_powerOnTheMove 1 = .ok (.getfield 89, 3) := by decide +kernel
theorem dX11_powerOnTheMove_4 : decode cX11_powerOnTheMove 4 = .ok (.getfield 113, 3) := by decide +kernel
theorem dX11_powerOnTheMove_7 : decode cX11_powerOnTheMove 7 = .ok (.iload_n 1, 1) := by decide +kernel
theorem dX11_powerOnTheMove_8 : decode cX11_powerOnTheMove 8 = .ok (.invokevirtual 172, 3) := by decide +kernel
theorem dX11_powerOnTheMove_11 : decode cX11_powerOnTheMove 11 = .ok (.istore 5, 2) := by decide +kernel
theorem dX11_powerOnTheMove_13 : decode cX11_powerOnTheMove 13 = .ok (.aload_n 0, 1) := by decide +kernel
theorem dX11_powerOnTheMove_14 : decode cX11_powerOnTheMove 14 = .ok (.getfield 89, 3) := by decide +kernel
theorem dX11_powerOnTheMove_17 : decode cX11_powerOnTheMove 17 = .ok (.getfield 113, 3) := by decide +kernel
theorem dX11_powerOnTheMove_20 : decode cX11_powerOnTheMove 20 = .ok (.iload_n 1, 1) := by decide +kernel
theorem dX11_powerOnTheMove_21 : decode cX11_powerOnTheMove 21 = .ok (.invokevirtual 176, 3) := by decide +kernel
theorem dX11_powerOnTheMove_24 : decode cX11_powerOnTheMove 24 = .ok (.istore 6, 2) := by decide +kernel
theorem dX11_powerOnTheMove_26 : decode cX11_powerOnTheMove 26 = .ok (.aload_n 0, 1) := by decide +kernel
theorem dX11_powerOnTheMove_27 : decode cX11_powerOnTheMove 27 = .ok (.getfield 79, 3) := by decide +kernel
theorem dX11_powerOnTheMove_30 : decode cX11_powerOnTheMove 30 = .ok (.iload 4, 2) := by decide +kernel
theorem dX11_powerOnTheMove_32 : decode cX11_powerOnTheMove 32 = .ok (.invokevirtual 437, 3) := by decide +kernel
theorem dX11_powerOnTheMove_35 : decode cX11_powerOnTheMove 35 = .ok (.iconst 0, 1) := by decide +kernel
theorem dX11_powerOnTheMove_36 : decode cX11_powerOnTheMove 36 = .ok (.istore 7, 2) := by decide +kernel
theorem dX11_powerOnTheMove_38 : decode cX11_powerOnTheMove 38 = .ok (.iload 7, 2) := by decide +kernel
theorem dX11_powerOnTheMove_40 : decode cX11_powerOnTheMove 40 = .ok (.aload_n 0, 1) := by decide +kernel
theorem dX11_powerOnTheMove_41 : decode cX11_powerOnTheMove 41 = .ok (.getfield 89, 3) := by decide +kernel
theorem dX11_powerOnTheMove_44 : decode cX11_powerOnTheMove 44 = .ok (.getfield 185, 3) := by decide +kernel
theorem dX11_powerOnTheMove_47 : decode cX11_powerOnTheMove 47 = .ok (.if_icmp .ge 74, 3) := by decide +kernel
theorem dX11_powerOnTheMove_50 : decode cX11_powerOnTheMove 50 = .ok (.aload_n 0, 1) := by decide +kernel
theorem dX11_powerOnTheMove_51 : decode cX11_powerOnTheMove 51 = .ok (.getfield 89, 3) := by decide +kernel
theorem dX11_powerOnTheMove_54 : decode cX11_powerOnTheMove 54 = .ok (.iload 5, 2) := by decide +kernel
theorem dX11_powerOnTheMove_56 : decode cX11_powerOnTheMove 56 = .ok (.iload_n 2, 1) := by decide +kernel
theorem dX11_powerOnTheMove_57 : decode cX11_powerOnTheMove 57 = .ok (.iload 7, 2) := by decide +kernel
theorem dX11_powerOnTheMove_59 : decode cX11_powerOnTheMove 59 = .ok (.invokestatic 193, 3) := by decide +kernel
theorem dX11_powerOnTheMove_62 : decode cX11_powerOnTheMove 62 = .ok (.iload 6, 2) := by decide +kernel
theorem dX11_powerOnTheMove_64 : decode cX11_powerOnTheMove 64 = .ok (.iload_n 3, 1) := by decide +kernel
theorem dX11_powerOnTheMove_65 : decode cX11_powerOnTheMove 65 = .ok (.iload 7, 2) := by decide +kernel
theorem dX11_powerOnTheMove_67 : decode cX11_powerOnTheMove 67 = .ok (.invokestatic 193, 3) := by decide +kernel
theorem dX11_powerOnTheMove_70 : decode cX11_powerOnTheMove 70 = .ok (.aload_n 0, 1) := by decide +kernel
theorem dX11_powerOnTheMove_71 : decode cX11_powerOnTheMove 71 = .ok (.getfield 70, 3) := by decide +kernel
theorem dX11_powerOnTheMove_74 : decode cX11_powerOnTheMove 74 = .ok (.invokevirtual 256, 3) := by decide +kernel
theorem dX11_powerOnTheMove_77 : decode cX11_powerOnTheMove 77 = .ok (.aload_n 0, 1) := by decide +kernel
theorem dX11_powerOnTheMove_78 : decode cX11_powerOnTheMove 78 = .ok (.getfield 52, 3) := by decide +kernel
theorem dX11_powerOnTheMove_81 : decode cX11_powerOnTheMove 81 = .ok (.aload_n 0, 1) := by decide +kernel
theorem dX11_powerOnTheMove_82 : decode cX11_powerOnTheMove 82 = .ok (.getfield 70, 3) := by decide +kernel
theorem dX11_powerOnTheMove_85 : decode cX11_powerOnTheMove 85 = .ok (.iload 7, 2) := by decide +kernel
theorem dX11_powerOnTheMove_87 : decode cX11_powerOnTheMove 87 = .ok (.invokevirtual 242, 3) := by decide +kernel
theorem dX11_powerOnTheMove_90 : decode cX11_powerOnTheMove 90 = .ok (.aload_n 0, 1) := by decide +kernel
theorem dX11_powerOnTheMove_91 : decode cX11_powerOnTheMove 91 = .ok (.getfield 79, 3) := by decide +kernel
theorem dX11_powerOnTheMove_94 : decode cX11_powerOnTheMove 94 = .ok (.iload 4, 2) := by decide +kernel
theorem dX11_powerOnTheMove_96 : decode cX11_powerOnTheMove 96 = .ok (.aload_n 0, 1) := by decide +kernel
theorem dX11_powerOnTheMove_97 : decode cX11_powerOnTheMove 97 = .ok (.getfield 52, 3) := by decide +kernel
theorem dX11_powerOnTheMove_100 : decode cX11_powerOnTheMove 100 = .ok (.getfield 246, 3) := by decide +kernel
theorem dX11_powerOnTheMove_103 : decode cX11_powerOnTheMove 103 = .ok (.iconst 0, 1) := by decide +kernel
theorem dX11_powerOnTheMove_104 : decode cX11_powerOnTheMove 104 = .ok (.aload_n 0, 1) := by decide +kernel
theorem dX11_powerOnTheMove_105 : decode cX11_powerOnTheMove 105 = .ok (.getfield 52, 3) := by decide +kernel
theorem dX11_powerOnTheMove_108 : decode cX11_powerOnTheMove 108 = .ok (.getfield 246, 3) := by decide +kernel
theorem dX11_powerOnTheMove_111 : decode cX11_powerOnTheMove 111 = .ok (.iconst 0, 1) := by decide +kernel
theorem dX11_powerOnTheMove_112 : decode cX11_powerOnTheMove 112 = .ok (.invokevirtual 440, 3) := by decide +kernel
theorem dX11_powerOnTheMove_115 : decode cX11_powerOnTheMove 115 = .ok (.iinc 7 1, 3) := by decide +kernel
theorem dX11_powerOnTheMove_118 : decode cX11_powerOnTheMove 118 = .ok (.goto (-80), 3) := by decide +kernel
theorem dX11_powerOnTheMove_121 : decode cX11_powerOnTheMove 121 = .ok (.aload_n 0, 1) := by decide +kernel
theorem dX11_powerOnTheMove_122 : decode cX11_powerOnTheMove 122 = .ok (.getfield 79, 3) := by decide +kernel
theorem dX11_powerOnTheMove_125 : decode cX11_powerOnTheMove 125 = .ok (.iload 4, 2) := by decide +kernel
theorem dX11_powerOnTheMove_127 : decode cX11_powerOnTheMove 127 = .ok (.aload_n 0, 1) := by decide +kernel
theorem dX11_powerOnTheMove_128 : decode cX11_powerOnTheMove 128 = .ok (.getfield 89, 3) := by decide +kernel
theorem dX11_powerOnTheMove_131 : decode cX11_powerOnTheMove 131 = .ok (.getfield 185, 3) := by decide +kernel
theorem dX11_powerOnTheMove_134 : decode cX11_powerOnTheMove 134 = .ok (.invokevirtual 274, 3) := by decide +kernel
theorem dX11_powerOnTheMove_137 : decode cX11_powerOnTheMove 137 = .ok (.return_, 1) := by decide +kernel
theorem dX11_measureLevel_0 : decode cX11_measureLevel 0 = .ok (.aload_n 0, 1) := by decide +kernel
theorem dX11_measureLevel_1 : decode cX11_measureLevel 1 = .ok (.getfield 52, 3) := by decide +kernel
theorem dX11_measureLevel_4 : decode cX11_measureLevel 4 = .ok (.iload_n 1, 1) := by decide +kernel
theorem dX11_measureLevel_5 : decode cX11_measureLevel 5 = .ok (.iload_n 1, 1) := by decide +kernel
theorem dX11_measureLevel_6 : decode cX11_measureLevel 6 = .ok (.iconst 0, 1) := by decide +kernel
theorem dX11_measureLevel_7 : decode cX11_measureLevel 7 = .ok (.aload_n 0, 1) := by decide +kernel
theorem dX11_measureLevel_8 : decode cX11_measureLevel 8 = .ok (.getfield 79, 3) := by decide +kernel
theorem dX11_measureLevel_11 : decode cX11_measureLevel 11 = .ok (.iload_n 1, 1) := by decide +kernel
theorem dX11_measureLevel_12 : decode cX11_measureLevel 12 = .ok (.invokevirtual 354, 3) := by decide +kernel
theorem dX11_measureLevel_15 : decode cX11_measureLevel 15 = .ok (.aload_n 0, 1) := by decide +kernel
theorem dX11_measureLevel_16 : decode cX11_measureLevel 16 = .ok (.getfield 79, 3) := by decide +kernel
theorem dX11_measureLevel_19 : decode cX11_measureLevel 19 = .ok (.iload_n 1, 1) := by decide +kernel
theorem dX11_measureLevel_20 : decode cX11_measureLevel 20 = .ok (.aload_n 0, 1) := by decide +kernel
theorem dX11_measureLevel_21 : decode cX11_measureLevel 21 = .ok (.getfield 89, 3) := by decide +kernel
theorem dX11_measureLevel_24 : decode cX11_measureLevel 24 = .ok (.getfield 185, 3) := by decide +kernel
theorem dX11_measureLevel_27 : decode cX11_measureLevel 27 = .ok (.invokevirtual 274, 3) := by decide +kernel
theorem dX11_measureLevel_30 : decode cX11_measureLevel 30 = .ok (.return_, 1) := by decide +kernel
theorem dX11_addMapByte_0 : decode cX11_addMapByte 0 = .ok (.aload_n 0, 1) := by decide +kernel
theorem dX11_addMapByte_1 : decode cX11_addMapByte 1 = .ok (.getfield 364, 3) := by decide +kernel
theorem dX11_addMapByte_4 : decode cX11_addMapByte 4 = .ok (.aload_n 0, 1) := by decide +kernel
theorem dX11_addMapByte_5 : decode cX11_addMapByte 5 = .ok (.getfield 83, 3) := by decide +kernel
theorem dX11_addMapByte_8 : decode cX11_addMapByte 8 = .ok (.arraylength, 1) := by decide +kernel
theorem dX11_addMapByte_9 : decode cX11_addMapByte 9 = .ok (.if_icmp .ge 23, 3) := by decide +kernel
theorem dX11_addMapByte_12 : decode cX11_addMapByte 12 = .ok (.aload_n 0, 1) := by decide +kernel
theorem dX11_addMapByte_13 : decode cX11_addMapByte 13 = .ok (.getfield 83, 3) := by decide +kernel
theorem dX11_addMapByte_16 : decode cX11_addMapByte 16 = .ok (.aload_n 0, 1) := by decide +kernel
theorem dX11_addMapByte_17 : decode cX11_addMapByte 17 = .ok (.getfield 364, 3) := by decide +kernel
theorem dX11_addMapByte_20 : decode cX11_addMapByte 20 = .ok (.iload_n 1, 1) := by decide +kernel
theorem dX11_addMapByte_21 : decode cX11_addMapByte 21 = .ok (.iastore, 1) := by decide +kernel
theorem dX11_addMapByte_22 : decode cX11_addMapByte 22 = .ok (.aload_n 0, 1) := by decide +kernel
theorem dX11_addMapByte_23 : decode cX11_addMapByte 23 = .ok (.dup, 1) := by decide +kernel
theorem dX11_addMapByte_24 : decode cX11_addMapByte 24 = .ok (.getfield 364, 3) := by decide +kernel
theorem dX11_addMapByte_27 : decode cX11_addMapByte 27 = .ok (.iconst 1, 1) := by decide +kernel
theorem dX11_addMapByte_28 : decode cX11_addMapByte 28 = .ok (.iadd, 1) := by decide +kernel
theorem dX11_addMapByte_29 : decode cX11_addMapByte 29 = .ok (.putfield 364, 3) := by decide +kernel
theorem dX11_addMapByte_32 : decode cX11_addMapByte 32 = .ok (.return_, 1) := by decide +kernel
theorem dX11_moved_0 : decode cX11_moved 0 = .ok (.iload_n 0, 1) := by decide +kernel
theorem dX11_moved_1 : decode cX11_moved 1 = .ok (.iload_n 1, 1) := by decide +kernel
theorem dX11_moved_2 : decode cX11_moved 2 = .ok (.iload_n 2, 1) := by decide +kernel
theorem dX11_moved_3 : decode cX11_moved 3 = .ok (.imul, 1) := by decide +kernel
theorem dX11_moved_4 : decode cX11_moved 4 = .ok (.bipush 100, 2) := by decide +kernel
theorem dX11_moved_6 : decode cX11_moved 6 = .ok (.idiv, 1) := by decide +kernel
theorem dX11_moved_7 : decode cX11_moved 7 = .ok (.iadd, 1) := by decide +kernel
theorem dX11_moved_8 : decode cX11_moved 8 = .ok (.ireturn, 1) := by decide +kernel
theorem dX11_quotient_0 : decode cX11_quotient 0 = .ok (.lload_n 2, 1) := by decide +kernel
theorem dX11_quotient_1 : decode cX11_quotient 1 = .ok (.lconst 0, 1) := by decide +kernel
theorem dX11_quotient_2 : decode cX11_quotient 2 = .ok (.lcmp, 1) := by decide +kernel
theorem dX11_quotient_3 : decode cX11_quotient 3 = .ok (.ifCond .ne 7, 3) := by decide +kernel
theorem dX11_quotient_6 : decode cX11_quotient 6 = .ok (.lconst 0, 1) := by decide +kernel
theorem dX11_quotient_7 : decode cX11_quotient 7 = .ok (.goto 6, 3) := by decide +kernel
theorem dX11_quotient_10 : decode cX11_quotient 10 = .ok (.lload_n 0, 1) := by decide +kernel
theorem dX11_quotient_11 : decode cX11_quotient 11 = .ok (.lload_n 2, 1) := by decide +kernel
theorem dX11_quotient_12 : decode cX11_quotient 12 = .ok (.ldiv, 1) := by decide +kernel
theorem dX11_quotient_13 : decode cX11_quotient 13 = .ok (.lreturn, 1) := by decide +kernel
theorem dX11_remainder_0 : decode cX11_remainder 0 = .ok (.iload_n 1, 1) := by decide +kernel
theorem dX11_remainder_1 : decode cX11_remainder 1 = .ok (.ifCond .ne 7, 3) := by decide +kernel
theorem dX11_remainder_4 : decode cX11_remainder 4 = .ok (.iconst 0, 1) := by decide +kernel
theorem dX11_remainder_5 : decode cX11_remainder 5 = .ok (.goto 6, 3) := by decide +kernel
theorem dX11_remainder_8 : decode cX11_remainder 8 = .ok (.iload_n 0, 1) := by decide +kernel
theorem dX11_remainder_9 : decode cX11_remainder 9 = .ok (.iload_n 1, 1) := by decide +kernel
theorem dX11_remainder_10 : decode cX11_remainder 10 = .ok (.irem, 1) := by decide +kernel
theorem dX11_remainder_11 : decode cX11_remainder 11 = .ok (.ireturn, 1) := by decide +kernel
theorem dX11_root_0 : decode cX11_root 0 = .ok (.iconst 0, 1) := by decide +kernel
theorem dX11_root_1 : decode cX11_root 1 = .ok (.istore_n 1, 1) := by decide +kernel
theorem dX11_root_2 : decode cX11_root 2 = .ok (.sipush 16384, 3) := by decide +kernel
theorem dX11_root_5 : decode cX11_root 5 = .ok (.istore_n 2, 1) := by decide +kernel
theorem dX11_root_6 : decode cX11_root 6 = .ok (.iload_n 2, 1) := by decide +kernel
theorem dX11_root_7 : decode cX11_root 7 = .ok (.ifCond .le 23, 3) := by decide +kernel
theorem dX11_root_10 : decode cX11_root 10 = .ok (.iload_n 1, 1) := by decide +kernel
theorem dX11_root_11 : decode cX11_root 11 = .ok (.iload_n 2, 1) := by decide +kernel
theorem dX11_root_12 : decode cX11_root 12 = .ok (.iadd, 1) := by decide +kernel
theorem dX11_root_13 : decode cX11_root 13 = .ok (.istore_n 3, 1) := by decide +kernel
theorem dX11_root_14 : decode cX11_root 14 = .ok (.iload_n 3, 1) := by decide +kernel
theorem dX11_root_15 : decode cX11_root 15 = .ok (.iload_n 3, 1) := by decide +kernel
theorem dX11_root_16 : decode cX11_root 16 = .ok (.imul, 1) := by decide +kernel
theorem dX11_root_17 : decode cX11_root 17 = .ok (.iload_n 0, 1) := by decide +kernel
theorem dX11_root_18 : decode cX11_root 18 = .ok (.if_icmp .gt 5, 3) := by decide +kernel
theorem dX11_root_21 : decode cX11_root 21 = .ok (.iload_n 3, 1) := by decide +kernel
theorem dX11_root_22 : decode cX11_root 22 = .ok (.istore_n 1, 1) := by decide +kernel
theorem dX11_root_23 : decode cX11_root 23 = .ok (.iload_n 2, 1) := by decide +kernel
theorem dX11_root_24 : decode cX11_root 24 = .ok (.iconst 1, 1) := by decide +kernel
theorem dX11_root_25 : decode cX11_root 25 = .ok (.ishr, 1) := by decide +kernel
theorem dX11_root_26 : decode cX11_root 26 = .ok (.istore_n 2, 1) := by decide +kernel
theorem dX11_root_27 : decode cX11_root 27 = .ok (.goto (-21), 3) := by decide +kernel
theorem dX11_root_30 : decode cX11_root 30 = .ok (.iload_n 1, 1) := by decide +kernel
theorem dX11_root_31 : decode cX11_root 31 = .ok (.ireturn, 1) := by decide +kernel
