theorem dX12_init_0 : decode cX12_init 0 = .ok (.aload_n 0, 1) := by decide +kernel
theorem dX12_init_1 : decode cX12_init 1 = .ok (.invokespecial 1, 3) := by decide +kernel
theorem dX12_init_4 : decode cX12_init 4 = .ok (.aload_n 0, 1) := by decide +kernel
theorem dX12_init_5 : decode cX12_init 5 = .ok (.sipush 1000, 3) := by decide +kernel
theorem dX12_init_8 : decode cX12_init 8 = .ok (.newarray .int, 2) := by decide +kernel
theorem dX12_init_10 : decode cX12_init 10 = .ok (.putfield 9, 3) := by decide +kernel
theorem dX12_init_13 : decode cX12_init 13 = .ok (.aload_n 0, 1) := by decide +kernel
theorem dX12_init_14 : decode cX12_init 14 = .ok (.iconst (-1), 1) := by decide +kernel
theorem dX12_init_15 : decode cX12_init 15 = .ok (.putfield 13, 3) := by decide +kernel
theorem dX12_init_18 : decode cX12_init 18 = .ok (.aload_n 0, 1) := by decide +kernel
theorem dX12_init_19 : decode cX12_init 19 = .ok (.sipush 131, 3) := by decide +kernel
theorem dX12_init_22 : decode cX12_init 22 = .ok (.newarray .int, 2) := by decide +kernel
theorem dX12_init_24 : decode cX12_init 24 = .ok (.putfield 17, 3) := by decide +kernel
theorem dX12_init_27 : decode cX12_init 27 = .ok (.aload_n 0, 1) := by decide +kernel
theorem dX12_init_28 : decode cX12_init 28 = .ok (.sipush 131, 3) := by decide +kernel
theorem dX12_init_31 : decode cX12_init 31 = .ok (.newarray .int, 2) := by decide +kernel
theorem dX12_init_33 : decode cX12_init 33 = .ok (.putfield 20, 3) := by decide +kernel
theorem dX12_init_36 : decode cX12_init 36 = .ok (.aload_n 0, 1) := by decide +kernel
theorem dX12_init_37 : decode cX12_init 37 = .ok (.sipush 2455, 3) := by decide +kernel
theorem dX12_init_40 : decode cX12_init 40 = .ok (.newarray .int, 2) := by decide +kernel
theorem dX12_init_42 : decode cX12_init 42 = .ok (.putfield 23, 3) := by decide +kernel
theorem dX12_init_45 : decode cX12_init 45 = .ok (.aload_n 0, 1) := by decide +kernel
theorem dX12_init_46 : decode cX12_init 46 = .ok (.sipush 2455, 3) := by decide +kernel
theorem dX12_init_49 : decode cX12_init 49 = .ok (.newarray .int, 2) := by decide +kernel
theorem dX12_init_51 : decode cX12_init 51 = .ok (.putfield 26, 3) := by decide +kernel
theorem dX12_init_54 : decode cX12_init 54 = .ok (.aload_n 0, 1) := by decide +kernel
theorem dX12_init_55 : decode cX12_init 55 = .ok (.sipush 2455, 3) := by decide +kernel
theorem dX12_init_58 : decode cX12_init 58 = .ok (.newarray .int, 2) := by decide +kernel
theorem dX12_init_60 : decode cX12_init 60 = .ok (.putfield 29, 3) := by decide +kernel
theorem dX12_init_63 : decode cX12_init 63 = .ok (.aload_n 0, 1) := by decide +kernel
theorem dX12_init_64 : decode cX12_init 64 = .ok (.sipush 14730, 3) := by decide +kernel
theorem dX12_init_67 : decode cX12_init 67 = .ok (.newarray .int, 2) := by decide +kernel
theorem dX12_init_69 : decode cX12_init 69 = .ok (.putfield 32, 3) := by decide +kernel
theorem dX12_init_72 : decode cX12_init 72 = .ok (.aload_n 0, 1) := by decide +kernel
theorem dX12_init_73 : decode cX12_init 73 = .ok (.sipush 4910, 3) := by decide +kernel
theorem dX12_init_76 : decode cX12_init 76 = .ok (.newarray .int, 2) := by decide +kernel
theorem dX12_init_78 : decode cX12_init 78 = .ok (.putfield 35, 3) := by decide +kernel
theorem dX12_init_81 : decode cX12_init 81 = .ok (.aload_n 0, 1) := by decide +kernel
theorem dX12_init_82 : decode cX12_init 82 = .ok (.sipush 1728, 3) := by decide +kernel
theorem dX12_init_85 : decode cX12_init 85 = .ok (.newarray .int, 2) := by decide +kernel
theorem dX12_init_87 : decode cX12_init 87 = .ok (.putfield 38, 3) := by decide +kernel
theorem dX12_init_90 : decode cX12_init 90 = .ok (.aload_n 0, 1) := by decide +kernel
theorem dX12_init_91 : decode cX12_init 91 = .ok (.iconst 2, 1) := by decide +kernel
theorem dX12_init_92 : decode cX12_init 92 = .ok (.newarray .boolean, 2) := by decide +kernel
theorem dX12_init_94 : decode cX12_init 94 = .ok (.putfield 41, 3) := by decide +kernel
theorem dX12_init_97 : decode cX12_init 97 = .ok (.aload_n 0, 1) := by decide +kernel
theorem dX12_init_98 : decode cX12_init 98 = .ok (.iconst (-1), 1) := by decide +kernel
theorem dX12_init_99 : decode cX12_init 99 = .ok (.putfield 45, 3) := by decide +kernel
theorem dX12_init_102 : decode cX12_init 102 = .ok (.aload_n 0, 1) := by decide +kernel
theorem dX12_init_103 : decode cX12_init 103 = .ok (.sipush 200, 3) := by decide +kernel
theorem dX12_init_106 : decode cX12_init 106 = .ok (.newarray .int, 2) := by decide +kernel
theorem dX12_init_108 : decode cX12_init 108 = .ok (.putfield 48, 3) := by decide +kernel
theorem dX12_init_111 : decode cX12_init 111 = .ok (.aload_n 0, 1) := by decide +kernel
theorem dX12_init_112 : decode cX12_init 112 = .ok (.bipush 12, 2) := by decide +kernel
theorem dX12_init_114 : decode cX12_init 114 = .ok (.newarray .int, 2) := by decide +kernel
theorem dX12_init_116 : decode cX12_init 116 = .ok (.putfield 51, 3) := by decide +kernel
theorem dX12_init_119 : decode cX12_init 119 = .ok (.aload_n 0, 1) := by decide +kernel
theorem dX12_init_120 : decode cX12_init 120 = .ok (.sipush 144, 3) := by decide +kernel
theorem dX12_init_123 : decode cX12_init 123 = .ok (.newarray .long, 2) := by decide +kernel
theorem dX12_init_125 : decode cX12_init 125 = .ok (.putfield 54, 3) := by decide +kernel
theorem dX12_init_128 : decode cX12_init 128 = .ok (.aload_n 0, 1) := by decide +kernel
theorem dX12_init_129 : decode cX12_init 129 = .ok (.sipush 7200, 3) := by decide +kernel
theorem dX12_init_132 : decode cX12_init 132 = .ok (.newarray .long, 2) := by decide +kernel
theorem dX12_init_134 : decode cX12_init 134 = .ok (.putfield 58, 3) := by decide +kernel
theorem dX12_init_137 : decode cX12_init 137 = .ok (.aload_n 0, 1) := by decide +kernel
theorem dX12_init_138 : decode cX12_init 138 = .ok (.sipush 160, 3) := by decide +kernel
theorem dX12_init_141 : decode cX12_init 141 = .ok (.newarray .int, 2) := by decide +kernel
theorem dX12_init_143 : decode cX12_init 143 = .ok (.putfield 61, 3) := by decide +kernel
theorem dX12_init_146 : decode cX12_init 146 = .ok (.aload_n 0, 1) := by decide +kernel
theorem dX12_init_147 : decode cX12_init 147 = .ok (.sipush 200, 3) := by decide +kernel
theorem dX12_init_150 : decode cX12_init 150 = .ok (.newarray .int, 2) := by decide +kernel
theorem dX12_init_152 : decode cX12_init 152 = .ok (.putfield 64, 3) := by decide +kernel
theorem dX12_init_155 : decode cX12_init 155 = .ok (.return_, 1) := by decide +kernel
theorem dX12_thrown_0 : decode cX12_thrown 0 = .ok (.aload_n 0, 1) := by decide +kernel
theorem dX12_thrown_1 : decode cX12_thrown 1 = .ok (.getfield 67, 3) := by decide +kernel
theorem dX12_thrown_4 : decode cX12_thrown 4 = .ok (.ireturn, 1) := by decide +kernel
theorem dX12_in_0 : decode cX12_in 0 = .ok (.iload_n 0, 1) := by decide +kernel
theorem dX12_in_1 : decode cX12_in 1 = .ok (.iload_n 1, 1) := by decide +kernel
theorem dX12_in_2 : decode cX12_in 2 = .ok (.if_icmp .lt 12, 3) := by decide +kernel
theorem dX12_in_5 : decode cX12_in 5 = .ok (.iload_n 0, 1) := by decide +kernel
theorem dX12_in_6 : decode cX12_in 6 = .ok (.iload_n 2, 1) := by decide +kernel
theorem dX12_in_7 : decode cX12_in 7 = .ok (.if_icmp .gt 7, 3) := by decide +kernel
theorem dX12_in_10 : decode cX12_in 10 = .ok (.iconst 1, 1) := by decide +kernel
theorem dX12_in_11 : decode cX12_in 11 = .ok (.goto 4, 3) := by decide +kernel
theorem dX12_in_14 : decode cX12_in 14 = .ok (.iconst 0, 1) := by decide +kernel
theorem dX12_in_15 : decode cX12_in 15 = .ok (.ireturn, 1) := by decide +kernel
theorem dX12_throwsAt_0 : decode cX12_throwsAt 0 = .ok (.aload_n 0, 1) := by decide +kernel
theorem dX12_throwsAt_1 : decode cX12_throwsAt 1 = .ok (.iload_n 1, 1) := by decide +kernel
theorem dX12_throwsAt_2 : decode cX12_throwsAt 2 = .ok (.putfield 67, 3) := by decide +kernel
theorem dX12_throwsAt_5 : decode cX12_throwsAt 5 = .ok (.iconst 0, 1) := by decide +kernel
theorem dX12_throwsAt_6 : decode cX12_throwsAt 6 = .ok (.ireturn, 1) := by decide +kernel
theorem dX12_four_0 : decode cX12_four 0 = .ok (.bipush 24, 2) := by decide +kernel
theorem dX12_four_2 : decode cX12_four 2 = .ok (.istore_n 2, 1) := by decide +kernel
theorem dX12_four_3 : decode cX12_four 3 = .ok (.iload_n 2, 1) := by decide +kernel
theorem dX12_four_4 : decode cX12_four 4 = .ok (.ifCond .lt 35, 3) := by decide +kernel
theorem dX12_four_7 : decode cX12_four 7 = .ok (.aload_n 0, 1) := by decide +kernel
theorem dX12_four_8 : decode cX12_four 8 = .ok (.getfield 9, 3) := by decide +kernel
theorem dX12_four_11 : decode cX12_four 11 = .ok (.aload_n 0, 1) := by decide +kernel
theorem dX12_four_12 : decode cX12_four 12 = .ok (.getfield 70, 3) := by decide +kernel
theorem dX12_four_15 : decode cX12_four 15 = .ok (.iload_n 1, 1) := by decide +kernel
theorem dX12_four_16 : decode cX12_four 16 = .ok (.iload_n 2, 1) := by decide +kernel
theorem dX12_four_17 : decode cX12_four 17 = .ok (.ishr, 1) := by decide +kernel
theorem dX12_four_18 : decode cX12_four 18 = .ok (.sipush 255, 3) := by decide +kernel
theorem dX12_four_21 : decode cX12_four 21 = .ok (.iand, 1) := by decide +kernel
theorem dX12_four_22 : decode cX12_four 22 = .ok (.iastore, 1) := by decide +kernel
theorem dX12_four_23 : decode cX12_four 23 = .ok (.aload_n 0, 1) := by decide +kernel
theorem dX12_four_24 : decode cX12_four 24 = .ok (.dup, 1) := by decide +kernel
theorem dX12_four_25 : decode cX12_four 25 = .ok (.getfield 70, 3) := by decide +kernel
theorem dX12_four_28 : decode cX12_four 28 = .ok (.iconst 1, 1) := by decide +kernel
theorem dX12_four_29 : decode cX12_four 29 = .ok (.iadd, 1) := by decide +kernel
theorem dX12_four_30 : decode cX12_four 30 = .ok (.putfield 70, 3) := by decide +kernel
theorem dX12_four_33 : decode cX12_four 33 = .ok (.iinc 2 (-8), 3) := by decide +kernel
theorem dX12_four_36 : decode cX12_four 36 = .ok (.goto (-33), 3) := by decide +kernel
theorem dX12_four_39 : decode cX12_four 39 = .ok (.return_, 1) := by decide +kernel
theorem dX12_append_0 : decode cX12_append 0 = .ok (.aload_n 0, 1) := by decide +kernel
theorem dX12_append_1 : decode cX12_append 1 = .ok (.iconst 0, 1) := by decide +kernel
theorem dX12_append_2 : decode cX12_append 2 = .ok (.putfield 67, 3) := by decide +kernel
theorem dX12_append_5 : decode cX12_append 5 = .ok (.aload_n 0, 1) := by decide +kernel
theorem dX12_append_6 : decode cX12_append 6 = .ok (.getfield 70, 3) := by decide +kernel
theorem dX12_append_9 : decode cX12_append 9 = .ok (.bipush 20, 2) := by decide +kernel
theorem dX12_append_11 : decode cX12_append 11 = .ok (.iadd, 1) := by decide +kernel
theorem dX12_append_12 : decode cX12_append 12 = .ok (.sipush 1000, 3) := by decide +kernel
theorem dX12_append_15 : decode cX12_append 15 = .ok (.if_icmp .le 5, 3) := by decide +kernel
theorem dX12_append_18 : decode cX12_append 18 = .ok (.iconst (-1), 1) := by decide +kernel
theorem dX12_append_19 : decode cX12_append 19 = .ok (.ireturn, 1) := by decide +kernel
theorem dX12_append_20 : decode cX12_append 20 = .ok (.aload_n 0, 1) := by decide +kernel
theorem dX12_append_21 : decode cX12_append 21 = .ok (.iload_n 1, 1) := by decide +kernel
theorem dX12_append_22 : decode cX12_append 22 = .ok (.invokevirtual 73, 3) := by decide +kernel
theorem dX12_append_25 : decode cX12_append 25 = .ok (.aload_n 0, 1) := by decide +kernel
theorem dX12_append_26 : decode cX12_append 26 = .ok (.iload_n 2, 1) := by decide +kernel
theorem dX12_append_27 : decode cX12_append 27 = .ok (.invokevirtual 73, 3) := by decide +kernel
theorem dX12_append_30 : decode cX12_append 30 = .ok (.aload_n 0, 1) := by decide +kernel
theorem dX12_append_31 : decode cX12_append 31 = .ok (.iload_n 3, 1) := by decide +kernel
theorem dX12_append_32 : decode cX12_append 32 = .ok (.invokevirtual 73, 3) := by decide +kernel
theorem dX12_append_35 : decode cX12_append 35 = .ok (.aload_n 0, 1) := by decide +kernel
theorem dX12_append_36 : decode cX12_append 36 = .ok (.iload 4, 2) := by decide +kernel
theorem dX12_append_38 : decode cX12_append 38 = .ok (.invokevirtual 73, 3) := by decide +kernel
theorem dX12_append_41 : decode cX12_append 41 = .ok (.aload_n 0, 1) := by decide +kernel
theorem dX12_append_42 : decode cX12_append 42 = .ok (.iload 5, 2) := by decide +kernel
theorem dX12_append_44 : decode cX12_append 44 = .ok (.invokevirtual 73, 3) := by decide +kernel
theorem dX12_append_47 : decode cX12_append 47 = .ok (.aload_n 0, 1) := by decide +kernel
theorem dX12_append_48 : decode cX12_append 48 = .ok (.getfield 70, 3) := by decide +kernel
theorem dX12_append_51 : decode cX12_append 51 = .ok (.ireturn, 1) := by decide +kernel
theorem dX12_buffered_0 : decode cX12_buffered 0 = .ok (.aload_n 0, 1) := by decide +kernel
theorem dX12_buffered_1 : decode cX12_buffered 1 = .ok (.iconst 0, 1) := by decide +kernel
theorem dX12_buffered_2 : decode cX12_buffered 2 = .ok (.putfield 67, 3) := by decide +kernel
theorem dX12_buffered_5 : decode cX12_buffered 5 = .ok (.aload_n 0, 1) := by decide +kernel
theorem dX12_buffered_6 : decode cX12_buffered 6 = .ok (.getfield 70, 3) := by decide +kernel
theorem dX12_buffered_9 : decode cX12_buffered 9 = .ok (.ireturn, 1) := by decide +kernel
theorem dX12_parseError_0 : decode cX12_parseError 0 = .ok (.aload_n 0, 1) := by decide +kernel
theorem dX12_parseError_1 : decode cX12_parseError 1 = .ok (.iconst 0, 1) := by decide +kernel
theorem dX12_parseError_2 : decode cX12_parseError 2 = .ok (.putfield 67, 3) := by decide +kernel
theorem dX12_parseError_5 : decode cX12_parseError 5 = .ok (.aload_n 0, 1) := by decide +kernel
theorem dX12_parseError_6 : decode cX12_parseError 6 = .ok (.getfield 77, 3) := by decide +kernel
theorem dX12_parseError_9 : decode cX12_parseError 9 = .ok (.ireturn, 1) := by decide +kernel
theorem dX12_errorPosition_0 : decode cX12_errorPosition 0 = .ok (.aload_n 0, 1) := by decide +kernel
theorem dX12_errorPosition_1 : decode cX12_errorPosition 1 = .ok (.iconst 0, 1) := by decide +kernel
theorem dX12_errorPosition_2 : decode cX12_errorPosition 2 = .ok (.putfield 67, 3) := by decide +kernel
theorem dX12_errorPosition_5 : decode cX12_errorPosition 5 = .ok (.aload_n 0, 1) := by decide +kernel
theorem dX12_errorPosition_6 : decode cX12_errorPosition 6 = .ok (.getfield 13, 3) := by decide +kernel
theorem dX12_errorPosition_9 : decode cX12_errorPosition 9 = .ok (.ireturn, 1) := by decide +kernel
theorem dX12_byteAt_0 : decode cX12_byteAt 0 = .ok (.iload_n 1, 1) := by decide +kernel
theorem dX12_byteAt_1 : decode cX12_byteAt 1 = .ok (.aload_n 0, 1) := by decide +kernel
theorem dX12_byteAt_2 : decode cX12_byteAt 2 = .ok (.getfield 80, 3) := by decide +kernel
theorem dX12_byteAt_5 : decode cX12_byteAt 5 = .ok (.if_icmp .ge 12, 3) := by decide +kernel
theorem dX12_byteAt_8 : decode cX12_byteAt 8 = .ok (.aload_n 0, 1) := by decide +kernel
theorem dX12_byteAt_9 : decode cX12_byteAt 9 = .ok (.getfield 9, 3) := by decide +kernel
theorem dX12_byteAt_12 : decode cX12_byteAt 12 = .ok (.iload_n 1, 1) := by decide +kernel
theorem dX12_byteAt_13 : decode cX12_byteAt 13 = .ok (.iaload, 1) := by decide +kernel
theorem dX12_byteAt_14 : decode cX12_byteAt 14 = .ok (.goto 4, 3) := by decide +kernel
theorem dX12_byteAt_17 : decode cX12_byteAt 17 = .ok (.iconst (-1), 1) := by decide +kernel
theorem dX12_byteAt_18 : decode cX12_byteAt 18 = .ok (.ireturn, 1) := by decide +kernel
theorem dX12_faults_0 : decode cX12_faults 0 = .ok (.aload_n 0, 1) := by decide +kernel
theorem dX12_faults_1 : decode cX12_faults 1 = .ok (.getfield 77, 3) := by decide +kernel
theorem dX12_faults_4 : decode cX12_faults 4 = .ok (.ifCond .le 4, 3) := by decide +kernel
theorem dX12_faults_7 : decode cX12_faults 7 = .ok (.return_, 1) := by decide +kernel
theorem dX12_faults_8 : decode cX12_faults 8 = .ok (.aload_n 0, 1) := by decide +kernel
theorem dX12_faults_9 : decode cX12_faults 9 = .ok (.iload_n 1, 1) := by decide +kernel
theorem dX12_faults_10 : decode cX12_faults 10 = .ok (.putfield 77, 3) := by decide +kernel
theorem dX12_faults_13 : decode cX12_faults 13 = .ok (.aload_n 0, 1) := by decide +kernel
theorem dX12_faults_14 : decode cX12_faults 14 = .ok (.aload_n 0, 1) := by decide +kernel
theorem dX12_faults_15 : decode cX12_faults 15 = .ok (.getfield 83, 3) := by decide +kernel
theorem dX12_faults_18 : decode cX12_faults 18 = .ok (.putfield 13, 3) := by decide +kernel
theorem dX12_faults_21 : decode cX12_faults 21 = .ok (.return_, 1) := by decide +kernel
theorem dX12_isSign_0 : decode cX12_isSign 0 = .ok (.iload_n 0, 1) := by decide +kernel
theorem dX12_isSign_1 : decode cX12_isSign 1 = .ok (.bipush 59, 2) := by decide +kernel
theorem dX12_isSign_3 : decode cX12_isSign 3 = .ok (.if_icmp .eq 39, 3) := by decide +kernel
theorem dX12_isSign_6 : decode cX12_isSign 6 = .ok (.iload_n 0, 1) := by decide +kernel
theorem dX12_isSign_7 : decode cX12_isSign 7 = .ok (.bipush 40, 2) := by decide +kernel
theorem dX12_isSign_9 : decode cX12_isSign 9 = .ok (.if_icmp .eq 33, 3) := by decide +kernel
theorem dX12_isSign_12 : decode cX12_isSign 12 = .ok (.iload_n 0, 1) := by decide +kernel
theorem dX12_isSign_13 : decode cX12_isSign 13 = .ok (.bipush 41, 2) := by decide +kernel
theorem dX12_isSign_15 : decode cX12_isSign 15 = .ok (.if_icmp .eq 27, 3) := by decide +kernel
theorem dX12_isSign_18 : decode cX12_isSign 18 = .ok (.iload_n 0, 1) := by decide +kernel
theorem dX12_isSign_19 : decode cX12_isSign 19 = .ok (.bipush 43, 2) := by decide +kernel
theorem dX12_isSign_21 : decode cX12_isSign 21 = .ok (.if_icmp .eq 21, 3) := by decide +kernel
theorem dX12_isSign_24 : decode cX12_isSign 24 = .ok (.iload_n 0, 1) := by decide +kernel
theorem dX12_isSign_25 : decode cX12_isSign 25 = .ok (.bipush 45, 2) := by decide +kernel
theorem dX12_isSign_27 : decode cX12_isSign 27 = .ok (.if_icmp .eq 15, 3) := by decide +kernel
theorem dX12_isSign_30 : decode cX12_isSign 30 = .ok (.iload_n 0, 1) := by decide +kernel
theorem dX12_isSign_31 : decode cX12_isSign 31 = .ok (.bipush 42, 2) := by decide +kernel
theorem dX12_isSign_33 : decode cX12_isSign 33 = .ok (.if_icmp .eq 9, 3) := by decide +kernel
theorem dX12_isSign_36 : decode cX12_isSign 36 = .ok (.iload_n 0, 1) := by decide +kernel
theorem dX12_isSign_37 : decode cX12_isSign 37 = .ok (.bipush 47, 2) := by decide +kernel
theorem dX12_isSign_39 : decode cX12_isSign 39 = .ok (.if_icmp .ne 7, 3) := by decide +kernel
theorem dX12_isSign_42 : decode cX12_isSign 42 = .ok (.iconst 1, 1) := by decide +kernel
theorem dX12_isSign_43 : decode cX12_isSign 43 = .ok (.goto 4, 3) := by decide +kernel
theorem dX12_isSign_46 : decode cX12_isSign 46 = .ok (.iconst 0, 1) := by decide +kernel
theorem dX12_isSign_47 : decode cX12_isSign 47 = .ok (.ireturn, 1) := by decide +kernel
theorem dX12_nextToken_0 : decode cX12_nextToken 0 = .ok (.aload_n 0, 1) := by decide +kernel
theorem dX12_nextToken_1 : decode cX12_nextToken 1 = .ok (.getfield 77, 3) := by decide +kernel
theorem dX12_nextToken_4 : decode cX12_nextToken 4 = .ok (.ifCond .le 4, 3) := by decide +kernel
theorem dX12_nextToken_7 : decode cX12_nextToken 7 = .ok (.return_, 1) := by decide +kernel
theorem dX12_nextToken_8 : decode cX12_nextToken 8 = .ok (.aload_n 0, 1) := by decide +kernel
theorem dX12_nextToken_9 : decode cX12_nextToken 9 = .ok (.aload_n 0, 1) := by decide +kernel
theorem dX12_nextToken_10 : decode cX12_nextToken 10 = .ok (.getfield 86, 3) := by decide +kernel
theorem dX12_nextToken_13 : decode cX12_nextToken 13 = .ok (.invokevirtual 89, 3) := by decide +kernel
theorem dX12_nextToken_16 : decode cX12_nextToken 16 = .ok (.bipush 32, 2) := by decide +kernel
theorem dX12_nextToken_18 : decode cX12_nextToken 18 = .ok (.if_icmp .ne 16, 3) := by decide +kernel
theorem dX12_nextToken_21 : decode cX12_nextToken 21 = .ok (.aload_n 0, 1) := by decide +kernel
theorem dX12_nextToken_22 : decode cX12_nextToken 22 = .ok (.dup, 1) := by decide +kernel
theorem dX12_nextToken_23 : decode cX12_nextToken 23 = .ok (.getfield 86, 3) := by decide +kernel
theorem dX12_nextToken_26 : decode cX12_nextToken 26 = .ok (.iconst 1, 1) := by decide +kernel
theorem dX12_nextToken_27 : decode cX12_nextToken 27 = .ok (.iadd, 1) := by decide +kernel
theorem dX12_nextToken_28 : decode cX12_nextToken 28 = .ok (.putfield 86, 3) := by decide +kernel
theorem dX12_nextToken_31 : decode cX12_nextToken 31 = .ok (.goto (-23), 3) := by decide +kernel
theorem dX12_nextToken_34 : decode cX12_nextToken 34 = .ok (.aload_n 0, 1) := by decide +kernel
theorem dX12_nextToken_35 : decode cX12_nextToken 35 = .ok (.aload_n 0, 1) := by decide +kernel
theorem dX12_nextToken_36 : decode cX12_nextToken 36 = .ok (.getfield 86, 3) := by decide +kernel
theorem dX12_nextToken_39 : decode cX12_nextToken 39 = .ok (.putfield 83, 3) := by decide +kernel
theorem dX12_nextToken_42 : decode cX12_nextToken 42 = .ok (.aload_n 0, 1) := by decide +kernel
theorem dX12_nextToken_43 : decode cX12_nextToken 43 = .ok (.getfield 86, 3) := by decide +kernel
theorem dX12_nextToken_46 : decode cX12_nextToken 46 = .ok (.aload_n 0, 1) := by decide +kernel
theorem dX12_nextToken_47 : decode cX12_nextToken 47 = .ok (.getfield 80, 3) := by decide +kernel
theorem dX12_nextToken_50 : decode cX12_nextToken 50 = .ok (.if_icmp .ne 11, 3) := by decide +kernel
theorem dX12_nextToken_53 : decode cX12_nextToken 53 = .ok (.aload_n 0, 1) := by decide +kernel
theorem dX12_nextToken_54 : decode cX12_nextToken 54 = .ok (.iconst 1, 1) := by decide +kernel
theorem dX12_nextToken_55 : decode cX12_nextToken 55 = .ok (.putfield 93, 3) := by decide +kernel
theorem dX12_nextToken_58 : decode cX12_nextToken 58 = .ok (.goto 234, 3) := by decide +kernel
theorem dX12_nextToken_61 : decode cX12_nextToken 61 = .ok (.aload_n 0, 1) := by decide +kernel
theorem dX12_nextToken_62 : decode cX12_nextToken 62 = .ok (.aload_n 0, 1) := by decide +kernel
theorem dX12_nextToken_63 : decode cX12_nextToken 63 = .ok (.getfield 86, 3) := by decide +kernel
theorem dX12_nextToken_66 : decode cX12_nextToken 66 = .ok (.invokevirtual 89, 3) := by decide +kernel
theorem dX12_nextToken_69 : decode cX12_nextToken 69 = .ok (.bipush 97, 2) := by decide +kernel
theorem dX12_nextToken_71 : decode cX12_nextToken 71 = .ok (.bipush 122, 2) := by decide +kernel
theorem dX12_nextToken_73 : decode cX12_nextToken 73 = .ok (.invokestatic 96, 3) := by decide +kernel
theorem dX12_nextToken_76 : decode cX12_nextToken 76 = .ok (.ifCond .eq 60, 3) := by decide +kernel
theorem dX12_nextToken_79 : decode cX12_nextToken 79 = .ok (.aload_n 0, 1) := by decide +kernel
theorem dX12_nextToken_80 : decode cX12_nextToken 80 = .ok (.aload_n 0, 1) := by decide +kernel
theorem dX12_nextToken_81 : decode cX12_nextToken 81 = .ok (.getfield 86, 3) := by decide +kernel
theorem dX12_nextToken_84 : decode cX12_nextToken 84 = .ok (.invokevirtual 89, 3) := by decide +kernel
theorem dX12_nextToken_87 : decode cX12_nextToken 87 = .ok (.bipush 97, 2) := by decide +kernel
theorem dX12_nextToken_89 : decode cX12_nextToken 89 = .ok (.bipush 122, 2) := by decide +kernel
theorem dX12_nextToken_91 : decode cX12_nextToken 91 = .ok (.invokestatic 96, 3) := by decide +kernel
theorem dX12_nextToken_94 : decode cX12_nextToken 94 = .ok (.ifCond .eq 16, 3) := by decide +kernel
theorem dX12_nextToken_97 : decode cX12_nextToken 97 = .ok (.aload_n 0, 1) := by decide +kernel
theorem dX12_nextToken_98 : decode cX12_nextToken 98 = .ok (.dup, 1) := by decide +kernel
theorem dX12_nextToken_99 : decode cX12_nextToken 99 = .ok (.getfield 86, 3) := by decide +kernel
theorem dX12_nextToken_102 : decode cX12_nextToken 102 = .ok (.iconst 1, 1) := by decide +kernel
theorem dX12_nextToken_103 : decode cX12_nextToken 103 = .ok (.iadd, 1) := by decide +kernel
theorem dX12_nextToken_104 : decode cX12_nextToken 104 = .ok (.putfield 86, 3) := by decide +kernel
theorem dX12_nextToken_107 : decode cX12_nextToken 107 = .ok (.goto (-28), 3) := by decide +kernel
theorem dX12_nextToken_110 : decode cX12_nextToken 110 = .ok (.aload_n 0, 1) := by decide +kernel
theorem dX12_nextToken_111 : decode cX12_nextToken 111 = .ok (.aload_n 0, 1) := by decide +kernel
theorem dX12_nextToken_112 : decode cX12_nextToken 112 = .ok (.getfield 86, 3) := by decide +kernel
theorem dX12_nextToken_115 : decode cX12_nextToken 115 = .ok (.aload_n 0, 1) := by decide +kernel
theorem dX12_nextToken_116 : decode cX12_nextToken 116 = .ok (.getfield 83, 3) := by decide +kernel
theorem dX12_nextToken_119 : decode cX12_nextToken 119 = .ok (.isub, 1) := by decide +kernel
theorem dX12_nextToken_120 : decode cX12_nextToken 120 = .ok (.bipush 8, 2) := by decide +kernel
theorem dX12_nextToken_122 : decode cX12_nextToken 122 = .ok (.if_icmp .le 7, 3) := by decide +kernel
theorem dX12_nextToken_125 : decode cX12_nextToken 125 = .ok (.iconst 0, 1) := by decide +kernel
theorem dX12_nextToken_126 : decode cX12_nextToken 126 = .ok (.goto 4, 3) := by decide +kernel
theorem dX12_nextToken_129 : decode cX12_nextToken 129 = .ok (.iconst 2, 1) := by decide +kernel
theorem dX12_nextToken_130 : decode cX12_nextToken 130 = .ok (.putfield 93, 3) := by decide +kernel
theorem dX12_nextToken_133 : decode cX12_nextToken 133 = .ok (.goto 159, 3) := by decide +kernel
theorem dX12_nextToken_136 : decode cX12_nextToken 136 = .ok (.aload_n 0, 1) := by decide +kernel
theorem dX12_nextToken_137 : decode cX12_nextToken 137 = .ok (.aload_n 0, 1) := by decide +kernel
theorem dX12_nextToken_138 : decode cX12_nextToken 138 = .ok (.getfield 86, 3) := by decide +kernel
theorem dX12_nextToken_141 : decode cX12_nextToken 141 = .ok (.invokevirtual 89, 3) := by decide +kernel
theorem dX12_nextToken_144 : decode cX12_nextToken 144 = .ok (.bipush 48, 2) := by decide +kernel
theorem dX12_nextToken_146 : decode cX12_nextToken 146 = .ok (.bipush 57, 2) := by decide +kernel
theorem dX12_nextToken_148 : decode cX12_nextToken 148 = .ok (.invokestatic 96, 3) := by decide +kernel
theorem dX12_nextToken_151 : decode cX12_nextToken 151 = .ok (.ifCond .eq 100, 3) := by decide +kernel
theorem dX12_nextToken_154 : decode cX12_nextToken 154 = .ok (.aload_n 0, 1) := by decide +kernel
theorem dX12_nextToken_155 : decode cX12_nextToken 155 = .ok (.iconst 0, 1) := by decide +kernel
theorem dX12_nextToken_156 : decode cX12_nextToken 156 = .ok (.putfield 100, 3) := by decide +kernel
theorem dX12_nextToken_159 : decode cX12_nextToken 159 = .ok (.aload_n 0, 1) := by decide +kernel
theorem dX12_nextToken_160 : decode cX12_nextToken 160 = .ok (.aload_n 0, 1) := by decide +kernel
theorem dX12_nextToken_161 : decode cX12_nextToken 161 = .ok (.getfield 86, 3) := by decide +kernel
theorem dX12_nextToken_164 : decode cX12_nextToken 164 = .ok (.invokevirtual 89, 3) := by decide +kernel
theorem dX12_nextToken_167 : decode cX12_nextToken 167 = .ok (.bipush 48, 2) := by decide +kernel
theorem dX12_nextToken_169 : decode cX12_nextToken 169 = .ok (.bipush 57, 2) := by decide +kernel
theorem dX12_nextToken_171 : decode cX12_nextToken 171 = .ok (.invokestatic 96, 3) := by decide +kernel
theorem dX12_nextToken_174 : decode cX12_nextToken 174 = .ok (.ifCond .eq 52, 3) := by decide +kernel
theorem dX12_nextToken_177 : decode cX12_nextToken 177 = .ok (.aload_n 0, 1) := by decide +kernel
theorem dX12_nextToken_178 : decode cX12_nextToken 178 = .ok (.getfield 86, 3) := by decide +kernel
theorem dX12_nextToken_181 : decode cX12_nextToken 181 = .ok (.aload_n 0, 1) := by decide +kernel
theorem dX12_nextToken_182 : decode cX12_nextToken 182 = .ok (.getfield 83, 3) := by decide +kernel
theorem dX12_nextToken_185 : decode cX12_nextToken 185 = .ok (.isub, 1) := by decide +kernel
theorem dX12_nextToken_186 : decode cX12_nextToken 186 = .ok (.iconst 4, 1) := by decide +kernel
theorem dX12_nextToken_187 : decode cX12_nextToken 187 = .ok (.if_icmp .ge 26, 3) := by decide +kernel
theorem dX12_nextToken_190 : decode cX12_nextToken 190 = .ok (.aload_n 0, 1) := by decide +kernel
theorem dX12_nextToken_191 : decode cX12_nextToken 191 = .ok (.bipush 10, 2) := by decide +kernel
theorem dX12_nextToken_193 : decode cX12_nextToken 193 = .ok (.aload_n 0, 1) := by decide +kernel
theorem dX12_nextToken_194 : decode cX12_nextToken 194 = .ok (.getfield 100, 3) := by decide +kernel
theorem dX12_nextToken_197 : decode cX12_nextToken 197 = .ok (.imul, 1) := by decide +kernel
theorem dX12_nextToken_198 : decode cX12_nextToken 198 = .ok (.aload_n 0, 1) := by decide +kernel
theorem dX12_nextToken_199 : decode cX12_nextToken 199 = .ok (.aload_n 0, 1) := by decide +kernel
theorem dX12_nextToken_200 : decode cX12_nextToken 200 = .ok (.getfield 86, 3) := by decide +kernel
theorem dX12_nextToken_203 : decode cX12_nextToken 203 = .ok (.invokevirtual 89, 3) := by decide +kernel
theorem dX12_nextToken_206 : decode cX12_nextToken 206 = .ok (.iadd, 1) := by decide +kernel
theorem dX12_nextToken_207 : decode cX12_nextToken 207 = .ok (.bipush 48, 2) := by decide +kernel
theorem dX12_nextToken_209 : decode cX12_nextToken 209 = .ok (.isub, 1) := by decide +kernel
theorem dX12_nextToken_210 : decode cX12_nextToken 210 = .ok (.putfield 100, 3) := by decide +kernel
theorem dX12_nextToken_213 : decode cX12_nextToken 213 = .ok (.aload_n 0, 1) := by decide +kernel
theorem dX12_nextToken_214 : decode cX12_nextToken 214 = .ok (.dup, 1) := by decide +kernel
theorem dX12_nextToken_215 : decode cX12_nextToken 215 = .ok (.getfield 86, 3) := by decide +kernel
theorem dX12_nextToken_218 : decode cX12_nextToken 218 = .ok (.iconst 1, 1) := by decide +kernel
theorem dX12_nextToken_219 : decode cX12_nextToken 219 = .ok (.iadd, 1) := by decide +kernel
theorem dX12_nextToken_220 : decode cX12_nextToken 220 = .ok (.putfield 86, 3) := by decide +kernel
theorem dX12_nextToken_223 : decode cX12_nextToken 223 = .ok (.goto (-64), 3) := by decide +kernel
theorem dX12_nextToken_226 : decode cX12_nextToken 226 = .ok (.aload_n 0, 1) := by decide +kernel
theorem dX12_nextToken_227 : decode cX12_nextToken 227 = .ok (.aload_n 0, 1) := by decide +kernel
theorem dX12_nextToken_228 : decode cX12_nextToken 228 = .ok (.getfield 86, 3) := by decide +kernel
theorem dX12_nextToken_231 : decode cX12_nextToken 231 = .ok (.aload_n 0, 1) := by decide +kernel
theorem dX12_nextToken_232 : decode cX12_nextToken 232 = .ok (.getfield 83, 3) := by decide +kernel
theorem dX12_nextToken_235 : decode cX12_nextToken 235 = .ok (.isub, 1) := by decide +kernel
theorem dX12_nextToken_236 : decode cX12_nextToken 236 = .ok (.iconst 4, 1) := by decide +kernel
theorem dX12_nextToken_237 : decode cX12_nextToken 237 = .ok (.if_icmp .le 7, 3) := by decide +kernel
theorem dX12_nextToken_240 : decode cX12_nextToken 240 = .ok (.iconst 0, 1) := by decide +kernel
theorem dX12_nextToken_241 : decode cX12_nextToken 241 = .ok (.goto 4, 3) := by decide +kernel
theorem dX12_nextToken_244 : decode cX12_nextToken 244 = .ok (.iconst 3, 1) := by decide +kernel
theorem dX12_nextToken_245 : decode cX12_nextToken 245 = .ok (.putfield 93, 3) := by decide +kernel
theorem dX12_nextToken_248 : decode cX12_nextToken 248 = .ok (.goto 44, 3) := by decide +kernel
theorem dX12_nextToken_251 : decode cX12_nextToken 251 = .ok (.aload_n 0, 1) := by decide +kernel
theorem dX12_nextToken_252 : decode cX12_nextToken 252 = .ok (.aload_n 0, 1) := by decide +kernel
theorem dX12_nextToken_253 : decode cX12_nextToken 253 = .ok (.aload_n 0, 1) := by decide +kernel
theorem dX12_nextToken_254 : decode cX12_nextToken 254 = .ok (.getfield 86, 3) := by decide +kernel
theorem dX12_nextToken_257 : decode cX12_nextToken 257 = .ok (.invokevirtual 89, 3) := by decide +kernel
theorem dX12_nextToken_260 : decode cX12_nextToken 260 = .ok (.putfield 100, 3) := by decide +kernel
theorem dX12_nextToken_263 : decode cX12_nextToken 263 = .ok (.aload_n 0, 1) := by decide +kernel
theorem dX12_nextToken_264 : decode cX12_nextToken 264 = .ok (.aload_n 0, 1) := by decide +kernel
theorem dX12_nextToken_265 : decode cX12_nextToken 265 = .ok (.getfield 100, 3) := by decide +kernel
theorem dX12_nextToken_268 : decode cX12_nextToken 268 = .ok (.invokestatic 103, 3) := by decide +kernel
theorem dX12_nextToken_271 : decode cX12_nextToken 271 = .ok (.ifCond .eq 7, 3) := by decide +kernel
theorem dX12_nextToken_274 : decode cX12_nextToken 274 = .ok (.iconst 4, 1) := by decide +kernel
theorem dX12_nextToken_275 : decode cX12_nextToken 275 = .ok (.goto 4, 3) := by decide +kernel
theorem dX12_nextToken_278 : decode cX12_nextToken 278 = .ok (.iconst 0, 1) := by decide +kernel
theorem dX12_nextToken_279 : decode cX12_nextToken 279 = .ok (.putfield 93, 3) := by decide +kernel
theorem dX12_nextToken_282 : decode cX12_nextToken 282 = .ok (.aload_n 0, 1) := by decide +kernel
theorem dX12_nextToken_283 : decode cX12_nextToken 283 = .ok (.dup, 1) := by decide +kernel
theorem dX12_nextToken_284 : decode cX12_nextToken 284 = .ok (.getfield 86, 3) := by decide +kernel
theorem dX12_nextToken_287 : decode cX12_nextToken 287 = .ok (.iconst 1, 1) := by decide +kernel
theorem dX12_nextToken_288 : decode cX12_nextToken 288 = .ok (.iadd, 1) := by decide +kernel
theorem dX12_nextToken_289 : decode cX12_nextToken 289 = .ok (.putfield 86, 3) := by decide +kernel
theorem dX12_nextToken_292 : decode cX12_nextToken 292 = .ok (.return_, 1) := by decide +kernel
theorem dX12_isSignHere_0 : decode cX12_isSignHere 0 = .ok (.aload_n 0, 1) := by decide +kernel
theorem dX12_isSignHere_1 : decode cX12_isSignHere 1 = .ok (.getfield 77, 3) := by decide +kernel
theorem dX12_isSignHere_4 : decode cX12_isSignHere 4 = .ok (.ifCond .ne 23, 3) := by decide +kernel
theorem dX12_isSignHere_7 : decode cX12_isSignHere 7 = .ok (.aload_n 0, 1) := by decide +kernel
theorem dX12_isSignHere_8 : decode cX12_isSignHere 8 = .ok (.getfield 93, 3) := by decide +kernel
theorem dX12_isSignHere_11 : decode cX12_isSignHere 11 = .ok (.iconst 4, 1) := by decide +kernel
theorem dX12_isSignHere_12 : decode cX12_isSignHere 12 = .ok (.if_icmp .ne 15, 3) := by decide +kernel
theorem dX12_isSignHere_15 : decode cX12_isSignHere 15 = .ok (.aload_n 0, 1) := by decide +kernel
theorem dX12_isSignHere_16 : decode cX12_isSignHere 16 = .ok (.getfield 100, 3) := by decide +kernel
theorem dX12_isSignHere_19 : decode cX12_isSignHere 19 = .ok (.iload_n 1, 1) := by decide +kernel
theorem dX12_isSignHere_20 : decode cX12_isSignHere 20 = .ok (.if_icmp .ne 7, 3) := by decide +kernel
theorem dX12_isSignHere_23 : decode cX12_isSignHere 23 = .ok (.iconst 1, 1) := by decide +kernel
theorem dX12_isSignHere_24 : decode cX12_isSignHere 24 = .ok (.goto 4, 3) := by decide +kernel
theorem dX12_isSignHere_27 : decode cX12_isSignHere 27 = .ok (.iconst 0, 1) := by decide +kernel
theorem dX12_isSignHere_28 : decode cX12_isSignHere 28 = .ok (.ireturn, 1) := by decide +kernel
theorem dX12_isWord_0 : decode cX12_isWord 0 = .ok (.aload_n 0, 1) := by decide +kernel
theorem dX12_isWord_1 : decode cX12_isWord 1 = .ok (.getfield 77, 3) := by decide +kernel
theorem dX12_isWord_4 : decode cX12_isWord 4 = .ok (.ifCond .gt 27, 3) := by decide +kernel
theorem dX12_isWord_7 : decode cX12_isWord 7 = .ok (.aload_n 0, 1) := by decide +kernel
theorem dX12_isWord_8 : decode cX12_isWord 8 = .ok (.getfield 93, 3) := by decide +kernel
theorem dX12_isWord_11 : decode cX12_isWord 11 = .ok (.iconst 2, 1) := by decide +kernel
theorem dX12_isWord_12 : decode cX12_isWord 12 = .ok (.if_icmp .ne 19, 3) := by decide +kernel
theorem dX12_isWord_15 : decode cX12_isWord 15 = .ok (.aload_n 0, 1) := by decide +kernel
theorem dX12_isWord_16 : decode cX12_isWord 16 = .ok (.getfield 86, 3) := by decide +kernel
theorem dX12_isWord_19 : decode cX12_isWord 19 = .ok (.aload_n 0, 1) := by decide +kernel
theorem dX12_isWord_20 : decode cX12_isWord 20 = .ok (.getfield 83, 3) := by decide +kernel
theorem dX12_isWord_23 : decode cX12_isWord 23 = .ok (.isub, 1) := by decide +kernel
theorem dX12_isWord_24 : decode cX12_isWord 24 = .ok (.aload_n 1, 1) := by decide +kernel
theorem dX12_isWord_25 : decode cX12_isWord 25 = .ok (.invokevirtual 107, 3) := by decide +kernel
theorem dX12_isWord_28 : decode cX12_isWord 28 = .ok (.if_icmp .eq 5, 3) := by decide +kernel
theorem dX12_isWord_31 : decode cX12_isWord 31 = .ok (.iconst 0, 1) := by decide +kernel
theorem dX12_isWord_32 : decode cX12_isWord 32 = .ok (.ireturn, 1) := by decide +kernel
theorem dX12_isWord_33 : decode cX12_isWord 33 = .ok (.iconst 0, 1) := by decide +kernel
theorem dX12_isWord_34 : decode cX12_isWord 34 = .ok (.istore_n 2, 1) := by decide +kernel
theorem dX12_isWord_35 : decode cX12_isWord 35 = .ok (.iload_n 2, 1) := by decide +kernel
theorem dX12_isWord_36 : decode cX12_isWord 36 = .ok (.aload_n 1, 1) := by decide +kernel
theorem dX12_isWord_37 : decode cX12_isWord 37 = .ok (.invokevirtual 107, 3) := by decide +kernel
theorem dX12_isWord_40 : decode cX12_isWord 40 = .ok (.if_icmp .ge 30, 3) := by decide +kernel
theorem dX12_isWord_43 : decode cX12_isWord 43 = .ok (.aload_n 0, 1) := by decide +kernel
theorem dX12_isWord_44 : decode cX12_isWord 44 = .ok (.getfield 9, 3) := by decide +kernel
theorem dX12_isWord_47 : decode cX12_isWord 47 = .ok (.aload_n 0, 1) := by decide +kernel
theorem dX12_isWord_48 : decode cX12_isWord 48 = .ok (.getfield 83, 3) := by decide +kernel
theorem dX12_isWord_51 : decode cX12_isWord 51 = .ok (.iload_n 2, 1) := by decide +kernel
theorem dX12_isWord_52 : decode cX12_isWord 52 = .ok (.iadd, 1) := by decide +kernel
theorem dX12_isWord_53 : decode cX12_isWord 53 = .ok (.iaload, 1) := by decide +kernel
theorem dX12_isWord_54 : decode cX12_isWord 54 = .ok (.aload_n 1, 1) := by decide +kernel
theorem dX12_isWord_55 : decode cX12_isWord 55 = .ok (.iload_n 2, 1) := by decide +kernel
theorem dX12_isWord_56 : decode cX12_isWord 56 = .ok (.invokevirtual 113, 3) := by decide +kernel
theorem dX12_isWord_59 : decode cX12_isWord 59 = .ok (.if_icmp .eq 5, 3) := by decide +kernel
theorem dX12_isWord_62 : decode cX12_isWord 62 = .ok (.iconst 0, 1) := by decide +kernel
theorem dX12_isWord_63 : decode cX12_isWord 63 = .ok (.ireturn, 1) := by decide +kernel
theorem dX12_isWord_64 : decode cX12_isWord 64 = .ok (.iinc 2 1, 3) := by decide +kernel
theorem dX12_isWord_67 : decode cX12_isWord 67 = .ok (.goto (-32), 3) := by decide +kernel
theorem dX12_isWord_70 : decode cX12_isWord 70 = .ok (.iconst 1, 1) := by decide +kernel
theorem dX12_isWord_71 : decode cX12_isWord 71 = .ok (.ireturn, 1) := by decide +kernel
theorem dX12_takes_0 : decode cX12_takes 0 = .ok (.aload_n 0, 1) := by decide +kernel
theorem dX12_takes_1 : decode cX12_takes 1 = .ok (.aload_n 1, 1) := by decide +kernel
theorem dX12_takes_2 : decode cX12_takes 2 = .ok (.invokevirtual 117, 3) := by decide +kernel
theorem dX12_takes_5 : decode cX12_takes 5 = .ok (.istore_n 2, 1) := by decide +kernel
theorem dX12_takes_6 : decode cX12_takes 6 = .ok (.iload_n 2, 1) := by decide +kernel
theorem dX12_takes_7 : decode cX12_takes 7 = .ok (.ifCond .eq 7, 3) := by decide +kernel
theorem dX12_takes_10 : decode cX12_takes 10 = .ok (.aload_n 0, 1) := by decide +kernel
theorem dX12_takes_11 : decode cX12_takes 11 = .ok (.invokevirtual 121, 3) := by decide +kernel
theorem dX12_takes_14 : decode cX12_takes 14 = .ok (.iload_n 2, 1) := by decide +kernel
theorem dX12_takes_15 : decode cX12_takes 15 = .ok (.ireturn, 1) := by decide +kernel
theorem dX12_keyword_0 : decode cX12_keyword 0 = .ok (.aload_n 0, 1) := by decide +kernel
theorem dX12_keyword_1 : decode cX12_keyword 1 = .ok (.aload_n 1, 1) := by decide +kernel
theorem dX12_keyword_2 : decode cX12_keyword 2 = .ok (.invokevirtual 124, 3) := by decide +kernel
theorem dX12_keyword_5 : decode cX12_keyword 5 = .ok (.ifCond .ne 8, 3) := by decide +kernel
theorem dX12_keyword_8 : decode cX12_keyword 8 = .ok (.aload_n 0, 1) := by decide +kernel
theorem dX12_keyword_9 : decode cX12_keyword 9 = .ok (.iconst 1, 1) := by decide +kernel
theorem dX12_keyword_10 : decode cX12_keyword 10 = .ok (.invokevirtual 127, 3) := by decide +kernel
theorem dX12_keyword_13 : decode cX12_keyword 13 = .ok (.return_, 1) := by decide +kernel
theorem dX12_look_0 : decode cX12_look 0 = .ok (.aload_n 0, 1) := by decide +kernel
theorem dX12_look_1 : decode cX12_look 1 = .ok (.getfield 77, 3) := by decide +kernel
theorem dX12_look_4 : decode cX12_look 4 = .ok (.ifCond .le 5, 3) := by decide +kernel
theorem dX12_look_7 : decode cX12_look 7 = .ok (.iload_n 1, 1) := by decide +kernel
theorem dX12_look_8 : decode cX12_look 8 = .ok (.ireturn, 1) := by decide +kernel
theorem dX12_look_9 : decode cX12_look 9 = .ok (.aload_n 0, 1) := by decide +kernel
theorem dX12_look_10 : decode cX12_look 10 = .ok (.getfield 93, 3) := by decide +kernel
theorem dX12_look_13 : decode cX12_look 13 = .ok (.iconst 3, 1) := by decide +kernel
theorem dX12_look_14 : decode cX12_look 14 = .ok (.if_icmp .eq 11, 3) := by decide +kernel
theorem dX12_look_17 : decode cX12_look 17 = .ok (.aload_n 0, 1) := by decide +kernel
theorem dX12_look_18 : decode cX12_look 18 = .ok (.iconst 1, 1) := by decide +kernel
theorem dX12_look_19 : decode cX12_look 19 = .ok (.invokevirtual 127, 3) := by decide +kernel
theorem dX12_look_22 : decode cX12_look 22 = .ok (.goto 20, 3) := by decide +kernel
theorem dX12_look_25 : decode cX12_look 25 = .ok (.aload_n 0, 1) := by decide +kernel
theorem dX12_look_26 : decode cX12_look 26 = .ok (.getfield 100, 3) := by decide +kernel
theorem dX12_look_29 : decode cX12_look 29 = .ok (.iload_n 1, 1) := by decide +kernel
theorem dX12_look_30 : decode cX12_look 30 = .ok (.iload_n 2, 1) := by decide +kernel
theorem dX12_look_31 : decode cX12_look 31 = .ok (.invokestatic 96, 3) := by decide +kernel
theorem dX12_look_34 : decode cX12_look 34 = .ok (.ifCond .ne 8, 3) := by decide +kernel
theorem dX12_look_37 : decode cX12_look 37 = .ok (.aload_n 0, 1) := by decide +kernel
theorem dX12_look_38 : decode cX12_look 38 = .ok (.iconst 2, 1) := by decide +kernel
theorem dX12_look_39 : decode cX12_look 39 = .ok (.invokevirtual 127, 3) := by decide +kernel
theorem dX12_look_42 : decode cX12_look 42 = .ok (.aload_n 0, 1) := by decide +kernel
theorem dX12_look_43 : decode cX12_look 43 = .ok (.getfield 77, 3) := by decide +kernel
theorem dX12_look_46 : decode cX12_look 46 = .ok (.ifCond .le 7, 3) := by decide +kernel
theorem dX12_look_49 : decode cX12_look 49 = .ok (.iload_n 1, 1) := by decide +kernel
theorem dX12_look_50 : decode cX12_look 50 = .ok (.goto 7, 3) := by decide +kernel
theorem dX12_look_53 : decode cX12_look 53 = .ok (.aload_n 0, 1) := by decide +kernel
theorem dX12_look_54 : decode cX12_look 54 = .ok (.getfield 100, 3) := by decide +kernel
theorem dX12_look_57 : decode cX12_look 57 = .ok (.ireturn, 1) := by decide +kernel
theorem dX12_number_0 : decode cX12_number 0 = .ok (.aload_n 0, 1) := by decide +kernel
theorem dX12_number_1 : decode cX12_number 1 = .ok (.iload_n 1, 1) := by decide +kernel
theorem dX12_number_2 : decode cX12_number 2 = .ok (.iload_n 2, 1) := by decide +kernel
theorem dX12_number_3 : decode cX12_number 3 = .ok (.invokevirtual 130, 3) := by decide +kernel
theorem dX12_number_6 : decode cX12_number 6 = .ok (.istore_n 3, 1) := by decide +kernel
theorem dX12_number_7 : decode cX12_number 7 = .ok (.aload_n 0, 1) := by decide +kernel
theorem dX12_number_8 : decode cX12_number 8 = .ok (.invokevirtual 121, 3) := by decide +kernel
theorem dX12_number_11 : decode cX12_number 11 = .ok (.iload_n 3, 1) := by decide +kernel
theorem dX12_number_12 : decode cX12_number 12 = .ok (.ireturn, 1) := by decide +kernel
theorem dX12_gauge_0 : decode cX12_gauge 0 = .ok (.aload_n 0, 1) := by decide +kernel
theorem dX12_gauge_1 : decode cX12_gauge 1 = .ok (.aload_n 1, 1) := by decide +kernel
theorem dX12_gauge_2 : decode cX12_gauge 2 = .ok (.invokevirtual 134, 3) := by decide +kernel
theorem dX12_gauge_5 : decode cX12_gauge 5 = .ok (.aload_n 0, 1) := by decide +kernel
theorem dX12_gauge_6 : decode cX12_gauge 6 = .ok (.iload_n 2, 1) := by decide +kernel
theorem dX12_gauge_7 : decode cX12_gauge 7 = .ok (.iload_n 3, 1) := by decide +kernel
theorem dX12_gauge_8 : decode cX12_gauge 8 = .ok (.invokevirtual 138, 3) := by decide +kernel
theorem dX12_gauge_11 : decode cX12_gauge 11 = .ok (.ireturn, 1) := by decide +kernel
theorem dX12_signed_0 : decode cX12_signed 0 = .ok (.aload_n 0, 1) := by decide +kernel
theorem dX12_signed_1 : decode cX12_signed 1 = .ok (.bipush 45, 2) := by decide +kernel
theorem dX12_signed_3 : decode cX12_signed 3 = .ok (.invokevirtual 141, 3) := by decide +kernel
theorem dX12_signed_6 : decode cX12_signed 6 = .ok (.istore_n 3, 1) := by decide +kernel
theorem dX12_signed_7 : decode cX12_signed 7 = .ok (.iload_n 3, 1) := by decide +kernel
theorem dX12_signed_8 : decode cX12_signed 8 = .ok (.ifCond .eq 7, 3) := by decide +kernel
theorem dX12_signed_11 : decode cX12_signed 11 = .ok (.aload_n 0, 1) := by decide +kernel
theorem dX12_signed_12 : decode cX12_signed 12 = .ok (.invokevirtual 121, 3) := by decide +kernel
theorem dX12_signed_15 : decode cX12_signed 15 = .ok (.iload_n 3, 1) := by decide +kernel
theorem dX12_signed_16 : decode cX12_signed 16 = .ok (.ifCond .eq 15, 3) := by decide +kernel
theorem dX12_signed_19 : decode cX12_signed 19 = .ok (.aload_n 0, 1) := by decide +kernel
theorem dX12_signed_20 : decode cX12_signed 20 = .ok (.iload_n 2, 1) := by decide +kernel
theorem dX12_signed_21 : decode cX12_signed 21 = .ok (.ineg, 1) := by decide +kernel
theorem dX12_signed_22 : decode cX12_signed 22 = .ok (.iload_n 1, 1) := by decide +kernel
theorem dX12_signed_23 : decode cX12_signed 23 = .ok (.ineg, 1) := by decide +kernel
theorem dX12_signed_24 : decode cX12_signed 24 = .ok (.invokevirtual 138, 3) := by decide +kernel
theorem dX12_signed_27 : decode cX12_signed 27 = .ok (.ineg, 1) := by decide +kernel
theorem dX12_signed_28 : decode cX12_signed 28 = .ok (.goto 9, 3) := by decide +kernel
theorem dX12_signed_31 : decode cX12_signed 31 = .ok (.aload_n 0, 1) := by decide +kernel
theorem dX12_signed_32 : decode cX12_signed 32 = .ok (.iload_n 1, 1) := by decide +kernel
theorem dX12_signed_33 : decode cX12_signed 33 = .ok (.iload_n 2, 1) := by decide +kernel
theorem dX12_signed_34 : decode cX12_signed 34 = .ok (.invokevirtual 138, 3) := by decide +kernel
theorem dX12_signed_37 : decode cX12_signed 37 = .ok (.ireturn, 1) := by decide +kernel
theorem dX12_readFirst_0 : decode cX12_readFirst 0 = .ok (.aload_n 0, 1) := by decide +kernel
theorem dX12_readFirst_1 : decode cX12_readFirst 1 = .ok (.ldc 144, 2) := by decide +kernel
theorem dX12_readFirst_3 : decode cX12_readFirst 3 = .ok (.invokevirtual 134, 3) := by decide +kernel
theorem dX12_readFirst_6 : decode cX12_readFirst 6 = .ok (.aload_n 0, 1) := by decide +kernel
theorem dX12_readFirst_7 : decode cX12_readFirst 7 = .ok (.getfield 20, 3) := by decide +kernel
theorem dX12_readFirst_10 : decode cX12_readFirst 10 = .ok (.iconst 0, 1) := by decide +kernel
theorem dX12_readFirst_11 : decode cX12_readFirst 11 = .ok (.aload_n 0, 1) := by decide +kernel
theorem dX12_readFirst_12 : decode cX12_readFirst 12 = .ok (.ldc 146, 2) := by decide +kernel
theorem dX12_readFirst_14 : decode cX12_readFirst 14 = .ok (.bipush 100, 2) := by decide +kernel
theorem dX12_readFirst_16 : decode cX12_readFirst 16 = .ok (.sipush 5000, 3) := by decide +kernel
theorem dX12_readFirst_19 : decode cX12_readFirst 19 = .ok (.invokevirtual 148, 3) := by decide +kernel
theorem dX12_readFirst_22 : decode cX12_readFirst 22 = .ok (.iastore, 1) := by decide +kernel
theorem dX12_readFirst_23 : decode cX12_readFirst 23 = .ok (.aload_n 0, 1) := by decide +kernel
theorem dX12_readFirst_24 : decode cX12_readFirst 24 = .ok (.getfield 20, 3) := by decide +kernel
theorem dX12_readFirst_27 : decode cX12_readFirst 27 = .ok (.iconst 1, 1) := by decide +kernel
theorem dX12_readFirst_28 : decode cX12_readFirst 28 = .ok (.aload_n 0, 1) := by decide +kernel
theorem dX12_readFirst_29 : decode cX12_readFirst 29 = .ok (.ldc 152, 2) := by decide +kernel
theorem dX12_readFirst_31 : decode cX12_readFirst 31 = .ok (.iconst 1, 1) := by decide +kernel
theorem dX12_readFirst_32 : decode cX12_readFirst 32 = .ok (.bipush 99, 2) := by decide +kernel
theorem dX12_readFirst_34 : decode cX12_readFirst 34 = .ok (.invokevirtual 148, 3) := by decide +kernel
theorem dX12_readFirst_37 : decode cX12_readFirst 37 = .ok (.iastore, 1) := by decide +kernel
theorem dX12_readFirst_38 : decode cX12_readFirst 38 = .ok (.aload_n 0, 1) := by decide +kernel
theorem dX12_readFirst_39 : decode cX12_readFirst 39 = .ok (.getfield 20, 3) := by decide +kernel
theorem dX12_readFirst_42 : decode cX12_readFirst 42 = .ok (.iconst 2, 1) := by decide +kernel
theorem dX12_readFirst_43 : decode cX12_readFirst 43 = .ok (.aload_n 0, 1) := by decide +kernel
theorem dX12_readFirst_44 : decode cX12_readFirst 44 = .ok (.ldc 154, 2) := by decide +kernel
theorem dX12_readFirst_46 : decode cX12_readFirst 46 = .ok (.bipush 32, 2) := by decide +kernel
theorem dX12_readFirst_48 : decode cX12_readFirst 48 = .ok (.sipush 200, 3) := by decide +kernel
theorem dX12_readFirst_51 : decode cX12_readFirst 51 = .ok (.invokevirtual 148, 3) := by decide +kernel
theorem dX12_readFirst_54 : decode cX12_readFirst 54 = .ok (.iastore, 1) := by decide +kernel
theorem dX12_readFirst_55 : decode cX12_readFirst 55 = .ok (.aload_n 0, 1) := by decide +kernel
theorem dX12_readFirst_56 : decode cX12_readFirst 56 = .ok (.getfield 20, 3) := by decide +kernel
theorem dX12_readFirst_59 : decode cX12_readFirst 59 = .ok (.iconst 3, 1) := by decide +kernel
theorem dX12_readFirst_60 : decode cX12_readFirst 60 = .ok (.aload_n 0, 1) := by decide +kernel
theorem dX12_readFirst_61 : decode cX12_readFirst 61 = .ok (.ldc 156, 2) := by decide +kernel
theorem dX12_readFirst_63 : decode cX12_readFirst 63 = .ok (.iconst 1, 1) := by decide +kernel
theorem dX12_readFirst_64 : decode cX12_readFirst 64 = .ok (.sipush 9999, 3) := by decide +kernel
theorem dX12_readFirst_67 : decode cX12_readFirst 67 = .ok (.invokevirtual 148, 3) := by decide +kernel
theorem dX12_readFirst_70 : decode cX12_readFirst 70 = .ok (.iastore, 1) := by decide +kernel
theorem dX12_readFirst_71 : decode cX12_readFirst 71 = .ok (.return_, 1) := by decide +kernel
theorem dX12_readMic_0 : decode cX12_readMic 0 = .ok (.aload_n 0, 1) := by decide +kernel
theorem dX12_readMic_1 : decode cX12_readMic 1 = .ok (.getfield 20, 3) := by decide +kernel
theorem dX12_readMic_4 : decode cX12_readMic 4 = .ok (.iconst 4, 1) := by decide +kernel
theorem dX12_readMic_5 : decode cX12_readMic 5 = .ok (.iaload, 1) := by decide +kernel
theorem dX12_readMic_6 : decode cX12_readMic 6 = .ok (.istore_n 1, 1) := by decide +kernel
theorem dX12_readMic_7 : decode cX12_readMic 7 = .ok (.iload_n 1, 1) := by decide +kernel
theorem dX12_readMic_8 : decode cX12_readMic 8 = .ok (.bipush 12, 2) := by decide +kernel
theorem dX12_readMic_10 : decode cX12_readMic 10 = .ok (.if_icmp .ne 8, 3) := by decide +kernel
theorem dX12_readMic_13 : decode cX12_readMic 13 = .ok (.aload_n 0, 1) := by decide +kernel
theorem dX12_readMic_14 : decode cX12_readMic 14 = .ok (.iconst 4, 1) := by decide +kernel
theorem dX12_readMic_15 : decode cX12_readMic 15 = .ok (.invokevirtual 127, 3) := by decide +kernel
theorem dX12_readMic_18 : decode cX12_readMic 18 = .ok (.aload_n 0, 1) := by decide +kernel
theorem dX12_readMic_19 : decode cX12_readMic 19 = .ok (.invokevirtual 121, 3) := by decide +kernel
theorem dX12_readMic_22 : decode cX12_readMic 22 = .ok (.aload_n 0, 1) := by decide +kernel
theorem dX12_readMic_23 : decode cX12_readMic 23 = .ok (.sipush (-500), 3) := by decide +kernel
theorem dX12_readMic_26 : decode cX12_readMic 26 = .ok (.sipush 500, 3) := by decide +kernel
theorem dX12_readMic_29 : decode cX12_readMic 29 = .ok (.invokevirtual 158, 3) := by decide +kernel
theorem dX12_readMic_32 : decode cX12_readMic 32 = .ok (.istore_n 2, 1) := by decide +kernel
theorem dX12_readMic_33 : decode cX12_readMic 33 = .ok (.aload_n 0, 1) := by decide +kernel
theorem dX12_readMic_34 : decode cX12_readMic 34 = .ok (.sipush (-500), 3) := by decide +kernel
theorem dX12_readMic_37 : decode cX12_readMic 37 = .ok (.sipush 500, 3) := by decide +kernel
theorem dX12_readMic_40 : decode cX12_readMic 40 = .ok (.invokevirtual 158, 3) := by decide +kernel
theorem dX12_readMic_43 : decode cX12_readMic 43 = .ok (.istore_n 3, 1) := by decide +kernel
theorem dX12_readMic_44 : decode cX12_readMic 44 = .ok (.aload_n 0, 1) := by decide +kernel
theorem dX12_readMic_45 : decode cX12_readMic 45 = .ok (.iconst 1, 1) := by decide +kernel
theorem dX12_readMic_46 : decode cX12_readMic 46 = .ok (.bipush 9, 2) := by decide +kernel
theorem dX12_readMic_48 : decode cX12_readMic 48 = .ok (.invokevirtual 138, 3) := by decide +kernel
theorem dX12_readMic_51 : decode cX12_readMic 51 = .ok (.istore 4, 2) := by decide +kernel
theorem dX12_readMic_53 : decode cX12_readMic 53 = .ok (.aload_n 0, 1) := by decide +kernel
theorem dX12_readMic_54 : decode cX12_readMic 54 = .ok (.getfield 77, 3) := by decide +kernel
theorem dX12_readMic_57 : decode cX12_readMic 57 = .ok (.ifCond .le 4, 3) := by decide +kernel
theorem dX12_readMic_60 : decode cX12_readMic 60 = .ok (.return_, 1) := by decide +kernel
theorem dX12_readMic_61 : decode cX12_readMic 61 = .ok (.aload_n 0, 1) := by decide +kernel
theorem dX12_readMic_62 : decode cX12_readMic 62 = .ok (.getfield 20, 3) := by decide +kernel
theorem dX12_readMic_65 : decode cX12_readMic 65 = .ok (.bipush 11, 2) := by decide +kernel
theorem dX12_readMic_67 : decode cX12_readMic 67 = .ok (.iload_n 1, 1) := by decide +kernel
theorem dX12_readMic_68 : decode cX12_readMic 68 = .ok (.iadd, 1) := by decide +kernel
theorem dX12_readMic_69 : decode cX12_readMic 69 = .ok (.iload_n 2, 1) := by decide +kernel
theorem dX12_readMic_70 : decode cX12_readMic 70 = .ok (.iastore, 1) := by decide +kernel
theorem dX12_readMic_71 : decode cX12_readMic 71 = .ok (.aload_n 0, 1) := by decide +kernel
theorem dX12_readMic_72 : decode cX12_readMic 72 = .ok (.getfield 20, 3) := by decide +kernel
theorem dX12_readMic_75 : decode cX12_readMic 75 = .ok (.bipush 23, 2) := by decide +kernel
theorem dX12_readMic_77 : decode cX12_readMic 77 = .ok (.iload_n 1, 1) := by decide +kernel
theorem dX12_readMic_78 : decode cX12_readMic 78 = .ok (.iadd, 1) := by decide +kernel
theorem dX12_readMic_79 : decode cX12_readMic 79 = .ok (.iload_n 3, 1) := by decide +kernel
theorem dX12_readMic_80 : decode cX12_readMic 80 = .ok (.iastore, 1) := by decide +kernel
theorem dX12_readMic_81 : decode cX12_readMic 81 = .ok (.aload_n 0, 1) := by decide +kernel
theorem dX12_readMic_82 : decode cX12_readMic 82 = .ok (.getfield 20, 3) := by decide +kernel
theorem dX12_readMic_85 : decode cX12_readMic 85 = .ok (.bipush 35, 2) := by decide +kernel
theorem dX12_readMic_87 : decode cX12_readMic 87 = .ok (.iload_n 1, 1) := by decide +kernel
theorem dX12_readMic_88 : decode cX12_readMic 88 = .ok (.iadd, 1) := by decide +kernel
theorem dX12_readMic_89 : decode cX12_readMic 89 = .ok (.iload 4, 2) := by decide +kernel
theorem dX12_readMic_91 : decode cX12_readMic 91 = .ok (.iastore, 1) := by decide +kernel
theorem dX12_readMic_92 : decode cX12_readMic 92 = .ok (.aload_n 0, 1) := by decide +kernel
theorem dX12_readMic_93 : decode cX12_readMic 93 = .ok (.getfield 20, 3) := by decide +kernel
theorem dX12_readMic_96 : decode cX12_readMic 96 = .ok (.iconst 4, 1) := by decide +kernel
theorem dX12_readMic_97 : decode cX12_readMic 97 = .ok (.dup2, 1) := by decide +kernel
theorem dX12_readMic_98 : decode cX12_readMic 98 = .ok (.iaload, 1) := by decide +kernel
theorem dX12_readMic_99 : decode cX12_readMic 99 = .ok (.iconst 1, 1) := by decide +kernel
theorem dX12_readMic_100 : decode cX12_readMic 100 = .ok (.iadd, 1) := by decide +kernel
theorem dX12_readMic_101 : decode cX12_readMic 101 = .ok (.iastore, 1) := by decide +kernel
theorem dX12_readMic_102 : decode cX12_readMic 102 = .ok (.return_, 1) := by decide +kernel
theorem dX12_readMap_0 : decode cX12_readMap 0 = .ok (.aload_n 0, 1) := by decide +kernel
theorem dX12_readMap_1 : decode cX12_readMap 1 = .ok (.getfield 20, 3) := by decide +kernel
theorem dX12_readMap_4 : decode cX12_readMap 4 = .ok (.bipush 8, 2) := by decide +kernel
theorem dX12_readMap_6 : decode cX12_readMap 6 = .ok (.iaload, 1) := by decide +kernel
theorem dX12_readMap_7 : decode cX12_readMap 7 = .ok (.ifCond .le 8, 3) := by decide +kernel
theorem dX12_readMap_10 : decode cX12_readMap 10 = .ok (.aload_n 0, 1) := by decide +kernel
theorem dX12_readMap_11 : decode cX12_readMap 11 = .ok (.iconst 3, 1) := by decide +kernel
theorem dX12_readMap_12 : decode cX12_readMap 12 = .ok (.invokevirtual 127, 3) := by decide +kernel
theorem dX12_readMap_15 : decode cX12_readMap 15 = .ok (.aload_n 0, 1) := by decide +kernel
theorem dX12_readMap_16 : decode cX12_readMap 16 = .ok (.invokevirtual 121, 3) := by decide +kernel
theorem dX12_readMap_19 : decode cX12_readMap 19 = .ok (.aload_n 0, 1) := by decide +kernel
theorem dX12_readMap_20 : decode cX12_readMap 20 = .ok (.sipush (-999), 3) := by decide +kernel
theorem dX12_readMap_23 : decode cX12_readMap 23 = .ok (.sipush 999, 3) := by decide +kernel
theorem dX12_readMap_26 : decode cX12_readMap 26 = .ok (.invokevirtual 158, 3) := by decide +kernel
theorem dX12_readMap_29 : decode cX12_readMap 29 = .ok (.istore_n 1, 1) := by decide +kernel
theorem dX12_readMap_30 : decode cX12_readMap 30 = .ok (.aload_n 0, 1) := by decide +kernel
theorem dX12_readMap_31 : decode cX12_readMap 31 = .ok (.sipush (-999), 3) := by decide +kernel
theorem dX12_readMap_34 : decode cX12_readMap 34 = .ok (.sipush 999, 3) := by decide +kernel
theorem dX12_readMap_37 : decode cX12_readMap 37 = .ok (.invokevirtual 158, 3) := by decide +kernel
theorem dX12_readMap_40 : decode cX12_readMap 40 = .ok (.istore_n 2, 1) := by decide +kernel
theorem dX12_readMap_41 : decode cX12_readMap 41 = .ok (.aload_n 0, 1) := by decide +kernel
theorem dX12_readMap_42 : decode cX12_readMap 42 = .ok (.iconst 1, 1) := by decide +kernel
theorem dX12_readMap_43 : decode cX12_readMap 43 = .ok (.bipush 99, 2) := by decide +kernel
theorem dX12_readMap_45 : decode cX12_readMap 45 = .ok (.invokevirtual 138, 3) := by decide +kernel
theorem dX12_readMap_48 : decode cX12_readMap 48 = .ok (.istore_n 3, 1) := by decide +kernel
theorem dX12_readMap_49 : decode cX12_readMap 49 = .ok (.aload_n 0, 1) := by decide +kernel
theorem dX12_readMap_50 : decode cX12_readMap 50 = .ok (.iconst 1, 1) := by decide +kernel
theorem dX12_readMap_51 : decode cX12_readMap 51 = .ok (.bipush 12, 2) := by decide +kernel
theorem dX12_readMap_53 : decode cX12_readMap 53 = .ok (.invokevirtual 138, 3) := by decide +kernel
theorem dX12_readMap_56 : decode cX12_readMap 56 = .ok (.istore 4, 2) := by decide +kernel
theorem dX12_readMap_58 : decode cX12_readMap 58 = .ok (.aload_n 0, 1) := by decide +kernel
theorem dX12_readMap_59 : decode cX12_readMap 59 = .ok (.iconst 1, 1) := by decide +kernel
theorem dX12_readMap_60 : decode cX12_readMap 60 = .ok (.bipush 12, 2) := by decide +kernel
theorem dX12_readMap_62 : decode cX12_readMap 62 = .ok (.invokevirtual 138, 3) := by decide +kernel
theorem dX12_readMap_65 : decode cX12_readMap 65 = .ok (.istore 5, 2) := by decide +kernel
theorem dX12_readMap_67 : decode cX12_readMap 67 = .ok (.aload_n 0, 1) := by decide +kernel
theorem dX12_readMap_68 : decode cX12_readMap 68 = .ok (.getfield 77, 3) := by decide +kernel
theorem dX12_readMap_71 : decode cX12_readMap 71 = .ok (.ifCond .le 4, 3) := by decide +kernel
theorem dX12_readMap_74 : decode cX12_readMap 74 = .ok (.return_, 1) := by decide +kernel
theorem dX12_readMap_75 : decode cX12_readMap 75 = .ok (.aload_n 0, 1) := by decide +kernel
theorem dX12_readMap_76 : decode cX12_readMap 76 = .ok (.getfield 20, 3) := by decide +kernel
theorem dX12_readMap_79 : decode cX12_readMap 79 = .ok (.bipush 6, 2) := by decide +kernel
theorem dX12_readMap_81 : decode cX12_readMap 81 = .ok (.iload_n 1, 1) := by decide +kernel
theorem dX12_readMap_82 : decode cX12_readMap 82 = .ok (.iastore, 1) := by decide +kernel
theorem dX12_readMap_83 : decode cX12_readMap 83 = .ok (.aload_n 0, 1) := by decide +kernel
theorem dX12_readMap_84 : decode cX12_readMap 84 = .ok (.getfield 20, 3) := by decide +kernel
theorem dX12_readMap_87 : decode cX12_readMap 87 = .ok (.bipush 7, 2) := by decide +kernel
theorem dX12_readMap_89 : decode cX12_readMap 89 = .ok (.iload_n 2, 1) := by decide +kernel
theorem dX12_readMap_90 : decode cX12_readMap 90 = .ok (.iastore, 1) := by decide +kernel
theorem dX12_readMap_91 : decode cX12_readMap 91 = .ok (.aload_n 0, 1) := by decide +kernel
theorem dX12_readMap_92 : decode cX12_readMap 92 = .ok (.getfield 20, 3) := by decide +kernel
theorem dX12_readMap_95 : decode cX12_readMap 95 = .ok (.bipush 8, 2) := by decide +kernel
theorem dX12_readMap_97 : decode cX12_readMap 97 = .ok (.iload_n 3, 1) := by decide +kernel
theorem dX12_readMap_98 : decode cX12_readMap 98 = .ok (.iastore, 1) := by decide +kernel
theorem dX12_readMap_99 : decode cX12_readMap 99 = .ok (.aload_n 0, 1) := by decide +kernel
theorem dX12_readMap_100 : decode cX12_readMap 100 = .ok (.getfield 20, 3) := by decide +kernel
theorem dX12_readMap_103 : decode cX12_readMap 103 = .ok (.bipush 9, 2) := by decide +kernel
theorem dX12_readMap_105 : decode cX12_readMap 105 = .ok (.iload 4, 2) := by decide +kernel
theorem dX12_readMap_107 : decode cX12_readMap 107 = .ok (.iastore, 1) := by decide +kernel
theorem dX12_readMap_108 : decode cX12_readMap 108 = .ok (.aload_n 0, 1) := by decide +kernel
theorem dX12_readMap_109 : decode cX12_readMap 109 = .ok (.getfield 20, 3) := by decide +kernel
theorem dX12_readMap_112 : decode cX12_readMap 112 = .ok (.bipush 10, 2) := by decide +kernel
theorem dX12_readMap_114 : decode cX12_readMap 114 = .ok (.iload 5, 2) := by decide +kernel
theorem dX12_readMap_116 : decode cX12_readMap 116 = .ok (.iastore, 1) := by decide +kernel
theorem dX12_readMap_117 : decode cX12_readMap 117 = .ok (.return_, 1) := by decide +kernel
theorem dX12_readSource_0 : decode cX12_readSource 0 = .ok (.aload_n 0, 1) := by decide +kernel
theorem dX12_readSource_1 : decode cX12_readSource 1 = .ok (.getfield 20, 3) := by decide +kernel
theorem dX12_readSource_4 : decode cX12_readSource 4 = .ok (.iconst 5, 1) := by decide +kernel
theorem dX12_readSource_5 : decode cX12_readSource 5 = .ok (.iaload, 1) := by decide +kernel
theorem dX12_readSource_6 : decode cX12_readSource 6 = .ok (.istore_n 1, 1) := by decide +kernel
theorem dX12_readSource_7 : decode cX12_readSource 7 = .ok (.iload_n 1, 1) := by decide +kernel
theorem dX12_readSource_8 : decode cX12_readSource 8 = .ok (.bipush 6, 2) := by decide +kernel
theorem dX12_readSource_10 : decode cX12_readSource 10 = .ok (.if_icmp .ne 8, 3) := by decide +kernel
theorem dX12_readSource_13 : decode cX12_readSource 13 = .ok (.aload_n 0, 1) := by decide +kernel
theorem dX12_readSource_14 : decode cX12_readSource 14 = .ok (.iconst 4, 1) := by decide +kernel
theorem dX12_readSource_15 : decode cX12_readSource 15 = .ok (.invokevirtual 127, 3) := by decide +kernel
theorem dX12_readSource_18 : decode cX12_readSource 18 = .ok (.aload_n 0, 1) := by decide +kernel
theorem dX12_readSource_19 : decode cX12_readSource 19 = .ok (.invokevirtual 121, 3) := by decide +kernel
theorem dX12_readSource_22 : decode cX12_readSource 22 = .ok (.aload_n 0, 1) := by decide +kernel
theorem dX12_readSource_23 : decode cX12_readSource 23 = .ok (.ldc 161, 2) := by decide +kernel
theorem dX12_readSource_25 : decode cX12_readSource 25 = .ok (.invokevirtual 117, 3) := by decide +kernel
theorem dX12_readSource_28 : decode cX12_readSource 28 = .ok (.ifCond .eq 7, 3) := by decide +kernel
theorem dX12_readSource_31 : decode cX12_readSource 31 = .ok (.iconst 0, 1) := by decide +kernel
theorem dX12_readSource_32 : decode cX12_readSource 32 = .ok (.goto 43, 3) := by decide +kernel
theorem dX12_readSource_35 : decode cX12_readSource 35 = .ok (.aload_n 0, 1) := by decide +kernel
theorem dX12_readSource_36 : decode cX12_readSource 36 = .ok (.ldc 163, 2) := by decide +kernel
theorem dX12_readSource_38 : decode cX12_readSource 38 = .ok (.invokevirtual 117, 3) := by decide +kernel
theorem dX12_readSource_41 : decode cX12_readSource 41 = .ok (.ifCond .eq 7, 3) := by decide +kernel
theorem dX12_readSource_44 : decode cX12_readSource 44 = .ok (.iconst 1, 1) := by decide +kernel
theorem dX12_readSource_45 : decode cX12_readSource 45 = .ok (.goto 30, 3) := by decide +kernel
theorem dX12_readSource_48 : decode cX12_readSource 48 = .ok (.aload_n 0, 1) := by decide +kernel
theorem dX12_readSource_49 : decode cX12_readSource 49 = .ok (.ldc 165, 2) := by decide +kernel
theorem dX12_readSource_51 : decode cX12_readSource 51 = .ok (.invokevirtual 117, 3) := by decide +kernel
theorem dX12_readSource_54 : decode cX12_readSource 54 = .ok (.ifCond .eq 7, 3) := by decide +kernel
theorem dX12_readSource_57 : decode cX12_readSource 57 = .ok (.iconst 2, 1) := by decide +kernel
theorem dX12_readSource_58 : decode cX12_readSource 58 = .ok (.goto 17, 3) := by decide +kernel
theorem dX12_readSource_61 : decode cX12_readSource 61 = .ok (.aload_n 0, 1) := by decide +kernel
theorem dX12_readSource_62 : decode cX12_readSource 62 = .ok (.ldc 167, 2) := by decide +kernel
theorem dX12_readSource_64 : decode cX12_readSource 64 = .ok (.invokevirtual 117, 3) := by decide +kernel
theorem dX12_readSource_67 : decode cX12_readSource 67 = .ok (.ifCond .eq 7, 3) := by decide +kernel
theorem dX12_readSource_70 : decode cX12_readSource 70 = .ok (.iconst 3, 1) := by decide +kernel
theorem dX12_readSource_71 : decode cX12_readSource 71 = .ok (.goto 4, 3) := by decide +kernel
theorem dX12_readSource_74 : decode cX12_readSource 74 = .ok (.iconst (-1), 1) := by decide +kernel
theorem dX12_readSource_75 : decode cX12_readSource 75 = .ok (.istore_n 2, 1) := by decide +kernel
theorem dX12_readSource_76 : decode cX12_readSource 76 = .ok (.iload_n 2, 1) := by decide +kernel
theorem dX12_readSource_77 : decode cX12_readSource 77 = .ok (.iconst (-1), 1) := by decide +kernel
theorem dX12_readSource_78 : decode cX12_readSource 78 = .ok (.if_icmp .ne 8, 3) := by decide +kernel
theorem dX12_readSource_81 : decode cX12_readSource 81 = .ok (.aload_n 0, 1) := by decide +kernel
theorem dX12_readSource_82 : decode cX12_readSource 82 = .ok (.iconst 1, 1) := by decide +kernel
theorem dX12_readSource_83 : decode cX12_readSource 83 = .ok (.invokevirtual 127, 3) := by decide +kernel
theorem dX12_readSource_86 : decode cX12_readSource 86 = .ok (.aload_n 0, 1) := by decide +kernel
theorem dX12_readSource_87 : decode cX12_readSource 87 = .ok (.invokevirtual 121, 3) := by decide +kernel
theorem dX12_readSource_90 : decode cX12_readSource 90 = .ok (.aload_n 0, 1) := by decide +kernel
theorem dX12_readSource_91 : decode cX12_readSource 91 = .ok (.sipush (-2000), 3) := by decide +kernel
theorem dX12_readSource_94 : decode cX12_readSource 94 = .ok (.sipush 2000, 3) := by decide +kernel
theorem dX12_readSource_97 : decode cX12_readSource 97 = .ok (.invokevirtual 158, 3) := by decide +kernel
theorem dX12_readSource_100 : decode cX12_readSource 100 = .ok (.istore_n 3, 1) := by decide +kernel
theorem dX12_readSource_101 : decode cX12_readSource 101 = .ok (.aload_n 0, 1) := by decide +kernel
theorem dX12_readSource_102 : decode cX12_readSource 102 = .ok (.sipush (-2000), 3) := by decide +kernel
theorem dX12_readSource_105 : decode cX12_readSource 105 = .ok (.sipush 2000, 3) := by decide +kernel
theorem dX12_readSource_108 : decode cX12_readSource 108 = .ok (.invokevirtual 158, 3) := by decide +kernel
theorem dX12_readSource_111 : decode cX12_readSource 111 = .ok (.istore 4, 2) := by decide +kernel
theorem dX12_readSource_113 : decode cX12_readSource 113 = .ok (.aload_n 0, 1) := by decide +kernel
theorem dX12_readSource_114 : decode cX12_readSource 114 = .ok (.sipush (-999), 3) := by decide +kernel
theorem dX12_readSource_117 : decode cX12_readSource 117 = .ok (.sipush 999, 3) := by decide +kernel
theorem dX12_readSource_120 : decode cX12_readSource 120 = .ok (.invokevirtual 158, 3) := by decide +kernel
theorem dX12_readSource_123 : decode cX12_readSource 123 = .ok (.istore 5, 2) := by decide +kernel
theorem dX12_readSource_125 : decode cX12_readSource 125 = .ok (.aload_n 0, 1) := by decide +kernel
theorem dX12_readSource_126 : decode cX12_readSource 126 = .ok (.sipush (-999), 3) := by decide +kernel
theorem dX12_readSource_129 : decode cX12_readSource 129 = .ok (.sipush 999, 3) := by decide +kernel
theorem dX12_readSource_132 : decode cX12_readSource 132 = .ok (.invokevirtual 158, 3) := by decide +kernel
theorem dX12_readSource_135 : decode cX12_readSource 135 = .ok (.istore 6, 2) := by decide +kernel
theorem dX12_readSource_137 : decode cX12_readSource 137 = .ok (.aload_n 0, 1) := by decide +kernel
theorem dX12_readSource_138 : decode cX12_readSource 138 = .ok (.iconst 1, 1) := by decide +kernel
theorem dX12_readSource_139 : decode cX12_readSource 139 = .ok (.sipush 999, 3) := by decide +kernel
theorem dX12_readSource_142 : decode cX12_readSource 142 = .ok (.invokevirtual 138, 3) := by decide +kernel
theorem dX12_readSource_145 : decode cX12_readSource 145 = .ok (.istore 7, 2) := by decide +kernel
theorem dX12_readSource_147 : decode cX12_readSource 147 = .ok (.aload_n 0, 1) := by decide +kernel
theorem dX12_readSource_148 : decode cX12_readSource 148 = .ok (.iconst 2, 1) := by decide +kernel
theorem dX12_readSource_149 : decode cX12_readSource 149 = .ok (.bipush 99, 2) := by decide +kernel
theorem dX12_readSource_151 : decode cX12_readSource 151 = .ok (.invokevirtual 138, 3) := by decide +kernel
theorem dX12_readSource_154 : decode cX12_readSource 154 = .ok (.istore 8, 2) := by decide +kernel
theorem dX12_readSource_156 : decode cX12_readSource 156 = .ok (.aload_n 0, 1) := by decide +kernel
theorem dX12_readSource_157 : decode cX12_readSource 157 = .ok (.iconst 0, 1) := by decide +kernel
theorem dX12_readSource_158 : decode cX12_readSource 158 = .ok (.bipush 99, 2) := by decide +kernel
theorem dX12_readSource_160 : decode cX12_readSource 160 = .ok (.invokevirtual 138, 3) := by decide +kernel
theorem dX12_readSource_163 : decode cX12_readSource 163 = .ok (.istore 9, 2) := by decide +kernel
theorem dX12_readSource_165 : decode cX12_readSource 165 = .ok (.aload_n 0, 1) := by decide +kernel
theorem dX12_readSource_166 : decode cX12_readSource 166 = .ok (.ldc 169, 2) := by decide +kernel
theorem dX12_readSource_168 : decode cX12_readSource 168 = .ok (.invokevirtual 124, 3) := by decide +kernel
theorem dX12_readSource_171 : decode cX12_readSource 171 = .ok (.ifCond .eq 14, 3) := by decide +kernel
theorem dX12_readSource_174 : decode cX12_readSource 174 = .ok (.aload_n 0, 1) := by decide +kernel
theorem dX12_readSource_175 : decode cX12_readSource 175 = .ok (.iconst 0, 1) := by decide +kernel
theorem dX12_readSource_176 : decode cX12_readSource 176 = .ok (.sipush 199, 3) := by decide +kernel
theorem dX12_readSource_179 : decode cX12_readSource 179 = .ok (.invokevirtual 138, 3) := by decide +kernel
theorem dX12_readSource_182 : decode cX12_readSource 182 = .ok (.goto 4, 3) := by decide +kernel
theorem dX12_readSource_185 : decode cX12_readSource 185 = .ok (.iconst 0, 1) := by decide +kernel
theorem dX12_readSource_186 : decode cX12_readSource 186 = .ok (.istore 10, 2) := by decide +kernel
theorem dX12_readSource_188 : decode cX12_readSource 188 = .ok (.aload_n 0, 1) := by decide +kernel
theorem dX12_readSource_189 : decode cX12_readSource 189 = .ok (.getfield 77, 3) := by decide +kernel
theorem dX12_readSource_192 : decode cX12_readSource 192 = .ok (.ifCond .le 4, 3) := by decide +kernel
theorem dX12_readSource_195 : decode cX12_readSource 195 = .ok (.return_, 1) := by decide +kernel
theorem dX12_readSource_196 : decode cX12_readSource 196 = .ok (.aload_n 0, 1) := by decide +kernel
theorem dX12_readSource_197 : decode cX12_readSource 197 = .ok (.getfield 20, 3) := by decide +kernel
theorem dX12_readSource_200 : decode cX12_readSource 200 = .ok (.bipush 95, 2) := by decide +kernel
theorem dX12_readSource_202 : decode cX12_readSource 202 = .ok (.iload_n 1, 1) := by decide +kernel
theorem dX12_readSource_203 : decode cX12_readSource 203 = .ok (.iadd, 1) := by decide +kernel
theorem dX12_readSource_204 : decode cX12_readSource 204 = .ok (.iload 10, 2) := by decide +kernel
theorem dX12_readSource_206 : decode cX12_readSource 206 = .ok (.iastore, 1) := by decide +kernel
theorem dX12_readSource_207 : decode cX12_readSource 207 = .ok (.aload_n 0, 1) := by decide +kernel
theorem dX12_readSource_208 : decode cX12_readSource 208 = .ok (.getfield 26, 3) := by decide +kernel
theorem dX12_readSource_211 : decode cX12_readSource 211 = .ok (.bipush 25, 2) := by decide +kernel
theorem dX12_readSource_213 : decode cX12_readSource 213 = .ok (.iload_n 1, 1) := by decide +kernel
theorem dX12_readSource_214 : decode cX12_readSource 214 = .ok (.iadd, 1) := by decide +kernel
theorem dX12_readSource_215 : decode cX12_readSource 215 = .ok (.iconst 1, 1) := by decide +kernel
theorem dX12_readSource_216 : decode cX12_readSource 216 = .ok (.iastore, 1) := by decide +kernel
theorem dX12_readSource_217 : decode cX12_readSource 217 = .ok (.aload_n 0, 1) := by decide +kernel
theorem dX12_readSource_218 : decode cX12_readSource 218 = .ok (.getfield 26, 3) := by decide +kernel
theorem dX12_readSource_221 : decode cX12_readSource 221 = .ok (.bipush 31, 2) := by decide +kernel
theorem dX12_readSource_223 : decode cX12_readSource 223 = .ok (.iload_n 1, 1) := by decide +kernel
theorem dX12_readSource_224 : decode cX12_readSource 224 = .ok (.iadd, 1) := by decide +kernel
theorem dX12_readSource_225 : decode cX12_readSource 225 = .ok (.iload_n 3, 1) := by decide +kernel
theorem dX12_readSource_226 : decode cX12_readSource 226 = .ok (.iastore, 1) := by decide +kernel
theorem dX12_readSource_227 : decode cX12_readSource 227 = .ok (.aload_n 0, 1) := by decide +kernel
theorem dX12_readSource_228 : decode cX12_readSource 228 = .ok (.getfield 26, 3) := by decide +kernel
theorem dX12_readSource_231 : decode cX12_readSource 231 = .ok (.bipush 37, 2) := by decide +kernel
theorem dX12_readSource_233 : decode cX12_readSource 233 = .ok (.iload_n 1, 1) := by decide +kernel
theorem dX12_readSource_234 : decode cX12_readSource 234 = .ok (.iadd, 1) := by decide +kernel
theorem dX12_readSource_235 : decode cX12_readSource 235 = .ok (.iload 4, 2) := by decide +kernel
theorem dX12_readSource_237 : decode cX12_readSource 237 = .ok (.iastore, 1) := by decide +kernel
theorem dX12_readSource_238 : decode cX12_readSource 238 = .ok (.aload_n 0, 1) := by decide +kernel
theorem dX12_readSource_239 : decode cX12_readSource 239 = .ok (.getfield 26, 3) := by decide +kernel
theorem dX12_readSource_242 : decode cX12_readSource 242 = .ok (.bipush 43, 2) := by decide +kernel
theorem dX12_readSource_244 : decode cX12_readSource 244 = .ok (.iload_n 1, 1) := by decide +kernel
theorem dX12_readSource_245 : decode cX12_readSource 245 = .ok (.iadd, 1) := by decide +kernel
theorem dX12_readSource_246 : decode cX12_readSource 246 = .ok (.iload 5, 2) := by decide +kernel
theorem dX12_readSource_248 : decode cX12_readSource 248 = .ok (.iastore, 1) := by decide +kernel
theorem dX12_readSource_249 : decode cX12_readSource 249 = .ok (.aload_n 0, 1) := by decide +kernel
theorem dX12_readSource_250 : decode cX12_readSource 250 = .ok (.getfield 26, 3) := by decide +kernel
theorem dX12_readSource_253 : decode cX12_readSource 253 = .ok (.bipush 49, 2) := by decide +kernel
theorem dX12_readSource_255 : decode cX12_readSource 255 = .ok (.iload_n 1, 1) := by decide +kernel
theorem dX12_readSource_256 : decode cX12_readSource 256 = .ok (.iadd, 1) := by decide +kernel
theorem dX12_readSource_257 : decode cX12_readSource 257 = .ok (.iload 6, 2) := by decide +kernel
theorem dX12_readSource_259 : decode cX12_readSource 259 = .ok (.iastore, 1) := by decide +kernel
theorem dX12_readSource_260 : decode cX12_readSource 260 = .ok (.aload_n 0, 1) := by decide +kernel
theorem dX12_readSource_261 : decode cX12_readSource 261 = .ok (.getfield 20, 3) := by decide +kernel
theorem dX12_readSource_264 : decode cX12_readSource 264 = .ok (.bipush 47, 2) := by decide +kernel
theorem dX12_readSource_266 : decode cX12_readSource 266 = .ok (.iload_n 1, 1) := by decide +kernel
theorem dX12_readSource_267 : decode cX12_readSource 267 = .ok (.iadd, 1) := by decide +kernel
theorem dX12_readSource_268 : decode cX12_readSource 268 = .ok (.iload_n 2, 1) := by decide +kernel
theorem dX12_readSource_269 : decode cX12_readSource 269 = .ok (.iastore, 1) := by decide +kernel
theorem dX12_readSource_270 : decode cX12_readSource 270 = .ok (.aload_n 0, 1) := by decide +kernel
theorem dX12_readSource_271 : decode cX12_readSource 271 = .ok (.getfield 20, 3) := by decide +kernel
theorem dX12_readSource_274 : decode cX12_readSource 274 = .ok (.bipush 53, 2) := by decide +kernel
theorem dX12_readSource_276 : decode cX12_readSource 276 = .ok (.iload_n 1, 1) := by decide +kernel
theorem dX12_readSource_277 : decode cX12_readSource 277 = .ok (.iadd, 1) := by decide +kernel
theorem dX12_readSource_278 : decode cX12_readSource 278 = .ok (.iload 7, 2) := by decide +kernel
theorem dX12_readSource_280 : decode cX12_readSource 280 = .ok (.iastore, 1) := by decide +kernel
theorem dX12_readSource_281 : decode cX12_readSource 281 = .ok (.aload_n 0, 1) := by decide +kernel
theorem dX12_readSource_282 : decode cX12_readSource 282 = .ok (.getfield 20, 3) := by decide +kernel
theorem dX12_readSource_285 : decode cX12_readSource 285 = .ok (.bipush 59, 2) := by decide +kernel
theorem dX12_readSource_287 : decode cX12_readSource 287 = .ok (.iload_n 1, 1) := by decide +kernel
theorem dX12_readSource_288 : decode cX12_readSource 288 = .ok (.iadd, 1) := by decide +kernel
theorem dX12_readSource_289 : decode cX12_readSource 289 = .ok (.iload 8, 2) := by decide +kernel
theorem dX12_readSource_291 : decode cX12_readSource 291 = .ok (.iastore, 1) := by decide +kernel
theorem dX12_readSource_292 : decode cX12_readSource 292 = .ok (.aload_n 0, 1) := by decide +kernel
theorem dX12_readSource_293 : decode cX12_readSource 293 = .ok (.getfield 20, 3) := by decide +kernel
theorem dX12_readSource_296 : decode cX12_readSource 296 = .ok (.bipush 65, 2) := by decide +kernel
theorem dX12_readSource_298 : decode cX12_readSource 298 = .ok (.iload_n 1, 1) := by decide +kernel
theorem dX12_readSource_299 : decode cX12_readSource 299 = .ok (.iadd, 1) := by decide +kernel
theorem dX12_readSource_300 : decode cX12_readSource 300 = .ok (.iload 9, 2) := by decide +kernel
theorem dX12_readSource_302 : decode cX12_readSource 302 = .ok (.iastore, 1) := by decide +kernel
theorem dX12_readSource_303 : decode cX12_readSource 303 = .ok (.aload_n 0, 1) := by decide +kernel
theorem dX12_readSource_304 : decode cX12_readSource 304 = .ok (.getfield 20, 3) := by decide +kernel
theorem dX12_readSource_307 : decode cX12_readSource 307 = .ok (.iconst 5, 1) := by decide +kernel
theorem dX12_readSource_308 : decode cX12_readSource 308 = .ok (.dup2, 1) := by decide +kernel
theorem dX12_readSource_309 : decode cX12_readSource 309 = .ok (.iaload, 1) := by decide +kernel
theorem dX12_readSource_310 : decode cX12_readSource 310 = .ok (.iconst 1, 1) := by decide +kernel
theorem dX12_readSource_311 : decode cX12_readSource 311 = .ok (.iadd, 1) := by decide +kernel
theorem dX12_readSource_312 : decode cX12_readSource 312 = .ok (.iastore, 1) := by decide +kernel
theorem dX12_readSource_313 : decode cX12_readSource 313 = .ok (.return_, 1) := by decide +kernel
theorem dX12_readWall_0 : decode cX12_readWall 0 = .ok (.aload_n 0, 1) := by decide +kernel
theorem dX12_readWall_1 : decode cX12_readWall 1 = .ok (.getfield 20, 3) := by decide +kernel
theorem dX12_readWall_4 : decode cX12_readWall 4 = .ok (.bipush 71, 2) := by decide +kernel
theorem dX12_readWall_6 : decode cX12_readWall 6 = .ok (.iaload, 1) := by decide +kernel
theorem dX12_readWall_7 : decode cX12_readWall 7 = .ok (.istore_n 1, 1) := by decide +kernel
theorem dX12_readWall_8 : decode cX12_readWall 8 = .ok (.iload_n 1, 1) := by decide +kernel
theorem dX12_readWall_9 : decode cX12_readWall 9 = .ok (.iconst 2, 1) := by decide +kernel
theorem dX12_readWall_10 : decode cX12_readWall 10 = .ok (.if_icmp .ne 8, 3) := by decide +kernel
theorem dX12_readWall_13 : decode cX12_readWall 13 = .ok (.aload_n 0, 1) := by decide +kernel
theorem dX12_readWall_14 : decode cX12_readWall 14 = .ok (.iconst 4, 1) := by decide +kernel
theorem dX12_readWall_15 : decode cX12_readWall 15 = .ok (.invokevirtual 127, 3) := by decide +kernel
theorem dX12_readWall_18 : decode cX12_readWall 18 = .ok (.aload_n 0, 1) := by decide +kernel
theorem dX12_readWall_19 : decode cX12_readWall 19 = .ok (.invokevirtual 121, 3) := by decide +kernel
theorem dX12_readWall_22 : decode cX12_readWall 22 = .ok (.aload_n 0, 1) := by decide +kernel
theorem dX12_readWall_23 : decode cX12_readWall 23 = .ok (.sipush (-2000), 3) := by decide +kernel
theorem dX12_readWall_26 : decode cX12_readWall 26 = .ok (.sipush 2000, 3) := by decide +kernel
theorem dX12_readWall_29 : decode cX12_readWall 29 = .ok (.invokevirtual 158, 3) := by decide +kernel
theorem dX12_readWall_32 : decode cX12_readWall 32 = .ok (.istore_n 2, 1) := by decide +kernel
theorem dX12_readWall_33 : decode cX12_readWall 33 = .ok (.aload_n 0, 1) := by decide +kernel
theorem dX12_readWall_34 : decode cX12_readWall 34 = .ok (.iconst 1, 1) := by decide +kernel
theorem dX12_readWall_35 : decode cX12_readWall 35 = .ok (.bipush 100, 2) := by decide +kernel
theorem dX12_readWall_37 : decode cX12_readWall 37 = .ok (.invokevirtual 138, 3) := by decide +kernel
theorem dX12_readWall_40 : decode cX12_readWall 40 = .ok (.istore_n 3, 1) := by decide +kernel
theorem dX12_readWall_41 : decode cX12_readWall 41 = .ok (.aload_n 0, 1) := by decide +kernel
theorem dX12_readWall_42 : decode cX12_readWall 42 = .ok (.getfield 77, 3) := by decide +kernel
theorem dX12_readWall_45 : decode cX12_readWall 45 = .ok (.ifCond .le 4, 3) := by decide +kernel
theorem dX12_readWall_48 : decode cX12_readWall 48 = .ok (.return_, 1) := by decide +kernel
theorem dX12_readWall_49 : decode cX12_readWall 49 = .ok (.aload_n 0, 1) := by decide +kernel
theorem dX12_readWall_50 : decode cX12_readWall 50 = .ok (.getfield 20, 3) := by decide +kernel
theorem dX12_readWall_53 : decode cX12_readWall 53 = .ok (.bipush 72, 2) := by decide +kernel
theorem dX12_readWall_55 : decode cX12_readWall 55 = .ok (.iload_n 1, 1) := by decide +kernel
theorem dX12_readWall_56 : decode cX12_readWall 56 = .ok (.iadd, 1) := by decide +kernel
theorem dX12_readWall_57 : decode cX12_readWall 57 = .ok (.iload_n 2, 1) := by decide +kernel
theorem dX12_readWall_58 : decode cX12_readWall 58 = .ok (.iastore, 1) := by decide +kernel
theorem dX12_readWall_59 : decode cX12_readWall 59 = .ok (.aload_n 0, 1) := by decide +kernel
theorem dX12_readWall_60 : decode cX12_readWall 60 = .ok (.getfield 20, 3) := by decide +kernel
theorem dX12_readWall_63 : decode cX12_readWall 63 = .ok (.bipush 74, 2) := by decide +kernel
theorem dX12_readWall_65 : decode cX12_readWall 65 = .ok (.iload_n 1, 1) := by decide +kernel
theorem dX12_readWall_66 : decode cX12_readWall 66 = .ok (.iadd, 1) := by decide +kernel
theorem dX12_readWall_67 : decode cX12_readWall 67 = .ok (.iload_n 3, 1) := by decide +kernel
theorem dX12_readWall_68 : decode cX12_readWall 68 = .ok (.iastore, 1) := by decide +kernel
theorem dX12_readWall_69 : decode cX12_readWall 69 = .ok (.aload_n 0, 1) := by decide +kernel
theorem dX12_readWall_70 : decode cX12_readWall 70 = .ok (.getfield 20, 3) := by decide +kernel
theorem dX12_readWall_73 : decode cX12_readWall 73 = .ok (.bipush 71, 2) := by decide +kernel
theorem dX12_readWall_75 : decode cX12_readWall 75 = .ok (.dup2, 1) := by decide +kernel
theorem dX12_readWall_76 : decode cX12_readWall 76 = .ok (.iaload, 1) := by decide +kernel
theorem dX12_readWall_77 : decode cX12_readWall 77 = .ok (.iconst 1, 1) := by decide +kernel
theorem dX12_readWall_78 : decode cX12_readWall 78 = .ok (.iadd, 1) := by decide +kernel
theorem dX12_readWall_79 : decode cX12_readWall 79 = .ok (.iastore, 1) := by decide +kernel
theorem dX12_readWall_80 : decode cX12_readWall 80 = .ok (.return_, 1) := by decide +kernel
theorem dX12_readFade_0 : decode cX12_readFade 0 = .ok (.aload_n 0, 1) := by decide +kernel
theorem dX12_readFade_1 : decode cX12_readFade 1 = .ok (.getfield 20, 3) := by decide +kernel
theorem dX12_readFade_4 : decode cX12_readFade 4 = .ok (.bipush 76, 2) := by decide +kernel
theorem dX12_readFade_6 : decode cX12_readFade 6 = .ok (.iaload, 1) := by decide +kernel
theorem dX12_readFade_7 : decode cX12_readFade 7 = .ok (.ifCond .le 8, 3) := by decide +kernel
theorem dX12_readFade_10 : decode cX12_readFade 10 = .ok (.aload_n 0, 1) := by decide +kernel
theorem dX12_readFade_11 : decode cX12_readFade 11 = .ok (.iconst 3, 1) := by decide +kernel
theorem dX12_readFade_12 : decode cX12_readFade 12 = .ok (.invokevirtual 127, 3) := by decide +kernel
theorem dX12_readFade_15 : decode cX12_readFade 15 = .ok (.aload_n 0, 1) := by decide +kernel
theorem dX12_readFade_16 : decode cX12_readFade 16 = .ok (.invokevirtual 121, 3) := by decide +kernel
theorem dX12_readFade_19 : decode cX12_readFade 19 = .ok (.aload_n 0, 1) := by decide +kernel
theorem dX12_readFade_20 : decode cX12_readFade 20 = .ok (.iconst 1, 1) := by decide +kernel
theorem dX12_readFade_21 : decode cX12_readFade 21 = .ok (.sipush 999, 3) := by decide +kernel
theorem dX12_readFade_24 : decode cX12_readFade 24 = .ok (.invokevirtual 138, 3) := by decide +kernel
theorem dX12_readFade_27 : decode cX12_readFade 27 = .ok (.istore_n 1, 1) := by decide +kernel
theorem dX12_readFade_28 : decode cX12_readFade 28 = .ok (.aload_n 0, 1) := by decide +kernel
theorem dX12_readFade_29 : decode cX12_readFade 29 = .ok (.getfield 77, 3) := by decide +kernel
theorem dX12_readFade_32 : decode cX12_readFade 32 = .ok (.ifCond .ne 11, 3) := by decide +kernel
theorem dX12_readFade_35 : decode cX12_readFade 35 = .ok (.aload_n 0, 1) := by decide +kernel
theorem dX12_readFade_36 : decode cX12_readFade 36 = .ok (.getfield 20, 3) := by decide +kernel
theorem dX12_readFade_39 : decode cX12_readFade 39 = .ok (.bipush 76, 2) := by decide +kernel
theorem dX12_readFade_41 : decode cX12_readFade 41 = .ok (.iload_n 1, 1) := by decide +kernel
theorem dX12_readFade_42 : decode cX12_readFade 42 = .ok (.iastore, 1) := by decide +kernel
theorem dX12_readFade_43 : decode cX12_readFade 43 = .ok (.return_, 1) := by decide +kernel
theorem dX12_readFilter_0 : decode cX12_readFilter 0 = .ok (.aload_n 0, 1) := by decide +kernel
theorem dX12_readFilter_1 : decode cX12_readFilter 1 = .ok (.getfield 20, 3) := by decide +kernel
theorem dX12_readFilter_4 : decode cX12_readFilter 4 = .ok (.bipush 77, 2) := by decide +kernel
theorem dX12_readFilter_6 : decode cX12_readFilter 6 = .ok (.iaload, 1) := by decide +kernel
theorem dX12_readFilter_7 : decode cX12_readFilter 7 = .ok (.ifCond .le 8, 3) := by decide +kernel
theorem dX12_readFilter_10 : decode cX12_readFilter 10 = .ok (.aload_n 0, 1) := by decide +kernel
theorem dX12_readFilter_11 : decode cX12_readFilter 11 = .ok (.iconst 3, 1) := by decide +kernel
theorem dX12_readFilter_12 : decode cX12_readFilter 12 = .ok (.invokevirtual 127, 3) := by decide +kernel
theorem dX12_readFilter_15 : decode cX12_readFilter 15 = .ok (.aload_n 0, 1) := by decide +kernel
theorem dX12_readFilter_16 : decode cX12_readFilter 16 = .ok (.invokevirtual 121, 3) := by decide +kernel
theorem dX12_readFilter_19 : decode cX12_readFilter 19 = .ok (.aload_n 0, 1) := by decide +kernel
theorem dX12_readFilter_20 : decode cX12_readFilter 20 = .ok (.getfield 20, 3) := by decide +kernel
theorem dX12_readFilter_23 : decode cX12_readFilter 23 = .ok (.bipush 77, 2) := by decide +kernel
theorem dX12_readFilter_25 : decode cX12_readFilter 25 = .ok (.iaload, 1) := by decide +kernel
theorem dX12_readFilter_26 : decode cX12_readFilter 26 = .ok (.iconst 5, 1) := by decide +kernel
theorem dX12_readFilter_27 : decode cX12_readFilter 27 = .ok (.if_icmp .ne 7, 3) := by decide +kernel
theorem dX12_readFilter_30 : decode cX12_readFilter 30 = .ok (.iconst 1, 1) := by decide +kernel
theorem dX12_readFilter_31 : decode cX12_readFilter 31 = .ok (.goto 4, 3) := by decide +kernel
theorem dX12_readFilter_34 : decode cX12_readFilter 34 = .ok (.iconst 0, 1) := by decide +kernel
theorem dX12_readFilter_35 : decode cX12_readFilter 35 = .ok (.istore_n 1, 1) := by decide +kernel
theorem dX12_readFilter_36 : decode cX12_readFilter 36 = .ok (.iload_n 1, 1) := by decide +kernel
theorem dX12_readFilter_37 : decode cX12_readFilter 37 = .ok (.ifCond .eq 19, 3) := by decide +kernel
theorem dX12_readFilter_40 : decode cX12_readFilter 40 = .ok (.aload_n 0, 1) := by decide +kernel
theorem dX12_readFilter_41 : decode cX12_readFilter 41 = .ok (.getfield 93, 3) := by decide +kernel
theorem dX12_readFilter_44 : decode cX12_readFilter 44 = .ok (.iconst 3, 1) := by decide +kernel
theorem dX12_readFilter_45 : decode cX12_readFilter 45 = .ok (.if_icmp .ne 11, 3) := by decide +kernel
theorem dX12_readFilter_48 : decode cX12_readFilter 48 = .ok (.aload_n 0, 1) := by decide +kernel
theorem dX12_readFilter_49 : decode cX12_readFilter 49 = .ok (.iconst 0, 1) := by decide +kernel
theorem dX12_readFilter_50 : decode cX12_readFilter 50 = .ok (.bipush 9, 2) := by decide +kernel
theorem dX12_readFilter_52 : decode cX12_readFilter 52 = .ok (.invokevirtual 130, 3) := by decide +kernel
theorem dX12_readFilter_55 : decode cX12_readFilter 55 = .ok (.pop, 1) := by decide +kernel
theorem dX12_readFilter_56 : decode cX12_readFilter 56 = .ok (.iload_n 1, 1) := by decide +kernel
theorem dX12_readFilter_57 : decode cX12_readFilter 57 = .ok (.ifCond .eq 8, 3) := by decide +kernel
theorem dX12_readFilter_60 : decode cX12_readFilter 60 = .ok (.aload_n 0, 1) := by decide +kernel
theorem dX12_readFilter_61 : decode cX12_readFilter 61 = .ok (.iconst 4, 1) := by decide +kernel
theorem dX12_readFilter_62 : decode cX12_readFilter 62 = .ok (.invokevirtual 127, 3) := by decide +kernel
theorem dX12_readFilter_65 : decode cX12_readFilter 65 = .ok (.aload_n 0, 1) := by decide +kernel
theorem dX12_readFilter_66 : decode cX12_readFilter 66 = .ok (.bipush (-9), 2) := by decide +kernel
theorem dX12_readFilter_68 : decode cX12_readFilter 68 = .ok (.bipush 9, 2) := by decide +kernel
theorem dX12_readFilter_70 : decode cX12_readFilter 70 = .ok (.invokevirtual 158, 3) := by decide +kernel
theorem dX12_readFilter_73 : decode cX12_readFilter 73 = .ok (.istore_n 2, 1) := by decide +kernel
theorem dX12_readFilter_74 : decode cX12_readFilter 74 = .ok (.aload_n 0, 1) := by decide +kernel
theorem dX12_readFilter_75 : decode cX12_readFilter 75 = .ok (.getfield 77, 3) := by decide +kernel
theorem dX12_readFilter_78 : decode cX12_readFilter 78 = .ok (.ifCond .le 4, 3) := by decide +kernel
theorem dX12_readFilter_81 : decode cX12_readFilter 81 = .ok (.return_, 1) := by decide +kernel
theorem dX12_readFilter_82 : decode cX12_readFilter 82 = .ok (.aload_n 0, 1) := by decide +kernel
theorem dX12_readFilter_83 : decode cX12_readFilter 83 = .ok (.getfield 20, 3) := by decide +kernel
theorem dX12_readFilter_86 : decode cX12_readFilter 86 = .ok (.bipush 78, 2) := by decide +kernel
theorem dX12_readFilter_88 : decode cX12_readFilter 88 = .ok (.aload_n 0, 1) := by decide +kernel
theorem dX12_readFilter_89 : decode cX12_readFilter 89 = .ok (.getfield 20, 3) := by decide +kernel
theorem dX12_readFilter_92 : decode cX12_readFilter 92 = .ok (.bipush 77, 2) := by decide +kernel
theorem dX12_readFilter_94 : decode cX12_readFilter 94 = .ok (.iaload, 1) := by decide +kernel
theorem dX12_readFilter_95 : decode cX12_readFilter 95 = .ok (.iadd, 1) := by decide +kernel
theorem dX12_readFilter_96 : decode cX12_readFilter 96 = .ok (.iload_n 2, 1) := by decide +kernel
theorem dX12_readFilter_97 : decode cX12_readFilter 97 = .ok (.iastore, 1) := by decide +kernel
theorem dX12_readFilter_98 : decode cX12_readFilter 98 = .ok (.aload_n 0, 1) := by decide +kernel
theorem dX12_readFilter_99 : decode cX12_readFilter 99 = .ok (.getfield 20, 3) := by decide +kernel
theorem dX12_readFilter_102 : decode cX12_readFilter 102 = .ok (.bipush 77, 2) := by decide +kernel
theorem dX12_readFilter_104 : decode cX12_readFilter 104 = .ok (.dup2, 1) := by decide +kernel
theorem dX12_readFilter_105 : decode cX12_readFilter 105 = .ok (.iaload, 1) := by decide +kernel
theorem dX12_readFilter_106 : decode cX12_readFilter 106 = .ok (.iconst 1, 1) := by decide +kernel
theorem dX12_readFilter_107 : decode cX12_readFilter 107 = .ok (.iadd, 1) := by decide +kernel
theorem dX12_readFilter_108 : decode cX12_readFilter 108 = .ok (.iastore, 1) := by decide +kernel
theorem dX12_readFilter_109 : decode cX12_readFilter 109 = .ok (.aload_n 0, 1) := by decide +kernel
theorem dX12_readFilter_110 : decode cX12_readFilter 110 = .ok (.getfield 93, 3) := by decide +kernel
theorem dX12_readFilter_113 : decode cX12_readFilter 113 = .ok (.iconst 3, 1) := by decide +kernel
theorem dX12_readFilter_114 : decode cX12_readFilter 114 = .ok (.if_icmp .eq (-95), 3) := by decide +kernel
theorem dX12_readFilter_117 : decode cX12_readFilter 117 = .ok (.aload_n 0, 1) := by decide +kernel
theorem dX12_readFilter_118 : decode cX12_readFilter 118 = .ok (.bipush 45, 2) := by decide +kernel
theorem dX12_readFilter_120 : decode cX12_readFilter 120 = .ok (.invokevirtual 141, 3) := by decide +kernel
theorem dX12_readFilter_123 : decode cX12_readFilter 123 = .ok (.ifCond .ne (-104), 3) := by decide +kernel
theorem dX12_readFilter_126 : decode cX12_readFilter 126 = .ok (.return_, 1) := by decide +kernel
theorem dX12_readClock_0 : decode cX12_readClock 0 = .ok (.aload_n 0, 1) := by decide +kernel
theorem dX12_readClock_1 : decode cX12_readClock 1 = .ok (.invokevirtual 121, 3) := by decide +kernel
theorem dX12_readClock_4 : decode cX12_readClock 4 = .ok (.aload_n 0, 1) := by decide +kernel
theorem dX12_readClock_5 : decode cX12_readClock 5 = .ok (.iconst 0, 1) := by decide +kernel
theorem dX12_readClock_6 : decode cX12_readClock 6 = .ok (.aload_n 0, 1) := by decide +kernel
theorem dX12_readClock_7 : decode cX12_readClock 7 = .ok (.getfield 20, 3) := by decide +kernel
theorem dX12_readClock_10 : decode cX12_readClock 10 = .ok (.iconst 4, 1) := by decide +kernel
theorem dX12_readClock_11 : decode cX12_readClock 11 = .ok (.iaload, 1) := by decide +kernel
theorem dX12_readClock_12 : decode cX12_readClock 12 = .ok (.iconst 1, 1) := by decide +kernel
theorem dX12_readClock_13 : decode cX12_readClock 13 = .ok (.isub, 1) := by decide +kernel
theorem dX12_readClock_14 : decode cX12_readClock 14 = .ok (.invokevirtual 130, 3) := by decide +kernel
theorem dX12_readClock_17 : decode cX12_readClock 17 = .ok (.istore_n 1, 1) := by decide +kernel
theorem dX12_readClock_18 : decode cX12_readClock 18 = .ok (.aload_n 0, 1) := by decide +kernel
theorem dX12_readClock_19 : decode cX12_readClock 19 = .ok (.getfield 77, 3) := by decide +kernel
theorem dX12_readClock_22 : decode cX12_readClock 22 = .ok (.ifCond .ne 20, 3) := by decide +kernel
theorem dX12_readClock_25 : decode cX12_readClock 25 = .ok (.aload_n 0, 1) := by decide +kernel
theorem dX12_readClock_26 : decode cX12_readClock 26 = .ok (.getfield 20, 3) := by decide +kernel
theorem dX12_readClock_29 : decode cX12_readClock 29 = .ok (.bipush 83, 2) := by decide +kernel
theorem dX12_readClock_31 : decode cX12_readClock 31 = .ok (.iload_n 1, 1) := by decide +kernel
theorem dX12_readClock_32 : decode cX12_readClock 32 = .ok (.iadd, 1) := by decide +kernel
theorem dX12_readClock_33 : decode cX12_readClock 33 = .ok (.iaload, 1) := by decide +kernel
theorem dX12_readClock_34 : decode cX12_readClock 34 = .ok (.ifCond .le 8, 3) := by decide +kernel
theorem dX12_readClock_37 : decode cX12_readClock 37 = .ok (.aload_n 0, 1) := by decide +kernel
theorem dX12_readClock_38 : decode cX12_readClock 38 = .ok (.iconst 3, 1) := by decide +kernel
theorem dX12_readClock_39 : decode cX12_readClock 39 = .ok (.invokevirtual 127, 3) := by decide +kernel
theorem dX12_readClock_42 : decode cX12_readClock 42 = .ok (.aload_n 0, 1) := by decide +kernel
theorem dX12_readClock_43 : decode cX12_readClock 43 = .ok (.invokevirtual 121, 3) := by decide +kernel
theorem dX12_readClock_46 : decode cX12_readClock 46 = .ok (.aload_n 0, 1) := by decide +kernel
theorem dX12_readClock_47 : decode cX12_readClock 47 = .ok (.iconst 1, 1) := by decide +kernel
theorem dX12_readClock_48 : decode cX12_readClock 48 = .ok (.bipush 31, 2) := by decide +kernel
theorem dX12_readClock_50 : decode cX12_readClock 50 = .ok (.invokevirtual 138, 3) := by decide +kernel
theorem dX12_readClock_53 : decode cX12_readClock 53 = .ok (.istore_n 2, 1) := by decide +kernel
theorem dX12_readClock_54 : decode cX12_readClock 54 = .ok (.aload_n 0, 1) := by decide +kernel
theorem dX12_readClock_55 : decode cX12_readClock 55 = .ok (.getfield 77, 3) := by decide +kernel
theorem dX12_readClock_58 : decode cX12_readClock 58 = .ok (.ifCond .ne 13, 3) := by decide +kernel
theorem dX12_readClock_61 : decode cX12_readClock 61 = .ok (.aload_n 0, 1) := by decide +kernel
theorem dX12_readClock_62 : decode cX12_readClock 62 = .ok (.getfield 20, 3) := by decide +kernel
theorem dX12_readClock_65 : decode cX12_readClock 65 = .ok (.bipush 83, 2) := by decide +kernel
theorem dX12_readClock_67 : decode cX12_readClock 67 = .ok (.iload_n 1, 1) := by decide +kernel
theorem dX12_readClock_68 : decode cX12_readClock 68 = .ok (.iadd, 1) := by decide +kernel
theorem dX12_readClock_69 : decode cX12_readClock 69 = .ok (.iload_n 2, 1) := by decide +kernel
theorem dX12_readClock_70 : decode cX12_readClock 70 = .ok (.iastore, 1) := by decide +kernel
theorem dX12_readClock_71 : decode cX12_readClock 71 = .ok (.return_, 1) := by decide +kernel
theorem dX12_readShade_0 : decode cX12_readShade 0 = .ok (.aload_n 0, 1) := by decide +kernel
theorem dX12_readShade_1 : decode cX12_readShade 1 = .ok (.getfield 20, 3) := by decide +kernel
theorem dX12_readShade_4 : decode cX12_readShade 4 = .ok (.bipush 118, 2) := by decide +kernel
theorem dX12_readShade_6 : decode cX12_readShade 6 = .ok (.iaload, 1) := by decide +kernel
theorem dX12_readShade_7 : decode cX12_readShade 7 = .ok (.ifCond .le 8, 3) := by decide +kernel
theorem dX12_readShade_10 : decode cX12_readShade 10 = .ok (.aload_n 0, 1) := by decide +kernel
theorem dX12_readShade_11 : decode cX12_readShade 11 = .ok (.iconst 3, 1) := by decide +kernel
theorem dX12_readShade_12 : decode cX12_readShade 12 = .ok (.invokevirtual 127, 3) := by decide +kernel
theorem dX12_readShade_15 : decode cX12_readShade 15 = .ok (.aload_n 0, 1) := by decide +kernel
theorem dX12_readShade_16 : decode cX12_readShade 16 = .ok (.invokevirtual 121, 3) := by decide +kernel
theorem dX12_readShade_19 : decode cX12_readShade 19 = .ok (.aload_n 0, 1) := by decide +kernel
theorem dX12_readShade_20 : decode cX12_readShade 20 = .ok (.iconst 0, 1) := by decide +kernel
theorem dX12_readShade_21 : decode cX12_readShade 21 = .ok (.bipush 9, 2) := by decide +kernel
theorem dX12_readShade_23 : decode cX12_readShade 23 = .ok (.invokevirtual 130, 3) := by decide +kernel
theorem dX12_readShade_26 : decode cX12_readShade 26 = .ok (.istore_n 1, 1) := by decide +kernel
theorem dX12_readShade_27 : decode cX12_readShade 27 = .ok (.aload_n 0, 1) := by decide +kernel
theorem dX12_readShade_28 : decode cX12_readShade 28 = .ok (.getfield 20, 3) := by decide +kernel
theorem dX12_readShade_31 : decode cX12_readShade 31 = .ok (.bipush 118, 2) := by decide +kernel
theorem dX12_readShade_33 : decode cX12_readShade 33 = .ok (.iaload, 1) := by decide +kernel
theorem dX12_readShade_34 : decode cX12_readShade 34 = .ok (.bipush 12, 2) := by decide +kernel
theorem dX12_readShade_36 : decode cX12_readShade 36 = .ok (.if_icmp .ne 8, 3) := by decide +kernel
theorem dX12_readShade_39 : decode cX12_readShade 39 = .ok (.aload_n 0, 1) := by decide +kernel
theorem dX12_readShade_40 : decode cX12_readShade 40 = .ok (.iconst 4, 1) := by decide +kernel
theorem dX12_readShade_41 : decode cX12_readShade 41 = .ok (.invokevirtual 127, 3) := by decide +kernel
theorem dX12_readShade_44 : decode cX12_readShade 44 = .ok (.aload_n 0, 1) := by decide +kernel
theorem dX12_readShade_45 : decode cX12_readShade 45 = .ok (.invokevirtual 121, 3) := by decide +kernel
theorem dX12_readShade_48 : decode cX12_readShade 48 = .ok (.aload_n 0, 1) := by decide +kernel
theorem dX12_readShade_49 : decode cX12_readShade 49 = .ok (.getfield 77, 3) := by decide +kernel
theorem dX12_readShade_52 : decode cX12_readShade 52 = .ok (.ifCond .le 4, 3) := by decide +kernel
theorem dX12_readShade_55 : decode cX12_readShade 55 = .ok (.return_, 1) := by decide +kernel
theorem dX12_readShade_56 : decode cX12_readShade 56 = .ok (.aload_n 0, 1) := by decide +kernel
theorem dX12_readShade_57 : decode cX12_readShade 57 = .ok (.getfield 20, 3) := by decide +kernel
theorem dX12_readShade_60 : decode cX12_readShade 60 = .ok (.bipush 119, 2) := by decide +kernel
theorem dX12_readShade_62 : decode cX12_readShade 62 = .ok (.aload_n 0, 1) := by decide +kernel
theorem dX12_readShade_63 : decode cX12_readShade 63 = .ok (.getfield 20, 3) := by decide +kernel
theorem dX12_readShade_66 : decode cX12_readShade 66 = .ok (.bipush 118, 2) := by decide +kernel
theorem dX12_readShade_68 : decode cX12_readShade 68 = .ok (.iaload, 1) := by decide +kernel
theorem dX12_readShade_69 : decode cX12_readShade 69 = .ok (.iadd, 1) := by decide +kernel
theorem dX12_readShade_70 : decode cX12_readShade 70 = .ok (.iload_n 1, 1) := by decide +kernel
theorem dX12_readShade_71 : decode cX12_readShade 71 = .ok (.iastore, 1) := by decide +kernel
theorem dX12_readShade_72 : decode cX12_readShade 72 = .ok (.aload_n 0, 1) := by decide +kernel
theorem dX12_readShade_73 : decode cX12_readShade 73 = .ok (.getfield 20, 3) := by decide +kernel
theorem dX12_readShade_76 : decode cX12_readShade 76 = .ok (.bipush 118, 2) := by decide +kernel
theorem dX12_readShade_78 : decode cX12_readShade 78 = .ok (.dup2, 1) := by decide +kernel
theorem dX12_readShade_79 : decode cX12_readShade 79 = .ok (.iaload, 1) := by decide +kernel
theorem dX12_readShade_80 : decode cX12_readShade 80 = .ok (.iconst 1, 1) := by decide +kernel
theorem dX12_readShade_81 : decode cX12_readShade 81 = .ok (.iadd, 1) := by decide +kernel
theorem dX12_readShade_82 : decode cX12_readShade 82 = .ok (.iastore, 1) := by decide +kernel
theorem dX12_readShade_83 : decode cX12_readShade 83 = .ok (.aload_n 0, 1) := by decide +kernel
theorem dX12_readShade_84 : decode cX12_readShade 84 = .ok (.getfield 93, 3) := by decide +kernel
theorem dX12_readShade_87 : decode cX12_readShade 87 = .ok (.iconst 3, 1) := by decide +kernel
theorem dX12_readShade_88 : decode cX12_readShade 88 = .ok (.if_icmp .eq (-69), 3) := by decide +kernel
theorem dX12_readShade_91 : decode cX12_readShade 91 = .ok (.return_, 1) := by decide +kernel
theorem dX12_readOff_0 : decode cX12_readOff 0 = .ok (.aload_n 0, 1) := by decide +kernel
theorem dX12_readOff_1 : decode cX12_readOff 1 = .ok (.invokevirtual 121, 3) := by decide +kernel
theorem dX12_readOff_4 : decode cX12_readOff 4 = .ok (.aload_n 0, 1) := by decide +kernel
theorem dX12_readOff_5 : decode cX12_readOff 5 = .ok (.iconst 0, 1) := by decide +kernel
theorem dX12_readOff_6 : decode cX12_readOff 6 = .ok (.aload_n 0, 1) := by decide +kernel
theorem dX12_readOff_7 : decode cX12_readOff 7 = .ok (.getfield 20, 3) := by decide +kernel
theorem dX12_readOff_10 : decode cX12_readOff 10 = .ok (.iconst 5, 1) := by decide +kernel
theorem dX12_readOff_11 : decode cX12_readOff 11 = .ok (.iaload, 1) := by decide +kernel
theorem dX12_readOff_12 : decode cX12_readOff 12 = .ok (.iconst 1, 1) := by decide +kernel
theorem dX12_readOff_13 : decode cX12_readOff 13 = .ok (.isub, 1) := by decide +kernel
theorem dX12_readOff_14 : decode cX12_readOff 14 = .ok (.invokevirtual 130, 3) := by decide +kernel
theorem dX12_readOff_17 : decode cX12_readOff 17 = .ok (.istore_n 1, 1) := by decide +kernel
theorem dX12_readOff_18 : decode cX12_readOff 18 = .ok (.aload_n 0, 1) := by decide +kernel
theorem dX12_readOff_19 : decode cX12_readOff 19 = .ok (.getfield 77, 3) := by decide +kernel
theorem dX12_readOff_22 : decode cX12_readOff 22 = .ok (.ifCond .ne 20, 3) := by decide +kernel
theorem dX12_readOff_25 : decode cX12_readOff 25 = .ok (.aload_n 0, 1) := by decide +kernel
theorem dX12_readOff_26 : decode cX12_readOff 26 = .ok (.getfield 26, 3) := by decide +kernel
theorem dX12_readOff_29 : decode cX12_readOff 29 = .ok (.bipush 25, 2) := by decide +kernel
theorem dX12_readOff_31 : decode cX12_readOff 31 = .ok (.iload_n 1, 1) := by decide +kernel
theorem dX12_readOff_32 : decode cX12_readOff 32 = .ok (.iadd, 1) := by decide +kernel
theorem dX12_readOff_33 : decode cX12_readOff 33 = .ok (.iaload, 1) := by decide +kernel
theorem dX12_readOff_34 : decode cX12_readOff 34 = .ok (.ifCond .ne 8, 3) := by decide +kernel
theorem dX12_readOff_37 : decode cX12_readOff 37 = .ok (.aload_n 0, 1) := by decide +kernel
theorem dX12_readOff_38 : decode cX12_readOff 38 = .ok (.iconst 3, 1) := by decide +kernel
theorem dX12_readOff_39 : decode cX12_readOff 39 = .ok (.invokevirtual 127, 3) := by decide +kernel
theorem dX12_readOff_42 : decode cX12_readOff 42 = .ok (.aload_n 0, 1) := by decide +kernel
theorem dX12_readOff_43 : decode cX12_readOff 43 = .ok (.invokevirtual 121, 3) := by decide +kernel
theorem dX12_readOff_46 : decode cX12_readOff 46 = .ok (.aload_n 0, 1) := by decide +kernel
theorem dX12_readOff_47 : decode cX12_readOff 47 = .ok (.getfield 77, 3) := by decide +kernel
theorem dX12_readOff_50 : decode cX12_readOff 50 = .ok (.ifCond .ne 13, 3) := by decide +kernel
theorem dX12_readOff_53 : decode cX12_readOff 53 = .ok (.aload_n 0, 1) := by decide +kernel
theorem dX12_readOff_54 : decode cX12_readOff 54 = .ok (.getfield 26, 3) := by decide +kernel
theorem dX12_readOff_57 : decode cX12_readOff 57 = .ok (.bipush 25, 2) := by decide +kernel
theorem dX12_readOff_59 : decode cX12_readOff 59 = .ok (.iload_n 1, 1) := by decide +kernel
theorem dX12_readOff_60 : decode cX12_readOff 60 = .ok (.iadd, 1) := by decide +kernel
theorem dX12_readOff_61 : decode cX12_readOff 61 = .ok (.iconst 0, 1) := by decide +kernel
theorem dX12_readOff_62 : decode cX12_readOff 62 = .ok (.iastore, 1) := by decide +kernel
theorem dX12_readOff_63 : decode cX12_readOff 63 = .ok (.return_, 1) := by decide +kernel
theorem dX12_readZone_0 : decode cX12_readZone 0 = .ok (.aload_n 0, 1) := by decide +kernel
theorem dX12_readZone_1 : decode cX12_readZone 1 = .ok (.getfield 20, 3) := by decide +kernel
theorem dX12_readZone_4 : decode cX12_readZone 4 = .ok (.bipush 101, 2) := by decide +kernel
theorem dX12_readZone_6 : decode cX12_readZone 6 = .ok (.iaload, 1) := by decide +kernel
theorem dX12_readZone_7 : decode cX12_readZone 7 = .ok (.istore_n 1, 1) := by decide +kernel
theorem dX12_readZone_8 : decode cX12_readZone 8 = .ok (.iload_n 1, 1) := by decide +kernel
theorem dX12_readZone_9 : decode cX12_readZone 9 = .ok (.iconst 4, 1) := by decide +kernel
theorem dX12_readZone_10 : decode cX12_readZone 10 = .ok (.if_icmp .ne 8, 3) := by decide +kernel
theorem dX12_readZone_13 : decode cX12_readZone 13 = .ok (.aload_n 0, 1) := by decide +kernel
theorem dX12_readZone_14 : decode cX12_readZone 14 = .ok (.iconst 4, 1) := by decide +kernel
theorem dX12_readZone_15 : decode cX12_readZone 15 = .ok (.invokevirtual 127, 3) := by decide +kernel
theorem dX12_readZone_18 : decode cX12_readZone 18 = .ok (.aload_n 0, 1) := by decide +kernel
theorem dX12_readZone_19 : decode cX12_readZone 19 = .ok (.invokevirtual 121, 3) := by decide +kernel
theorem dX12_readZone_22 : decode cX12_readZone 22 = .ok (.aload_n 0, 1) := by decide +kernel
theorem dX12_readZone_23 : decode cX12_readZone 23 = .ok (.iconst 0, 1) := by decide +kernel
theorem dX12_readZone_24 : decode cX12_readZone 24 = .ok (.aload_n 0, 1) := by decide +kernel
theorem dX12_readZone_25 : decode cX12_readZone 25 = .ok (.getfield 20, 3) := by decide +kernel
theorem dX12_readZone_28 : decode cX12_readZone 28 = .ok (.bipush 9, 2) := by decide +kernel
theorem dX12_readZone_30 : decode cX12_readZone 30 = .ok (.iaload, 1) := by decide +kernel
theorem dX12_readZone_31 : decode cX12_readZone 31 = .ok (.iconst 1, 1) := by decide +kernel
theorem dX12_readZone_32 : decode cX12_readZone 32 = .ok (.isub, 1) := by decide +kernel
theorem dX12_readZone_33 : decode cX12_readZone 33 = .ok (.invokevirtual 138, 3) := by decide +kernel
theorem dX12_readZone_36 : decode cX12_readZone 36 = .ok (.istore_n 2, 1) := by decide +kernel
theorem dX12_readZone_37 : decode cX12_readZone 37 = .ok (.aload_n 0, 1) := by decide +kernel
theorem dX12_readZone_38 : decode cX12_readZone 38 = .ok (.iconst 0, 1) := by decide +kernel
theorem dX12_readZone_39 : decode cX12_readZone 39 = .ok (.aload_n 0, 1) := by decide +kernel
theorem dX12_readZone_40 : decode cX12_readZone 40 = .ok (.getfield 20, 3) := by decide +kernel
theorem dX12_readZone_43 : decode cX12_readZone 43 = .ok (.bipush 10, 2) := by decide +kernel
theorem dX12_readZone_45 : decode cX12_readZone 45 = .ok (.iaload, 1) := by decide +kernel
theorem dX12_readZone_46 : decode cX12_readZone 46 = .ok (.iconst 1, 1) := by decide +kernel
theorem dX12_readZone_47 : decode cX12_readZone 47 = .ok (.isub, 1) := by decide +kernel
theorem dX12_readZone_48 : decode cX12_readZone 48 = .ok (.invokevirtual 138, 3) := by decide +kernel
theorem dX12_readZone_51 : decode cX12_readZone 51 = .ok (.istore_n 3, 1) := by decide +kernel
theorem dX12_readZone_52 : decode cX12_readZone 52 = .ok (.aload_n 0, 1) := by decide +kernel
theorem dX12_readZone_53 : decode cX12_readZone 53 = .ok (.iload_n 2, 1) := by decide +kernel
theorem dX12_readZone_54 : decode cX12_readZone 54 = .ok (.aload_n 0, 1) := by decide +kernel
theorem dX12_readZone_55 : decode cX12_readZone 55 = .ok (.getfield 20, 3) := by decide +kernel
theorem dX12_readZone_58 : decode cX12_readZone 58 = .ok (.bipush 9, 2) := by decide +kernel
theorem dX12_readZone_60 : decode cX12_readZone 60 = .ok (.iaload, 1) := by decide +kernel
theorem dX12_readZone_61 : decode cX12_readZone 61 = .ok (.iconst 1, 1) := by decide +kernel
theorem dX12_readZone_62 : decode cX12_readZone 62 = .ok (.isub, 1) := by decide +kernel
theorem dX12_readZone_63 : decode cX12_readZone 63 = .ok (.invokevirtual 138, 3) := by decide +kernel
theorem dX12_readZone_66 : decode cX12_readZone 66 = .ok (.istore 4, 2) := by decide +kernel
theorem dX12_readZone_68 : decode cX12_readZone 68 = .ok (.aload_n 0, 1) := by decide +kernel
theorem dX12_readZone_69 : decode cX12_readZone 69 = .ok (.iload_n 3, 1) := by decide +kernel
theorem dX12_readZone_70 : decode cX12_readZone 70 = .ok (.aload_n 0, 1) := by decide +kernel
theorem dX12_readZone_71 : decode cX12_readZone 71 = .ok (.getfield 20, 3) := by decide +kernel
theorem dX12_readZone_74 : decode cX12_readZone 74 = .ok (.bipush 10, 2) := by decide +kernel
theorem dX12_readZone_76 : decode cX12_readZone 76 = .ok (.iaload, 1) := by decide +kernel
theorem dX12_readZone_77 : decode cX12_readZone 77 = .ok (.iconst 1, 1) := by decide +kernel
theorem dX12_readZone_78 : decode cX12_readZone 78 = .ok (.isub, 1) := by decide +kernel
theorem dX12_readZone_79 : decode cX12_readZone 79 = .ok (.invokevirtual 138, 3) := by decide +kernel
theorem dX12_readZone_82 : decode cX12_readZone 82 = .ok (.istore 5, 2) := by decide +kernel
theorem dX12_readZone_84 : decode cX12_readZone 84 = .ok (.aload_n 0, 1) := by decide +kernel
theorem dX12_readZone_85 : decode cX12_readZone 85 = .ok (.getfield 77, 3) := by decide +kernel
theorem dX12_readZone_88 : decode cX12_readZone 88 = .ok (.ifCond .le 4, 3) := by decide +kernel
theorem dX12_readZone_91 : decode cX12_readZone 91 = .ok (.return_, 1) := by decide +kernel
theorem dX12_readZone_92 : decode cX12_readZone 92 = .ok (.bipush 102, 2) := by decide +kernel
theorem dX12_readZone_94 : decode cX12_readZone 94 = .ok (.iconst 4, 1) := by decide +kernel
theorem dX12_readZone_95 : decode cX12_readZone 95 = .ok (.iload_n 1, 1) := by decide +kernel
theorem dX12_readZone_96 : decode cX12_readZone 96 = .ok (.imul, 1) := by decide +kernel
theorem dX12_readZone_97 : decode cX12_readZone 97 = .ok (.iadd, 1) := by decide +kernel
theorem dX12_readZone_98 : decode cX12_readZone 98 = .ok (.istore 6, 2) := by decide +kernel
theorem dX12_readZone_100 : decode cX12_readZone 100 = .ok (.aload_n 0, 1) := by decide +kernel
theorem dX12_readZone_101 : decode cX12_readZone 101 = .ok (.getfield 20, 3) := by decide +kernel
theorem dX12_readZone_104 : decode cX12_readZone 104 = .ok (.iload 6, 2) := by decide +kernel
theorem dX12_readZone_106 : decode cX12_readZone 106 = .ok (.iload_n 2, 1) := by decide +kernel
theorem dX12_readZone_107 : decode cX12_readZone 107 = .ok (.iastore, 1) := by decide +kernel
theorem dX12_readZone_108 : decode cX12_readZone 108 = .ok (.aload_n 0, 1) := by decide +kernel
theorem dX12_readZone_109 : decode cX12_readZone 109 = .ok (.getfield 20, 3) := by decide +kernel
theorem dX12_readZone_112 : decode cX12_readZone 112 = .ok (.iload 6, 2) := by decide +kernel
theorem dX12_readZone_114 : decode cX12_readZone 114 = .ok (.iconst 1, 1) := by decide +kernel
theorem dX12_readZone_115 : decode cX12_readZone 115 = .ok (.iadd, 1) := by decide +kernel
theorem dX12_readZone_116 : decode cX12_readZone 116 = .ok (.iload_n 3, 1) := by decide +kernel
theorem dX12_readZone_117 : decode cX12_readZone 117 = .ok (.iastore, 1) := by decide +kernel
theorem dX12_readZone_118 : decode cX12_readZone 118 = .ok (.aload_n 0, 1) := by decide +kernel
theorem dX12_readZone_119 : decode cX12_readZone 119 = .ok (.getfield 20, 3) := by decide +kernel
theorem dX12_readZone_122 : decode cX12_readZone 122 = .ok (.iload 6, 2) := by decide +kernel
theorem dX12_readZone_124 : decode cX12_readZone 124 = .ok (.iconst 2, 1) := by decide +kernel
theorem dX12_readZone_125 : decode cX12_readZone 125 = .ok (.iadd, 1) := by decide +kernel
theorem dX12_readZone_126 : decode cX12_readZone 126 = .ok (.iload 4, 2) := by decide +kernel
theorem dX12_readZone_128 : decode cX12_readZone 128 = .ok (.iastore, 1) := by decide +kernel
theorem dX12_readZone_129 : decode cX12_readZone 129 = .ok (.aload_n 0, 1) := by decide +kernel
theorem dX12_readZone_130 : decode cX12_readZone 130 = .ok (.getfield 20, 3) := by decide +kernel
theorem dX12_readZone_133 : decode cX12_readZone 133 = .ok (.iload 6, 2) := by decide +kernel
theorem dX12_readZone_135 : decode cX12_readZone 135 = .ok (.iconst 3, 1) := by decide +kernel
theorem dX12_readZone_136 : decode cX12_readZone 136 = .ok (.iadd, 1) := by decide +kernel
theorem dX12_readZone_137 : decode cX12_readZone 137 = .ok (.iload 5, 2) := by decide +kernel
theorem dX12_readZone_139 : decode cX12_readZone 139 = .ok (.iastore, 1) := by decide +kernel
theorem dX12_readZone_140 : decode cX12_readZone 140 = .ok (.aload_n 0, 1) := by decide +kernel
theorem dX12_readZone_141 : decode cX12_readZone 141 = .ok (.getfield 20, 3) := by decide +kernel
theorem dX12_readZone_144 : decode cX12_readZone 144 = .ok (.bipush 101, 2) := by decide +kernel
theorem dX12_readZone_146 : decode cX12_readZone 146 = .ok (.dup2, 1) := by decide +kernel
theorem dX12_readZone_147 : decode cX12_readZone 147 = .ok (.iaload, 1) := by decide +kernel
theorem dX12_readZone_148 : decode cX12_readZone 148 = .ok (.iconst 1, 1) := by decide +kernel
theorem dX12_readZone_149 : decode cX12_readZone 149 = .ok (.iadd, 1) := by decide +kernel
theorem dX12_readZone_150 : decode cX12_readZone 150 = .ok (.iastore, 1) := by decide +kernel
theorem dX12_readZone_151 : decode cX12_readZone 151 = .ok (.return_, 1) := by decide +kernel
theorem dX12_readLine_0 : decode cX12_readLine 0 = .ok (.aload_n 0, 1) := by decide +kernel
theorem dX12_readLine_1 : decode cX12_readLine 1 = .ok (.ldc 171, 2) := by decide +kernel
theorem dX12_readLine_3 : decode cX12_readLine 3 = .ok (.invokevirtual 117, 3) := by decide +kernel
theorem dX12_readLine_6 : decode cX12_readLine 6 = .ok (.ifCond .eq 10, 3) := by decide +kernel
theorem dX12_readLine_9 : decode cX12_readLine 9 = .ok (.aload_n 0, 1) := by decide +kernel
theorem dX12_readLine_10 : decode cX12_readLine 10 = .ok (.invokevirtual 173, 3) := by decide +kernel
theorem dX12_readLine_13 : decode cX12_readLine 13 = .ok (.goto 152, 3) := by decide +kernel
theorem dX12_readLine_16 : decode cX12_readLine 16 = .ok (.aload_n 0, 1) := by decide +kernel
theorem dX12_readLine_17 : decode cX12_readLine 17 = .ok (.ldc 176, 2) := by decide +kernel
theorem dX12_readLine_19 : decode cX12_readLine 19 = .ok (.invokevirtual 117, 3) := by decide +kernel
theorem dX12_readLine_22 : decode cX12_readLine 22 = .ok (.ifCond .eq 10, 3) := by decide +kernel
theorem dX12_readLine_25 : decode cX12_readLine 25 = .ok (.aload_n 0, 1) := by decide +kernel
theorem dX12_readLine_26 : decode cX12_readLine 26 = .ok (.invokevirtual 178, 3) := by decide +kernel
theorem dX12_readLine_29 : decode cX12_readLine 29 = .ok (.goto 136, 3) := by decide +kernel
theorem dX12_readLine_32 : decode cX12_readLine 32 = .ok (.aload_n 0, 1) := by decide +kernel
theorem dX12_readLine_33 : decode cX12_readLine 33 = .ok (.ldc 181, 2) := by decide +kernel
theorem dX12_readLine_35 : decode cX12_readLine 35 = .ok (.invokevirtual 117, 3) := by decide +kernel
theorem dX12_readLine_38 : decode cX12_readLine 38 = .ok (.ifCond .eq 10, 3) := by decide +kernel
theorem dX12_readLine_41 : decode cX12_readLine 41 = .ok (.aload_n 0, 1) := by decide +kernel
theorem dX12_readLine_42 : decode cX12_readLine 42 = .ok (.invokevirtual 183, 3) := by decide +kernel
theorem dX12_readLine_45 : decode cX12_readLine 45 = .ok (.goto 120, 3) := by decide +kernel
theorem dX12_readLine_48 : decode cX12_readLine 48 = .ok (.aload_n 0, 1) := by decide +kernel
theorem dX12_readLine_49 : decode cX12_readLine 49 = .ok (.ldc 186, 2) := by decide +kernel
theorem dX12_readLine_51 : decode cX12_readLine 51 = .ok (.invokevirtual 117, 3) := by decide +kernel
theorem dX12_readLine_54 : decode cX12_readLine 54 = .ok (.ifCond .eq 10, 3) := by decide +kernel
theorem dX12_readLine_57 : decode cX12_readLine 57 = .ok (.aload_n 0, 1) := by decide +kernel
theorem dX12_readLine_58 : decode cX12_readLine 58 = .ok (.invokevirtual 188, 3) := by decide +kernel
theorem dX12_readLine_61 : decode cX12_readLine 61 = .ok (.goto 104, 3) := by decide +kernel
theorem dX12_readLine_64 : decode cX12_readLine 64 = .ok (.aload_n 0, 1) := by decide +kernel
theorem dX12_readLine_65 : decode cX12_readLine 65 = .ok (.ldc 191, 2) := by decide +kernel
theorem dX12_readLine_67 : decode cX12_readLine 67 = .ok (.invokevirtual 117, 3) := by decide +kernel
theorem dX12_readLine_70 : decode cX12_readLine 70 = .ok (.ifCond .eq 10, 3) := by decide +kernel
theorem dX12_readLine_73 : decode cX12_readLine 73 = .ok (.aload_n 0, 1) := by decide +kernel
theorem dX12_readLine_74 : decode cX12_readLine 74 = .ok (.invokevirtual 193, 3) := by decide +kernel
theorem dX12_readLine_77 : decode cX12_readLine 77 = .ok (.goto 88, 3) := by decide +kernel
theorem dX12_readLine_80 : decode cX12_readLine 80 = .ok (.aload_n 0, 1) := by decide +kernel
theorem dX12_readLine_81 : decode cX12_readLine 81 = .ok (.ldc 196, 2) := by decide +kernel
theorem dX12_readLine_83 : decode cX12_readLine 83 = .ok (.invokevirtual 117, 3) := by decide +kernel
theorem dX12_readLine_86 : decode cX12_readLine 86 = .ok (.ifCond .eq 10, 3) := by decide +kernel
theorem dX12_readLine_89 : decode cX12_readLine 89 = .ok (.aload_n 0, 1) := by decide +kernel
theorem dX12_readLine_90 : decode cX12_readLine 90 = .ok (.invokevirtual 198, 3) := by decide +kernel
theorem dX12_readLine_93 : decode cX12_readLine 93 = .ok (.goto 72, 3) := by decide +kernel
theorem dX12_readLine_96 : decode cX12_readLine 96 = .ok (.aload_n 0, 1) := by decide +kernel
theorem dX12_readLine_97 : decode cX12_readLine 97 = .ok (.ldc 201, 2) := by decide +kernel
theorem dX12_readLine_99 : decode cX12_readLine 99 = .ok (.invokevirtual 117, 3) := by decide +kernel
theorem dX12_readLine_102 : decode cX12_readLine 102 = .ok (.ifCond .eq 10, 3) := by decide +kernel
theorem dX12_readLine_105 : decode cX12_readLine 105 = .ok (.aload_n 0, 1) := by decide +kernel
theorem dX12_readLine_106 : decode cX12_readLine 106 = .ok (.invokevirtual 203, 3) := by decide +kernel
theorem dX12_readLine_109 : decode cX12_readLine 109 = .ok (.goto 56, 3) := by decide +kernel
theorem dX12_readLine_112 : decode cX12_readLine 112 = .ok (.aload_n 0, 1) := by decide +kernel
theorem dX12_readLine_113 : decode cX12_readLine 113 = .ok (.ldc 206, 2) := by decide +kernel
theorem dX12_readLine_115 : decode cX12_readLine 115 = .ok (.invokevirtual 117, 3) := by decide +kernel
theorem dX12_readLine_118 : decode cX12_readLine 118 = .ok (.ifCond .eq 10, 3) := by decide +kernel
theorem dX12_readLine_121 : decode cX12_readLine 121 = .ok (.aload_n 0, 1) := by decide +kernel
theorem dX12_readLine_122 : decode cX12_readLine 122 = .ok (.invokevirtual 208, 3) := by decide +kernel
theorem dX12_readLine_125 : decode cX12_readLine 125 = .ok (.goto 40, 3) := by decide +kernel
theorem dX12_readLine_128 : decode cX12_readLine 128 = .ok (.aload_n 0, 1) := by decide +kernel
theorem dX12_readLine_129 : decode cX12_readLine 129 = .ok (.ldc 211, 2) := by decide +kernel
theorem dX12_readLine_131 : decode cX12_readLine 131 = .ok (.invokevirtual 117, 3) := by decide +kernel
theorem dX12_readLine_134 : decode cX12_readLine 134 = .ok (.ifCond .eq 10, 3) := by decide +kernel
theorem dX12_readLine_137 : decode cX12_readLine 137 = .ok (.aload_n 0, 1) := by decide +kernel
theorem dX12_readLine_138 : decode cX12_readLine 138 = .ok (.invokevirtual 213, 3) := by decide +kernel
theorem dX12_readLine_141 : decode cX12_readLine 141 = .ok (.goto 24, 3) := by decide +kernel
theorem dX12_readLine_144 : decode cX12_readLine 144 = .ok (.aload_n 0, 1) := by decide +kernel
theorem dX12_readLine_145 : decode cX12_readLine 145 = .ok (.ldc 216, 2) := by decide +kernel
theorem dX12_readLine_147 : decode cX12_readLine 147 = .ok (.invokevirtual 117, 3) := by decide +kernel
theorem dX12_readLine_150 : decode cX12_readLine 150 = .ok (.ifCond .eq 10, 3) := by decide +kernel
theorem dX12_readLine_153 : decode cX12_readLine 153 = .ok (.aload_n 0, 1) := by decide +kernel
theorem dX12_readLine_154 : decode cX12_readLine 154 = .ok (.invokevirtual 218, 3) := by decide +kernel
theorem dX12_readLine_157 : decode cX12_readLine 157 = .ok (.goto 8, 3) := by decide +kernel
theorem dX12_readLine_160 : decode cX12_readLine 160 = .ok (.aload_n 0, 1) := by decide +kernel
theorem dX12_readLine_161 : decode cX12_readLine 161 = .ok (.iconst 1, 1) := by decide +kernel
theorem dX12_readLine_162 : decode cX12_readLine 162 = .ok (.invokevirtual 127, 3) := by decide +kernel
theorem dX12_readLine_165 : decode cX12_readLine 165 = .ok (.return_, 1) := by decide +kernel
theorem dX12_readText_0 : decode cX12_readText 0 = .ok (.iconst 0, 1) := by decide +kernel
theorem dX12_readText_1 : decode cX12_readText 1 = .ok (.istore_n 1, 1) := by decide +kernel
theorem dX12_readText_2 : decode cX12_readText 2 = .ok (.iload_n 1, 1) := by decide +kernel
theorem dX12_readText_3 : decode cX12_readText 3 = .ok (.sipush 131, 3) := by decide +kernel
theorem dX12_readText_6 : decode cX12_readText 6 = .ok (.if_icmp .ge 16, 3) := by decide +kernel
theorem dX12_readText_9 : decode cX12_readText 9 = .ok (.aload_n 0, 1) := by decide +kernel
theorem dX12_readText_10 : decode cX12_readText 10 = .ok (.getfield 20, 3) := by decide +kernel
theorem dX12_readText_13 : decode cX12_readText 13 = .ok (.iload_n 1, 1) := by decide +kernel
theorem dX12_readText_14 : decode cX12_readText 14 = .ok (.iconst 0, 1) := by decide +kernel
theorem dX12_readText_15 : decode cX12_readText 15 = .ok (.iastore, 1) := by decide +kernel
theorem dX12_readText_16 : decode cX12_readText 16 = .ok (.iinc 1 1, 3) := by decide +kernel
theorem dX12_readText_19 : decode cX12_readText 19 = .ok (.goto (-17), 3) := by decide +kernel
theorem dX12_readText_22 : decode cX12_readText 22 = .ok (.iconst 0, 1) := by decide +kernel
theorem dX12_readText_23 : decode cX12_readText 23 = .ok (.istore_n 1, 1) := by decide +kernel
theorem dX12_readText_24 : decode cX12_readText 24 = .ok (.iload_n 1, 1) := by decide +kernel
theorem dX12_readText_25 : decode cX12_readText 25 = .ok (.sipush 2455, 3) := by decide +kernel
theorem dX12_readText_28 : decode cX12_readText 28 = .ok (.if_icmp .ge 16, 3) := by decide +kernel
theorem dX12_readText_31 : decode cX12_readText 31 = .ok (.aload_n 0, 1) := by decide +kernel
theorem dX12_readText_32 : decode cX12_readText 32 = .ok (.getfield 26, 3) := by decide +kernel
theorem dX12_readText_35 : decode cX12_readText 35 = .ok (.iload_n 1, 1) := by decide +kernel
theorem dX12_readText_36 : decode cX12_readText 36 = .ok (.iconst 0, 1) := by decide +kernel
theorem dX12_readText_37 : decode cX12_readText 37 = .ok (.iastore, 1) := by decide +kernel
theorem dX12_readText_38 : decode cX12_readText 38 = .ok (.iinc 1 1, 3) := by decide +kernel
theorem dX12_readText_41 : decode cX12_readText 41 = .ok (.goto (-17), 3) := by decide +kernel
theorem dX12_readText_44 : decode cX12_readText 44 = .ok (.aload_n 0, 1) := by decide +kernel
theorem dX12_readText_45 : decode cX12_readText 45 = .ok (.invokevirtual 121, 3) := by decide +kernel
theorem dX12_readText_48 : decode cX12_readText 48 = .ok (.aload_n 0, 1) := by decide +kernel
theorem dX12_readText_49 : decode cX12_readText 49 = .ok (.invokevirtual 221, 3) := by decide +kernel
theorem dX12_readText_52 : decode cX12_readText 52 = .ok (.aload_n 0, 1) := by decide +kernel
theorem dX12_readText_53 : decode cX12_readText 53 = .ok (.bipush 59, 2) := by decide +kernel
theorem dX12_readText_55 : decode cX12_readText 55 = .ok (.invokevirtual 141, 3) := by decide +kernel
theorem dX12_readText_58 : decode cX12_readText 58 = .ok (.ifCond .eq 14, 3) := by decide +kernel
theorem dX12_readText_61 : decode cX12_readText 61 = .ok (.aload_n 0, 1) := by decide +kernel
theorem dX12_readText_62 : decode cX12_readText 62 = .ok (.invokevirtual 121, 3) := by decide +kernel
theorem dX12_readText_65 : decode cX12_readText 65 = .ok (.aload_n 0, 1) := by decide +kernel
theorem dX12_readText_66 : decode cX12_readText 66 = .ok (.invokevirtual 224, 3) := by decide +kernel
theorem dX12_readText_69 : decode cX12_readText 69 = .ok (.goto (-17), 3) := by decide +kernel
theorem dX12_readText_72 : decode cX12_readText 72 = .ok (.aload_n 0, 1) := by decide +kernel
theorem dX12_readText_73 : decode cX12_readText 73 = .ok (.getfield 77, 3) := by decide +kernel
theorem dX12_readText_76 : decode cX12_readText 76 = .ok (.ifCond .ne 16, 3) := by decide +kernel
theorem dX12_readText_79 : decode cX12_readText 79 = .ok (.aload_n 0, 1) := by decide +kernel
theorem dX12_readText_80 : decode cX12_readText 80 = .ok (.getfield 93, 3) := by decide +kernel
theorem dX12_readText_83 : decode cX12_readText 83 = .ok (.iconst 1, 1) := by decide +kernel
theorem dX12_readText_84 : decode cX12_readText 84 = .ok (.if_icmp .eq 8, 3) := by decide +kernel
theorem dX12_readText_87 : decode cX12_readText 87 = .ok (.aload_n 0, 1) := by decide +kernel
theorem dX12_readText_88 : decode cX12_readText 88 = .ok (.iconst 1, 1) := by decide +kernel
theorem dX12_readText_89 : decode cX12_readText 89 = .ok (.invokevirtual 127, 3) := by decide +kernel
theorem dX12_readText_92 : decode cX12_readText 92 = .ok (.aload_n 0, 1) := by decide +kernel
theorem dX12_readText_93 : decode cX12_readText 93 = .ok (.getfield 20, 3) := by decide +kernel
theorem dX12_readText_96 : decode cX12_readText 96 = .ok (.iconst 4, 1) := by decide +kernel
theorem dX12_readText_97 : decode cX12_readText 97 = .ok (.iaload, 1) := by decide +kernel
theorem dX12_readText_98 : decode cX12_readText 98 = .ok (.ifCond .eq 13, 3) := by decide +kernel
theorem dX12_readText_101 : decode cX12_readText 101 = .ok (.aload_n 0, 1) := by decide +kernel
theorem dX12_readText_102 : decode cX12_readText 102 = .ok (.getfield 20, 3) := by decide +kernel
theorem dX12_readText_105 : decode cX12_readText 105 = .ok (.bipush 8, 2) := by decide +kernel
theorem dX12_readText_107 : decode cX12_readText 107 = .ok (.iaload, 1) := by decide +kernel
theorem dX12_readText_108 : decode cX12_readText 108 = .ok (.ifCond .ne 8, 3) := by decide +kernel
theorem dX12_readText_111 : decode cX12_readText 111 = .ok (.aload_n 0, 1) := by decide +kernel
theorem dX12_readText_112 : decode cX12_readText 112 = .ok (.iconst 5, 1) := by decide +kernel
theorem dX12_readText_113 : decode cX12_readText 113 = .ok (.invokevirtual 127, 3) := by decide +kernel
theorem dX12_readText_116 : decode cX12_readText 116 = .ok (.return_, 1) := by decide +kernel
theorem dX12_load_0 : decode cX12_load 0 = .ok (.aload_n 0, 1) := by decide +kernel
theorem dX12_load_1 : decode cX12_load 1 = .ok (.iconst 0, 1) := by decide +kernel
theorem dX12_load_2 : decode cX12_load 2 = .ok (.putfield 67, 3) := by decide +kernel
theorem dX12_load_5 : decode cX12_load 5 = .ok (.iload_n 1, 1) := by decide +kernel
theorem dX12_load_6 : decode cX12_load 6 = .ok (.iconst 0, 1) := by decide +kernel
theorem dX12_load_7 : decode cX12_load 7 = .ok (.aload_n 0, 1) := by decide +kernel
theorem dX12_load_8 : decode cX12_load 8 = .ok (.getfield 70, 3) := by decide +kernel
theorem dX12_load_11 : decode cX12_load 11 = .ok (.invokestatic 96, 3) := by decide +kernel
theorem dX12_load_14 : decode cX12_load 14 = .ok (.ifCond .ne 9, 3) := by decide +kernel
theorem dX12_load_17 : decode cX12_load 17 = .ok (.aload_n 0, 1) := by decide +kernel
theorem dX12_load_18 : decode cX12_load 18 = .ok (.iconst 1, 1) := by decide +kernel
theorem dX12_load_19 : decode cX12_load 19 = .ok (.invokevirtual 227, 3) := by decide +kernel
theorem dX12_load_22 : decode cX12_load 22 = .ok (.ireturn, 1) := by decide +kernel
theorem dX12_load_23 : decode cX12_load 23 = .ok (.aload_n 0, 1) := by decide +kernel
theorem dX12_load_24 : decode cX12_load 24 = .ok (.iload_n 1, 1) := by decide +kernel
theorem dX12_load_25 : decode cX12_load 25 = .ok (.putfield 80, 3) := by decide +kernel
theorem dX12_load_28 : decode cX12_load 28 = .ok (.aload_n 0, 1) := by decide +kernel
theorem dX12_load_29 : decode cX12_load 29 = .ok (.iconst 0, 1) := by decide +kernel
theorem dX12_load_30 : decode cX12_load 30 = .ok (.putfield 70, 3) := by decide +kernel
theorem dX12_load_33 : decode cX12_load 33 = .ok (.aload_n 0, 1) := by decide +kernel
theorem dX12_load_34 : decode cX12_load 34 = .ok (.iconst 0, 1) := by decide +kernel
theorem dX12_load_35 : decode cX12_load 35 = .ok (.putfield 86, 3) := by decide +kernel
theorem dX12_load_38 : decode cX12_load 38 = .ok (.aload_n 0, 1) := by decide +kernel
theorem dX12_load_39 : decode cX12_load 39 = .ok (.iconst 0, 1) := by decide +kernel
theorem dX12_load_40 : decode cX12_load 40 = .ok (.putfield 77, 3) := by decide +kernel
theorem dX12_load_43 : decode cX12_load 43 = .ok (.aload_n 0, 1) := by decide +kernel
theorem dX12_load_44 : decode cX12_load 44 = .ok (.iconst (-1), 1) := by decide +kernel
theorem dX12_load_45 : decode cX12_load 45 = .ok (.putfield 13, 3) := by decide +kernel
theorem dX12_load_48 : decode cX12_load 48 = .ok (.aload_n 0, 1) := by decide +kernel
theorem dX12_load_49 : decode cX12_load 49 = .ok (.invokevirtual 230, 3) := by decide +kernel
theorem dX12_load_52 : decode cX12_load 52 = .ok (.aload_n 0, 1) := by decide +kernel
theorem dX12_load_53 : decode cX12_load 53 = .ok (.getfield 77, 3) := by decide +kernel
theorem dX12_load_56 : decode cX12_load 56 = .ok (.ifCond .le 9, 3) := by decide +kernel
theorem dX12_load_59 : decode cX12_load 59 = .ok (.aload_n 0, 1) := by decide +kernel
theorem dX12_load_60 : decode cX12_load 60 = .ok (.iconst 2, 1) := by decide +kernel
theorem dX12_load_61 : decode cX12_load 61 = .ok (.invokevirtual 227, 3) := by decide +kernel
theorem dX12_load_64 : decode cX12_load 64 = .ok (.ireturn, 1) := by decide +kernel
theorem dX12_load_65 : decode cX12_load 65 = .ok (.iconst 0, 1) := by decide +kernel
theorem dX12_load_66 : decode cX12_load 66 = .ok (.istore_n 2, 1) := by decide +kernel
theorem dX12_load_67 : decode cX12_load 67 = .ok (.iload_n 2, 1) := by decide +kernel
theorem dX12_load_68 : decode cX12_load 68 = .ok (.sipush 131, 3) := by decide +kernel
theorem dX12_load_71 : decode cX12_load 71 = .ok (.if_icmp .ge 21, 3) := by decide +kernel
theorem dX12_load_74 : decode cX12_load 74 = .ok (.aload_n 0, 1) := by decide +kernel
theorem dX12_load_75 : decode cX12_load 75 = .ok (.getfield 17, 3) := by decide +kernel
theorem dX12_load_78 : decode cX12_load 78 = .ok (.iload_n 2, 1) := by decide +kernel
theorem dX12_load_79 : decode cX12_load 79 = .ok (.aload_n 0, 1) := by decide +kernel
theorem dX12_load_80 : decode cX12_load 80 = .ok (.getfield 20, 3) := by decide +kernel
theorem dX12_load_83 : decode cX12_load 83 = .ok (.iload_n 2, 1) := by decide +kernel
theorem dX12_load_84 : decode cX12_load 84 = .ok (.iaload, 1) := by decide +kernel
theorem dX12_load_85 : decode cX12_load 85 = .ok (.iastore, 1) := by decide +kernel
theorem dX12_load_86 : decode cX12_load 86 = .ok (.iinc 2 1, 3) := by decide +kernel
theorem dX12_load_89 : decode cX12_load 89 = .ok (.goto (-22), 3) := by decide +kernel
theorem dX12_load_92 : decode cX12_load 92 = .ok (.aload_n 0, 1) := by decide +kernel
theorem dX12_load_93 : decode cX12_load 93 = .ok (.getfield 26, 3) := by decide +kernel
theorem dX12_load_96 : decode cX12_load 96 = .ok (.iconst 0, 1) := by decide +kernel
theorem dX12_load_97 : decode cX12_load 97 = .ok (.aload_n 0, 1) := by decide +kernel
theorem dX12_load_98 : decode cX12_load 98 = .ok (.getfield 23, 3) := by decide +kernel
theorem dX12_load_101 : decode cX12_load 101 = .ok (.iconst 0, 1) := by decide +kernel
theorem dX12_load_102 : decode cX12_load 102 = .ok (.invokestatic 233, 3) := by decide +kernel
theorem dX12_load_105 : decode cX12_load 105 = .ok (.iconst 0, 1) := by decide +kernel
theorem dX12_load_106 : decode cX12_load 106 = .ok (.istore_n 2, 1) := by decide +kernel
theorem dX12_load_107 : decode cX12_load 107 = .ok (.iload_n 2, 1) := by decide +kernel
theorem dX12_load_108 : decode cX12_load 108 = .ok (.aload_n 0, 1) := by decide +kernel
theorem dX12_load_109 : decode cX12_load 109 = .ok (.getfield 17, 3) := by decide +kernel
theorem dX12_load_112 : decode cX12_load 112 = .ok (.iconst 4, 1) := by decide +kernel
theorem dX12_load_113 : decode cX12_load 113 = .ok (.iaload, 1) := by decide +kernel
theorem dX12_load_114 : decode cX12_load 114 = .ok (.if_icmp .ge 42, 3) := by decide +kernel
theorem dX12_load_117 : decode cX12_load 117 = .ok (.aload_n 0, 1) := by decide +kernel
theorem dX12_load_118 : decode cX12_load 118 = .ok (.getfield 23, 3) := by decide +kernel
theorem dX12_load_121 : decode cX12_load 121 = .ok (.bipush 13, 2) := by decide +kernel
theorem dX12_load_123 : decode cX12_load 123 = .ok (.iload_n 2, 1) := by decide +kernel
theorem dX12_load_124 : decode cX12_load 124 = .ok (.iadd, 1) := by decide +kernel
theorem dX12_load_125 : decode cX12_load 125 = .ok (.iload_n 2, 1) := by decide +kernel
theorem dX12_load_126 : decode cX12_load 126 = .ok (.aload_n 0, 1) := by decide +kernel
theorem dX12_load_127 : decode cX12_load 127 = .ok (.getfield 17, 3) := by decide +kernel
theorem dX12_load_130 : decode cX12_load 130 = .ok (.bipush 118, 2) := by decide +kernel
theorem dX12_load_132 : decode cX12_load 132 = .ok (.iaload, 1) := by decide +kernel
theorem dX12_load_133 : decode cX12_load 133 = .ok (.if_icmp .ge 15, 3) := by decide +kernel
theorem dX12_load_136 : decode cX12_load 136 = .ok (.aload_n 0, 1) := by decide +kernel
theorem dX12_load_137 : decode cX12_load 137 = .ok (.getfield 17, 3) := by decide +kernel
theorem dX12_load_140 : decode cX12_load 140 = .ok (.bipush 119, 2) := by decide +kernel
theorem dX12_load_142 : decode cX12_load 142 = .ok (.iload_n 2, 1) := by decide +kernel
theorem dX12_load_143 : decode cX12_load 143 = .ok (.iadd, 1) := by decide +kernel
theorem dX12_load_144 : decode cX12_load 144 = .ok (.iaload, 1) := by decide +kernel
theorem dX12_load_145 : decode cX12_load 145 = .ok (.goto 4, 3) := by decide +kernel
theorem dX12_load_148 : decode cX12_load 148 = .ok (.iconst 1, 1) := by decide +kernel
theorem dX12_load_149 : decode cX12_load 149 = .ok (.iastore, 1) := by decide +kernel
theorem dX12_load_150 : decode cX12_load 150 = .ok (.iinc 2 1, 3) := by decide +kernel
theorem dX12_load_153 : decode cX12_load 153 = .ok (.goto (-46), 3) := by decide +kernel
theorem dX12_load_156 : decode cX12_load 156 = .ok (.iconst 0, 1) := by decide +kernel
theorem dX12_load_157 : decode cX12_load 157 = .ok (.istore_n 2, 1) := by decide +kernel
theorem dX12_load_158 : decode cX12_load 158 = .ok (.iload_n 2, 1) := by decide +kernel
theorem dX12_load_159 : decode cX12_load 159 = .ok (.aload_n 0, 1) := by decide +kernel
theorem dX12_load_160 : decode cX12_load 160 = .ok (.invokevirtual 237, 3) := by decide +kernel
theorem dX12_load_163 : decode cX12_load 163 = .ok (.if_icmp .ge 55, 3) := by decide +kernel
theorem dX12_load_166 : decode cX12_load 166 = .ok (.iconst 0, 1) := by decide +kernel
theorem dX12_load_167 : decode cX12_load 167 = .ok (.istore_n 3, 1) := by decide +kernel
theorem dX12_load_168 : decode cX12_load 168 = .ok (.iload_n 3, 1) := by decide +kernel
theorem dX12_load_169 : decode cX12_load 169 = .ok (.aload_n 0, 1) := by decide +kernel
theorem dX12_load_170 : decode cX12_load 170 = .ok (.getfield 17, 3) := by decide +kernel
theorem dX12_load_173 : decode cX12_load 173 = .ok (.iconst 4, 1) := by decide +kernel
theorem dX12_load_174 : decode cX12_load 174 = .ok (.iaload, 1) := by decide +kernel
theorem dX12_load_175 : decode cX12_load 175 = .ok (.if_icmp .ge 37, 3) := by decide +kernel
theorem dX12_load_178 : decode cX12_load 178 = .ok (.aload_n 0, 1) := by decide +kernel
theorem dX12_load_179 : decode cX12_load 179 = .ok (.getfield 38, 3) := by decide +kernel
theorem dX12_load_182 : decode cX12_load 182 = .ok (.bipush 12, 2) := by decide +kernel
theorem dX12_load_184 : decode cX12_load 184 = .ok (.iload_n 2, 1) := by decide +kernel
theorem dX12_load_185 : decode cX12_load 185 = .ok (.imul, 1) := by decide +kernel
theorem dX12_load_186 : decode cX12_load 186 = .ok (.iload_n 3, 1) := by decide +kernel
theorem dX12_load_187 : decode cX12_load 187 = .ok (.iadd, 1) := by decide +kernel
theorem dX12_load_188 : decode cX12_load 188 = .ok (.aload_n 0, 1) := by decide +kernel
theorem dX12_load_189 : decode cX12_load 189 = .ok (.iload_n 3, 1) := by decide +kernel
theorem dX12_load_190 : decode cX12_load 190 = .ok (.aload_n 0, 1) := by decide +kernel
theorem dX12_load_191 : decode cX12_load 191 = .ok (.iload_n 2, 1) := by decide +kernel
theorem dX12_load_192 : decode cX12_load 192 = .ok (.iconst 0, 1) := by decide +kernel
theorem dX12_load_193 : decode cX12_load 193 = .ok (.invokevirtual 240, 3) := by decide +kernel
theorem dX12_load_196 : decode cX12_load 196 = .ok (.aload_n 0, 1) := by decide +kernel
theorem dX12_load_197 : decode cX12_load 197 = .ok (.iload_n 2, 1) := by decide +kernel
theorem dX12_load_198 : decode cX12_load 198 = .ok (.iconst 1, 1) := by decide +kernel
theorem dX12_load_199 : decode cX12_load 199 = .ok (.invokevirtual 240, 3) := by decide +kernel
theorem dX12_load_202 : decode cX12_load 202 = .ok (.invokevirtual 243, 3) := by decide +kernel
theorem dX12_load_205 : decode cX12_load 205 = .ok (.iastore, 1) := by decide +kernel
theorem dX12_load_206 : decode cX12_load 206 = .ok (.iinc 3 1, 3) := by decide +kernel
theorem dX12_load_209 : decode cX12_load 209 = .ok (.goto (-41), 3) := by decide +kernel
theorem dX12_load_212 : decode cX12_load 212 = .ok (.iinc 2 1, 3) := by decide +kernel
theorem dX12_load_215 : decode cX12_load 215 = .ok (.goto (-57), 3) := by decide +kernel
theorem dX12_load_218 : decode cX12_load 218 = .ok (.aload_n 0, 1) := by decide +kernel
theorem dX12_load_219 : decode cX12_load 219 = .ok (.aload_n 0, 1) := by decide +kernel
theorem dX12_load_220 : decode cX12_load 220 = .ok (.getfield 23, 3) := by decide +kernel
theorem dX12_load_223 : decode cX12_load 223 = .ok (.invokevirtual 247, 3) := by decide +kernel
theorem dX12_load_226 : decode cX12_load 226 = .ok (.aload_n 0, 1) := by decide +kernel
theorem dX12_load_227 : decode cX12_load 227 = .ok (.iconst 1, 1) := by decide +kernel
theorem dX12_load_228 : decode cX12_load 228 = .ok (.putfield 251, 3) := by decide +kernel
theorem dX12_load_231 : decode cX12_load 231 = .ok (.aload_n 0, 1) := by decide +kernel
theorem dX12_load_232 : decode cX12_load 232 = .ok (.getfield 41, 3) := by decide +kernel
theorem dX12_load_235 : decode cX12_load 235 = .ok (.iconst 0, 1) := by decide +kernel
theorem dX12_load_236 : decode cX12_load 236 = .ok (.iconst 0, 1) := by decide +kernel
theorem dX12_load_237 : decode cX12_load 237 = .ok (.bastore, 1) := by decide +kernel
theorem dX12_load_238 : decode cX12_load 238 = .ok (.aload_n 0, 1) := by decide +kernel
theorem dX12_load_239 : decode cX12_load 239 = .ok (.getfield 41, 3) := by decide +kernel
theorem dX12_load_242 : decode cX12_load 242 = .ok (.iconst 1, 1) := by decide +kernel
theorem dX12_load_243 : decode cX12_load 243 = .ok (.iconst 0, 1) := by decide +kernel
theorem dX12_load_244 : decode cX12_load 244 = .ok (.bastore, 1) := by decide +kernel
theorem dX12_load_245 : decode cX12_load 245 = .ok (.aload_n 0, 1) := by decide +kernel
theorem dX12_load_246 : decode cX12_load 246 = .ok (.iconst 0, 1) := by decide +kernel
theorem dX12_load_247 : decode cX12_load 247 = .ok (.putfield 255, 3) := by decide +kernel
theorem dX12_load_250 : decode cX12_load 250 = .ok (.aload_n 0, 1) := by decide +kernel
theorem dX12_load_251 : decode cX12_load 251 = .ok (.invokevirtual 237, 3) := by decide +kernel
theorem dX12_load_254 : decode cX12_load 254 = .ok (.ireturn, 1) := by decide +kernel
theorem dX12_copy_0 : decode cX12_copy 0 = .ok (.iconst 0, 1) := by decide +kernel
theorem dX12_copy_1 : decode cX12_copy 1 = .ok (.istore 4, 2) := by decide +kernel
theorem dX12_copy_3 : decode cX12_copy 3 = .ok (.iload 4, 2) := by decide +kernel
theorem dX12_copy_5 : decode cX12_copy 5 = .ok (.sipush 2455, 3) := by decide +kernel
theorem dX12_copy_8 : decode cX12_copy 8 = .ok (.if_icmp .ge 21, 3) := by decide +kernel
theorem dX12_copy_11 : decode cX12_copy 11 = .ok (.aload_n 2, 1) := by decide +kernel
theorem dX12_copy_12 : decode cX12_copy 12 = .ok (.iload_n 3, 1) := by decide +kernel
theorem dX12_copy_13 : decode cX12_copy 13 = .ok (.iload 4, 2) := by decide +kernel
theorem dX12_copy_15 : decode cX12_copy 15 = .ok (.iadd, 1) := by decide +kernel
theorem dX12_copy_16 : decode cX12_copy 16 = .ok (.aload_n 0, 1) := by decide +kernel
theorem dX12_copy_17 : decode cX12_copy 17 = .ok (.iload_n 1, 1) := by decide +kernel
theorem dX12_copy_18 : decode cX12_copy 18 = .ok (.iload 4, 2) := by decide +kernel
theorem dX12_copy_20 : decode cX12_copy 20 = .ok (.iadd, 1) := by decide +kernel
theorem dX12_copy_21 : decode cX12_copy 21 = .ok (.iaload, 1) := by decide +kernel
theorem dX12_copy_22 : decode cX12_copy 22 = .ok (.iastore, 1) := by decide +kernel
theorem dX12_copy_23 : decode cX12_copy 23 = .ok (.iinc 4 1, 3) := by decide +kernel
theorem dX12_copy_26 : decode cX12_copy 26 = .ok (.goto (-23), 3) := by decide +kernel
theorem dX12_copy_29 : decode cX12_copy 29 = .ok (.return_, 1) := by decide +kernel
theorem dX12_remember_0 : decode cX12_remember 0 = .ok (.aload_n 0, 1) := by decide +kernel
theorem dX12_remember_1 : decode cX12_remember 1 = .ok (.getfield 255, 3) := by decide +kernel
theorem dX12_remember_4 : decode cX12_remember 4 = .ok (.bipush 6, 2) := by decide +kernel
theorem dX12_remember_6 : decode cX12_remember 6 = .ok (.if_icmp .ne 48, 3) := by decide +kernel
theorem dX12_remember_9 : decode cX12_remember 9 = .ok (.sipush 2455, 3) := by decide +kernel
theorem dX12_remember_12 : decode cX12_remember 12 = .ok (.istore_n 1, 1) := by decide +kernel
theorem dX12_remember_13 : decode cX12_remember 13 = .ok (.iload_n 1, 1) := by decide +kernel
theorem dX12_remember_14 : decode cX12_remember 14 = .ok (.aload_n 0, 1) := by decide +kernel
theorem dX12_remember_15 : decode cX12_remember 15 = .ok (.getfield 32, 3) := by decide +kernel
theorem dX12_remember_18 : decode cX12_remember 18 = .ok (.arraylength, 1) := by decide +kernel
theorem dX12_remember_19 : decode cX12_remember 19 = .ok (.if_icmp .ge 25, 3) := by decide +kernel
theorem dX12_remember_22 : decode cX12_remember 22 = .ok (.aload_n 0, 1) := by decide +kernel
theorem dX12_remember_23 : decode cX12_remember 23 = .ok (.getfield 32, 3) := by decide +kernel
theorem dX12_remember_26 : decode cX12_remember 26 = .ok (.iload_n 1, 1) := by decide +kernel
theorem dX12_remember_27 : decode cX12_remember 27 = .ok (.sipush 2455, 3) := by decide +kernel
theorem dX12_remember_30 : decode cX12_remember 30 = .ok (.isub, 1) := by decide +kernel
theorem dX12_remember_31 : decode cX12_remember 31 = .ok (.aload_n 0, 1) := by decide +kernel
theorem dX12_remember_32 : decode cX12_remember 32 = .ok (.getfield 32, 3) := by decide +kernel
theorem dX12_remember_35 : decode cX12_remember 35 = .ok (.iload_n 1, 1) := by decide +kernel
theorem dX12_remember_36 : decode cX12_remember 36 = .ok (.iaload, 1) := by decide +kernel
theorem dX12_remember_37 : decode cX12_remember 37 = .ok (.iastore, 1) := by decide +kernel
theorem dX12_remember_38 : decode cX12_remember 38 = .ok (.iinc 1 1, 3) := by decide +kernel
theorem dX12_remember_41 : decode cX12_remember 41 = .ok (.goto (-28), 3) := by decide +kernel
theorem dX12_remember_44 : decode cX12_remember 44 = .ok (.aload_n 0, 1) := by decide +kernel
theorem dX12_remember_45 : decode cX12_remember 45 = .ok (.dup, 1) := by decide +kernel
theorem dX12_remember_46 : decode cX12_remember 46 = .ok (.getfield 255, 3) := by decide +kernel
theorem dX12_remember_49 : decode cX12_remember 49 = .ok (.iconst 1, 1) := by decide +kernel
theorem dX12_remember_50 : decode cX12_remember 50 = .ok (.isub, 1) := by decide +kernel
theorem dX12_remember_51 : decode cX12_remember 51 = .ok (.putfield 255, 3) := by decide +kernel
theorem dX12_remember_54 : decode cX12_remember 54 = .ok (.aload_n 0, 1) := by decide +kernel
theorem dX12_remember_55 : decode cX12_remember 55 = .ok (.getfield 23, 3) := by decide +kernel
theorem dX12_remember_58 : decode cX12_remember 58 = .ok (.iconst 0, 1) := by decide +kernel
theorem dX12_remember_59 : decode cX12_remember 59 = .ok (.aload_n 0, 1) := by decide +kernel
theorem dX12_remember_60 : decode cX12_remember 60 = .ok (.getfield 32, 3) := by decide +kernel
theorem dX12_remember_63 : decode cX12_remember 63 = .ok (.sipush 2455, 3) := by decide +kernel
theorem dX12_remember_66 : decode cX12_remember 66 = .ok (.aload_n 0, 1) := by decide +kernel
theorem dX12_remember_67 : decode cX12_remember 67 = .ok (.getfield 255, 3) := by decide +kernel
theorem dX12_remember_70 : decode cX12_remember 70 = .ok (.imul, 1) := by decide +kernel
theorem dX12_remember_71 : decode cX12_remember 71 = .ok (.invokestatic 233, 3) := by decide +kernel
theorem dX12_remember_74 : decode cX12_remember 74 = .ok (.aload_n 0, 1) := by decide +kernel
theorem dX12_remember_75 : decode cX12_remember 75 = .ok (.dup, 1) := by decide +kernel
theorem dX12_remember_76 : decode cX12_remember 76 = .ok (.getfield 255, 3) := by decide +kernel
theorem dX12_remember_79 : decode cX12_remember 79 = .ok (.iconst 1, 1) := by decide +kernel
theorem dX12_remember_80 : decode cX12_remember 80 = .ok (.iadd, 1) := by decide +kernel
theorem dX12_remember_81 : decode cX12_remember 81 = .ok (.putfield 255, 3) := by decide +kernel
theorem dX12_remember_84 : decode cX12_remember 84 = .ok (.return_, 1) := by decide +kernel
theorem dX12_cellCount_0 : decode cX12_cellCount 0 = .ok (.aload_n 0, 1) := by decide +kernel
theorem dX12_cellCount_1 : decode cX12_cellCount 1 = .ok (.getfield 17, 3) := by decide +kernel
theorem dX12_cellCount_4 : decode cX12_cellCount 4 = .ok (.bipush 9, 2) := by decide +kernel
theorem dX12_cellCount_6 : decode cX12_cellCount 6 = .ok (.iaload, 1) := by decide +kernel
theorem dX12_cellCount_7 : decode cX12_cellCount 7 = .ok (.aload_n 0, 1) := by decide +kernel
theorem dX12_cellCount_8 : decode cX12_cellCount 8 = .ok (.getfield 17, 3) := by decide +kernel
theorem dX12_cellCount_11 : decode cX12_cellCount 11 = .ok (.bipush 10, 2) := by decide +kernel
theorem dX12_cellCount_13 : decode cX12_cellCount 13 = .ok (.iaload, 1) := by decide +kernel
theorem dX12_cellCount_14 : decode cX12_cellCount 14 = .ok (.imul, 1) := by decide +kernel
theorem dX12_cellCount_15 : decode cX12_cellCount 15 = .ok (.ireturn, 1) := by decide +kernel
theorem dX12_centre_0 : decode cX12_centre 0 = .ok (.iload_n 2, 1) := by decide +kernel
theorem dX12_centre_1 : decode cX12_centre 1 = .ok (.ifCond .ne 31, 3) := by decide +kernel
theorem dX12_centre_4 : decode cX12_centre 4 = .ok (.aload_n 0, 1) := by decide +kernel
theorem dX12_centre_5 : decode cX12_centre 5 = .ok (.getfield 17, 3) := by decide +kernel
theorem dX12_centre_8 : decode cX12_centre 8 = .ok (.bipush 6, 2) := by decide +kernel
theorem dX12_centre_10 : decode cX12_centre 10 = .ok (.iaload, 1) := by decide +kernel
theorem dX12_centre_11 : decode cX12_centre 11 = .ok (.aload_n 0, 1) := by decide +kernel
theorem dX12_centre_12 : decode cX12_centre 12 = .ok (.getfield 17, 3) := by decide +kernel
theorem dX12_centre_15 : decode cX12_centre 15 = .ok (.bipush 8, 2) := by decide +kernel
theorem dX12_centre_17 : decode cX12_centre 17 = .ok (.iaload, 1) := by decide +kernel
theorem dX12_centre_18 : decode cX12_centre 18 = .ok (.iload_n 1, 1) := by decide +kernel
theorem dX12_centre_19 : decode cX12_centre 19 = .ok (.aload_n 0, 1) := by decide +kernel
theorem dX12_centre_20 : decode cX12_centre 20 = .ok (.getfield 17, 3) := by decide +kernel
theorem dX12_centre_23 : decode cX12_centre 23 = .ok (.bipush 9, 2) := by decide +kernel
theorem dX12_centre_25 : decode cX12_centre 25 = .ok (.iaload, 1) := by decide +kernel
theorem dX12_centre_26 : decode cX12_centre 26 = .ok (.irem, 1) := by decide +kernel
theorem dX12_centre_27 : decode cX12_centre 27 = .ok (.imul, 1) := by decide +kernel
theorem dX12_centre_28 : decode cX12_centre 28 = .ok (.iadd, 1) := by decide +kernel
theorem dX12_centre_29 : decode cX12_centre 29 = .ok (.goto 28, 3) := by decide +kernel
theorem dX12_centre_32 : decode cX12_centre 32 = .ok (.aload_n 0, 1) := by decide +kernel
theorem dX12_centre_33 : decode cX12_centre 33 = .ok (.getfield 17, 3) := by decide +kernel
theorem dX12_centre_36 : decode cX12_centre 36 = .ok (.bipush 7, 2) := by decide +kernel
theorem dX12_centre_38 : decode cX12_centre 38 = .ok (.iaload, 1) := by decide +kernel
theorem dX12_centre_39 : decode cX12_centre 39 = .ok (.aload_n 0, 1) := by decide +kernel
theorem dX12_centre_40 : decode cX12_centre 40 = .ok (.getfield 17, 3) := by decide +kernel
theorem dX12_centre_43 : decode cX12_centre 43 = .ok (.bipush 8, 2) := by decide +kernel
theorem dX12_centre_45 : decode cX12_centre 45 = .ok (.iaload, 1) := by decide +kernel
theorem dX12_centre_46 : decode cX12_centre 46 = .ok (.iload_n 1, 1) := by decide +kernel
theorem dX12_centre_47 : decode cX12_centre 47 = .ok (.aload_n 0, 1) := by decide +kernel
theorem dX12_centre_48 : decode cX12_centre 48 = .ok (.getfield 17, 3) := by decide +kernel
theorem dX12_centre_51 : decode cX12_centre 51 = .ok (.bipush 9, 2) := by decide +kernel
theorem dX12_centre_53 : decode cX12_centre 53 = .ok (.iaload, 1) := by decide +kernel
theorem dX12_centre_54 : decode cX12_centre 54 = .ok (.idiv, 1) := by decide +kernel
theorem dX12_centre_55 : decode cX12_centre 55 = .ok (.imul, 1) := by decide +kernel
theorem dX12_centre_56 : decode cX12_centre 56 = .ok (.iadd, 1) := by decide +kernel
theorem dX12_centre_57 : decode cX12_centre 57 = .ok (.ireturn, 1) := by decide +kernel
theorem dX12_root_0 : decode cX12_root 0 = .ok (.iconst 0, 1) := by decide +kernel
theorem dX12_root_1 : decode cX12_root 1 = .ok (.istore_n 1, 1) := by decide +kernel
theorem dX12_root_2 : decode cX12_root 2 = .ok (.ldc_w 258, 3) := by decide +kernel
theorem dX12_root_5 : decode cX12_root 5 = .ok (.istore_n 2, 1) := by decide +kernel
theorem dX12_root_6 : decode cX12_root 6 = .ok (.iload_n 2, 1) := by decide +kernel
theorem dX12_root_7 : decode cX12_root 7 = .ok (.ifCond .le 28, 3) := by decide +kernel
theorem dX12_root_10 : decode cX12_root 10 = .ok (.iload_n 1, 1) := by decide +kernel
theorem dX12_root_11 : decode cX12_root 11 = .ok (.iload_n 2, 1) := by decide +kernel
theorem dX12_root_12 : decode cX12_root 12 = .ok (.iadd, 1) := by decide +kernel
theorem dX12_root_13 : decode cX12_root 13 = .ok (.i2l, 1) := by decide +kernel
theorem dX12_root_14 : decode cX12_root 14 = .ok (.lstore_n 3, 1) := by decide +kernel
theorem dX12_root_15 : decode cX12_root 15 = .ok (.lload_n 3, 1) := by decide +kernel
theorem dX12_root_16 : decode cX12_root 16 = .ok (.lload_n 3, 1) := by decide +kernel
theorem dX12_root_17 : decode cX12_root 17 = .ok (.lmul, 1) := by decide +kernel
theorem dX12_root_18 : decode cX12_root 18 = .ok (.iload_n 0, 1) := by decide +kernel
theorem dX12_root_19 : decode cX12_root 19 = .ok (.i2l, 1) := by decide +kernel
theorem dX12_root_20 : decode cX12_root 20 = .ok (.lcmp, 1) := by decide +kernel
theorem dX12_root_21 : decode cX12_root 21 = .ok (.ifCond .gt 7, 3) := by decide +kernel
theorem dX12_root_24 : decode cX12_root 24 = .ok (.iload_n 1, 1) := by decide +kernel
theorem dX12_root_25 : decode cX12_root 25 = .ok (.iload_n 2, 1) := by decide +kernel
theorem dX12_root_26 : decode cX12_root 26 = .ok (.iadd, 1) := by decide +kernel
theorem dX12_root_27 : decode cX12_root 27 = .ok (.istore_n 1, 1) := by decide +kernel
theorem dX12_root_28 : decode cX12_root 28 = .ok (.iload_n 2, 1) := by decide +kernel
theorem dX12_root_29 : decode cX12_root 29 = .ok (.iconst 2, 1) := by decide +kernel
theorem dX12_root_30 : decode cX12_root 30 = .ok (.idiv, 1) := by decide +kernel
theorem dX12_root_31 : decode cX12_root 31 = .ok (.istore_n 2, 1) := by decide +kernel
theorem dX12_root_32 : decode cX12_root 32 = .ok (.goto (-26), 3) := by decide +kernel
theorem dX12_root_35 : decode cX12_root 35 = .ok (.iload_n 1, 1) := by decide +kernel
theorem dX12_root_36 : decode cX12_root 36 = .ok (.ireturn, 1) := by decide +kernel
theorem dX12_delayFrom_0 : decode cX12_delayFrom 0 = .ok (.iload_n 2, 1) := by decide +kernel
theorem dX12_delayFrom_1 : decode cX12_delayFrom 1 = .ok (.aload_n 0, 1) := by decide +kernel
theorem dX12_delayFrom_2 : decode cX12_delayFrom 2 = .ok (.getfield 17, 3) := by decide +kernel
theorem dX12_delayFrom_5 : decode cX12_delayFrom 5 = .ok (.bipush 11, 2) := by decide +kernel
theorem dX12_delayFrom_7 : decode cX12_delayFrom 7 = .ok (.iload_n 1, 1) := by decide +kernel
theorem dX12_delayFrom_8 : decode cX12_delayFrom 8 = .ok (.iadd, 1) := by decide +kernel
theorem dX12_delayFrom_9 : decode cX12_delayFrom 9 = .ok (.iaload, 1) := by decide +kernel
theorem dX12_delayFrom_10 : decode cX12_delayFrom 10 = .ok (.isub, 1) := by decide +kernel
theorem dX12_delayFrom_11 : decode cX12_delayFrom 11 = .ok (.istore 4, 2) := by decide +kernel
theorem dX12_delayFrom_13 : decode cX12_delayFrom 13 = .ok (.iload_n 3, 1) := by decide +kernel
theorem dX12_delayFrom_14 : decode cX12_delayFrom 14 = .ok (.aload_n 0, 1) := by decide +kernel
theorem dX12_delayFrom_15 : decode cX12_delayFrom 15 = .ok (.getfield 17, 3) := by decide +kernel
theorem dX12_delayFrom_18 : decode cX12_delayFrom 18 = .ok (.bipush 23, 2) := by decide +kernel
theorem dX12_delayFrom_20 : decode cX12_delayFrom 20 = .ok (.iload_n 1, 1) := by decide +kernel
theorem dX12_delayFrom_21 : decode cX12_delayFrom 21 = .ok (.iadd, 1) := by decide +kernel
theorem dX12_delayFrom_22 : decode cX12_delayFrom 22 = .ok (.iaload, 1) := by decide +kernel
theorem dX12_delayFrom_23 : decode cX12_delayFrom 23 = .ok (.isub, 1) := by decide +kernel
theorem dX12_delayFrom_24 : decode cX12_delayFrom 24 = .ok (.istore 5, 2) := by decide +kernel
theorem dX12_delayFrom_26 : decode cX12_delayFrom 26 = .ok (.aload_n 0, 1) := by decide +kernel
theorem dX12_delayFrom_27 : decode cX12_delayFrom 27 = .ok (.getfield 17, 3) := by decide +kernel
theorem dX12_delayFrom_30 : decode cX12_delayFrom 30 = .ok (.iconst 0, 1) := by decide +kernel
theorem dX12_delayFrom_31 : decode cX12_delayFrom 31 = .ok (.iaload, 1) := by decide +kernel
theorem dX12_delayFrom_32 : decode cX12_delayFrom 32 = .ok (.istore 6, 2) := by decide +kernel
theorem dX12_delayFrom_34 : decode cX12_delayFrom 34 = .ok (.iload 4, 2) := by decide +kernel
theorem dX12_delayFrom_36 : decode cX12_delayFrom 36 = .ok (.iload 4, 2) := by decide +kernel
theorem dX12_delayFrom_38 : decode cX12_delayFrom 38 = .ok (.imul, 1) := by decide +kernel
theorem dX12_delayFrom_39 : decode cX12_delayFrom 39 = .ok (.iload 5, 2) := by decide +kernel
theorem dX12_delayFrom_41 : decode cX12_delayFrom 41 = .ok (.iload 5, 2) := by decide +kernel
theorem dX12_delayFrom_43 : decode cX12_delayFrom 43 = .ok (.imul, 1) := by decide +kernel
theorem dX12_delayFrom_44 : decode cX12_delayFrom 44 = .ok (.iadd, 1) := by decide +kernel
theorem dX12_delayFrom_45 : decode cX12_delayFrom 45 = .ok (.iload 6, 2) := by decide +kernel
theorem dX12_delayFrom_47 : decode cX12_delayFrom 47 = .ok (.iload 6, 2) := by decide +kernel
theorem dX12_delayFrom_49 : decode cX12_delayFrom 49 = .ok (.imul, 1) := by decide +kernel
theorem dX12_delayFrom_50 : decode cX12_delayFrom 50 = .ok (.iadd, 1) := by decide +kernel
theorem dX12_delayFrom_51 : decode cX12_delayFrom 51 = .ok (.invokestatic 259, 3) := by decide +kernel
theorem dX12_delayFrom_54 : decode cX12_delayFrom 54 = .ok (.aload_n 0, 1) := by decide +kernel
theorem dX12_delayFrom_55 : decode cX12_delayFrom 55 = .ok (.getfield 17, 3) := by decide +kernel
theorem dX12_delayFrom_58 : decode cX12_delayFrom 58 = .ok (.iconst 1, 1) := by decide +kernel
theorem dX12_delayFrom_59 : decode cX12_delayFrom 59 = .ok (.iaload, 1) := by decide +kernel
theorem dX12_delayFrom_60 : decode cX12_delayFrom 60 = .ok (.idiv, 1) := by decide +kernel
theorem dX12_delayFrom_61 : decode cX12_delayFrom 61 = .ok (.iload 6, 2) := by decide +kernel
theorem dX12_delayFrom_63 : decode cX12_delayFrom 63 = .ok (.aload_n 0, 1) := by decide +kernel
theorem dX12_delayFrom_64 : decode cX12_delayFrom 64 = .ok (.getfield 17, 3) := by decide +kernel
theorem dX12_delayFrom_67 : decode cX12_delayFrom 67 = .ok (.iconst 1, 1) := by decide +kernel
theorem dX12_delayFrom_68 : decode cX12_delayFrom 68 = .ok (.iaload, 1) := by decide +kernel
theorem dX12_delayFrom_69 : decode cX12_delayFrom 69 = .ok (.idiv, 1) := by decide +kernel
theorem dX12_delayFrom_70 : decode cX12_delayFrom 70 = .ok (.isub, 1) := by decide +kernel
theorem dX12_delayFrom_71 : decode cX12_delayFrom 71 = .ok (.ireturn, 1) := by decide +kernel
theorem dX12_sourcePlace_0 : decode cX12_sourcePlace 0 = .ok (.iload_n 3, 1) := by decide +kernel
theorem dX12_sourcePlace_1 : decode cX12_sourcePlace 1 = .ok (.ifCond .ne 25, 3) := by decide +kernel
theorem dX12_sourcePlace_4 : decode cX12_sourcePlace 4 = .ok (.aload_n 1, 1) := by decide +kernel
theorem dX12_sourcePlace_5 : decode cX12_sourcePlace 5 = .ok (.bipush 31, 2) := by decide +kernel
theorem dX12_sourcePlace_7 : decode cX12_sourcePlace 7 = .ok (.iload_n 2, 1) := by decide +kernel
theorem dX12_sourcePlace_8 : decode cX12_sourcePlace 8 = .ok (.iadd, 1) := by decide +kernel
theorem dX12_sourcePlace_9 : decode cX12_sourcePlace 9 = .ok (.iaload, 1) := by decide +kernel
theorem dX12_sourcePlace_10 : decode cX12_sourcePlace 10 = .ok (.aload_n 1, 1) := by decide +kernel
theorem dX12_sourcePlace_11 : decode cX12_sourcePlace 11 = .ok (.bipush 43, 2) := by decide +kernel
theorem dX12_sourcePlace_13 : decode cX12_sourcePlace 13 = .ok (.iload_n 2, 1) := by decide +kernel
theorem dX12_sourcePlace_14 : decode cX12_sourcePlace 14 = .ok (.iadd, 1) := by decide +kernel
theorem dX12_sourcePlace_15 : decode cX12_sourcePlace 15 = .ok (.iaload, 1) := by decide +kernel
theorem dX12_sourcePlace_16 : decode cX12_sourcePlace 16 = .ok (.iload 4, 2) := by decide +kernel
theorem dX12_sourcePlace_18 : decode cX12_sourcePlace 18 = .ok (.imul, 1) := by decide +kernel
theorem dX12_sourcePlace_19 : decode cX12_sourcePlace 19 = .ok (.bipush 100, 2) := by decide +kernel
theorem dX12_sourcePlace_21 : decode cX12_sourcePlace 21 = .ok (.idiv, 1) := by decide +kernel
theorem dX12_sourcePlace_22 : decode cX12_sourcePlace 22 = .ok (.iadd, 1) := by decide +kernel
theorem dX12_sourcePlace_23 : decode cX12_sourcePlace 23 = .ok (.goto 22, 3) := by decide +kernel
theorem dX12_sourcePlace_26 : decode cX12_sourcePlace 26 = .ok (.aload_n 1, 1) := by decide +kernel
theorem dX12_sourcePlace_27 : decode cX12_sourcePlace 27 = .ok (.bipush 37, 2) := by decide +kernel
theorem dX12_sourcePlace_29 : decode cX12_sourcePlace 29 = .ok (.iload_n 2, 1) := by decide +kernel
theorem dX12_sourcePlace_30 : decode cX12_sourcePlace 30 = .ok (.iadd, 1) := by decide +kernel
theorem dX12_sourcePlace_31 : decode cX12_sourcePlace 31 = .ok (.iaload, 1) := by decide +kernel
theorem dX12_sourcePlace_32 : decode cX12_sourcePlace 32 = .ok (.aload_n 1, 1) := by decide +kernel
theorem dX12_sourcePlace_33 : decode cX12_sourcePlace 33 = .ok (.bipush 49, 2) := by decide +kernel
theorem dX12_sourcePlace_35 : decode cX12_sourcePlace 35 = .ok (.iload_n 2, 1) := by decide +kernel
theorem dX12_sourcePlace_36 : decode cX12_sourcePlace 36 = .ok (.iadd, 1) := by decide +kernel
theorem dX12_sourcePlace_37 : decode cX12_sourcePlace 37 = .ok (.iaload, 1) := by decide +kernel
theorem dX12_sourcePlace_38 : decode cX12_sourcePlace 38 = .ok (.iload 4, 2) := by decide +kernel
theorem dX12_sourcePlace_40 : decode cX12_sourcePlace 40 = .ok (.imul, 1) := by decide +kernel
theorem dX12_sourcePlace_41 : decode cX12_sourcePlace 41 = .ok (.bipush 100, 2) := by decide +kernel
theorem dX12_sourcePlace_43 : decode cX12_sourcePlace 43 = .ok (.idiv, 1) := by decide +kernel
theorem dX12_sourcePlace_44 : decode cX12_sourcePlace 44 = .ok (.iadd, 1) := by decide +kernel
theorem dX12_sourcePlace_45 : decode cX12_sourcePlace 45 = .ok (.ireturn, 1) := by decide +kernel
theorem dX12_wave_0 : decode cX12_wave 0 = .ok (.aload_n 0, 1) := by decide +kernel
theorem dX12_wave_1 : decode cX12_wave 1 = .ok (.getfield 17, 3) := by decide +kernel
theorem dX12_wave_4 : decode cX12_wave 4 = .ok (.bipush 53, 2) := by decide +kernel
theorem dX12_wave_6 : decode cX12_wave 6 = .ok (.iload_n 1, 1) := by decide +kernel
theorem dX12_wave_7 : decode cX12_wave 7 = .ok (.iadd, 1) := by decide +kernel
theorem dX12_wave_8 : decode cX12_wave 8 = .ok (.iaload, 1) := by decide +kernel
theorem dX12_wave_9 : decode cX12_wave 9 = .ok (.istore_n 3, 1) := by decide +kernel
theorem dX12_wave_10 : decode cX12_wave 10 = .ok (.aload_n 0, 1) := by decide +kernel
theorem dX12_wave_11 : decode cX12_wave 11 = .ok (.getfield 17, 3) := by decide +kernel
theorem dX12_wave_14 : decode cX12_wave 14 = .ok (.bipush 59, 2) := by decide +kernel
theorem dX12_wave_16 : decode cX12_wave 16 = .ok (.iload_n 1, 1) := by decide +kernel
theorem dX12_wave_17 : decode cX12_wave 17 = .ok (.iadd, 1) := by decide +kernel
theorem dX12_wave_18 : decode cX12_wave 18 = .ok (.iaload, 1) := by decide +kernel
theorem dX12_wave_19 : decode cX12_wave 19 = .ok (.istore 4, 2) := by decide +kernel
theorem dX12_wave_21 : decode cX12_wave 21 = .ok (.iload_n 2, 1) := by decide +kernel
theorem dX12_wave_22 : decode cX12_wave 22 = .ok (.aload_n 0, 1) := by decide +kernel
theorem dX12_wave_23 : decode cX12_wave 23 = .ok (.getfield 17, 3) := by decide +kernel
theorem dX12_wave_26 : decode cX12_wave 26 = .ok (.bipush 95, 2) := by decide +kernel
theorem dX12_wave_28 : decode cX12_wave 28 = .ok (.iload_n 1, 1) := by decide +kernel
theorem dX12_wave_29 : decode cX12_wave 29 = .ok (.iadd, 1) := by decide +kernel
theorem dX12_wave_30 : decode cX12_wave 30 = .ok (.iaload, 1) := by decide +kernel
theorem dX12_wave_31 : decode cX12_wave 31 = .ok (.if_icmp .ge 5, 3) := by decide +kernel
theorem dX12_wave_34 : decode cX12_wave 34 = .ok (.iconst 0, 1) := by decide +kernel
theorem dX12_wave_35 : decode cX12_wave 35 = .ok (.ireturn, 1) := by decide +kernel
theorem dX12_wave_36 : decode cX12_wave 36 = .ok (.iload_n 2, 1) := by decide +kernel
theorem dX12_wave_37 : decode cX12_wave 37 = .ok (.aload_n 0, 1) := by decide +kernel
theorem dX12_wave_38 : decode cX12_wave 38 = .ok (.getfield 17, 3) := by decide +kernel
theorem dX12_wave_41 : decode cX12_wave 41 = .ok (.bipush 65, 2) := by decide +kernel
theorem dX12_wave_43 : decode cX12_wave 43 = .ok (.iload_n 1, 1) := by decide +kernel
theorem dX12_wave_44 : decode cX12_wave 44 = .ok (.iadd, 1) := by decide +kernel
theorem dX12_wave_45 : decode cX12_wave 45 = .ok (.iaload, 1) := by decide +kernel
theorem dX12_wave_46 : decode cX12_wave 46 = .ok (.iadd, 1) := by decide +kernel
theorem dX12_wave_47 : decode cX12_wave 47 = .ok (.iload 4, 2) := by decide +kernel
theorem dX12_wave_49 : decode cX12_wave 49 = .ok (.irem, 1) := by decide +kernel
theorem dX12_wave_50 : decode cX12_wave 50 = .ok (.istore 5, 2) := by decide +kernel
theorem dX12_wave_52 : decode cX12_wave 52 = .ok (.aload_n 0, 1) := by decide +kernel
theorem dX12_wave_53 : decode cX12_wave 53 = .ok (.getfield 17, 3) := by decide +kernel
theorem dX12_wave_56 : decode cX12_wave 56 = .ok (.bipush 47, 2) := by decide +kernel
theorem dX12_wave_58 : decode cX12_wave 58 = .ok (.iload_n 1, 1) := by decide +kernel
theorem dX12_wave_59 : decode cX12_wave 59 = .ok (.iadd, 1) := by decide +kernel
theorem dX12_wave_60 : decode cX12_wave 60 = .ok (.iaload, 1) := by decide +kernel
theorem dX12_wave_61 : decode cX12_wave 61 = .ok (.tableswitch 75 0 2 #[27, 43, 64], 27) := by decide +kernel
theorem dX12_wave_88 : decode cX12_wave 88 = .ok (.iload 5, 2) := by decide +kernel
theorem dX12_wave_90 : decode cX12_wave 90 = .ok (.iload 4, 2) := by decide +kernel
theorem dX12_wave_92 : decode cX12_wave 92 = .ok (.iconst 2, 1) := by decide +kernel
theorem dX12_wave_93 : decode cX12_wave 93 = .ok (.idiv, 1) := by decide +kernel
theorem dX12_wave_94 : decode cX12_wave 94 = .ok (.if_icmp .ge 7, 3) := by decide +kernel
theorem dX12_wave_97 : decode cX12_wave 97 = .ok (.iload_n 3, 1) := by decide +kernel
theorem dX12_wave_98 : decode cX12_wave 98 = .ok (.goto 5, 3) := by decide +kernel
theorem dX12_wave_101 : decode cX12_wave 101 = .ok (.iload_n 3, 1) := by decide +kernel
theorem dX12_wave_102 : decode cX12_wave 102 = .ok (.ineg, 1) := by decide +kernel
theorem dX12_wave_103 : decode cX12_wave 103 = .ok (.ireturn, 1) := by decide +kernel
theorem dX12_wave_104 : decode cX12_wave 104 = .ok (.iload_n 3, 1) := by decide +kernel
theorem dX12_wave_105 : decode cX12_wave 105 = .ok (.iconst 4, 1) := by decide +kernel
theorem dX12_wave_106 : decode cX12_wave 106 = .ok (.iload 5, 2) := by decide +kernel
theorem dX12_wave_108 : decode cX12_wave 108 = .ok (.iload 4, 2) := by decide +kernel
theorem dX12_wave_110 : decode cX12_wave 110 = .ok (.iconst 2, 1) := by decide +kernel
theorem dX12_wave_111 : decode cX12_wave 111 = .ok (.idiv, 1) := by decide +kernel
theorem dX12_wave_112 : decode cX12_wave 112 = .ok (.isub, 1) := by decide +kernel
theorem dX12_wave_113 : decode cX12_wave 113 = .ok (.invokestatic 262, 3) := by decide +kernel
theorem dX12_wave_116 : decode cX12_wave 116 = .ok (.imul, 1) := by decide +kernel
theorem dX12_wave_117 : decode cX12_wave 117 = .ok (.iload 4, 2) := by decide +kernel
theorem dX12_wave_119 : decode cX12_wave 119 = .ok (.isub, 1) := by decide +kernel
theorem dX12_wave_120 : decode cX12_wave 120 = .ok (.imul, 1) := by decide +kernel
theorem dX12_wave_121 : decode cX12_wave 121 = .ok (.iload 4, 2) := by decide +kernel
theorem dX12_wave_123 : decode cX12_wave 123 = .ok (.idiv, 1) := by decide +kernel
theorem dX12_wave_124 : decode cX12_wave 124 = .ok (.ireturn, 1) := by decide +kernel
theorem dX12_wave_125 : decode cX12_wave 125 = .ok (.iload 5, 2) := by decide +kernel
theorem dX12_wave_127 : decode cX12_wave 127 = .ok (.ifCond .ne 7, 3) := by decide +kernel
theorem dX12_wave_130 : decode cX12_wave 130 = .ok (.iload_n 3, 1) := by decide +kernel
theorem dX12_wave_131 : decode cX12_wave 131 = .ok (.goto 4, 3) := by decide +kernel
theorem dX12_wave_134 : decode cX12_wave 134 = .ok (.iconst 0, 1) := by decide +kernel
theorem dX12_wave_135 : decode cX12_wave 135 = .ok (.ireturn, 1) := by decide +kernel
theorem dX12_wave_136 : decode cX12_wave 136 = .ok (.bipush 31, 2) := by decide +kernel
theorem dX12_wave_138 : decode cX12_wave 138 = .ok (.iload_n 2, 1) := by decide +kernel
theorem dX12_wave_139 : decode cX12_wave 139 = .ok (.imul, 1) := by decide +kernel
theorem dX12_wave_140 : decode cX12_wave 140 = .ok (.iload_n 2, 1) := by decide +kernel
theorem dX12_wave_141 : decode cX12_wave 141 = .ok (.imul, 1) := by decide +kernel
theorem dX12_wave_142 : decode cX12_wave 142 = .ok (.sipush 7919, 3) := by decide +kernel
theorem dX12_wave_145 : decode cX12_wave 145 = .ok (.iload_n 2, 1) := by decide +kernel
theorem dX12_wave_146 : decode cX12_wave 146 = .ok (.imul, 1) := by decide +kernel
theorem dX12_wave_147 : decode cX12_wave 147 = .ok (.iadd, 1) := by decide +kernel
theorem dX12_wave_148 : decode cX12_wave 148 = .ok (.ldc_w 267, 3) := by decide +kernel
theorem dX12_wave_151 : decode cX12_wave 151 = .ok (.aload_n 0, 1) := by decide +kernel
theorem dX12_wave_152 : decode cX12_wave 152 = .ok (.getfield 17, 3) := by decide +kernel
theorem dX12_wave_155 : decode cX12_wave 155 = .ok (.bipush 65, 2) := by decide +kernel
theorem dX12_wave_157 : decode cX12_wave 157 = .ok (.iload_n 1, 1) := by decide +kernel
theorem dX12_wave_158 : decode cX12_wave 158 = .ok (.iadd, 1) := by decide +kernel
theorem dX12_wave_159 : decode cX12_wave 159 = .ok (.iaload, 1) := by decide +kernel
theorem dX12_wave_160 : decode cX12_wave 160 = .ok (.imul, 1) := by decide +kernel
theorem dX12_wave_161 : decode cX12_wave 161 = .ok (.iadd, 1) := by decide +kernel
theorem dX12_wave_162 : decode cX12_wave 162 = .ok (.iconst 2, 1) := by decide +kernel
theorem dX12_wave_163 : decode cX12_wave 163 = .ok (.iload_n 3, 1) := by decide +kernel
theorem dX12_wave_164 : decode cX12_wave 164 = .ok (.imul, 1) := by decide +kernel
theorem dX12_wave_165 : decode cX12_wave 165 = .ok (.iconst 1, 1) := by decide +kernel
theorem dX12_wave_166 : decode cX12_wave 166 = .ok (.iadd, 1) := by decide +kernel
theorem dX12_wave_167 : decode cX12_wave 167 = .ok (.irem, 1) := by decide +kernel
theorem dX12_wave_168 : decode cX12_wave 168 = .ok (.iload_n 3, 1) := by decide +kernel
theorem dX12_wave_169 : decode cX12_wave 169 = .ok (.isub, 1) := by decide +kernel
theorem dX12_wave_170 : decode cX12_wave 170 = .ok (.ireturn, 1) := by decide +kernel
theorem dX12_bounded_0 : decode cX12_bounded 0 = .ok (.aload_n 0, 1) := by decide +kernel
theorem dX12_bounded_1 : decode cX12_bounded 1 = .ok (.getfield 17, 3) := by decide +kernel
theorem dX12_bounded_4 : decode cX12_bounded 4 = .ok (.iconst 3, 1) := by decide +kernel
theorem dX12_bounded_5 : decode cX12_bounded 5 = .ok (.iaload, 1) := by decide +kernel
theorem dX12_bounded_6 : decode cX12_bounded 6 = .ok (.ineg, 1) := by decide +kernel
theorem dX12_bounded_7 : decode cX12_bounded 7 = .ok (.aload_n 0, 1) := by decide +kernel
theorem dX12_bounded_8 : decode cX12_bounded 8 = .ok (.getfield 17, 3) := by decide +kernel
theorem dX12_bounded_11 : decode cX12_bounded 11 = .ok (.iconst 3, 1) := by decide +kernel
theorem dX12_bounded_12 : decode cX12_bounded 12 = .ok (.iaload, 1) := by decide +kernel
theorem dX12_bounded_13 : decode cX12_bounded 13 = .ok (.iload_n 1, 1) := by decide +kernel
theorem dX12_bounded_14 : decode cX12_bounded 14 = .ok (.invokestatic 268, 3) := by decide +kernel
theorem dX12_bounded_17 : decode cX12_bounded 17 = .ok (.invokestatic 271, 3) := by decide +kernel
theorem dX12_bounded_20 : decode cX12_bounded 20 = .ok (.ireturn, 1) := by decide +kernel
theorem dX12_waveNow_0 : decode cX12_waveNow 0 = .ok (.aload_n 0, 1) := by decide +kernel
theorem dX12_waveNow_1 : decode cX12_waveNow 1 = .ok (.getfield 45, 3) := by decide +kernel
theorem dX12_waveNow_4 : decode cX12_waveNow 4 = .ok (.iconst (-1), 1) := by decide +kernel
theorem dX12_waveNow_5 : decode cX12_waveNow 5 = .ok (.if_icmp .ne 12, 3) := by decide +kernel
theorem dX12_waveNow_8 : decode cX12_waveNow 8 = .ok (.aload_n 0, 1) := by decide +kernel
theorem dX12_waveNow_9 : decode cX12_waveNow 9 = .ok (.iload_n 1, 1) := by decide +kernel
theorem dX12_waveNow_10 : decode cX12_waveNow 10 = .ok (.iload_n 2, 1) := by decide +kernel
theorem dX12_waveNow_11 : decode cX12_waveNow 11 = .ok (.invokevirtual 274, 3) := by decide +kernel
theorem dX12_waveNow_14 : decode cX12_waveNow 14 = .ok (.goto 25, 3) := by decide +kernel
theorem dX12_waveNow_17 : decode cX12_waveNow 17 = .ok (.iload_n 2, 1) := by decide +kernel
theorem dX12_waveNow_18 : decode cX12_waveNow 18 = .ok (.aload_n 0, 1) := by decide +kernel
theorem dX12_waveNow_19 : decode cX12_waveNow 19 = .ok (.getfield 277, 3) := by decide +kernel
theorem dX12_waveNow_22 : decode cX12_waveNow 22 = .ok (.irem, 1) := by decide +kernel
theorem dX12_waveNow_23 : decode cX12_waveNow 23 = .ok (.aload_n 0, 1) := by decide +kernel
theorem dX12_waveNow_24 : decode cX12_waveNow 24 = .ok (.getfield 277, 3) := by decide +kernel
theorem dX12_waveNow_27 : decode cX12_waveNow 27 = .ok (.iconst 2, 1) := by decide +kernel
theorem dX12_waveNow_28 : decode cX12_waveNow 28 = .ok (.idiv, 1) := by decide +kernel
theorem dX12_waveNow_29 : decode cX12_waveNow 29 = .ok (.if_icmp .ge 8, 3) := by decide +kernel
theorem dX12_waveNow_32 : decode cX12_waveNow 32 = .ok (.bipush 100, 2) := by decide +kernel
theorem dX12_waveNow_34 : decode cX12_waveNow 34 = .ok (.goto 5, 3) := by decide +kernel
theorem dX12_waveNow_37 : decode cX12_waveNow 37 = .ok (.bipush (-100), 2) := by decide +kernel
theorem dX12_waveNow_39 : decode cX12_waveNow 39 = .ok (.ireturn, 1) := by decide +kernel
theorem dX12_heardFrom_0 : decode cX12_heardFrom 0 = .ok (.aload_n 0, 1) := by decide +kernel
theorem dX12_heardFrom_1 : decode cX12_heardFrom 1 = .ok (.iload_n 1, 1) := by decide +kernel
theorem dX12_heardFrom_2 : decode cX12_heardFrom 2 = .ok (.iload_n 2, 1) := by decide +kernel
theorem dX12_heardFrom_3 : decode cX12_heardFrom 3 = .ok (.iload_n 3, 1) := by decide +kernel
theorem dX12_heardFrom_4 : decode cX12_heardFrom 4 = .ok (.invokevirtual 243, 3) := by decide +kernel
theorem dX12_heardFrom_7 : decode cX12_heardFrom 7 = .ok (.istore 6, 2) := by decide +kernel
theorem dX12_heardFrom_9 : decode cX12_heardFrom 9 = .ok (.iload 5, 2) := by decide +kernel
theorem dX12_heardFrom_11 : decode cX12_heardFrom 11 = .ok (.iload 6, 2) := by decide +kernel
theorem dX12_heardFrom_13 : decode cX12_heardFrom 13 = .ok (.if_icmp .ge 7, 3) := by decide +kernel
theorem dX12_heardFrom_16 : decode cX12_heardFrom 16 = .ok (.iconst 0, 1) := by decide +kernel
theorem dX12_heardFrom_17 : decode cX12_heardFrom 17 = .ok (.goto 14, 3) := by decide +kernel
theorem dX12_heardFrom_20 : decode cX12_heardFrom 20 = .ok (.aload_n 0, 1) := by decide +kernel
theorem dX12_heardFrom_21 : decode cX12_heardFrom 21 = .ok (.iload 4, 2) := by decide +kernel
theorem dX12_heardFrom_23 : decode cX12_heardFrom 23 = .ok (.iload 5, 2) := by decide +kernel
theorem dX12_heardFrom_25 : decode cX12_heardFrom 25 = .ok (.iload 6, 2) := by decide +kernel
theorem dX12_heardFrom_27 : decode cX12_heardFrom 27 = .ok (.isub, 1) := by decide +kernel
theorem dX12_heardFrom_28 : decode cX12_heardFrom 28 = .ok (.invokevirtual 280, 3) := by decide +kernel
theorem dX12_heardFrom_31 : decode cX12_heardFrom 31 = .ok (.istore 7, 2) := by decide +kernel
theorem dX12_heardFrom_33 : decode cX12_heardFrom 33 = .ok (.aload_n 0, 1) := by decide +kernel
theorem dX12_heardFrom_34 : decode cX12_heardFrom 34 = .ok (.getfield 17, 3) := by decide +kernel
theorem dX12_heardFrom_37 : decode cX12_heardFrom 37 = .ok (.bipush 76, 2) := by decide +kernel
theorem dX12_heardFrom_39 : decode cX12_heardFrom 39 = .ok (.iaload, 1) := by decide +kernel
theorem dX12_heardFrom_40 : decode cX12_heardFrom 40 = .ok (.ifCond .ne 8, 3) := by decide +kernel
theorem dX12_heardFrom_43 : decode cX12_heardFrom 43 = .ok (.iload 7, 2) := by decide +kernel
theorem dX12_heardFrom_45 : decode cX12_heardFrom 45 = .ok (.goto 24, 3) := by decide +kernel
theorem dX12_heardFrom_48 : decode cX12_heardFrom 48 = .ok (.iload 7, 2) := by decide +kernel
theorem dX12_heardFrom_50 : decode cX12_heardFrom 50 = .ok (.aload_n 0, 1) := by decide +kernel
theorem dX12_heardFrom_51 : decode cX12_heardFrom 51 = .ok (.getfield 17, 3) := by decide +kernel
theorem dX12_heardFrom_54 : decode cX12_heardFrom 54 = .ok (.bipush 76, 2) := by decide +kernel
theorem dX12_heardFrom_56 : decode cX12_heardFrom 56 = .ok (.iaload, 1) := by decide +kernel
theorem dX12_heardFrom_57 : decode cX12_heardFrom 57 = .ok (.imul, 1) := by decide +kernel
theorem dX12_heardFrom_58 : decode cX12_heardFrom 58 = .ok (.aload_n 0, 1) := by decide +kernel
theorem dX12_heardFrom_59 : decode cX12_heardFrom 59 = .ok (.getfield 17, 3) := by decide +kernel
theorem dX12_heardFrom_62 : decode cX12_heardFrom 62 = .ok (.bipush 76, 2) := by decide +kernel
theorem dX12_heardFrom_64 : decode cX12_heardFrom 64 = .ok (.iaload, 1) := by decide +kernel
theorem dX12_heardFrom_65 : decode cX12_heardFrom 65 = .ok (.iload 6, 2) := by decide +kernel
theorem dX12_heardFrom_67 : decode cX12_heardFrom 67 = .ok (.iadd, 1) := by decide +kernel
theorem dX12_heardFrom_68 : decode cX12_heardFrom 68 = .ok (.idiv, 1) := by decide +kernel
theorem dX12_heardFrom_69 : decode cX12_heardFrom 69 = .ok (.ireturn, 1) := by decide +kernel
theorem dX12_heardOf_0 : decode cX12_heardOf 0 = .ok (.aload_n 0, 1) := by decide +kernel
theorem dX12_heardOf_1 : decode cX12_heardOf 1 = .ok (.iload_n 1, 1) := by decide +kernel
theorem dX12_heardOf_2 : decode cX12_heardOf 2 = .ok (.iload_n 2, 1) := by decide +kernel
theorem dX12_heardOf_3 : decode cX12_heardOf 3 = .ok (.iload_n 3, 1) := by decide +kernel
theorem dX12_heardOf_4 : decode cX12_heardOf 4 = .ok (.iload 4, 2) := by decide +kernel
theorem dX12_heardOf_6 : decode cX12_heardOf 6 = .ok (.iload 5, 2) := by decide +kernel
theorem dX12_heardOf_8 : decode cX12_heardOf 8 = .ok (.invokevirtual 283, 3) := by decide +kernel
theorem dX12_heardOf_11 : decode cX12_heardOf 11 = .ok (.istore 6, 2) := by decide +kernel
theorem dX12_heardOf_13 : decode cX12_heardOf 13 = .ok (.iconst 0, 1) := by decide +kernel
theorem dX12_heardOf_14 : decode cX12_heardOf 14 = .ok (.istore 7, 2) := by decide +kernel
theorem dX12_heardOf_16 : decode cX12_heardOf 16 = .ok (.iload 7, 2) := by decide +kernel
theorem dX12_heardOf_18 : decode cX12_heardOf 18 = .ok (.aload_n 0, 1) := by decide +kernel
theorem dX12_heardOf_19 : decode cX12_heardOf 19 = .ok (.getfield 17, 3) := by decide +kernel
theorem dX12_heardOf_22 : decode cX12_heardOf 22 = .ok (.bipush 71, 2) := by decide +kernel
theorem dX12_heardOf_24 : decode cX12_heardOf 24 = .ok (.iaload, 1) := by decide +kernel
theorem dX12_heardOf_25 : decode cX12_heardOf 25 = .ok (.if_icmp .ge 52, 3) := by decide +kernel
theorem dX12_heardOf_28 : decode cX12_heardOf 28 = .ok (.iload 6, 2) := by decide +kernel
theorem dX12_heardOf_30 : decode cX12_heardOf 30 = .ok (.aload_n 0, 1) := by decide +kernel
theorem dX12_heardOf_31 : decode cX12_heardOf 31 = .ok (.iload_n 1, 1) := by decide +kernel
theorem dX12_heardOf_32 : decode cX12_heardOf 32 = .ok (.iconst 2, 1) := by decide +kernel
theorem dX12_heardOf_33 : decode cX12_heardOf 33 = .ok (.aload_n 0, 1) := by decide +kernel
theorem dX12_heardOf_34 : decode cX12_heardOf 34 = .ok (.getfield 17, 3) := by decide +kernel
theorem dX12_heardOf_37 : decode cX12_heardOf 37 = .ok (.bipush 72, 2) := by decide +kernel
theorem dX12_heardOf_39 : decode cX12_heardOf 39 = .ok (.iload 7, 2) := by decide +kernel
theorem dX12_heardOf_41 : decode cX12_heardOf 41 = .ok (.iadd, 1) := by decide +kernel
theorem dX12_heardOf_42 : decode cX12_heardOf 42 = .ok (.iaload, 1) := by decide +kernel
theorem dX12_heardOf_43 : decode cX12_heardOf 43 = .ok (.imul, 1) := by decide +kernel
theorem dX12_heardOf_44 : decode cX12_heardOf 44 = .ok (.iload_n 2, 1) := by decide +kernel
theorem dX12_heardOf_45 : decode cX12_heardOf 45 = .ok (.isub, 1) := by decide +kernel
theorem dX12_heardOf_46 : decode cX12_heardOf 46 = .ok (.iload_n 3, 1) := by decide +kernel
theorem dX12_heardOf_47 : decode cX12_heardOf 47 = .ok (.iload 4, 2) := by decide +kernel
theorem dX12_heardOf_49 : decode cX12_heardOf 49 = .ok (.iload 5, 2) := by decide +kernel
theorem dX12_heardOf_51 : decode cX12_heardOf 51 = .ok (.invokevirtual 283, 3) := by decide +kernel
theorem dX12_heardOf_54 : decode cX12_heardOf 54 = .ok (.aload_n 0, 1) := by decide +kernel
theorem dX12_heardOf_55 : decode cX12_heardOf 55 = .ok (.getfield 17, 3) := by decide +kernel
theorem dX12_heardOf_58 : decode cX12_heardOf 58 = .ok (.bipush 74, 2) := by decide +kernel
theorem dX12_heardOf_60 : decode cX12_heardOf 60 = .ok (.iload 7, 2) := by decide +kernel
theorem dX12_heardOf_62 : decode cX12_heardOf 62 = .ok (.iadd, 1) := by decide +kernel
theorem dX12_heardOf_63 : decode cX12_heardOf 63 = .ok (.iaload, 1) := by decide +kernel
theorem dX12_heardOf_64 : decode cX12_heardOf 64 = .ok (.imul, 1) := by decide +kernel
theorem dX12_heardOf_65 : decode cX12_heardOf 65 = .ok (.bipush 100, 2) := by decide +kernel
theorem dX12_heardOf_67 : decode cX12_heardOf 67 = .ok (.idiv, 1) := by decide +kernel
theorem dX12_heardOf_68 : decode cX12_heardOf 68 = .ok (.iadd, 1) := by decide +kernel
theorem dX12_heardOf_69 : decode cX12_heardOf 69 = .ok (.istore 6, 2) := by decide +kernel
theorem dX12_heardOf_71 : decode cX12_heardOf 71 = .ok (.iinc 7 1, 3) := by decide +kernel
theorem dX12_heardOf_74 : decode cX12_heardOf 74 = .ok (.goto (-58), 3) := by decide +kernel
theorem dX12_heardOf_77 : decode cX12_heardOf 77 = .ok (.iload 6, 2) := by decide +kernel
theorem dX12_heardOf_79 : decode cX12_heardOf 79 = .ok (.ireturn, 1) := by decide +kernel
theorem dX12_rawAt_0 : decode cX12_rawAt 0 = .ok (.iload_n 3, 1) := by decide +kernel
theorem dX12_rawAt_1 : decode cX12_rawAt 1 = .ok (.aload_n 0, 1) := by decide +kernel
theorem dX12_rawAt_2 : decode cX12_rawAt 2 = .ok (.getfield 17, 3) := by decide +kernel
theorem dX12_rawAt_5 : decode cX12_rawAt 5 = .ok (.bipush 83, 2) := by decide +kernel
theorem dX12_rawAt_7 : decode cX12_rawAt 7 = .ok (.iload_n 2, 1) := by decide +kernel
theorem dX12_rawAt_8 : decode cX12_rawAt 8 = .ok (.iadd, 1) := by decide +kernel
theorem dX12_rawAt_9 : decode cX12_rawAt 9 = .ok (.iaload, 1) := by decide +kernel
theorem dX12_rawAt_10 : decode cX12_rawAt 10 = .ok (.isub, 1) := by decide +kernel
theorem dX12_rawAt_11 : decode cX12_rawAt 11 = .ok (.istore 4, 2) := by decide +kernel
theorem dX12_rawAt_13 : decode cX12_rawAt 13 = .ok (.iload 4, 2) := by decide +kernel
theorem dX12_rawAt_15 : decode cX12_rawAt 15 = .ok (.ifCond .ge 5, 3) := by decide +kernel
theorem dX12_rawAt_18 : decode cX12_rawAt 18 = .ok (.iconst 0, 1) := by decide +kernel
theorem dX12_rawAt_19 : decode cX12_rawAt 19 = .ok (.ireturn, 1) := by decide +kernel
theorem dX12_rawAt_20 : decode cX12_rawAt 20 = .ok (.aload_n 0, 1) := by decide +kernel
theorem dX12_rawAt_21 : decode cX12_rawAt 21 = .ok (.getfield 45, 3) := by decide +kernel
theorem dX12_rawAt_24 : decode cX12_rawAt 24 = .ok (.iconst (-1), 1) := by decide +kernel
theorem dX12_rawAt_25 : decode cX12_rawAt 25 = .ok (.if_icmp .eq 40, 3) := by decide +kernel
theorem dX12_rawAt_28 : decode cX12_rawAt 28 = .ok (.aload_n 0, 1) := by decide +kernel
theorem dX12_rawAt_29 : decode cX12_rawAt 29 = .ok (.getfield 17, 3) := by decide +kernel
theorem dX12_rawAt_32 : decode cX12_rawAt 32 = .ok (.bipush 35, 2) := by decide +kernel
theorem dX12_rawAt_34 : decode cX12_rawAt 34 = .ok (.iload_n 2, 1) := by decide +kernel
theorem dX12_rawAt_35 : decode cX12_rawAt 35 = .ok (.iadd, 1) := by decide +kernel
theorem dX12_rawAt_36 : decode cX12_rawAt 36 = .ok (.iaload, 1) := by decide +kernel
theorem dX12_rawAt_37 : decode cX12_rawAt 37 = .ok (.aload_n 0, 1) := by decide +kernel
theorem dX12_rawAt_38 : decode cX12_rawAt 38 = .ok (.iload_n 2, 1) := by decide +kernel
theorem dX12_rawAt_39 : decode cX12_rawAt 39 = .ok (.aload_n 0, 1) := by decide +kernel
theorem dX12_rawAt_40 : decode cX12_rawAt 40 = .ok (.aload_n 0, 1) := by decide +kernel
theorem dX12_rawAt_41 : decode cX12_rawAt 41 = .ok (.getfield 45, 3) := by decide +kernel
theorem dX12_rawAt_44 : decode cX12_rawAt 44 = .ok (.iconst 0, 1) := by decide +kernel
theorem dX12_rawAt_45 : decode cX12_rawAt 45 = .ok (.invokevirtual 240, 3) := by decide +kernel
theorem dX12_rawAt_48 : decode cX12_rawAt 48 = .ok (.aload_n 0, 1) := by decide +kernel
theorem dX12_rawAt_49 : decode cX12_rawAt 49 = .ok (.aload_n 0, 1) := by decide +kernel
theorem dX12_rawAt_50 : decode cX12_rawAt 50 = .ok (.getfield 45, 3) := by decide +kernel
theorem dX12_rawAt_53 : decode cX12_rawAt 53 = .ok (.iconst 1, 1) := by decide +kernel
theorem dX12_rawAt_54 : decode cX12_rawAt 54 = .ok (.invokevirtual 240, 3) := by decide +kernel
theorem dX12_rawAt_57 : decode cX12_rawAt 57 = .ok (.iconst 0, 1) := by decide +kernel
theorem dX12_rawAt_58 : decode cX12_rawAt 58 = .ok (.iload 4, 2) := by decide +kernel
theorem dX12_rawAt_60 : decode cX12_rawAt 60 = .ok (.invokevirtual 287, 3) := by decide +kernel
theorem dX12_rawAt_63 : decode cX12_rawAt 63 = .ok (.imul, 1) := by decide +kernel
theorem dX12_rawAt_64 : decode cX12_rawAt 64 = .ok (.ireturn, 1) := by decide +kernel
theorem dX12_rawAt_65 : decode cX12_rawAt 65 = .ok (.iconst 0, 1) := by decide +kernel
theorem dX12_rawAt_66 : decode cX12_rawAt 66 = .ok (.istore 5, 2) := by decide +kernel
theorem dX12_rawAt_68 : decode cX12_rawAt 68 = .ok (.iconst 0, 1) := by decide +kernel
theorem dX12_rawAt_69 : decode cX12_rawAt 69 = .ok (.istore 6, 2) := by decide +kernel
theorem dX12_rawAt_71 : decode cX12_rawAt 71 = .ok (.iload 6, 2) := by decide +kernel
theorem dX12_rawAt_73 : decode cX12_rawAt 73 = .ok (.aload_n 0, 1) := by decide +kernel
theorem dX12_rawAt_74 : decode cX12_rawAt 74 = .ok (.getfield 17, 3) := by decide +kernel
theorem dX12_rawAt_77 : decode cX12_rawAt 77 = .ok (.iconst 5, 1) := by decide +kernel
theorem dX12_rawAt_78 : decode cX12_rawAt 78 = .ok (.iaload, 1) := by decide +kernel
theorem dX12_rawAt_79 : decode cX12_rawAt 79 = .ok (.if_icmp .ge 57, 3) := by decide +kernel
theorem dX12_rawAt_82 : decode cX12_rawAt 82 = .ok (.iload 5, 2) := by decide +kernel
theorem dX12_rawAt_84 : decode cX12_rawAt 84 = .ok (.aload_n 1, 1) := by decide +kernel
theorem dX12_rawAt_85 : decode cX12_rawAt 85 = .ok (.bipush 25, 2) := by decide +kernel
theorem dX12_rawAt_87 : decode cX12_rawAt 87 = .ok (.iload 6, 2) := by decide +kernel
theorem dX12_rawAt_89 : decode cX12_rawAt 89 = .ok (.iadd, 1) := by decide +kernel
theorem dX12_rawAt_90 : decode cX12_rawAt 90 = .ok (.iaload, 1) := by decide +kernel
theorem dX12_rawAt_91 : decode cX12_rawAt 91 = .ok (.ifCond .ne 7, 3) := by decide +kernel
theorem dX12_rawAt_94 : decode cX12_rawAt 94 = .ok (.iconst 0, 1) := by decide +kernel
theorem dX12_rawAt_95 : decode cX12_rawAt 95 = .ok (.goto 32, 3) := by decide +kernel
theorem dX12_rawAt_98 : decode cX12_rawAt 98 = .ok (.aload_n 0, 1) := by decide +kernel
theorem dX12_rawAt_99 : decode cX12_rawAt 99 = .ok (.iload_n 2, 1) := by decide +kernel
theorem dX12_rawAt_100 : decode cX12_rawAt 100 = .ok (.aload_n 0, 1) := by decide +kernel
theorem dX12_rawAt_101 : decode cX12_rawAt 101 = .ok (.aload_n 1, 1) := by decide +kernel
theorem dX12_rawAt_102 : decode cX12_rawAt 102 = .ok (.iload 6, 2) := by decide +kernel
theorem dX12_rawAt_104 : decode cX12_rawAt 104 = .ok (.iconst 0, 1) := by decide +kernel
theorem dX12_rawAt_105 : decode cX12_rawAt 105 = .ok (.iload 4, 2) := by decide +kernel
theorem dX12_rawAt_107 : decode cX12_rawAt 107 = .ok (.invokevirtual 290, 3) := by decide +kernel
theorem dX12_rawAt_110 : decode cX12_rawAt 110 = .ok (.aload_n 0, 1) := by decide +kernel
theorem dX12_rawAt_111 : decode cX12_rawAt 111 = .ok (.aload_n 1, 1) := by decide +kernel
theorem dX12_rawAt_112 : decode cX12_rawAt 112 = .ok (.iload 6, 2) := by decide +kernel
theorem dX12_rawAt_114 : decode cX12_rawAt 114 = .ok (.iconst 1, 1) := by decide +kernel
theorem dX12_rawAt_115 : decode cX12_rawAt 115 = .ok (.iload 4, 2) := by decide +kernel
theorem dX12_rawAt_117 : decode cX12_rawAt 117 = .ok (.invokevirtual 290, 3) := by decide +kernel
theorem dX12_rawAt_120 : decode cX12_rawAt 120 = .ok (.iload 6, 2) := by decide +kernel
theorem dX12_rawAt_122 : decode cX12_rawAt 122 = .ok (.iload 4, 2) := by decide +kernel
theorem dX12_rawAt_124 : decode cX12_rawAt 124 = .ok (.invokevirtual 287, 3) := by decide +kernel
theorem dX12_rawAt_127 : decode cX12_rawAt 127 = .ok (.iadd, 1) := by decide +kernel
theorem dX12_rawAt_128 : decode cX12_rawAt 128 = .ok (.istore 5, 2) := by decide +kernel
theorem dX12_rawAt_130 : decode cX12_rawAt 130 = .ok (.iinc 6 1, 3) := by decide +kernel
theorem dX12_rawAt_133 : decode cX12_rawAt 133 = .ok (.goto (-62), 3) := by decide +kernel
theorem dX12_rawAt_136 : decode cX12_rawAt 136 = .ok (.aload_n 0, 1) := by decide +kernel
theorem dX12_rawAt_137 : decode cX12_rawAt 137 = .ok (.getfield 17, 3) := by decide +kernel
theorem dX12_rawAt_140 : decode cX12_rawAt 140 = .ok (.bipush 35, 2) := by decide +kernel
theorem dX12_rawAt_142 : decode cX12_rawAt 142 = .ok (.iload_n 2, 1) := by decide +kernel
theorem dX12_rawAt_143 : decode cX12_rawAt 143 = .ok (.iadd, 1) := by decide +kernel
theorem dX12_rawAt_144 : decode cX12_rawAt 144 = .ok (.iaload, 1) := by decide +kernel
theorem dX12_rawAt_145 : decode cX12_rawAt 145 = .ok (.iload 5, 2) := by decide +kernel
theorem dX12_rawAt_147 : decode cX12_rawAt 147 = .ok (.imul, 1) := by decide +kernel
theorem dX12_rawAt_148 : decode cX12_rawAt 148 = .ok (.ireturn, 1) := by decide +kernel
theorem dX12_filtered_0 : decode cX12_filtered 0 = .ok (.aload_n 0, 1) := by decide +kernel
theorem dX12_filtered_1 : decode cX12_filtered 1 = .ok (.getfield 17, 3) := by decide +kernel
theorem dX12_filtered_4 : decode cX12_filtered 4 = .ok (.bipush 77, 2) := by decide +kernel
theorem dX12_filtered_6 : decode cX12_filtered 6 = .ok (.iaload, 1) := by decide +kernel
theorem dX12_filtered_7 : decode cX12_filtered 7 = .ok (.ifCond .ne 10, 3) := by decide +kernel
theorem dX12_filtered_10 : decode cX12_filtered 10 = .ok (.aload_n 0, 1) := by decide +kernel
theorem dX12_filtered_11 : decode cX12_filtered 11 = .ok (.getfield 48, 3) := by decide +kernel
theorem dX12_filtered_14 : decode cX12_filtered 14 = .ok (.iload_n 1, 1) := by decide +kernel
theorem dX12_filtered_15 : decode cX12_filtered 15 = .ok (.iaload, 1) := by decide +kernel
theorem dX12_filtered_16 : decode cX12_filtered 16 = .ok (.ireturn, 1) := by decide +kernel
theorem dX12_filtered_17 : decode cX12_filtered 17 = .ok (.iconst 0, 1) := by decide +kernel
theorem dX12_filtered_18 : decode cX12_filtered 18 = .ok (.istore_n 2, 1) := by decide +kernel
theorem dX12_filtered_19 : decode cX12_filtered 19 = .ok (.iconst 0, 1) := by decide +kernel
theorem dX12_filtered_20 : decode cX12_filtered 20 = .ok (.istore_n 3, 1) := by decide +kernel
theorem dX12_filtered_21 : decode cX12_filtered 21 = .ok (.iload_n 3, 1) := by decide +kernel
theorem dX12_filtered_22 : decode cX12_filtered 22 = .ok (.aload_n 0, 1) := by decide +kernel
theorem dX12_filtered_23 : decode cX12_filtered 23 = .ok (.getfield 17, 3) := by decide +kernel
theorem dX12_filtered_26 : decode cX12_filtered 26 = .ok (.bipush 77, 2) := by decide +kernel
theorem dX12_filtered_28 : decode cX12_filtered 28 = .ok (.iaload, 1) := by decide +kernel
theorem dX12_filtered_29 : decode cX12_filtered 29 = .ok (.if_icmp .ge 35, 3) := by decide +kernel
theorem dX12_filtered_32 : decode cX12_filtered 32 = .ok (.iload_n 3, 1) := by decide +kernel
theorem dX12_filtered_33 : decode cX12_filtered 33 = .ok (.iload_n 1, 1) := by decide +kernel
theorem dX12_filtered_34 : decode cX12_filtered 34 = .ok (.if_icmp .gt 30, 3) := by decide +kernel
theorem dX12_filtered_37 : decode cX12_filtered 37 = .ok (.iload_n 2, 1) := by decide +kernel
theorem dX12_filtered_38 : decode cX12_filtered 38 = .ok (.aload_n 0, 1) := by decide +kernel
theorem dX12_filtered_39 : decode cX12_filtered 39 = .ok (.getfield 17, 3) := by decide +kernel
theorem dX12_filtered_42 : decode cX12_filtered 42 = .ok (.bipush 78, 2) := by decide +kernel
theorem dX12_filtered_44 : decode cX12_filtered 44 = .ok (.iload_n 3, 1) := by decide +kernel
theorem dX12_filtered_45 : decode cX12_filtered 45 = .ok (.iadd, 1) := by decide +kernel
theorem dX12_filtered_46 : decode cX12_filtered 46 = .ok (.iaload, 1) := by decide +kernel
theorem dX12_filtered_47 : decode cX12_filtered 47 = .ok (.aload_n 0, 1) := by decide +kernel
theorem dX12_filtered_48 : decode cX12_filtered 48 = .ok (.getfield 48, 3) := by decide +kernel
theorem dX12_filtered_51 : decode cX12_filtered 51 = .ok (.iload_n 1, 1) := by decide +kernel
theorem dX12_filtered_52 : decode cX12_filtered 52 = .ok (.iload_n 3, 1) := by decide +kernel
theorem dX12_filtered_53 : decode cX12_filtered 53 = .ok (.isub, 1) := by decide +kernel
theorem dX12_filtered_54 : decode cX12_filtered 54 = .ok (.iaload, 1) := by decide +kernel
theorem dX12_filtered_55 : decode cX12_filtered 55 = .ok (.imul, 1) := by decide +kernel
theorem dX12_filtered_56 : decode cX12_filtered 56 = .ok (.iadd, 1) := by decide +kernel
theorem dX12_filtered_57 : decode cX12_filtered 57 = .ok (.istore_n 2, 1) := by decide +kernel
theorem dX12_filtered_58 : decode cX12_filtered 58 = .ok (.iinc 3 1, 3) := by decide +kernel
theorem dX12_filtered_61 : decode cX12_filtered 61 = .ok (.goto (-40), 3) := by decide +kernel
theorem dX12_filtered_64 : decode cX12_filtered 64 = .ok (.iload_n 2, 1) := by decide +kernel
theorem dX12_filtered_65 : decode cX12_filtered 65 = .ok (.ireturn, 1) := by decide +kernel
theorem dX12_records_0 : decode cX12_records 0 = .ok (.aload_n 1, 1) := by decide +kernel
theorem dX12_records_1 : decode cX12_records 1 = .ok (.iconst 0, 1) := by decide +kernel
theorem dX12_records_2 : decode cX12_records 2 = .ok (.iconst 0, 1) := by decide +kernel
theorem dX12_records_3 : decode cX12_records 3 = .ok (.iastore, 1) := by decide +kernel
theorem dX12_records_4 : decode cX12_records 4 = .ok (.iconst 0, 1) := by decide +kernel
theorem dX12_records_5 : decode cX12_records 5 = .ok (.istore_n 2, 1) := by decide +kernel
theorem dX12_records_6 : decode cX12_records 6 = .ok (.iload_n 2, 1) := by decide +kernel
theorem dX12_records_7 : decode cX12_records 7 = .ok (.aload_n 0, 1) := by decide +kernel
theorem dX12_records_8 : decode cX12_records 8 = .ok (.getfield 17, 3) := by decide +kernel
theorem dX12_records_11 : decode cX12_records 11 = .ok (.iconst 4, 1) := by decide +kernel
theorem dX12_records_12 : decode cX12_records 12 = .ok (.iaload, 1) := by decide +kernel
theorem dX12_records_13 : decode cX12_records 13 = .ok (.if_icmp .ge 79, 3) := by decide +kernel
theorem dX12_records_16 : decode cX12_records 16 = .ok (.iconst 0, 1) := by decide +kernel
theorem dX12_records_17 : decode cX12_records 17 = .ok (.istore_n 3, 1) := by decide +kernel
theorem dX12_records_18 : decode cX12_records 18 = .ok (.iload_n 3, 1) := by decide +kernel
theorem dX12_records_19 : decode cX12_records 19 = .ok (.aload_n 0, 1) := by decide +kernel
theorem dX12_records_20 : decode cX12_records 20 = .ok (.getfield 17, 3) := by decide +kernel
theorem dX12_records_23 : decode cX12_records 23 = .ok (.iconst 2, 1) := by decide +kernel
theorem dX12_records_24 : decode cX12_records 24 = .ok (.iaload, 1) := by decide +kernel
theorem dX12_records_25 : decode cX12_records 25 = .ok (.if_icmp .ge 22, 3) := by decide +kernel
theorem dX12_records_28 : decode cX12_records 28 = .ok (.aload_n 0, 1) := by decide +kernel
theorem dX12_records_29 : decode cX12_records 29 = .ok (.getfield 48, 3) := by decide +kernel
theorem dX12_records_32 : decode cX12_records 32 = .ok (.iload_n 3, 1) := by decide +kernel
theorem dX12_records_33 : decode cX12_records 33 = .ok (.aload_n 0, 1) := by decide +kernel
theorem dX12_records_34 : decode cX12_records 34 = .ok (.aload_n 1, 1) := by decide +kernel
theorem dX12_records_35 : decode cX12_records 35 = .ok (.iload_n 2, 1) := by decide +kernel
theorem dX12_records_36 : decode cX12_records 36 = .ok (.iload_n 3, 1) := by decide +kernel
theorem dX12_records_37 : decode cX12_records 37 = .ok (.invokevirtual 294, 3) := by decide +kernel
theorem dX12_records_40 : decode cX12_records 40 = .ok (.iastore, 1) := by decide +kernel
theorem dX12_records_41 : decode cX12_records 41 = .ok (.iinc 3 1, 3) := by decide +kernel
theorem dX12_records_44 : decode cX12_records 44 = .ok (.goto (-26), 3) := by decide +kernel
theorem dX12_records_47 : decode cX12_records 47 = .ok (.iconst 0, 1) := by decide +kernel
theorem dX12_records_48 : decode cX12_records 48 = .ok (.istore_n 3, 1) := by decide +kernel
theorem dX12_records_49 : decode cX12_records 49 = .ok (.iload_n 3, 1) := by decide +kernel
theorem dX12_records_50 : decode cX12_records 50 = .ok (.aload_n 0, 1) := by decide +kernel
theorem dX12_records_51 : decode cX12_records 51 = .ok (.getfield 17, 3) := by decide +kernel
theorem dX12_records_54 : decode cX12_records 54 = .ok (.iconst 2, 1) := by decide +kernel
theorem dX12_records_55 : decode cX12_records 55 = .ok (.iaload, 1) := by decide +kernel
theorem dX12_records_56 : decode cX12_records 56 = .ok (.if_icmp .ge 30, 3) := by decide +kernel
theorem dX12_records_59 : decode cX12_records 59 = .ok (.aload_n 1, 1) := by decide +kernel
theorem dX12_records_60 : decode cX12_records 60 = .ok (.bipush 55, 2) := by decide +kernel
theorem dX12_records_62 : decode cX12_records 62 = .ok (.sipush 200, 3) := by decide +kernel
theorem dX12_records_65 : decode cX12_records 65 = .ok (.iload_n 2, 1) := by decide +kernel
theorem dX12_records_66 : decode cX12_records 66 = .ok (.imul, 1) := by decide +kernel
theorem dX12_records_67 : decode cX12_records 67 = .ok (.iadd, 1) := by decide +kernel
theorem dX12_records_68 : decode cX12_records 68 = .ok (.iload_n 3, 1) := by decide +kernel
theorem dX12_records_69 : decode cX12_records 69 = .ok (.iadd, 1) := by decide +kernel
theorem dX12_records_70 : decode cX12_records 70 = .ok (.aload_n 0, 1) := by decide +kernel
theorem dX12_records_71 : decode cX12_records 71 = .ok (.aload_n 0, 1) := by decide +kernel
theorem dX12_records_72 : decode cX12_records 72 = .ok (.iload_n 3, 1) := by decide +kernel
theorem dX12_records_73 : decode cX12_records 73 = .ok (.invokevirtual 298, 3) := by decide +kernel
theorem dX12_records_76 : decode cX12_records 76 = .ok (.invokevirtual 301, 3) := by decide +kernel
theorem dX12_records_79 : decode cX12_records 79 = .ok (.iastore, 1) := by decide +kernel
theorem dX12_records_80 : decode cX12_records 80 = .ok (.iinc 3 1, 3) := by decide +kernel
theorem dX12_records_83 : decode cX12_records 83 = .ok (.goto (-34), 3) := by decide +kernel
theorem dX12_records_86 : decode cX12_records 86 = .ok (.iinc 2 1, 3) := by decide +kernel
theorem dX12_records_89 : decode cX12_records 89 = .ok (.goto (-83), 3) := by decide +kernel
theorem dX12_records_92 : decode cX12_records 92 = .ok (.return_, 1) := by decide +kernel
theorem dX12_recordsPoint_0 : decode cX12_recordsPoint 0 = .ok (.aload_n 0, 1) := by decide +kernel
theorem dX12_recordsPoint_1 : decode cX12_recordsPoint 1 = .ok (.iload_n 2, 1) := by decide +kernel
theorem dX12_recordsPoint_2 : decode cX12_recordsPoint 2 = .ok (.putfield 45, 3) := by decide +kernel
theorem dX12_recordsPoint_5 : decode cX12_recordsPoint 5 = .ok (.aload_n 0, 1) := by decide +kernel
theorem dX12_recordsPoint_6 : decode cX12_recordsPoint 6 = .ok (.iload_n 3, 1) := by decide +kernel
theorem dX12_recordsPoint_7 : decode cX12_recordsPoint 7 = .ok (.putfield 277, 3) := by decide +kernel
theorem dX12_recordsPoint_10 : decode cX12_recordsPoint 10 = .ok (.aload_n 0, 1) := by decide +kernel
theorem dX12_recordsPoint_11 : decode cX12_recordsPoint 11 = .ok (.aload_n 1, 1) := by decide +kernel
theorem dX12_recordsPoint_12 : decode cX12_recordsPoint 12 = .ok (.invokevirtual 247, 3) := by decide +kernel
theorem dX12_recordsPoint_15 : decode cX12_recordsPoint 15 = .ok (.aload_n 0, 1) := by decide +kernel
theorem dX12_recordsPoint_16 : decode cX12_recordsPoint 16 = .ok (.iconst (-1), 1) := by decide +kernel
theorem dX12_recordsPoint_17 : decode cX12_recordsPoint 17 = .ok (.putfield 45, 3) := by decide +kernel
theorem dX12_recordsPoint_20 : decode cX12_recordsPoint 20 = .ok (.return_, 1) := by decide +kernel
theorem dX12_laysCell_0 : decode cX12_laysCell 0 = .ok (.iconst 0, 1) := by decide +kernel
theorem dX12_laysCell_1 : decode cX12_laysCell 1 = .ok (.istore_n 2, 1) := by decide +kernel
theorem dX12_laysCell_2 : decode cX12_laysCell 2 = .ok (.iload_n 2, 1) := by decide +kernel
theorem dX12_laysCell_3 : decode cX12_laysCell 3 = .ok (.aload_n 0, 1) := by decide +kernel
theorem dX12_laysCell_4 : decode cX12_laysCell 4 = .ok (.getfield 17, 3) := by decide +kernel
theorem dX12_laysCell_7 : decode cX12_laysCell 7 = .ok (.iconst 4, 1) := by decide +kernel
theorem dX12_laysCell_8 : decode cX12_laysCell 8 = .ok (.iaload, 1) := by decide +kernel
theorem dX12_laysCell_9 : decode cX12_laysCell 9 = .ok (.if_icmp .ge 26, 3) := by decide +kernel
theorem dX12_laysCell_12 : decode cX12_laysCell 12 = .ok (.aload_n 0, 1) := by decide +kernel
theorem dX12_laysCell_13 : decode cX12_laysCell 13 = .ok (.getfield 51, 3) := by decide +kernel
theorem dX12_laysCell_16 : decode cX12_laysCell 16 = .ok (.iload_n 2, 1) := by decide +kernel
theorem dX12_laysCell_17 : decode cX12_laysCell 17 = .ok (.aload_n 0, 1) := by decide +kernel
theorem dX12_laysCell_18 : decode cX12_laysCell 18 = .ok (.getfield 38, 3) := by decide +kernel
theorem dX12_laysCell_21 : decode cX12_laysCell 21 = .ok (.bipush 12, 2) := by decide +kernel
theorem dX12_laysCell_23 : decode cX12_laysCell 23 = .ok (.iload_n 1, 1) := by decide +kernel
theorem dX12_laysCell_24 : decode cX12_laysCell 24 = .ok (.imul, 1) := by decide +kernel
theorem dX12_laysCell_25 : decode cX12_laysCell 25 = .ok (.iload_n 2, 1) := by decide +kernel
theorem dX12_laysCell_26 : decode cX12_laysCell 26 = .ok (.iadd, 1) := by decide +kernel
theorem dX12_laysCell_27 : decode cX12_laysCell 27 = .ok (.iaload, 1) := by decide +kernel
theorem dX12_laysCell_28 : decode cX12_laysCell 28 = .ok (.iastore, 1) := by decide +kernel
theorem dX12_laysCell_29 : decode cX12_laysCell 29 = .ok (.iinc 2 1, 3) := by decide +kernel
theorem dX12_laysCell_32 : decode cX12_laysCell 32 = .ok (.goto (-30), 3) := by decide +kernel
theorem dX12_laysCell_35 : decode cX12_laysCell 35 = .ok (.return_, 1) := by decide +kernel
theorem dX12_laysPoint_0 : decode cX12_laysPoint 0 = .ok (.iconst 0, 1) := by decide +kernel
theorem dX12_laysPoint_1 : decode cX12_laysPoint 1 = .ok (.istore_n 3, 1) := by decide +kernel
theorem dX12_laysPoint_2 : decode cX12_laysPoint 2 = .ok (.iload_n 3, 1) := by decide +kernel
theorem dX12_laysPoint_3 : decode cX12_laysPoint 3 = .ok (.aload_n 0, 1) := by decide +kernel
theorem dX12_laysPoint_4 : decode cX12_laysPoint 4 = .ok (.getfield 17, 3) := by decide +kernel
theorem dX12_laysPoint_7 : decode cX12_laysPoint 7 = .ok (.iconst 4, 1) := by decide +kernel
theorem dX12_laysPoint_8 : decode cX12_laysPoint 8 = .ok (.iaload, 1) := by decide +kernel
theorem dX12_laysPoint_9 : decode cX12_laysPoint 9 = .ok (.if_icmp .ge 22, 3) := by decide +kernel
theorem dX12_laysPoint_12 : decode cX12_laysPoint 12 = .ok (.aload_n 0, 1) := by decide +kernel
theorem dX12_laysPoint_13 : decode cX12_laysPoint 13 = .ok (.getfield 51, 3) := by decide +kernel
theorem dX12_laysPoint_16 : decode cX12_laysPoint 16 = .ok (.iload_n 3, 1) := by decide +kernel
theorem dX12_laysPoint_17 : decode cX12_laysPoint 17 = .ok (.aload_n 0, 1) := by decide +kernel
theorem dX12_laysPoint_18 : decode cX12_laysPoint 18 = .ok (.iload_n 3, 1) := by decide +kernel
theorem dX12_laysPoint_19 : decode cX12_laysPoint 19 = .ok (.iload_n 1, 1) := by decide +kernel
theorem dX12_laysPoint_20 : decode cX12_laysPoint 20 = .ok (.iload_n 2, 1) := by decide +kernel
theorem dX12_laysPoint_21 : decode cX12_laysPoint 21 = .ok (.invokevirtual 243, 3) := by decide +kernel
theorem dX12_laysPoint_24 : decode cX12_laysPoint 24 = .ok (.iastore, 1) := by decide +kernel
theorem dX12_laysPoint_25 : decode cX12_laysPoint 25 = .ok (.iinc 3 1, 3) := by decide +kernel
theorem dX12_laysPoint_28 : decode cX12_laysPoint 28 = .ok (.goto (-26), 3) := by decide +kernel
theorem dX12_laysPoint_31 : decode cX12_laysPoint 31 = .ok (.return_, 1) := by decide +kernel
theorem dX12_hears_0 : decode cX12_hears 0 = .ok (.aload_n 1, 1) := by decide +kernel
theorem dX12_hears_1 : decode cX12_hears 1 = .ok (.iconst 1, 1) := by decide +kernel
theorem dX12_hears_2 : decode cX12_hears 2 = .ok (.iload_n 2, 1) := by decide +kernel
theorem dX12_hears_3 : decode cX12_hears 3 = .ok (.iadd, 1) := by decide +kernel
theorem dX12_hears_4 : decode cX12_hears 4 = .ok (.iaload, 1) := by decide +kernel
theorem dX12_hears_5 : decode cX12_hears 5 = .ok (.ifCond .ne 7, 3) := by decide +kernel
theorem dX12_hears_8 : decode cX12_hears 8 = .ok (.iconst 1, 1) := by decide +kernel
theorem dX12_hears_9 : decode cX12_hears 9 = .ok (.goto 4, 3) := by decide +kernel
theorem dX12_hears_12 : decode cX12_hears 12 = .ok (.iconst 0, 1) := by decide +kernel
theorem dX12_hears_13 : decode cX12_hears 13 = .ok (.ireturn, 1) := by decide +kernel
theorem dX12_windowOf_0 : decode cX12_windowOf 0 = .ok (.iconst 0, 1) := by decide +kernel
theorem dX12_windowOf_1 : decode cX12_windowOf 1 = .ok (.istore_n 2, 1) := by decide +kernel
theorem dX12_windowOf_2 : decode cX12_windowOf 2 = .ok (.iconst 0, 1) := by decide +kernel
theorem dX12_windowOf_3 : decode cX12_windowOf 3 = .ok (.istore_n 3, 1) := by decide +kernel
theorem dX12_windowOf_4 : decode cX12_windowOf 4 = .ok (.iload_n 3, 1) := by decide +kernel
theorem dX12_windowOf_5 : decode cX12_windowOf 5 = .ok (.aload_n 0, 1) := by decide +kernel
theorem dX12_windowOf_6 : decode cX12_windowOf 6 = .ok (.getfield 17, 3) := by decide +kernel
theorem dX12_windowOf_9 : decode cX12_windowOf 9 = .ok (.iconst 4, 1) := by decide +kernel
theorem dX12_windowOf_10 : decode cX12_windowOf 10 = .ok (.iaload, 1) := by decide +kernel
theorem dX12_windowOf_11 : decode cX12_windowOf 11 = .ok (.if_icmp .ge 33, 3) := by decide +kernel
theorem dX12_windowOf_14 : decode cX12_windowOf 14 = .ok (.aload_n 0, 1) := by decide +kernel
theorem dX12_windowOf_15 : decode cX12_windowOf 15 = .ok (.aload_n 1, 1) := by decide +kernel
theorem dX12_windowOf_16 : decode cX12_windowOf 16 = .ok (.iload_n 3, 1) := by decide +kernel
theorem dX12_windowOf_17 : decode cX12_windowOf 17 = .ok (.invokevirtual 304, 3) := by decide +kernel
theorem dX12_windowOf_20 : decode cX12_windowOf 20 = .ok (.ifCond .eq 16, 3) := by decide +kernel
theorem dX12_windowOf_23 : decode cX12_windowOf 23 = .ok (.iload_n 2, 1) := by decide +kernel
theorem dX12_windowOf_24 : decode cX12_windowOf 24 = .ok (.aload_n 0, 1) := by decide +kernel
theorem dX12_windowOf_25 : decode cX12_windowOf 25 = .ok (.getfield 51, 3) := by decide +kernel
theorem dX12_windowOf_28 : decode cX12_windowOf 28 = .ok (.iload_n 3, 1) := by decide +kernel
theorem dX12_windowOf_29 : decode cX12_windowOf 29 = .ok (.iaload, 1) := by decide +kernel
theorem dX12_windowOf_30 : decode cX12_windowOf 30 = .ok (.invokestatic 271, 3) := by decide +kernel
theorem dX12_windowOf_33 : decode cX12_windowOf 33 = .ok (.goto 4, 3) := by decide +kernel
theorem dX12_windowOf_36 : decode cX12_windowOf 36 = .ok (.iload_n 2, 1) := by decide +kernel
theorem dX12_windowOf_37 : decode cX12_windowOf 37 = .ok (.istore_n 2, 1) := by decide +kernel
theorem dX12_windowOf_38 : decode cX12_windowOf 38 = .ok (.iinc 3 1, 3) := by decide +kernel
theorem dX12_windowOf_41 : decode cX12_windowOf 41 = .ok (.goto (-37), 3) := by decide +kernel
theorem dX12_windowOf_44 : decode cX12_windowOf 44 = .ok (.iconst 0, 1) := by decide +kernel
theorem dX12_windowOf_45 : decode cX12_windowOf 45 = .ok (.aload_n 0, 1) := by decide +kernel
theorem dX12_windowOf_46 : decode cX12_windowOf 46 = .ok (.getfield 17, 3) := by decide +kernel
theorem dX12_windowOf_49 : decode cX12_windowOf 49 = .ok (.iconst 2, 1) := by decide +kernel
theorem dX12_windowOf_50 : decode cX12_windowOf 50 = .ok (.iaload, 1) := by decide +kernel
theorem dX12_windowOf_51 : decode cX12_windowOf 51 = .ok (.iload_n 2, 1) := by decide +kernel
theorem dX12_windowOf_52 : decode cX12_windowOf 52 = .ok (.isub, 1) := by decide +kernel
theorem dX12_windowOf_53 : decode cX12_windowOf 53 = .ok (.invokestatic 271, 3) := by decide +kernel
theorem dX12_windowOf_56 : decode cX12_windowOf 56 = .ok (.ireturn, 1) := by decide +kernel
theorem dX12_beamAt_0 : decode cX12_beamAt 0 = .ok (.iconst 0, 1) := by decide +kernel
theorem dX12_beamAt_1 : decode cX12_beamAt 1 = .ok (.istore_n 3, 1) := by decide +kernel
theorem dX12_beamAt_2 : decode cX12_beamAt 2 = .ok (.iconst 0, 1) := by decide +kernel
theorem dX12_beamAt_3 : decode cX12_beamAt 3 = .ok (.istore 4, 2) := by decide +kernel
theorem dX12_beamAt_5 : decode cX12_beamAt 5 = .ok (.iload 4, 2) := by decide +kernel
theorem dX12_beamAt_7 : decode cX12_beamAt 7 = .ok (.aload_n 0, 1) := by decide +kernel
theorem dX12_beamAt_8 : decode cX12_beamAt 8 = .ok (.getfield 17, 3) := by decide +kernel
theorem dX12_beamAt_11 : decode cX12_beamAt 11 = .ok (.iconst 4, 1) := by decide +kernel
theorem dX12_beamAt_12 : decode cX12_beamAt 12 = .ok (.iaload, 1) := by decide +kernel
theorem dX12_beamAt_13 : decode cX12_beamAt 13 = .ok (.if_icmp .ge 73, 3) := by decide +kernel
theorem dX12_beamAt_16 : decode cX12_beamAt 16 = .ok (.iload_n 3, 1) := by decide +kernel
theorem dX12_beamAt_17 : decode cX12_beamAt 17 = .ok (.aload_n 0, 1) := by decide +kernel
theorem dX12_beamAt_18 : decode cX12_beamAt 18 = .ok (.aload_n 1, 1) := by decide +kernel
theorem dX12_beamAt_19 : decode cX12_beamAt 19 = .ok (.iload 4, 2) := by decide +kernel
theorem dX12_beamAt_21 : decode cX12_beamAt 21 = .ok (.invokevirtual 304, 3) := by decide +kernel
theorem dX12_beamAt_24 : decode cX12_beamAt 24 = .ok (.ifCond .eq 53, 3) := by decide +kernel
theorem dX12_beamAt_27 : decode cX12_beamAt 27 = .ok (.iload_n 2, 1) := by decide +kernel
theorem dX12_beamAt_28 : decode cX12_beamAt 28 = .ok (.aload_n 0, 1) := by decide +kernel
theorem dX12_beamAt_29 : decode cX12_beamAt 29 = .ok (.getfield 51, 3) := by decide +kernel
theorem dX12_beamAt_32 : decode cX12_beamAt 32 = .ok (.iload 4, 2) := by decide +kernel
theorem dX12_beamAt_34 : decode cX12_beamAt 34 = .ok (.iaload, 1) := by decide +kernel
theorem dX12_beamAt_35 : decode cX12_beamAt 35 = .ok (.iadd, 1) := by decide +kernel
theorem dX12_beamAt_36 : decode cX12_beamAt 36 = .ok (.aload_n 0, 1) := by decide +kernel
theorem dX12_beamAt_37 : decode cX12_beamAt 37 = .ok (.getfield 17, 3) := by decide +kernel
theorem dX12_beamAt_40 : decode cX12_beamAt 40 = .ok (.iconst 2, 1) := by decide +kernel
theorem dX12_beamAt_41 : decode cX12_beamAt 41 = .ok (.iaload, 1) := by decide +kernel
theorem dX12_beamAt_42 : decode cX12_beamAt 42 = .ok (.if_icmp .ge 35, 3) := by decide +kernel
theorem dX12_beamAt_45 : decode cX12_beamAt 45 = .ok (.aload_n 1, 1) := by decide +kernel
theorem dX12_beamAt_46 : decode cX12_beamAt 46 = .ok (.bipush 13, 2) := by decide +kernel
theorem dX12_beamAt_48 : decode cX12_beamAt 48 = .ok (.iload 4, 2) := by decide +kernel
theorem dX12_beamAt_50 : decode cX12_beamAt 50 = .ok (.iadd, 1) := by decide +kernel
theorem dX12_beamAt_51 : decode cX12_beamAt 51 = .ok (.iaload, 1) := by decide +kernel
theorem dX12_beamAt_52 : decode cX12_beamAt 52 = .ok (.aload_n 1, 1) := by decide +kernel
theorem dX12_beamAt_53 : decode cX12_beamAt 53 = .ok (.bipush 55, 2) := by decide +kernel
theorem dX12_beamAt_55 : decode cX12_beamAt 55 = .ok (.sipush 200, 3) := by decide +kernel
theorem dX12_beamAt_58 : decode cX12_beamAt 58 = .ok (.iload 4, 2) := by decide +kernel
theorem dX12_beamAt_60 : decode cX12_beamAt 60 = .ok (.imul, 1) := by decide +kernel
theorem dX12_beamAt_61 : decode cX12_beamAt 61 = .ok (.iadd, 1) := by decide +kernel
theorem dX12_beamAt_62 : decode cX12_beamAt 62 = .ok (.iload_n 2, 1) := by decide +kernel
theorem dX12_beamAt_63 : decode cX12_beamAt 63 = .ok (.iadd, 1) := by decide +kernel
theorem dX12_beamAt_64 : decode cX12_beamAt 64 = .ok (.aload_n 0, 1) := by decide +kernel
theorem dX12_beamAt_65 : decode cX12_beamAt 65 = .ok (.getfield 51, 3) := by decide +kernel
theorem dX12_beamAt_68 : decode cX12_beamAt 68 = .ok (.iload 4, 2) := by decide +kernel
theorem dX12_beamAt_70 : decode cX12_beamAt 70 = .ok (.iaload, 1) := by decide +kernel
theorem dX12_beamAt_71 : decode cX12_beamAt 71 = .ok (.iadd, 1) := by decide +kernel
theorem dX12_beamAt_72 : decode cX12_beamAt 72 = .ok (.iaload, 1) := by decide +kernel
theorem dX12_beamAt_73 : decode cX12_beamAt 73 = .ok (.imul, 1) := by decide +kernel
theorem dX12_beamAt_74 : decode cX12_beamAt 74 = .ok (.goto 4, 3) := by decide +kernel
theorem dX12_beamAt_77 : decode cX12_beamAt 77 = .ok (.iconst 0, 1) := by decide +kernel
theorem dX12_beamAt_78 : decode cX12_beamAt 78 = .ok (.iadd, 1) := by decide +kernel
theorem dX12_beamAt_79 : decode cX12_beamAt 79 = .ok (.istore_n 3, 1) := by decide +kernel
theorem dX12_beamAt_80 : decode cX12_beamAt 80 = .ok (.iinc 4 1, 3) := by decide +kernel
theorem dX12_beamAt_83 : decode cX12_beamAt 83 = .ok (.goto (-78), 3) := by decide +kernel
theorem dX12_beamAt_86 : decode cX12_beamAt 86 = .ok (.iload_n 3, 1) := by decide +kernel
theorem dX12_beamAt_87 : decode cX12_beamAt 87 = .ok (.ireturn, 1) := by decide +kernel
theorem dX12_energy_0 : decode cX12_energy 0 = .ok (.lconst 0, 1) := by decide +kernel
theorem dX12_energy_1 : decode cX12_energy 1 = .ok (.lstore 4, 2) := by decide +kernel
theorem dX12_energy_3 : decode cX12_energy 3 = .ok (.iload_n 2, 1) := by decide +kernel
theorem dX12_energy_4 : decode cX12_energy 4 = .ok (.istore 6, 2) := by decide +kernel
theorem dX12_energy_6 : decode cX12_energy 6 = .ok (.iload 6, 2) := by decide +kernel
theorem dX12_energy_8 : decode cX12_energy 8 = .ok (.iload_n 3, 1) := by decide +kernel
theorem dX12_energy_9 : decode cX12_energy 9 = .ok (.if_icmp .ge 29, 3) := by decide +kernel
theorem dX12_energy_12 : decode cX12_energy 12 = .ok (.aload_n 0, 1) := by decide +kernel
theorem dX12_energy_13 : decode cX12_energy 13 = .ok (.aload_n 1, 1) := by decide +kernel
theorem dX12_energy_14 : decode cX12_energy 14 = .ok (.iload 6, 2) := by decide +kernel
theorem dX12_energy_16 : decode cX12_energy 16 = .ok (.invokevirtual 308, 3) := by decide +kernel
theorem dX12_energy_19 : decode cX12_energy 19 = .ok (.i2l, 1) := by decide +kernel
theorem dX12_energy_20 : decode cX12_energy 20 = .ok (.lstore 7, 2) := by decide +kernel
theorem dX12_energy_22 : decode cX12_energy 22 = .ok (.lload 4, 2) := by decide +kernel
theorem dX12_energy_24 : decode cX12_energy 24 = .ok (.lload 7, 2) := by decide +kernel
theorem dX12_energy_26 : decode cX12_energy 26 = .ok (.lload 7, 2) := by decide +kernel
theorem dX12_energy_28 : decode cX12_energy 28 = .ok (.lmul, 1) := by decide +kernel
theorem dX12_energy_29 : decode cX12_energy 29 = .ok (.ladd, 1) := by decide +kernel
theorem dX12_energy_30 : decode cX12_energy 30 = .ok (.lstore 4, 2) := by decide +kernel
theorem dX12_energy_32 : decode cX12_energy 32 = .ok (.iinc 6 1, 3) := by decide +kernel
theorem dX12_energy_35 : decode cX12_energy 35 = .ok (.goto (-29), 3) := by decide +kernel
theorem dX12_energy_38 : decode cX12_energy 38 = .ok (.lload 4, 2) := by decide +kernel
theorem dX12_energy_40 : decode cX12_energy 40 = .ok (.lreturn, 1) := by decide +kernel
theorem dX12_powerHere_0 : decode cX12_powerHere 0 = .ok (.aload_n 0, 1) := by decide +kernel
theorem dX12_powerHere_1 : decode cX12_powerHere 1 = .ok (.aload_n 1, 1) := by decide +kernel
theorem dX12_powerHere_2 : decode cX12_powerHere 2 = .ok (.invokevirtual 312, 3) := by decide +kernel
theorem dX12_powerHere_5 : decode cX12_powerHere 5 = .ok (.istore_n 2, 1) := by decide +kernel
theorem dX12_powerHere_6 : decode cX12_powerHere 6 = .ok (.iload_n 2, 1) := by decide +kernel
theorem dX12_powerHere_7 : decode cX12_powerHere 7 = .ok (.ifCond .ne 7, 3) := by decide +kernel
theorem dX12_powerHere_10 : decode cX12_powerHere 10 = .ok (.lconst 0, 1) := by decide +kernel
theorem dX12_powerHere_11 : decode cX12_powerHere 11 = .ok (.goto 13, 3) := by decide +kernel
theorem dX12_powerHere_14 : decode cX12_powerHere 14 = .ok (.aload_n 0, 1) := by decide +kernel
theorem dX12_powerHere_15 : decode cX12_powerHere 15 = .ok (.aload_n 1, 1) := by decide +kernel
theorem dX12_powerHere_16 : decode cX12_powerHere 16 = .ok (.iconst 0, 1) := by decide +kernel
theorem dX12_powerHere_17 : decode cX12_powerHere 17 = .ok (.iload_n 2, 1) := by decide +kernel
theorem dX12_powerHere_18 : decode cX12_powerHere 18 = .ok (.invokevirtual 316, 3) := by decide +kernel
theorem dX12_powerHere_21 : decode cX12_powerHere 21 = .ok (.iload_n 2, 1) := by decide +kernel
theorem dX12_powerHere_22 : decode cX12_powerHere 22 = .ok (.i2l, 1) := by decide +kernel
theorem dX12_powerHere_23 : decode cX12_powerHere 23 = .ok (.ldiv, 1) := by decide +kernel
theorem dX12_powerHere_24 : decode cX12_powerHere 24 = .ok (.lreturn, 1) := by decide +kernel
theorem dX12_powerOf_0 : decode cX12_powerOf 0 = .ok (.aload_n 0, 1) := by decide +kernel
theorem dX12_powerOf_1 : decode cX12_powerOf 1 = .ok (.iload_n 2, 1) := by decide +kernel
theorem dX12_powerOf_2 : decode cX12_powerOf 2 = .ok (.invokevirtual 320, 3) := by decide +kernel
theorem dX12_powerOf_5 : decode cX12_powerOf 5 = .ok (.aload_n 0, 1) := by decide +kernel
theorem dX12_powerOf_6 : decode cX12_powerOf 6 = .ok (.aload_n 1, 1) := by decide +kernel
theorem dX12_powerOf_7 : decode cX12_powerOf 7 = .ok (.invokevirtual 323, 3) := by decide +kernel
theorem dX12_powerOf_10 : decode cX12_powerOf 10 = .ok (.lreturn, 1) := by decide +kernel
theorem dX12_laysPowers_0 : decode cX12_laysPowers 0 = .ok (.iconst 0, 1) := by decide +kernel
theorem dX12_laysPowers_1 : decode cX12_laysPowers 1 = .ok (.istore_n 2, 1) := by decide +kernel
theorem dX12_laysPowers_2 : decode cX12_laysPowers 2 = .ok (.iload_n 2, 1) := by decide +kernel
theorem dX12_laysPowers_3 : decode cX12_laysPowers 3 = .ok (.aload_n 0, 1) := by decide +kernel
theorem dX12_laysPowers_4 : decode cX12_laysPowers 4 = .ok (.invokevirtual 237, 3) := by decide +kernel
theorem dX12_laysPowers_7 : decode cX12_laysPowers 7 = .ok (.if_icmp .ge 21, 3) := by decide +kernel
theorem dX12_laysPowers_10 : decode cX12_laysPowers 10 = .ok (.aload_n 0, 1) := by decide +kernel
theorem dX12_laysPowers_11 : decode cX12_laysPowers 11 = .ok (.getfield 54, 3) := by decide +kernel
theorem dX12_laysPowers_14 : decode cX12_laysPowers 14 = .ok (.iload_n 2, 1) := by decide +kernel
theorem dX12_laysPowers_15 : decode cX12_laysPowers 15 = .ok (.aload_n 0, 1) := by decide +kernel
theorem dX12_laysPowers_16 : decode cX12_laysPowers 16 = .ok (.aload_n 1, 1) := by decide +kernel
theorem dX12_laysPowers_17 : decode cX12_laysPowers 17 = .ok (.iload_n 2, 1) := by decide +kernel
theorem dX12_laysPowers_18 : decode cX12_laysPowers 18 = .ok (.invokevirtual 327, 3) := by decide +kernel
theorem dX12_laysPowers_21 : decode cX12_laysPowers 21 = .ok (.lastore, 1) := by decide +kernel
theorem dX12_laysPowers_22 : decode cX12_laysPowers 22 = .ok (.iinc 2 1, 3) := by decide +kernel
theorem dX12_laysPowers_25 : decode cX12_laysPowers 25 = .ok (.goto (-23), 3) := by decide +kernel
theorem dX12_laysPowers_28 : decode cX12_laysPowers 28 = .ok (.return_, 1) := by decide +kernel
theorem dX12_bestIn_0 : decode cX12_bestIn 0 = .ok (.aload_n 0, 1) := by decide +kernel
theorem dX12_bestIn_1 : decode cX12_bestIn 1 = .ok (.aload_n 1, 1) := by decide +kernel
theorem dX12_bestIn_2 : decode cX12_bestIn 2 = .ok (.invokevirtual 331, 3) := by decide +kernel
theorem dX12_bestIn_5 : decode cX12_bestIn 5 = .ok (.iconst 0, 1) := by decide +kernel
theorem dX12_bestIn_6 : decode cX12_bestIn 6 = .ok (.istore_n 2, 1) := by decide +kernel
theorem dX12_bestIn_7 : decode cX12_bestIn 7 = .ok (.iconst 1, 1) := by decide +kernel
theorem dX12_bestIn_8 : decode cX12_bestIn 8 = .ok (.istore_n 3, 1) := by decide +kernel
theorem dX12_bestIn_9 : decode cX12_bestIn 9 = .ok (.iload_n 3, 1) := by decide +kernel
theorem dX12_bestIn_10 : decode cX12_bestIn 10 = .ok (.aload_n 0, 1) := by decide +kernel
theorem dX12_bestIn_11 : decode cX12_bestIn 11 = .ok (.invokevirtual 237, 3) := by decide +kernel
theorem dX12_bestIn_14 : decode cX12_bestIn 14 = .ok (.if_icmp .ge 31, 3) := by decide +kernel
theorem dX12_bestIn_17 : decode cX12_bestIn 17 = .ok (.aload_n 0, 1) := by decide +kernel
theorem dX12_bestIn_18 : decode cX12_bestIn 18 = .ok (.getfield 54, 3) := by decide +kernel
theorem dX12_bestIn_21 : decode cX12_bestIn 21 = .ok (.iload_n 3, 1) := by decide +kernel
theorem dX12_bestIn_22 : decode cX12_bestIn 22 = .ok (.laload, 1) := by decide +kernel
theorem dX12_bestIn_23 : decode cX12_bestIn 23 = .ok (.aload_n 0, 1) := by decide +kernel
theorem dX12_bestIn_24 : decode cX12_bestIn 24 = .ok (.getfield 54, 3) := by decide +kernel
theorem dX12_bestIn_27 : decode cX12_bestIn 27 = .ok (.iload_n 2, 1) := by decide +kernel
theorem dX12_bestIn_28 : decode cX12_bestIn 28 = .ok (.laload, 1) := by decide +kernel
theorem dX12_bestIn_29 : decode cX12_bestIn 29 = .ok (.lcmp, 1) := by decide +kernel
theorem dX12_bestIn_30 : decode cX12_bestIn 30 = .ok (.ifCond .le 7, 3) := by decide +kernel
theorem dX12_bestIn_33 : decode cX12_bestIn 33 = .ok (.iload_n 3, 1) := by decide +kernel
theorem dX12_bestIn_34 : decode cX12_bestIn 34 = .ok (.goto 4, 3) := by decide +kernel
theorem dX12_bestIn_37 : decode cX12_bestIn 37 = .ok (.iload_n 2, 1) := by decide +kernel
theorem dX12_bestIn_38 : decode cX12_bestIn 38 = .ok (.istore_n 2, 1) := by decide +kernel
theorem dX12_bestIn_39 : decode cX12_bestIn 39 = .ok (.iinc 3 1, 3) := by decide +kernel
theorem dX12_bestIn_42 : decode cX12_bestIn 42 = .ok (.goto (-33), 3) := by decide +kernel
theorem dX12_bestIn_45 : decode cX12_bestIn 45 = .ok (.iload_n 2, 1) := by decide +kernel
theorem dX12_bestIn_46 : decode cX12_bestIn 46 = .ok (.ireturn, 1) := by decide +kernel
theorem dX12_mayAsk_0 : decode cX12_mayAsk 0 = .ok (.aload_n 0, 1) := by decide +kernel
theorem dX12_mayAsk_1 : decode cX12_mayAsk 1 = .ok (.aload_n 0, 1) := by decide +kernel
theorem dX12_mayAsk_2 : decode cX12_mayAsk 2 = .ok (.getfield 251, 3) := by decide +kernel
theorem dX12_mayAsk_5 : decode cX12_mayAsk 5 = .ok (.ifCond .ne 7, 3) := by decide +kernel
theorem dX12_mayAsk_8 : decode cX12_mayAsk 8 = .ok (.iconst 1, 1) := by decide +kernel
theorem dX12_mayAsk_9 : decode cX12_mayAsk 9 = .ok (.goto 12, 3) := by decide +kernel
theorem dX12_mayAsk_12 : decode cX12_mayAsk 12 = .ok (.iload_n 1, 1) := by decide +kernel
theorem dX12_mayAsk_13 : decode cX12_mayAsk 13 = .ok (.ifCond .eq 7, 3) := by decide +kernel
theorem dX12_mayAsk_16 : decode cX12_mayAsk 16 = .ok (.iconst 0, 1) := by decide +kernel
theorem dX12_mayAsk_17 : decode cX12_mayAsk 17 = .ok (.goto 4, 3) := by decide +kernel
theorem dX12_mayAsk_20 : decode cX12_mayAsk 20 = .ok (.iconst 2, 1) := by decide +kernel
theorem dX12_mayAsk_21 : decode cX12_mayAsk 21 = .ok (.putfield 67, 3) := by decide +kernel
theorem dX12_mayAsk_24 : decode cX12_mayAsk 24 = .ok (.aload_n 0, 1) := by decide +kernel
theorem dX12_mayAsk_25 : decode cX12_mayAsk 25 = .ok (.getfield 67, 3) := by decide +kernel
theorem dX12_mayAsk_28 : decode cX12_mayAsk 28 = .ok (.ifCond .ne 7, 3) := by decide +kernel
theorem dX12_mayAsk_31 : decode cX12_mayAsk 31 = .ok (.iconst 1, 1) := by decide +kernel
theorem dX12_mayAsk_32 : decode cX12_mayAsk 32 = .ok (.goto 4, 3) := by decide +kernel
theorem dX12_mayAsk_35 : decode cX12_mayAsk 35 = .ok (.iconst 0, 1) := by decide +kernel
theorem dX12_mayAsk_36 : decode cX12_mayAsk 36 = .ok (.ireturn, 1) := by decide +kernel
theorem dX12_told_0 : decode cX12_told 0 = .ok (.aload_n 0, 1) := by decide +kernel
theorem dX12_told_1 : decode cX12_told 1 = .ok (.iconst 0, 1) := by decide +kernel
theorem dX12_told_2 : decode cX12_told 2 = .ok (.putfield 67, 3) := by decide +kernel
theorem dX12_told_5 : decode cX12_told 5 = .ok (.aload_n 0, 1) := by decide +kernel
theorem dX12_told_6 : decode cX12_told 6 = .ok (.getfield 251, 3) := by decide +kernel
theorem dX12_told_9 : decode cX12_told 9 = .ok (.ifCond .eq 7, 3) := by decide +kernel
theorem dX12_told_12 : decode cX12_told 12 = .ok (.iload_n 1, 1) := by decide +kernel
theorem dX12_told_13 : decode cX12_told 13 = .ok (.goto 4, 3) := by decide +kernel
theorem dX12_told_16 : decode cX12_told 16 = .ok (.iconst 0, 1) := by decide +kernel
theorem dX12_told_17 : decode cX12_told 17 = .ok (.ireturn, 1) := by decide +kernel
theorem dX12_isMic_0 : decode cX12_isMic 0 = .ok (.iload_n 1, 1) := by decide +kernel
theorem dX12_isMic_1 : decode cX12_isMic 1 = .ok (.iconst 0, 1) := by decide +kernel
theorem dX12_isMic_2 : decode cX12_isMic 2 = .ok (.aload_n 0, 1) := by decide +kernel
theorem dX12_isMic_3 : decode cX12_isMic 3 = .ok (.getfield 17, 3) := by decide +kernel
theorem dX12_isMic_6 : decode cX12_isMic 6 = .ok (.iconst 4, 1) := by decide +kernel
theorem dX12_isMic_7 : decode cX12_isMic 7 = .ok (.iaload, 1) := by decide +kernel
theorem dX12_isMic_8 : decode cX12_isMic 8 = .ok (.iconst 1, 1) := by decide +kernel
theorem dX12_isMic_9 : decode cX12_isMic 9 = .ok (.isub, 1) := by decide +kernel
theorem dX12_isMic_10 : decode cX12_isMic 10 = .ok (.invokestatic 96, 3) := by decide +kernel
theorem dX12_isMic_13 : decode cX12_isMic 13 = .ok (.ireturn, 1) := by decide +kernel
theorem dX12_isCell_0 : decode cX12_isCell 0 = .ok (.iload_n 1, 1) := by decide +kernel
theorem dX12_isCell_1 : decode cX12_isCell 1 = .ok (.iconst 0, 1) := by decide +kernel
theorem dX12_isCell_2 : decode cX12_isCell 2 = .ok (.aload_n 0, 1) := by decide +kernel
theorem dX12_isCell_3 : decode cX12_isCell 3 = .ok (.invokevirtual 237, 3) := by decide +kernel
theorem dX12_isCell_6 : decode cX12_isCell 6 = .ok (.iconst 1, 1) := by decide +kernel
theorem dX12_isCell_7 : decode cX12_isCell 7 = .ok (.isub, 1) := by decide +kernel
theorem dX12_isCell_8 : decode cX12_isCell 8 = .ok (.invokestatic 96, 3) := by decide +kernel
theorem dX12_isCell_11 : decode cX12_isCell 11 = .ok (.ireturn, 1) := by decide +kernel
theorem dX12_isSource_0 : decode cX12_isSource 0 = .ok (.iload_n 1, 1) := by decide +kernel
theorem dX12_isSource_1 : decode cX12_isSource 1 = .ok (.iconst 0, 1) := by decide +kernel
theorem dX12_isSource_2 : decode cX12_isSource 2 = .ok (.aload_n 0, 1) := by decide +kernel
theorem dX12_isSource_3 : decode cX12_isSource 3 = .ok (.getfield 17, 3) := by decide +kernel
theorem dX12_isSource_6 : decode cX12_isSource 6 = .ok (.iconst 5, 1) := by decide +kernel
theorem dX12_isSource_7 : decode cX12_isSource 7 = .ok (.iaload, 1) := by decide +kernel
theorem dX12_isSource_8 : decode cX12_isSource 8 = .ok (.iconst 1, 1) := by decide +kernel
theorem dX12_isSource_9 : decode cX12_isSource 9 = .ok (.isub, 1) := by decide +kernel
theorem dX12_isSource_10 : decode cX12_isSource 10 = .ok (.invokestatic 96, 3) := by decide +kernel
theorem dX12_isSource_13 : decode cX12_isSource 13 = .ok (.ireturn, 1) := by decide +kernel
theorem dX12_isTime_0 : decode cX12_isTime 0 = .ok (.iload_n 1, 1) := by decide +kernel
theorem dX12_isTime_1 : decode cX12_isTime 1 = .ok (.iconst 0, 1) := by decide +kernel
theorem dX12_isTime_2 : decode cX12_isTime 2 = .ok (.aload_n 0, 1) := by decide +kernel
theorem dX12_isTime_3 : decode cX12_isTime 3 = .ok (.getfield 17, 3) := by decide +kernel
theorem dX12_isTime_6 : decode cX12_isTime 6 = .ok (.iconst 2, 1) := by decide +kernel
theorem dX12_isTime_7 : decode cX12_isTime 7 = .ok (.iaload, 1) := by decide +kernel
theorem dX12_isTime_8 : decode cX12_isTime 8 = .ok (.iconst 1, 1) := by decide +kernel
theorem dX12_isTime_9 : decode cX12_isTime 9 = .ok (.isub, 1) := by decide +kernel
theorem dX12_isTime_10 : decode cX12_isTime 10 = .ok (.invokestatic 96, 3) := by decide +kernel
theorem dX12_isTime_13 : decode cX12_isTime 13 = .ok (.ireturn, 1) := by decide +kernel
theorem dX12_isPeriod_0 : decode cX12_isPeriod 0 = .ok (.iload_n 0, 1) := by decide +kernel
theorem dX12_isPeriod_1 : decode cX12_isPeriod 1 = .ok (.iconst 2, 1) := by decide +kernel
theorem dX12_isPeriod_2 : decode cX12_isPeriod 2 = .ok (.bipush 99, 2) := by decide +kernel
theorem dX12_isPeriod_4 : decode cX12_isPeriod 4 = .ok (.invokestatic 96, 3) := by decide +kernel
theorem dX12_isPeriod_7 : decode cX12_isPeriod 7 = .ok (.ireturn, 1) := by decide +kernel
theorem dX12_mics_0 : decode cX12_mics 0 = .ok (.aload_n 0, 1) := by decide +kernel
theorem dX12_mics_1 : decode cX12_mics 1 = .ok (.aload_n 0, 1) := by decide +kernel
theorem dX12_mics_2 : decode cX12_mics 2 = .ok (.getfield 17, 3) := by decide +kernel
theorem dX12_mics_5 : decode cX12_mics 5 = .ok (.iconst 4, 1) := by decide +kernel
theorem dX12_mics_6 : decode cX12_mics 6 = .ok (.iaload, 1) := by decide +kernel
theorem dX12_mics_7 : decode cX12_mics 7 = .ok (.invokevirtual 334, 3) := by decide +kernel
theorem dX12_mics_10 : decode cX12_mics 10 = .ok (.ireturn, 1) := by decide +kernel
theorem dX12_micAt_0 : decode cX12_micAt 0 = .ok (.aload_n 0, 1) := by decide +kernel
theorem dX12_micAt_1 : decode cX12_micAt 1 = .ok (.aload_n 0, 1) := by decide +kernel
theorem dX12_micAt_2 : decode cX12_micAt 2 = .ok (.iload_n 1, 1) := by decide +kernel
theorem dX12_micAt_3 : decode cX12_micAt 3 = .ok (.invokevirtual 337, 3) := by decide +kernel
theorem dX12_micAt_6 : decode cX12_micAt 6 = .ok (.invokevirtual 340, 3) := by decide +kernel
theorem dX12_micAt_9 : decode cX12_micAt 9 = .ok (.ifCond .ne 5, 3) := by decide +kernel
theorem dX12_micAt_12 : decode cX12_micAt 12 = .ok (.iconst 0, 1) := by decide +kernel
theorem dX12_micAt_13 : decode cX12_micAt 13 = .ok (.ireturn, 1) := by decide +kernel
theorem dX12_micAt_14 : decode cX12_micAt 14 = .ok (.iload_n 2, 1) := by decide +kernel
theorem dX12_micAt_15 : decode cX12_micAt 15 = .ok (.tableswitch 69 0 3 #[29, 39, 49, 59], 29) := by decide +kernel
theorem dX12_micAt_44 : decode cX12_micAt 44 = .ok (.aload_n 0, 1) := by decide +kernel
theorem dX12_micAt_45 : decode cX12_micAt 45 = .ok (.getfield 17, 3) := by decide +kernel
theorem dX12_micAt_48 : decode cX12_micAt 48 = .ok (.bipush 11, 2) := by decide +kernel
theorem dX12_micAt_50 : decode cX12_micAt 50 = .ok (.iload_n 1, 1) := by decide +kernel
theorem dX12_micAt_51 : decode cX12_micAt 51 = .ok (.iadd, 1) := by decide +kernel
theorem dX12_micAt_52 : decode cX12_micAt 52 = .ok (.iaload, 1) := by decide +kernel
theorem dX12_micAt_53 : decode cX12_micAt 53 = .ok (.ireturn, 1) := by decide +kernel
theorem dX12_micAt_54 : decode cX12_micAt 54 = .ok (.aload_n 0, 1) := by decide +kernel
theorem dX12_micAt_55 : decode cX12_micAt 55 = .ok (.getfield 17, 3) := by decide +kernel
theorem dX12_micAt_58 : decode cX12_micAt 58 = .ok (.bipush 23, 2) := by decide +kernel
theorem dX12_micAt_60 : decode cX12_micAt 60 = .ok (.iload_n 1, 1) := by decide +kernel
theorem dX12_micAt_61 : decode cX12_micAt 61 = .ok (.iadd, 1) := by decide +kernel
theorem dX12_micAt_62 : decode cX12_micAt 62 = .ok (.iaload, 1) := by decide +kernel
theorem dX12_micAt_63 : decode cX12_micAt 63 = .ok (.ireturn, 1) := by decide +kernel
theorem dX12_micAt_64 : decode cX12_micAt 64 = .ok (.aload_n 0, 1) := by decide +kernel
theorem dX12_micAt_65 : decode cX12_micAt 65 = .ok (.getfield 17, 3) := by decide +kernel
theorem dX12_micAt_68 : decode cX12_micAt 68 = .ok (.bipush 35, 2) := by decide +kernel
theorem dX12_micAt_70 : decode cX12_micAt 70 = .ok (.iload_n 1, 1) := by decide +kernel
theorem dX12_micAt_71 : decode cX12_micAt 71 = .ok (.iadd, 1) := by decide +kernel
theorem dX12_micAt_72 : decode cX12_micAt 72 = .ok (.iaload, 1) := by decide +kernel
theorem dX12_micAt_73 : decode cX12_micAt 73 = .ok (.ireturn, 1) := by decide +kernel
theorem dX12_micAt_74 : decode cX12_micAt 74 = .ok (.aload_n 0, 1) := by decide +kernel
theorem dX12_micAt_75 : decode cX12_micAt 75 = .ok (.getfield 23, 3) := by decide +kernel
theorem dX12_micAt_78 : decode cX12_micAt 78 = .ok (.bipush 13, 2) := by decide +kernel
theorem dX12_micAt_80 : decode cX12_micAt 80 = .ok (.iload_n 1, 1) := by decide +kernel
theorem dX12_micAt_81 : decode cX12_micAt 81 = .ok (.iadd, 1) := by decide +kernel
theorem dX12_micAt_82 : decode cX12_micAt 82 = .ok (.iaload, 1) := by decide +kernel
theorem dX12_micAt_83 : decode cX12_micAt 83 = .ok (.ireturn, 1) := by decide +kernel
theorem dX12_micAt_84 : decode cX12_micAt 84 = .ok (.aload_n 0, 1) := by decide +kernel
theorem dX12_micAt_85 : decode cX12_micAt 85 = .ok (.iconst 3, 1) := by decide +kernel
theorem dX12_micAt_86 : decode cX12_micAt 86 = .ok (.invokevirtual 227, 3) := by decide +kernel
theorem dX12_micAt_89 : decode cX12_micAt 89 = .ok (.ireturn, 1) := by decide +kernel
theorem dX12_isMuted_0 : decode cX12_isMuted 0 = .ok (.aload_n 0, 1) := by decide +kernel
theorem dX12_isMuted_1 : decode cX12_isMuted 1 = .ok (.aload_n 0, 1) := by decide +kernel
theorem dX12_isMuted_2 : decode cX12_isMuted 2 = .ok (.iload_n 1, 1) := by decide +kernel
theorem dX12_isMuted_3 : decode cX12_isMuted 3 = .ok (.invokevirtual 337, 3) := by decide +kernel
theorem dX12_isMuted_6 : decode cX12_isMuted 6 = .ok (.invokevirtual 340, 3) := by decide +kernel
theorem dX12_isMuted_9 : decode cX12_isMuted 9 = .ok (.ifCond .eq 19, 3) := by decide +kernel
theorem dX12_isMuted_12 : decode cX12_isMuted 12 = .ok (.aload_n 0, 1) := by decide +kernel
theorem dX12_isMuted_13 : decode cX12_isMuted 13 = .ok (.aload_n 0, 1) := by decide +kernel
theorem dX12_isMuted_14 : decode cX12_isMuted 14 = .ok (.getfield 23, 3) := by decide +kernel
theorem dX12_isMuted_17 : decode cX12_isMuted 17 = .ok (.iload_n 1, 1) := by decide +kernel
theorem dX12_isMuted_18 : decode cX12_isMuted 18 = .ok (.invokevirtual 304, 3) := by decide +kernel
theorem dX12_isMuted_21 : decode cX12_isMuted 21 = .ok (.ifCond .ne 7, 3) := by decide +kernel
theorem dX12_isMuted_24 : decode cX12_isMuted 24 = .ok (.iconst 1, 1) := by decide +kernel
theorem dX12_isMuted_25 : decode cX12_isMuted 25 = .ok (.goto 4, 3) := by decide +kernel
theorem dX12_isMuted_28 : decode cX12_isMuted 28 = .ok (.iconst 0, 1) := by decide +kernel
theorem dX12_isMuted_29 : decode cX12_isMuted 29 = .ok (.ireturn, 1) := by decide +kernel
theorem dX12_columns_0 : decode cX12_columns 0 = .ok (.aload_n 0, 1) := by decide +kernel
theorem dX12_columns_1 : decode cX12_columns 1 = .ok (.aload_n 0, 1) := by decide +kernel
theorem dX12_columns_2 : decode cX12_columns 2 = .ok (.getfield 17, 3) := by decide +kernel
theorem dX12_columns_5 : decode cX12_columns 5 = .ok (.bipush 9, 2) := by decide +kernel
theorem dX12_columns_7 : decode cX12_columns 7 = .ok (.iaload, 1) := by decide +kernel
theorem dX12_columns_8 : decode cX12_columns 8 = .ok (.invokevirtual 334, 3) := by decide +kernel
theorem dX12_columns_11 : decode cX12_columns 11 = .ok (.ireturn, 1) := by decide +kernel
theorem dX12_rows_0 : decode cX12_rows 0 = .ok (.aload_n 0, 1) := by decide +kernel
theorem dX12_rows_1 : decode cX12_rows 1 = .ok (.aload_n 0, 1) := by decide +kernel
theorem dX12_rows_2 : decode cX12_rows 2 = .ok (.getfield 17, 3) := by decide +kernel
theorem dX12_rows_5 : decode cX12_rows 5 = .ok (.bipush 10, 2) := by decide +kernel
theorem dX12_rows_7 : decode cX12_rows 7 = .ok (.iaload, 1) := by decide +kernel
theorem dX12_rows_8 : decode cX12_rows 8 = .ok (.invokevirtual 334, 3) := by decide +kernel
theorem dX12_rows_11 : decode cX12_rows 11 = .ok (.ireturn, 1) := by decide +kernel
theorem dX12_cellAt_0 : decode cX12_cellAt 0 = .ok (.aload_n 0, 1) := by decide +kernel
theorem dX12_cellAt_1 : decode cX12_cellAt 1 = .ok (.aload_n 0, 1) := by decide +kernel
theorem dX12_cellAt_2 : decode cX12_cellAt 2 = .ok (.iload_n 1, 1) := by decide +kernel
theorem dX12_cellAt_3 : decode cX12_cellAt 3 = .ok (.invokevirtual 344, 3) := by decide +kernel
theorem dX12_cellAt_6 : decode cX12_cellAt 6 = .ok (.invokevirtual 340, 3) := by decide +kernel
theorem dX12_cellAt_9 : decode cX12_cellAt 9 = .ok (.ifCond .ne 5, 3) := by decide +kernel
theorem dX12_cellAt_12 : decode cX12_cellAt 12 = .ok (.iconst 0, 1) := by decide +kernel
theorem dX12_cellAt_13 : decode cX12_cellAt 13 = .ok (.ireturn, 1) := by decide +kernel
theorem dX12_cellAt_14 : decode cX12_cellAt 14 = .ok (.iload_n 2, 1) := by decide +kernel
theorem dX12_cellAt_15 : decode cX12_cellAt 15 = .ok (.iconst 0, 1) := by decide +kernel
theorem dX12_cellAt_16 : decode cX12_cellAt 16 = .ok (.iconst 1, 1) := by decide +kernel
theorem dX12_cellAt_17 : decode cX12_cellAt 17 = .ok (.invokestatic 96, 3) := by decide +kernel
theorem dX12_cellAt_20 : decode cX12_cellAt 20 = .ok (.ifCond .eq 12, 3) := by decide +kernel
theorem dX12_cellAt_23 : decode cX12_cellAt 23 = .ok (.aload_n 0, 1) := by decide +kernel
theorem dX12_cellAt_24 : decode cX12_cellAt 24 = .ok (.iload_n 1, 1) := by decide +kernel
theorem dX12_cellAt_25 : decode cX12_cellAt 25 = .ok (.iload_n 2, 1) := by decide +kernel
theorem dX12_cellAt_26 : decode cX12_cellAt 26 = .ok (.invokevirtual 240, 3) := by decide +kernel
theorem dX12_cellAt_29 : decode cX12_cellAt 29 = .ok (.goto 8, 3) := by decide +kernel
theorem dX12_cellAt_32 : decode cX12_cellAt 32 = .ok (.aload_n 0, 1) := by decide +kernel
theorem dX12_cellAt_33 : decode cX12_cellAt 33 = .ok (.iconst 3, 1) := by decide +kernel
theorem dX12_cellAt_34 : decode cX12_cellAt 34 = .ok (.invokevirtual 227, 3) := by decide +kernel
theorem dX12_cellAt_37 : decode cX12_cellAt 37 = .ok (.ireturn, 1) := by decide +kernel
theorem dX12_sources_0 : decode cX12_sources 0 = .ok (.aload_n 0, 1) := by decide +kernel
theorem dX12_sources_1 : decode cX12_sources 1 = .ok (.aload_n 0, 1) := by decide +kernel
theorem dX12_sources_2 : decode cX12_sources 2 = .ok (.getfield 17, 3) := by decide +kernel
theorem dX12_sources_5 : decode cX12_sources 5 = .ok (.iconst 5, 1) := by decide +kernel
theorem dX12_sources_6 : decode cX12_sources 6 = .ok (.iaload, 1) := by decide +kernel
theorem dX12_sources_7 : decode cX12_sources 7 = .ok (.invokevirtual 334, 3) := by decide +kernel
theorem dX12_sources_10 : decode cX12_sources 10 = .ok (.ireturn, 1) := by decide +kernel
theorem dX12_sourceAt_0 : decode cX12_sourceAt 0 = .ok (.aload_n 0, 1) := by decide +kernel
theorem dX12_sourceAt_1 : decode cX12_sourceAt 1 = .ok (.aload_n 0, 1) := by decide +kernel
theorem dX12_sourceAt_2 : decode cX12_sourceAt 2 = .ok (.iload_n 1, 1) := by decide +kernel
theorem dX12_sourceAt_3 : decode cX12_sourceAt 3 = .ok (.invokevirtual 347, 3) := by decide +kernel
theorem dX12_sourceAt_6 : decode cX12_sourceAt 6 = .ok (.invokevirtual 340, 3) := by decide +kernel
theorem dX12_sourceAt_9 : decode cX12_sourceAt 9 = .ok (.ifCond .ne 5, 3) := by decide +kernel
theorem dX12_sourceAt_12 : decode cX12_sourceAt 12 = .ok (.iconst 0, 1) := by decide +kernel
theorem dX12_sourceAt_13 : decode cX12_sourceAt 13 = .ok (.ireturn, 1) := by decide +kernel
theorem dX12_sourceAt_14 : decode cX12_sourceAt 14 = .ok (.iload_n 2, 1) := by decide +kernel
theorem dX12_sourceAt_15 : decode cX12_sourceAt 15 = .ok (.iconst 0, 1) := by decide +kernel
theorem dX12_sourceAt_16 : decode cX12_sourceAt 16 = .ok (.iconst 1, 1) := by decide +kernel
theorem dX12_sourceAt_17 : decode cX12_sourceAt 17 = .ok (.invokestatic 96, 3) := by decide +kernel
theorem dX12_sourceAt_20 : decode cX12_sourceAt 20 = .ok (.ifCond .eq 25, 3) := by decide +kernel
theorem dX12_sourceAt_23 : decode cX12_sourceAt 23 = .ok (.aload_n 0, 1) := by decide +kernel
theorem dX12_sourceAt_24 : decode cX12_sourceAt 24 = .ok (.iload_n 3, 1) := by decide +kernel
theorem dX12_sourceAt_25 : decode cX12_sourceAt 25 = .ok (.invokevirtual 350, 3) := by decide +kernel
theorem dX12_sourceAt_28 : decode cX12_sourceAt 28 = .ok (.ifCond .eq 17, 3) := by decide +kernel
theorem dX12_sourceAt_31 : decode cX12_sourceAt 31 = .ok (.aload_n 0, 1) := by decide +kernel
theorem dX12_sourceAt_32 : decode cX12_sourceAt 32 = .ok (.aload_n 0, 1) := by decide +kernel
theorem dX12_sourceAt_33 : decode cX12_sourceAt 33 = .ok (.getfield 23, 3) := by decide +kernel
theorem dX12_sourceAt_36 : decode cX12_sourceAt 36 = .ok (.iload_n 1, 1) := by decide +kernel
theorem dX12_sourceAt_37 : decode cX12_sourceAt 37 = .ok (.iload_n 2, 1) := by decide +kernel
theorem dX12_sourceAt_38 : decode cX12_sourceAt 38 = .ok (.iload_n 3, 1) := by decide +kernel
theorem dX12_sourceAt_39 : decode cX12_sourceAt 39 = .ok (.invokevirtual 290, 3) := by decide +kernel
theorem dX12_sourceAt_42 : decode cX12_sourceAt 42 = .ok (.goto 8, 3) := by decide +kernel
theorem dX12_sourceAt_45 : decode cX12_sourceAt 45 = .ok (.aload_n 0, 1) := by decide +kernel
theorem dX12_sourceAt_46 : decode cX12_sourceAt 46 = .ok (.iconst 3, 1) := by decide +kernel
theorem dX12_sourceAt_47 : decode cX12_sourceAt 47 = .ok (.invokevirtual 227, 3) := by decide +kernel
theorem dX12_sourceAt_50 : decode cX12_sourceAt 50 = .ok (.ireturn, 1) := by decide +kernel
theorem dX12_isOn_0 : decode cX12_isOn 0 = .ok (.aload_n 0, 1) := by decide +kernel
theorem dX12_isOn_1 : decode cX12_isOn 1 = .ok (.aload_n 0, 1) := by decide +kernel
theorem dX12_isOn_2 : decode cX12_isOn 2 = .ok (.iload_n 1, 1) := by decide +kernel
theorem dX12_isOn_3 : decode cX12_isOn 3 = .ok (.invokevirtual 347, 3) := by decide +kernel
theorem dX12_isOn_6 : decode cX12_isOn 6 = .ok (.invokevirtual 340, 3) := by decide +kernel
theorem dX12_isOn_9 : decode cX12_isOn 9 = .ok (.ifCond .eq 20, 3) := by decide +kernel
theorem dX12_isOn_12 : decode cX12_isOn 12 = .ok (.aload_n 0, 1) := by decide +kernel
theorem dX12_isOn_13 : decode cX12_isOn 13 = .ok (.getfield 23, 3) := by decide +kernel
theorem dX12_isOn_16 : decode cX12_isOn 16 = .ok (.bipush 25, 2) := by decide +kernel
theorem dX12_isOn_18 : decode cX12_isOn 18 = .ok (.iload_n 1, 1) := by decide +kernel
theorem dX12_isOn_19 : decode cX12_isOn 19 = .ok (.iadd, 1) := by decide +kernel
theorem dX12_isOn_20 : decode cX12_isOn 20 = .ok (.iaload, 1) := by decide +kernel
theorem dX12_isOn_21 : decode cX12_isOn 21 = .ok (.iconst 1, 1) := by decide +kernel
theorem dX12_isOn_22 : decode cX12_isOn 22 = .ok (.if_icmp .ne 7, 3) := by decide +kernel
theorem dX12_isOn_25 : decode cX12_isOn 25 = .ok (.iconst 1, 1) := by decide +kernel
theorem dX12_isOn_26 : decode cX12_isOn 26 = .ok (.goto 4, 3) := by decide +kernel
theorem dX12_isOn_29 : decode cX12_isOn 29 = .ok (.iconst 0, 1) := by decide +kernel
theorem dX12_isOn_30 : decode cX12_isOn 30 = .ok (.ireturn, 1) := by decide +kernel
theorem dX12_waveAt_0 : decode cX12_waveAt 0 = .ok (.aload_n 0, 1) := by decide +kernel
theorem dX12_waveAt_1 : decode cX12_waveAt 1 = .ok (.aload_n 0, 1) := by decide +kernel
theorem dX12_waveAt_2 : decode cX12_waveAt 2 = .ok (.iload_n 1, 1) := by decide +kernel
theorem dX12_waveAt_3 : decode cX12_waveAt 3 = .ok (.invokevirtual 347, 3) := by decide +kernel
theorem dX12_waveAt_6 : decode cX12_waveAt 6 = .ok (.invokevirtual 340, 3) := by decide +kernel
theorem dX12_waveAt_9 : decode cX12_waveAt 9 = .ok (.ifCond .ne 5, 3) := by decide +kernel
theorem dX12_waveAt_12 : decode cX12_waveAt 12 = .ok (.iconst 0, 1) := by decide +kernel
theorem dX12_waveAt_13 : decode cX12_waveAt 13 = .ok (.ireturn, 1) := by decide +kernel
theorem dX12_waveAt_14 : decode cX12_waveAt 14 = .ok (.aload_n 0, 1) := by decide +kernel
theorem dX12_waveAt_15 : decode cX12_waveAt 15 = .ok (.iload_n 2, 1) := by decide +kernel
theorem dX12_waveAt_16 : decode cX12_waveAt 16 = .ok (.invokevirtual 350, 3) := by decide +kernel
theorem dX12_waveAt_19 : decode cX12_waveAt 19 = .ok (.ifCond .eq 12, 3) := by decide +kernel
theorem dX12_waveAt_22 : decode cX12_waveAt 22 = .ok (.aload_n 0, 1) := by decide +kernel
theorem dX12_waveAt_23 : decode cX12_waveAt 23 = .ok (.iload_n 1, 1) := by decide +kernel
theorem dX12_waveAt_24 : decode cX12_waveAt 24 = .ok (.iload_n 2, 1) := by decide +kernel
theorem dX12_waveAt_25 : decode cX12_waveAt 25 = .ok (.invokevirtual 274, 3) := by decide +kernel
theorem dX12_waveAt_28 : decode cX12_waveAt 28 = .ok (.goto 8, 3) := by decide +kernel
theorem dX12_waveAt_31 : decode cX12_waveAt 31 = .ok (.aload_n 0, 1) := by decide +kernel
theorem dX12_waveAt_32 : decode cX12_waveAt 32 = .ok (.iconst 3, 1) := by decide +kernel
theorem dX12_waveAt_33 : decode cX12_waveAt 33 = .ok (.invokevirtual 227, 3) := by decide +kernel
theorem dX12_waveAt_36 : decode cX12_waveAt 36 = .ok (.ireturn, 1) := by decide +kernel
theorem dX12_samples_0 : decode cX12_samples 0 = .ok (.aload_n 0, 1) := by decide +kernel
theorem dX12_samples_1 : decode cX12_samples 1 = .ok (.aload_n 0, 1) := by decide +kernel
theorem dX12_samples_2 : decode cX12_samples 2 = .ok (.getfield 17, 3) := by decide +kernel
theorem dX12_samples_5 : decode cX12_samples 5 = .ok (.iconst 2, 1) := by decide +kernel
theorem dX12_samples_6 : decode cX12_samples 6 = .ok (.iaload, 1) := by decide +kernel
theorem dX12_samples_7 : decode cX12_samples 7 = .ok (.invokevirtual 334, 3) := by decide +kernel
theorem dX12_samples_10 : decode cX12_samples 10 = .ok (.ireturn, 1) := by decide +kernel
theorem dX12_delay_0 : decode cX12_delay 0 = .ok (.aload_n 0, 1) := by decide +kernel
theorem dX12_delay_1 : decode cX12_delay 1 = .ok (.aload_n 0, 1) := by decide +kernel
theorem dX12_delay_2 : decode cX12_delay 2 = .ok (.iload_n 1, 1) := by decide +kernel
theorem dX12_delay_3 : decode cX12_delay 3 = .ok (.invokevirtual 337, 3) := by decide +kernel
theorem dX12_delay_6 : decode cX12_delay 6 = .ok (.ifCond .eq 15, 3) := by decide +kernel
theorem dX12_delay_9 : decode cX12_delay 9 = .ok (.aload_n 0, 1) := by decide +kernel
theorem dX12_delay_10 : decode cX12_delay 10 = .ok (.iload_n 2, 1) := by decide +kernel
theorem dX12_delay_11 : decode cX12_delay 11 = .ok (.invokevirtual 344, 3) := by decide +kernel
theorem dX12_delay_14 : decode cX12_delay 14 = .ok (.ifCond .eq 7, 3) := by decide +kernel
theorem dX12_delay_17 : decode cX12_delay 17 = .ok (.iconst 1, 1) := by decide +kernel
theorem dX12_delay_18 : decode cX12_delay 18 = .ok (.goto 4, 3) := by decide +kernel
theorem dX12_delay_21 : decode cX12_delay 21 = .ok (.iconst 0, 1) := by decide +kernel
theorem dX12_delay_22 : decode cX12_delay 22 = .ok (.invokevirtual 340, 3) := by decide +kernel
theorem dX12_delay_25 : decode cX12_delay 25 = .ok (.ifCond .eq 17, 3) := by decide +kernel
theorem dX12_delay_28 : decode cX12_delay 28 = .ok (.aload_n 0, 1) := by decide +kernel
theorem dX12_delay_29 : decode cX12_delay 29 = .ok (.getfield 38, 3) := by decide +kernel
theorem dX12_delay_32 : decode cX12_delay 32 = .ok (.bipush 12, 2) := by decide +kernel
theorem dX12_delay_34 : decode cX12_delay 34 = .ok (.iload_n 2, 1) := by decide +kernel
theorem dX12_delay_35 : decode cX12_delay 35 = .ok (.imul, 1) := by decide +kernel
theorem dX12_delay_36 : decode cX12_delay 36 = .ok (.iload_n 1, 1) := by decide +kernel
theorem dX12_delay_37 : decode cX12_delay 37 = .ok (.iadd, 1) := by decide +kernel
theorem dX12_delay_38 : decode cX12_delay 38 = .ok (.iaload, 1) := by decide +kernel
theorem dX12_delay_39 : decode cX12_delay 39 = .ok (.goto 4, 3) := by decide +kernel
theorem dX12_delay_42 : decode cX12_delay 42 = .ok (.iconst 0, 1) := by decide +kernel
theorem dX12_delay_43 : decode cX12_delay 43 = .ok (.ireturn, 1) := by decide +kernel
theorem dX12_isPoint_0 : decode cX12_isPoint 0 = .ok (.iload_n 0, 1) := by decide +kernel
theorem dX12_isPoint_1 : decode cX12_isPoint 1 = .ok (.sipush (-9999), 3) := by decide +kernel
theorem dX12_isPoint_4 : decode cX12_isPoint 4 = .ok (.sipush 9999, 3) := by decide +kernel
theorem dX12_isPoint_7 : decode cX12_isPoint 7 = .ok (.invokestatic 96, 3) := by decide +kernel
theorem dX12_isPoint_10 : decode cX12_isPoint 10 = .ok (.ifCond .eq 20, 3) := by decide +kernel
theorem dX12_isPoint_13 : decode cX12_isPoint 13 = .ok (.iload_n 1, 1) := by decide +kernel
theorem dX12_isPoint_14 : decode cX12_isPoint 14 = .ok (.sipush (-9999), 3) := by decide +kernel
theorem dX12_isPoint_17 : decode cX12_isPoint 17 = .ok (.sipush 9999, 3) := by decide +kernel
theorem dX12_isPoint_20 : decode cX12_isPoint 20 = .ok (.invokestatic 96, 3) := by decide +kernel
theorem dX12_isPoint_23 : decode cX12_isPoint 23 = .ok (.ifCond .eq 7, 3) := by decide +kernel
theorem dX12_isPoint_26 : decode cX12_isPoint 26 = .ok (.iconst 1, 1) := by decide +kernel
theorem dX12_isPoint_27 : decode cX12_isPoint 27 = .ok (.goto 4, 3) := by decide +kernel
theorem dX12_isPoint_30 : decode cX12_isPoint 30 = .ok (.iconst 0, 1) := by decide +kernel
theorem dX12_isPoint_31 : decode cX12_isPoint 31 = .ok (.ireturn, 1) := by decide +kernel
theorem dX12_delayTo_0 : decode cX12_delayTo 0 = .ok (.aload_n 0, 1) := by decide +kernel
theorem dX12_delayTo_1 : decode cX12_delayTo 1 = .ok (.aload_n 0, 1) := by decide +kernel
theorem dX12_delayTo_2 : decode cX12_delayTo 2 = .ok (.iload_n 1, 1) := by decide +kernel
theorem dX12_delayTo_3 : decode cX12_delayTo 3 = .ok (.invokevirtual 337, 3) := by decide +kernel
theorem dX12_delayTo_6 : decode cX12_delayTo 6 = .ok (.invokevirtual 340, 3) := by decide +kernel
theorem dX12_delayTo_9 : decode cX12_delayTo 9 = .ok (.ifCond .ne 5, 3) := by decide +kernel
theorem dX12_delayTo_12 : decode cX12_delayTo 12 = .ok (.iconst 0, 1) := by decide +kernel
theorem dX12_delayTo_13 : decode cX12_delayTo 13 = .ok (.ireturn, 1) := by decide +kernel
theorem dX12_delayTo_14 : decode cX12_delayTo 14 = .ok (.iload_n 2, 1) := by decide +kernel
theorem dX12_delayTo_15 : decode cX12_delayTo 15 = .ok (.iload_n 3, 1) := by decide +kernel
theorem dX12_delayTo_16 : decode cX12_delayTo 16 = .ok (.invokestatic 353, 3) := by decide +kernel
theorem dX12_delayTo_19 : decode cX12_delayTo 19 = .ok (.ifCond .eq 13, 3) := by decide +kernel
theorem dX12_delayTo_22 : decode cX12_delayTo 22 = .ok (.aload_n 0, 1) := by decide +kernel
theorem dX12_delayTo_23 : decode cX12_delayTo 23 = .ok (.iload_n 1, 1) := by decide +kernel
theorem dX12_delayTo_24 : decode cX12_delayTo 24 = .ok (.iload_n 2, 1) := by decide +kernel
theorem dX12_delayTo_25 : decode cX12_delayTo 25 = .ok (.iload_n 3, 1) := by decide +kernel
theorem dX12_delayTo_26 : decode cX12_delayTo 26 = .ok (.invokevirtual 243, 3) := by decide +kernel
theorem dX12_delayTo_29 : decode cX12_delayTo 29 = .ok (.goto 8, 3) := by decide +kernel
theorem dX12_delayTo_32 : decode cX12_delayTo 32 = .ok (.aload_n 0, 1) := by decide +kernel
theorem dX12_delayTo_33 : decode cX12_delayTo 33 = .ok (.iconst 3, 1) := by decide +kernel
theorem dX12_delayTo_34 : decode cX12_delayTo 34 = .ok (.invokevirtual 227, 3) := by decide +kernel
theorem dX12_delayTo_37 : decode cX12_delayTo 37 = .ok (.ireturn, 1) := by decide +kernel
theorem dX12_activeCount_0 : decode cX12_activeCount 0 = .ok (.iconst 0, 1) := by decide +kernel
theorem dX12_activeCount_1 : decode cX12_activeCount 1 = .ok (.istore_n 1, 1) := by decide +kernel
theorem dX12_activeCount_2 : decode cX12_activeCount 2 = .ok (.iconst 0, 1) := by decide +kernel
theorem dX12_activeCount_3 : decode cX12_activeCount 3 = .ok (.istore_n 2, 1) := by decide +kernel
theorem dX12_activeCount_4 : decode cX12_activeCount 4 = .ok (.iload_n 2, 1) := by decide +kernel
theorem dX12_activeCount_5 : decode cX12_activeCount 5 = .ok (.aload_n 0, 1) := by decide +kernel
theorem dX12_activeCount_6 : decode cX12_activeCount 6 = .ok (.getfield 17, 3) := by decide +kernel
theorem dX12_activeCount_9 : decode cX12_activeCount 9 = .ok (.iconst 4, 1) := by decide +kernel
theorem dX12_activeCount_10 : decode cX12_activeCount 10 = .ok (.iaload, 1) := by decide +kernel
theorem dX12_activeCount_11 : decode cX12_activeCount 11 = .ok (.if_icmp .ge 29, 3) := by decide +kernel
theorem dX12_activeCount_14 : decode cX12_activeCount 14 = .ok (.iload_n 1, 1) := by decide +kernel
theorem dX12_activeCount_15 : decode cX12_activeCount 15 = .ok (.aload_n 0, 1) := by decide +kernel
theorem dX12_activeCount_16 : decode cX12_activeCount 16 = .ok (.aload_n 0, 1) := by decide +kernel
theorem dX12_activeCount_17 : decode cX12_activeCount 17 = .ok (.getfield 23, 3) := by decide +kernel
theorem dX12_activeCount_20 : decode cX12_activeCount 20 = .ok (.iload_n 2, 1) := by decide +kernel
theorem dX12_activeCount_21 : decode cX12_activeCount 21 = .ok (.invokevirtual 304, 3) := by decide +kernel
theorem dX12_activeCount_24 : decode cX12_activeCount 24 = .ok (.ifCond .eq 7, 3) := by decide +kernel
theorem dX12_activeCount_27 : decode cX12_activeCount 27 = .ok (.iconst 1, 1) := by decide +kernel
theorem dX12_activeCount_28 : decode cX12_activeCount 28 = .ok (.goto 4, 3) := by decide +kernel
theorem dX12_activeCount_31 : decode cX12_activeCount 31 = .ok (.iconst 0, 1) := by decide +kernel
theorem dX12_activeCount_32 : decode cX12_activeCount 32 = .ok (.iadd, 1) := by decide +kernel
theorem dX12_activeCount_33 : decode cX12_activeCount 33 = .ok (.istore_n 1, 1) := by decide +kernel
theorem dX12_activeCount_34 : decode cX12_activeCount 34 = .ok (.iinc 2 1, 3) := by decide +kernel
theorem dX12_activeCount_37 : decode cX12_activeCount 37 = .ok (.goto (-33), 3) := by decide +kernel
theorem dX12_activeCount_40 : decode cX12_activeCount 40 = .ok (.iload_n 1, 1) := by decide +kernel
theorem dX12_activeCount_41 : decode cX12_activeCount 41 = .ok (.ireturn, 1) := by decide +kernel
theorem dX12_spread_0 : decode cX12_spread 0 = .ok (.aload_n 0, 1) := by decide +kernel
theorem dX12_spread_1 : decode cX12_spread 1 = .ok (.aload_n 0, 1) := by decide +kernel
theorem dX12_spread_2 : decode cX12_spread 2 = .ok (.iload_n 1, 1) := by decide +kernel
theorem dX12_spread_3 : decode cX12_spread 3 = .ok (.invokevirtual 344, 3) := by decide +kernel
theorem dX12_spread_6 : decode cX12_spread 6 = .ok (.invokevirtual 340, 3) := by decide +kernel
theorem dX12_spread_9 : decode cX12_spread 9 = .ok (.ifCond .eq 10, 3) := by decide +kernel
theorem dX12_spread_12 : decode cX12_spread 12 = .ok (.aload_n 0, 1) := by decide +kernel
theorem dX12_spread_13 : decode cX12_spread 13 = .ok (.invokevirtual 357, 3) := by decide +kernel
theorem dX12_spread_16 : decode cX12_spread 16 = .ok (.ifCond .ne 5, 3) := by decide +kernel
theorem dX12_spread_19 : decode cX12_spread 19 = .ok (.iconst 0, 1) := by decide +kernel
theorem dX12_spread_20 : decode cX12_spread 20 = .ok (.ireturn, 1) := by decide +kernel
theorem dX12_spread_21 : decode cX12_spread 21 = .ok (.ldc_w 362, 3) := by decide +kernel
theorem dX12_spread_24 : decode cX12_spread 24 = .ok (.istore_n 2, 1) := by decide +kernel
theorem dX12_spread_25 : decode cX12_spread 25 = .ok (.iconst 0, 1) := by decide +kernel
theorem dX12_spread_26 : decode cX12_spread 26 = .ok (.istore_n 3, 1) := by decide +kernel
theorem dX12_spread_27 : decode cX12_spread 27 = .ok (.iconst 0, 1) := by decide +kernel
theorem dX12_spread_28 : decode cX12_spread 28 = .ok (.istore 4, 2) := by decide +kernel
theorem dX12_spread_30 : decode cX12_spread 30 = .ok (.iload 4, 2) := by decide +kernel
theorem dX12_spread_32 : decode cX12_spread 32 = .ok (.aload_n 0, 1) := by decide +kernel
theorem dX12_spread_33 : decode cX12_spread 33 = .ok (.getfield 17, 3) := by decide +kernel
theorem dX12_spread_36 : decode cX12_spread 36 = .ok (.iconst 4, 1) := by decide +kernel
theorem dX12_spread_37 : decode cX12_spread 37 = .ok (.iaload, 1) := by decide +kernel
theorem dX12_spread_38 : decode cX12_spread 38 = .ok (.if_icmp .ge 59, 3) := by decide +kernel
theorem dX12_spread_41 : decode cX12_spread 41 = .ok (.aload_n 0, 1) := by decide +kernel
theorem dX12_spread_42 : decode cX12_spread 42 = .ok (.aload_n 0, 1) := by decide +kernel
theorem dX12_spread_43 : decode cX12_spread 43 = .ok (.getfield 23, 3) := by decide +kernel
theorem dX12_spread_46 : decode cX12_spread 46 = .ok (.iload 4, 2) := by decide +kernel
theorem dX12_spread_48 : decode cX12_spread 48 = .ok (.invokevirtual 304, 3) := by decide +kernel
theorem dX12_spread_51 : decode cX12_spread 51 = .ok (.ifCond .ne 6, 3) := by decide +kernel
theorem dX12_spread_54 : decode cX12_spread 54 = .ok (.goto 37, 3) := by decide +kernel
theorem dX12_spread_57 : decode cX12_spread 57 = .ok (.iload_n 2, 1) := by decide +kernel
theorem dX12_spread_58 : decode cX12_spread 58 = .ok (.aload_n 0, 1) := by decide +kernel
theorem dX12_spread_59 : decode cX12_spread 59 = .ok (.getfield 38, 3) := by decide +kernel
theorem dX12_spread_62 : decode cX12_spread 62 = .ok (.bipush 12, 2) := by decide +kernel
theorem dX12_spread_64 : decode cX12_spread 64 = .ok (.iload_n 1, 1) := by decide +kernel
theorem dX12_spread_65 : decode cX12_spread 65 = .ok (.imul, 1) := by decide +kernel
theorem dX12_spread_66 : decode cX12_spread 66 = .ok (.iload 4, 2) := by decide +kernel
theorem dX12_spread_68 : decode cX12_spread 68 = .ok (.iadd, 1) := by decide +kernel
theorem dX12_spread_69 : decode cX12_spread 69 = .ok (.iaload, 1) := by decide +kernel
theorem dX12_spread_70 : decode cX12_spread 70 = .ok (.invokestatic 268, 3) := by decide +kernel
theorem dX12_spread_73 : decode cX12_spread 73 = .ok (.istore_n 2, 1) := by decide +kernel
theorem dX12_spread_74 : decode cX12_spread 74 = .ok (.iload_n 3, 1) := by decide +kernel
theorem dX12_spread_75 : decode cX12_spread 75 = .ok (.aload_n 0, 1) := by decide +kernel
theorem dX12_spread_76 : decode cX12_spread 76 = .ok (.getfield 38, 3) := by decide +kernel
theorem dX12_spread_79 : decode cX12_spread 79 = .ok (.bipush 12, 2) := by decide +kernel
theorem dX12_spread_81 : decode cX12_spread 81 = .ok (.iload_n 1, 1) := by decide +kernel
theorem dX12_spread_82 : decode cX12_spread 82 = .ok (.imul, 1) := by decide +kernel
theorem dX12_spread_83 : decode cX12_spread 83 = .ok (.iload 4, 2) := by decide +kernel
theorem dX12_spread_85 : decode cX12_spread 85 = .ok (.iadd, 1) := by decide +kernel
theorem dX12_spread_86 : decode cX12_spread 86 = .ok (.iaload, 1) := by decide +kernel
theorem dX12_spread_87 : decode cX12_spread 87 = .ok (.invokestatic 271, 3) := by decide +kernel
theorem dX12_spread_90 : decode cX12_spread 90 = .ok (.istore_n 3, 1) := by decide +kernel
theorem dX12_spread_91 : decode cX12_spread 91 = .ok (.iinc 4 1, 3) := by decide +kernel
theorem dX12_spread_94 : decode cX12_spread 94 = .ok (.goto (-64), 3) := by decide +kernel
theorem dX12_spread_97 : decode cX12_spread 97 = .ok (.iload_n 3, 1) := by decide +kernel
theorem dX12_spread_98 : decode cX12_spread 98 = .ok (.iload_n 2, 1) := by decide +kernel
theorem dX12_spread_99 : decode cX12_spread 99 = .ok (.isub, 1) := by decide +kernel
theorem dX12_spread_100 : decode cX12_spread 100 = .ok (.ireturn, 1) := by decide +kernel
theorem dX12_window_0 : decode cX12_window 0 = .ok (.aload_n 0, 1) := by decide +kernel
theorem dX12_window_1 : decode cX12_window 1 = .ok (.aload_n 0, 1) := by decide +kernel
theorem dX12_window_2 : decode cX12_window 2 = .ok (.iload_n 1, 1) := by decide +kernel
theorem dX12_window_3 : decode cX12_window 3 = .ok (.invokevirtual 344, 3) := by decide +kernel
theorem dX12_window_6 : decode cX12_window 6 = .ok (.invokevirtual 340, 3) := by decide +kernel
theorem dX12_window_9 : decode cX12_window 9 = .ok (.ifCond .ne 5, 3) := by decide +kernel
theorem dX12_window_12 : decode cX12_window 12 = .ok (.iconst 0, 1) := by decide +kernel
theorem dX12_window_13 : decode cX12_window 13 = .ok (.ireturn, 1) := by decide +kernel
theorem dX12_window_14 : decode cX12_window 14 = .ok (.aload_n 0, 1) := by decide +kernel
theorem dX12_window_15 : decode cX12_window 15 = .ok (.iload_n 1, 1) := by decide +kernel
theorem dX12_window_16 : decode cX12_window 16 = .ok (.invokevirtual 320, 3) := by decide +kernel
theorem dX12_window_19 : decode cX12_window 19 = .ok (.aload_n 0, 1) := by decide +kernel
theorem dX12_window_20 : decode cX12_window 20 = .ok (.aload_n 0, 1) := by decide +kernel
theorem dX12_window_21 : decode cX12_window 21 = .ok (.getfield 23, 3) := by decide +kernel
theorem dX12_window_24 : decode cX12_window 24 = .ok (.invokevirtual 312, 3) := by decide +kernel
theorem dX12_window_27 : decode cX12_window 27 = .ok (.ireturn, 1) := by decide +kernel
theorem dX12_sample_0 : decode cX12_sample 0 = .ok (.aload_n 0, 1) := by decide +kernel
theorem dX12_sample_1 : decode cX12_sample 1 = .ok (.aload_n 0, 1) := by decide +kernel
theorem dX12_sample_2 : decode cX12_sample 2 = .ok (.iload_n 1, 1) := by decide +kernel
theorem dX12_sample_3 : decode cX12_sample 3 = .ok (.invokevirtual 337, 3) := by decide +kernel
theorem dX12_sample_6 : decode cX12_sample 6 = .ok (.invokevirtual 340, 3) := by decide +kernel
theorem dX12_sample_9 : decode cX12_sample 9 = .ok (.ifCond .ne 5, 3) := by decide +kernel
theorem dX12_sample_12 : decode cX12_sample 12 = .ok (.iconst 0, 1) := by decide +kernel
theorem dX12_sample_13 : decode cX12_sample 13 = .ok (.ireturn, 1) := by decide +kernel
theorem dX12_sample_14 : decode cX12_sample 14 = .ok (.aload_n 0, 1) := by decide +kernel
theorem dX12_sample_15 : decode cX12_sample 15 = .ok (.iload_n 2, 1) := by decide +kernel
theorem dX12_sample_16 : decode cX12_sample 16 = .ok (.invokevirtual 350, 3) := by decide +kernel
theorem dX12_sample_19 : decode cX12_sample 19 = .ok (.ifCond .eq 21, 3) := by decide +kernel
theorem dX12_sample_22 : decode cX12_sample 22 = .ok (.aload_n 0, 1) := by decide +kernel
theorem dX12_sample_23 : decode cX12_sample 23 = .ok (.getfield 23, 3) := by decide +kernel
theorem dX12_sample_26 : decode cX12_sample 26 = .ok (.bipush 55, 2) := by decide +kernel
theorem dX12_sample_28 : decode cX12_sample 28 = .ok (.sipush 200, 3) := by decide +kernel
theorem dX12_sample_31 : decode cX12_sample 31 = .ok (.iload_n 1, 1) := by decide +kernel
theorem dX12_sample_32 : decode cX12_sample 32 = .ok (.imul, 1) := by decide +kernel
theorem dX12_sample_33 : decode cX12_sample 33 = .ok (.iadd, 1) := by decide +kernel
theorem dX12_sample_34 : decode cX12_sample 34 = .ok (.iload_n 2, 1) := by decide +kernel
theorem dX12_sample_35 : decode cX12_sample 35 = .ok (.iadd, 1) := by decide +kernel
theorem dX12_sample_36 : decode cX12_sample 36 = .ok (.iaload, 1) := by decide +kernel
theorem dX12_sample_37 : decode cX12_sample 37 = .ok (.goto 8, 3) := by decide +kernel
theorem dX12_sample_40 : decode cX12_sample 40 = .ok (.aload_n 0, 1) := by decide +kernel
theorem dX12_sample_41 : decode cX12_sample 41 = .ok (.iconst 3, 1) := by decide +kernel
theorem dX12_sample_42 : decode cX12_sample 42 = .ok (.invokevirtual 227, 3) := by decide +kernel
theorem dX12_sample_45 : decode cX12_sample 45 = .ok (.ireturn, 1) := by decide +kernel
theorem dX12_beam_0 : decode cX12_beam 0 = .ok (.aload_n 0, 1) := by decide +kernel
theorem dX12_beam_1 : decode cX12_beam 1 = .ok (.aload_n 0, 1) := by decide +kernel
theorem dX12_beam_2 : decode cX12_beam 2 = .ok (.iload_n 1, 1) := by decide +kernel
theorem dX12_beam_3 : decode cX12_beam 3 = .ok (.invokevirtual 344, 3) := by decide +kernel
theorem dX12_beam_6 : decode cX12_beam 6 = .ok (.invokevirtual 340, 3) := by decide +kernel
theorem dX12_beam_9 : decode cX12_beam 9 = .ok (.ifCond .ne 5, 3) := by decide +kernel
theorem dX12_beam_12 : decode cX12_beam 12 = .ok (.iconst 0, 1) := by decide +kernel
theorem dX12_beam_13 : decode cX12_beam 13 = .ok (.ireturn, 1) := by decide +kernel
theorem dX12_beam_14 : decode cX12_beam 14 = .ok (.aload_n 0, 1) := by decide +kernel
theorem dX12_beam_15 : decode cX12_beam 15 = .ok (.iload_n 1, 1) := by decide +kernel
theorem dX12_beam_16 : decode cX12_beam 16 = .ok (.invokevirtual 320, 3) := by decide +kernel
theorem dX12_beam_19 : decode cX12_beam 19 = .ok (.iload_n 2, 1) := by decide +kernel
theorem dX12_beam_20 : decode cX12_beam 20 = .ok (.iconst 0, 1) := by decide +kernel
theorem dX12_beam_21 : decode cX12_beam 21 = .ok (.aload_n 0, 1) := by decide +kernel
theorem dX12_beam_22 : decode cX12_beam 22 = .ok (.aload_n 0, 1) := by decide +kernel
theorem dX12_beam_23 : decode cX12_beam 23 = .ok (.getfield 23, 3) := by decide +kernel
theorem dX12_beam_26 : decode cX12_beam 26 = .ok (.invokevirtual 312, 3) := by decide +kernel
theorem dX12_beam_29 : decode cX12_beam 29 = .ok (.iconst 1, 1) := by decide +kernel
theorem dX12_beam_30 : decode cX12_beam 30 = .ok (.isub, 1) := by decide +kernel
theorem dX12_beam_31 : decode cX12_beam 31 = .ok (.invokestatic 96, 3) := by decide +kernel
theorem dX12_beam_34 : decode cX12_beam 34 = .ok (.ifCond .eq 15, 3) := by decide +kernel
theorem dX12_beam_37 : decode cX12_beam 37 = .ok (.aload_n 0, 1) := by decide +kernel
theorem dX12_beam_38 : decode cX12_beam 38 = .ok (.aload_n 0, 1) := by decide +kernel
theorem dX12_beam_39 : decode cX12_beam 39 = .ok (.getfield 23, 3) := by decide +kernel
theorem dX12_beam_42 : decode cX12_beam 42 = .ok (.iload_n 2, 1) := by decide +kernel
theorem dX12_beam_43 : decode cX12_beam 43 = .ok (.invokevirtual 308, 3) := by decide +kernel
theorem dX12_beam_46 : decode cX12_beam 46 = .ok (.goto 8, 3) := by decide +kernel
theorem dX12_beam_49 : decode cX12_beam 49 = .ok (.aload_n 0, 1) := by decide +kernel
theorem dX12_beam_50 : decode cX12_beam 50 = .ok (.iconst 3, 1) := by decide +kernel
theorem dX12_beam_51 : decode cX12_beam 51 = .ok (.invokevirtual 227, 3) := by decide +kernel
theorem dX12_beam_54 : decode cX12_beam 54 = .ok (.ireturn, 1) := by decide +kernel
theorem dX12_power_0 : decode cX12_power 0 = .ok (.aload_n 0, 1) := by decide +kernel
theorem dX12_power_1 : decode cX12_power 1 = .ok (.aload_n 0, 1) := by decide +kernel
theorem dX12_power_2 : decode cX12_power 2 = .ok (.iload_n 1, 1) := by decide +kernel
theorem dX12_power_3 : decode cX12_power 3 = .ok (.invokevirtual 344, 3) := by decide +kernel
theorem dX12_power_6 : decode cX12_power 6 = .ok (.invokevirtual 340, 3) := by decide +kernel
theorem dX12_power_9 : decode cX12_power 9 = .ok (.ifCond .eq 15, 3) := by decide +kernel
theorem dX12_power_12 : decode cX12_power 12 = .ok (.aload_n 0, 1) := by decide +kernel
theorem dX12_power_13 : decode cX12_power 13 = .ok (.aload_n 0, 1) := by decide +kernel
theorem dX12_power_14 : decode cX12_power 14 = .ok (.getfield 23, 3) := by decide +kernel
theorem dX12_power_17 : decode cX12_power 17 = .ok (.iload_n 1, 1) := by decide +kernel
theorem dX12_power_18 : decode cX12_power 18 = .ok (.invokevirtual 327, 3) := by decide +kernel
theorem dX12_power_21 : decode cX12_power 21 = .ok (.goto 4, 3) := by decide +kernel
theorem dX12_power_24 : decode cX12_power 24 = .ok (.lconst 0, 1) := by decide +kernel
theorem dX12_power_25 : decode cX12_power 25 = .ok (.lreturn, 1) := by decide +kernel
theorem dX12_powerAt_0 : decode cX12_powerAt 0 = .ok (.aload_n 0, 1) := by decide +kernel
theorem dX12_powerAt_1 : decode cX12_powerAt 1 = .ok (.iload_n 1, 1) := by decide +kernel
theorem dX12_powerAt_2 : decode cX12_powerAt 2 = .ok (.iload_n 2, 1) := by decide +kernel
theorem dX12_powerAt_3 : decode cX12_powerAt 3 = .ok (.invokestatic 353, 3) := by decide +kernel
theorem dX12_powerAt_6 : decode cX12_powerAt 6 = .ok (.invokevirtual 340, 3) := by decide +kernel
theorem dX12_powerAt_9 : decode cX12_powerAt 9 = .ok (.ifCond .ne 5, 3) := by decide +kernel
theorem dX12_powerAt_12 : decode cX12_powerAt 12 = .ok (.lconst 0, 1) := by decide +kernel
theorem dX12_powerAt_13 : decode cX12_powerAt 13 = .ok (.lreturn, 1) := by decide +kernel
theorem dX12_powerAt_14 : decode cX12_powerAt 14 = .ok (.aload_n 0, 1) := by decide +kernel
theorem dX12_powerAt_15 : decode cX12_powerAt 15 = .ok (.iload_n 1, 1) := by decide +kernel
theorem dX12_powerAt_16 : decode cX12_powerAt 16 = .ok (.iload_n 2, 1) := by decide +kernel
theorem dX12_powerAt_17 : decode cX12_powerAt 17 = .ok (.invokevirtual 363, 3) := by decide +kernel
theorem dX12_powerAt_20 : decode cX12_powerAt 20 = .ok (.aload_n 0, 1) := by decide +kernel
theorem dX12_powerAt_21 : decode cX12_powerAt 21 = .ok (.aload_n 0, 1) := by decide +kernel
theorem dX12_powerAt_22 : decode cX12_powerAt 22 = .ok (.getfield 23, 3) := by decide +kernel
theorem dX12_powerAt_25 : decode cX12_powerAt 25 = .ok (.invokevirtual 323, 3) := by decide +kernel
theorem dX12_powerAt_28 : decode cX12_powerAt 28 = .ok (.lreturn, 1) := by decide +kernel
theorem dX12_best_0 : decode cX12_best 0 = .ok (.aload_n 0, 1) := by decide +kernel
theorem dX12_best_1 : decode cX12_best 1 = .ok (.iconst 1, 1) := by decide +kernel
theorem dX12_best_2 : decode cX12_best 2 = .ok (.invokevirtual 340, 3) := by decide +kernel
theorem dX12_best_5 : decode cX12_best 5 = .ok (.ifCond .eq 14, 3) := by decide +kernel
theorem dX12_best_8 : decode cX12_best 8 = .ok (.aload_n 0, 1) := by decide +kernel
theorem dX12_best_9 : decode cX12_best 9 = .ok (.aload_n 0, 1) := by decide +kernel
theorem dX12_best_10 : decode cX12_best 10 = .ok (.getfield 23, 3) := by decide +kernel
theorem dX12_best_13 : decode cX12_best 13 = .ok (.invokevirtual 367, 3) := by decide +kernel
theorem dX12_best_16 : decode cX12_best 16 = .ok (.goto 4, 3) := by decide +kernel
theorem dX12_best_19 : decode cX12_best 19 = .ok (.iconst 0, 1) := by decide +kernel
theorem dX12_best_20 : decode cX12_best 20 = .ok (.ireturn, 1) := by decide +kernel
theorem dX12_bestPower_0 : decode cX12_bestPower 0 = .ok (.aload_n 0, 1) := by decide +kernel
theorem dX12_bestPower_1 : decode cX12_bestPower 1 = .ok (.iconst 1, 1) := by decide +kernel
theorem dX12_bestPower_2 : decode cX12_bestPower 2 = .ok (.invokevirtual 340, 3) := by decide +kernel
theorem dX12_bestPower_5 : decode cX12_bestPower 5 = .ok (.ifCond .eq 19, 3) := by decide +kernel
theorem dX12_bestPower_8 : decode cX12_bestPower 8 = .ok (.aload_n 0, 1) := by decide +kernel
theorem dX12_bestPower_9 : decode cX12_bestPower 9 = .ok (.getfield 54, 3) := by decide +kernel
theorem dX12_bestPower_12 : decode cX12_bestPower 12 = .ok (.aload_n 0, 1) := by decide +kernel
theorem dX12_bestPower_13 : decode cX12_bestPower 13 = .ok (.aload_n 0, 1) := by decide +kernel
theorem dX12_bestPower_14 : decode cX12_bestPower 14 = .ok (.getfield 23, 3) := by decide +kernel
theorem dX12_bestPower_17 : decode cX12_bestPower 17 = .ok (.invokevirtual 367, 3) := by decide +kernel
theorem dX12_bestPower_20 : decode cX12_bestPower 20 = .ok (.laload, 1) := by decide +kernel
theorem dX12_bestPower_21 : decode cX12_bestPower 21 = .ok (.goto 4, 3) := by decide +kernel
theorem dX12_bestPower_24 : decode cX12_bestPower 24 = .ok (.lconst 0, 1) := by decide +kernel
theorem dX12_bestPower_25 : decode cX12_bestPower 25 = .ok (.lreturn, 1) := by decide +kernel
theorem dX12_meanPower_0 : decode cX12_meanPower 0 = .ok (.aload_n 0, 1) := by decide +kernel
theorem dX12_meanPower_1 : decode cX12_meanPower 1 = .ok (.iconst 1, 1) := by decide +kernel
theorem dX12_meanPower_2 : decode cX12_meanPower 2 = .ok (.invokevirtual 340, 3) := by decide +kernel
theorem dX12_meanPower_5 : decode cX12_meanPower 5 = .ok (.ifCond .ne 5, 3) := by decide +kernel
theorem dX12_meanPower_8 : decode cX12_meanPower 8 = .ok (.lconst 0, 1) := by decide +kernel
theorem dX12_meanPower_9 : decode cX12_meanPower 9 = .ok (.lreturn, 1) := by decide +kernel
theorem dX12_meanPower_10 : decode cX12_meanPower 10 = .ok (.aload_n 0, 1) := by decide +kernel
theorem dX12_meanPower_11 : decode cX12_meanPower 11 = .ok (.aload_n 0, 1) := by decide +kernel
theorem dX12_meanPower_12 : decode cX12_meanPower 12 = .ok (.getfield 23, 3) := by decide +kernel
theorem dX12_meanPower_15 : decode cX12_meanPower 15 = .ok (.invokevirtual 331, 3) := by decide +kernel
theorem dX12_meanPower_18 : decode cX12_meanPower 18 = .ok (.lconst 0, 1) := by decide +kernel
theorem dX12_meanPower_19 : decode cX12_meanPower 19 = .ok (.lstore_n 1, 1) := by decide +kernel
theorem dX12_meanPower_20 : decode cX12_meanPower 20 = .ok (.iconst 0, 1) := by decide +kernel
theorem dX12_meanPower_21 : decode cX12_meanPower 21 = .ok (.istore_n 3, 1) := by decide +kernel
theorem dX12_meanPower_22 : decode cX12_meanPower 22 = .ok (.iload_n 3, 1) := by decide +kernel
theorem dX12_meanPower_23 : decode cX12_meanPower 23 = .ok (.aload_n 0, 1) := by decide +kernel
theorem dX12_meanPower_24 : decode cX12_meanPower 24 = .ok (.invokevirtual 237, 3) := by decide +kernel
theorem dX12_meanPower_27 : decode cX12_meanPower 27 = .ok (.if_icmp .ge 18, 3) := by decide +kernel
theorem dX12_meanPower_30 : decode cX12_meanPower 30 = .ok (.lload_n 1, 1) := by decide +kernel
theorem dX12_meanPower_31 : decode cX12_meanPower 31 = .ok (.aload_n 0, 1) := by decide +kernel
theorem dX12_meanPower_32 : decode cX12_meanPower 32 = .ok (.getfield 54, 3) := by decide +kernel
theorem dX12_meanPower_35 : decode cX12_meanPower 35 = .ok (.iload_n 3, 1) := by decide +kernel
theorem dX12_meanPower_36 : decode cX12_meanPower 36 = .ok (.laload, 1) := by decide +kernel
theorem dX12_meanPower_37 : decode cX12_meanPower 37 = .ok (.ladd, 1) := by decide +kernel
theorem dX12_meanPower_38 : decode cX12_meanPower 38 = .ok (.lstore_n 1, 1) := by decide +kernel
theorem dX12_meanPower_39 : decode cX12_meanPower 39 = .ok (.iinc 3 1, 3) := by decide +kernel
theorem dX12_meanPower_42 : decode cX12_meanPower 42 = .ok (.goto (-20), 3) := by decide +kernel
theorem dX12_meanPower_45 : decode cX12_meanPower 45 = .ok (.lload_n 1, 1) := by decide +kernel
theorem dX12_meanPower_46 : decode cX12_meanPower 46 = .ok (.aload_n 0, 1) := by decide +kernel
theorem dX12_meanPower_47 : decode cX12_meanPower 47 = .ok (.invokevirtual 237, 3) := by decide +kernel
theorem dX12_meanPower_50 : decode cX12_meanPower 50 = .ok (.i2l, 1) := by decide +kernel
theorem dX12_meanPower_51 : decode cX12_meanPower 51 = .ok (.ldiv, 1) := by decide +kernel
theorem dX12_meanPower_52 : decode cX12_meanPower 52 = .ok (.lreturn, 1) := by decide +kernel
theorem dX12_isTop_0 : decode cX12_isTop 0 = .ok (.iload_n 1, 1) := by decide +kernel
theorem dX12_isTop_1 : decode cX12_isTop 1 = .ok (.aload_n 0, 1) := by decide +kernel
theorem dX12_isTop_2 : decode cX12_isTop 2 = .ok (.getfield 17, 3) := by decide +kernel
theorem dX12_isTop_5 : decode cX12_isTop 5 = .ok (.bipush 9, 2) := by decide +kernel
theorem dX12_isTop_7 : decode cX12_isTop 7 = .ok (.iaload, 1) := by decide +kernel
theorem dX12_isTop_8 : decode cX12_isTop 8 = .ok (.irem, 1) := by decide +kernel
theorem dX12_isTop_9 : decode cX12_isTop 9 = .ok (.istore_n 2, 1) := by decide +kernel
theorem dX12_isTop_10 : decode cX12_isTop 10 = .ok (.iload_n 1, 1) := by decide +kernel
theorem dX12_isTop_11 : decode cX12_isTop 11 = .ok (.aload_n 0, 1) := by decide +kernel
theorem dX12_isTop_12 : decode cX12_isTop 12 = .ok (.getfield 17, 3) := by decide +kernel
theorem dX12_isTop_15 : decode cX12_isTop 15 = .ok (.bipush 9, 2) := by decide +kernel
theorem dX12_isTop_17 : decode cX12_isTop 17 = .ok (.iaload, 1) := by decide +kernel
theorem dX12_isTop_18 : decode cX12_isTop 18 = .ok (.idiv, 1) := by decide +kernel
theorem dX12_isTop_19 : decode cX12_isTop 19 = .ok (.istore_n 3, 1) := by decide +kernel
theorem dX12_isTop_20 : decode cX12_isTop 20 = .ok (.iconst 0, 1) := by decide +kernel
theorem dX12_isTop_21 : decode cX12_isTop 21 = .ok (.iload_n 3, 1) := by decide +kernel
theorem dX12_isTop_22 : decode cX12_isTop 22 = .ok (.iconst 1, 1) := by decide +kernel
theorem dX12_isTop_23 : decode cX12_isTop 23 = .ok (.isub, 1) := by decide +kernel
theorem dX12_isTop_24 : decode cX12_isTop 24 = .ok (.invokestatic 271, 3) := by decide +kernel
theorem dX12_isTop_27 : decode cX12_isTop 27 = .ok (.istore 4, 2) := by decide +kernel
theorem dX12_isTop_29 : decode cX12_isTop 29 = .ok (.iload 4, 2) := by decide +kernel
theorem dX12_isTop_31 : decode cX12_isTop 31 = .ok (.aload_n 0, 1) := by decide +kernel
theorem dX12_isTop_32 : decode cX12_isTop 32 = .ok (.getfield 17, 3) := by decide +kernel
theorem dX12_isTop_35 : decode cX12_isTop 35 = .ok (.bipush 10, 2) := by decide +kernel
theorem dX12_isTop_37 : decode cX12_isTop 37 = .ok (.iaload, 1) := by decide +kernel
theorem dX12_isTop_38 : decode cX12_isTop 38 = .ok (.iconst 1, 1) := by decide +kernel
theorem dX12_isTop_39 : decode cX12_isTop 39 = .ok (.isub, 1) := by decide +kernel
theorem dX12_isTop_40 : decode cX12_isTop 40 = .ok (.iload_n 3, 1) := by decide +kernel
theorem dX12_isTop_41 : decode cX12_isTop 41 = .ok (.iconst 1, 1) := by decide +kernel
theorem dX12_isTop_42 : decode cX12_isTop 42 = .ok (.iadd, 1) := by decide +kernel
theorem dX12_isTop_43 : decode cX12_isTop 43 = .ok (.invokestatic 268, 3) := by decide +kernel
theorem dX12_isTop_46 : decode cX12_isTop 46 = .ok (.if_icmp .gt 84, 3) := by decide +kernel
theorem dX12_isTop_49 : decode cX12_isTop 49 = .ok (.iconst 0, 1) := by decide +kernel
theorem dX12_isTop_50 : decode cX12_isTop 50 = .ok (.iload_n 2, 1) := by decide +kernel
theorem dX12_isTop_51 : decode cX12_isTop 51 = .ok (.iconst 1, 1) := by decide +kernel
theorem dX12_isTop_52 : decode cX12_isTop 52 = .ok (.isub, 1) := by decide +kernel
theorem dX12_isTop_53 : decode cX12_isTop 53 = .ok (.invokestatic 271, 3) := by decide +kernel
theorem dX12_isTop_56 : decode cX12_isTop 56 = .ok (.istore 5, 2) := by decide +kernel
theorem dX12_isTop_58 : decode cX12_isTop 58 = .ok (.iload 5, 2) := by decide +kernel
theorem dX12_isTop_60 : decode cX12_isTop 60 = .ok (.aload_n 0, 1) := by decide +kernel
theorem dX12_isTop_61 : decode cX12_isTop 61 = .ok (.getfield 17, 3) := by decide +kernel
theorem dX12_isTop_64 : decode cX12_isTop 64 = .ok (.bipush 9, 2) := by decide +kernel
theorem dX12_isTop_66 : decode cX12_isTop 66 = .ok (.iaload, 1) := by decide +kernel
theorem dX12_isTop_67 : decode cX12_isTop 67 = .ok (.iconst 1, 1) := by decide +kernel
theorem dX12_isTop_68 : decode cX12_isTop 68 = .ok (.isub, 1) := by decide +kernel
theorem dX12_isTop_69 : decode cX12_isTop 69 = .ok (.iload_n 2, 1) := by decide +kernel
theorem dX12_isTop_70 : decode cX12_isTop 70 = .ok (.iconst 1, 1) := by decide +kernel
theorem dX12_isTop_71 : decode cX12_isTop 71 = .ok (.iadd, 1) := by decide +kernel
theorem dX12_isTop_72 : decode cX12_isTop 72 = .ok (.invokestatic 268, 3) := by decide +kernel
theorem dX12_isTop_75 : decode cX12_isTop 75 = .ok (.if_icmp .gt 49, 3) := by decide +kernel
theorem dX12_isTop_78 : decode cX12_isTop 78 = .ok (.aload_n 0, 1) := by decide +kernel
theorem dX12_isTop_79 : decode cX12_isTop 79 = .ok (.getfield 17, 3) := by decide +kernel
theorem dX12_isTop_82 : decode cX12_isTop 82 = .ok (.bipush 9, 2) := by decide +kernel
theorem dX12_isTop_84 : decode cX12_isTop 84 = .ok (.iaload, 1) := by decide +kernel
theorem dX12_isTop_85 : decode cX12_isTop 85 = .ok (.iload 4, 2) := by decide +kernel
theorem dX12_isTop_87 : decode cX12_isTop 87 = .ok (.imul, 1) := by decide +kernel
theorem dX12_isTop_88 : decode cX12_isTop 88 = .ok (.iload 5, 2) := by decide +kernel
theorem dX12_isTop_90 : decode cX12_isTop 90 = .ok (.iadd, 1) := by decide +kernel
theorem dX12_isTop_91 : decode cX12_isTop 91 = .ok (.istore 6, 2) := by decide +kernel
theorem dX12_isTop_93 : decode cX12_isTop 93 = .ok (.iload 6, 2) := by decide +kernel
theorem dX12_isTop_95 : decode cX12_isTop 95 = .ok (.iload_n 1, 1) := by decide +kernel
theorem dX12_isTop_96 : decode cX12_isTop 96 = .ok (.if_icmp .eq 22, 3) := by decide +kernel
theorem dX12_isTop_99 : decode cX12_isTop 99 = .ok (.aload_n 0, 1) := by decide +kernel
theorem dX12_isTop_100 : decode cX12_isTop 100 = .ok (.getfield 54, 3) := by decide +kernel
theorem dX12_isTop_103 : decode cX12_isTop 103 = .ok (.iload 6, 2) := by decide +kernel
theorem dX12_isTop_105 : decode cX12_isTop 105 = .ok (.laload, 1) := by decide +kernel
theorem dX12_isTop_106 : decode cX12_isTop 106 = .ok (.aload_n 0, 1) := by decide +kernel
theorem dX12_isTop_107 : decode cX12_isTop 107 = .ok (.getfield 54, 3) := by decide +kernel
theorem dX12_isTop_110 : decode cX12_isTop 110 = .ok (.iload_n 1, 1) := by decide +kernel
theorem dX12_isTop_111 : decode cX12_isTop 111 = .ok (.laload, 1) := by decide +kernel
theorem dX12_isTop_112 : decode cX12_isTop 112 = .ok (.lcmp, 1) := by decide +kernel
theorem dX12_isTop_113 : decode cX12_isTop 113 = .ok (.ifCond .lt 5, 3) := by decide +kernel
theorem dX12_isTop_116 : decode cX12_isTop 116 = .ok (.iconst 0, 1) := by decide +kernel
theorem dX12_isTop_117 : decode cX12_isTop 117 = .ok (.ireturn, 1) := by decide +kernel
theorem dX12_isTop_118 : decode cX12_isTop 118 = .ok (.iinc 5 1, 3) := by decide +kernel
theorem dX12_isTop_121 : decode cX12_isTop 121 = .ok (.goto (-63), 3) := by decide +kernel
theorem dX12_isTop_124 : decode cX12_isTop 124 = .ok (.iinc 4 1, 3) := by decide +kernel
theorem dX12_isTop_127 : decode cX12_isTop 127 = .ok (.goto (-98), 3) := by decide +kernel
theorem dX12_isTop_130 : decode cX12_isTop 130 = .ok (.iconst 1, 1) := by decide +kernel
theorem dX12_isTop_131 : decode cX12_isTop 131 = .ok (.ireturn, 1) := by decide +kernel
theorem dX12_peaks_0 : decode cX12_peaks 0 = .ok (.aload_n 0, 1) := by decide +kernel
theorem dX12_peaks_1 : decode cX12_peaks 1 = .ok (.iconst 1, 1) := by decide +kernel
theorem dX12_peaks_2 : decode cX12_peaks 2 = .ok (.invokevirtual 340, 3) := by decide +kernel
theorem dX12_peaks_5 : decode cX12_peaks 5 = .ok (.ifCond .ne 5, 3) := by decide +kernel
theorem dX12_peaks_8 : decode cX12_peaks 8 = .ok (.iconst 0, 1) := by decide +kernel
theorem dX12_peaks_9 : decode cX12_peaks 9 = .ok (.ireturn, 1) := by decide +kernel
theorem dX12_peaks_10 : decode cX12_peaks 10 = .ok (.aload_n 0, 1) := by decide +kernel
theorem dX12_peaks_11 : decode cX12_peaks 11 = .ok (.aload_n 0, 1) := by decide +kernel
theorem dX12_peaks_12 : decode cX12_peaks 12 = .ok (.getfield 23, 3) := by decide +kernel
theorem dX12_peaks_15 : decode cX12_peaks 15 = .ok (.invokevirtual 331, 3) := by decide +kernel
theorem dX12_peaks_18 : decode cX12_peaks 18 = .ok (.iconst 0, 1) := by decide +kernel
theorem dX12_peaks_19 : decode cX12_peaks 19 = .ok (.istore_n 1, 1) := by decide +kernel
theorem dX12_peaks_20 : decode cX12_peaks 20 = .ok (.iconst 0, 1) := by decide +kernel
theorem dX12_peaks_21 : decode cX12_peaks 21 = .ok (.istore_n 2, 1) := by decide +kernel
theorem dX12_peaks_22 : decode cX12_peaks 22 = .ok (.iload_n 2, 1) := by decide +kernel
theorem dX12_peaks_23 : decode cX12_peaks 23 = .ok (.aload_n 0, 1) := by decide +kernel
theorem dX12_peaks_24 : decode cX12_peaks 24 = .ok (.invokevirtual 237, 3) := by decide +kernel
theorem dX12_peaks_27 : decode cX12_peaks 27 = .ok (.if_icmp .ge 25, 3) := by decide +kernel
theorem dX12_peaks_30 : decode cX12_peaks 30 = .ok (.iload_n 1, 1) := by decide +kernel
theorem dX12_peaks_31 : decode cX12_peaks 31 = .ok (.aload_n 0, 1) := by decide +kernel
theorem dX12_peaks_32 : decode cX12_peaks 32 = .ok (.iload_n 2, 1) := by decide +kernel
theorem dX12_peaks_33 : decode cX12_peaks 33 = .ok (.invokevirtual 370, 3) := by decide +kernel
theorem dX12_peaks_36 : decode cX12_peaks 36 = .ok (.ifCond .eq 7, 3) := by decide +kernel
theorem dX12_peaks_39 : decode cX12_peaks 39 = .ok (.iconst 1, 1) := by decide +kernel
theorem dX12_peaks_40 : decode cX12_peaks 40 = .ok (.goto 4, 3) := by decide +kernel
theorem dX12_peaks_43 : decode cX12_peaks 43 = .ok (.iconst 0, 1) := by decide +kernel
theorem dX12_peaks_44 : decode cX12_peaks 44 = .ok (.iadd, 1) := by decide +kernel
theorem dX12_peaks_45 : decode cX12_peaks 45 = .ok (.istore_n 1, 1) := by decide +kernel
theorem dX12_peaks_46 : decode cX12_peaks 46 = .ok (.iinc 2 1, 3) := by decide +kernel
theorem dX12_peaks_49 : decode cX12_peaks 49 = .ok (.goto (-27), 3) := by decide +kernel
theorem dX12_peaks_52 : decode cX12_peaks 52 = .ok (.iload_n 1, 1) := by decide +kernel
theorem dX12_peaks_53 : decode cX12_peaks 53 = .ok (.ireturn, 1) := by decide +kernel
theorem dX12_isGreater_0 : decode cX12_isGreater 0 = .ok (.aload_n 0, 1) := by decide +kernel
theorem dX12_isGreater_1 : decode cX12_isGreater 1 = .ok (.getfield 54, 3) := by decide +kernel
theorem dX12_isGreater_4 : decode cX12_isGreater 4 = .ok (.iload_n 1, 1) := by decide +kernel
theorem dX12_isGreater_5 : decode cX12_isGreater 5 = .ok (.laload, 1) := by decide +kernel
theorem dX12_isGreater_6 : decode cX12_isGreater 6 = .ok (.aload_n 0, 1) := by decide +kernel
theorem dX12_isGreater_7 : decode cX12_isGreater 7 = .ok (.getfield 54, 3) := by decide +kernel
theorem dX12_isGreater_10 : decode cX12_isGreater 10 = .ok (.iload_n 2, 1) := by decide +kernel
theorem dX12_isGreater_11 : decode cX12_isGreater 11 = .ok (.laload, 1) := by decide +kernel
theorem dX12_isGreater_12 : decode cX12_isGreater 12 = .ok (.lcmp, 1) := by decide +kernel
theorem dX12_isGreater_13 : decode cX12_isGreater 13 = .ok (.ifCond .gt 24, 3) := by decide +kernel
theorem dX12_isGreater_16 : decode cX12_isGreater 16 = .ok (.aload_n 0, 1) := by decide +kernel
theorem dX12_isGreater_17 : decode cX12_isGreater 17 = .ok (.getfield 54, 3) := by decide +kernel
theorem dX12_isGreater_20 : decode cX12_isGreater 20 = .ok (.iload_n 1, 1) := by decide +kernel
theorem dX12_isGreater_21 : decode cX12_isGreater 21 = .ok (.laload, 1) := by decide +kernel
theorem dX12_isGreater_22 : decode cX12_isGreater 22 = .ok (.aload_n 0, 1) := by decide +kernel
theorem dX12_isGreater_23 : decode cX12_isGreater 23 = .ok (.getfield 54, 3) := by decide +kernel
theorem dX12_isGreater_26 : decode cX12_isGreater 26 = .ok (.iload_n 2, 1) := by decide +kernel
theorem dX12_isGreater_27 : decode cX12_isGreater 27 = .ok (.laload, 1) := by decide +kernel
theorem dX12_isGreater_28 : decode cX12_isGreater 28 = .ok (.lcmp, 1) := by decide +kernel
theorem dX12_isGreater_29 : decode cX12_isGreater 29 = .ok (.ifCond .ne 12, 3) := by decide +kernel
theorem dX12_isGreater_32 : decode cX12_isGreater 32 = .ok (.iload_n 1, 1) := by decide +kernel
theorem dX12_isGreater_33 : decode cX12_isGreater 33 = .ok (.iload_n 2, 1) := by decide +kernel
theorem dX12_isGreater_34 : decode cX12_isGreater 34 = .ok (.if_icmp .ge 7, 3) := by decide +kernel
theorem dX12_isGreater_37 : decode cX12_isGreater 37 = .ok (.iconst 1, 1) := by decide +kernel
theorem dX12_isGreater_38 : decode cX12_isGreater 38 = .ok (.goto 4, 3) := by decide +kernel
theorem dX12_isGreater_41 : decode cX12_isGreater 41 = .ok (.iconst 0, 1) := by decide +kernel
theorem dX12_isGreater_42 : decode cX12_isGreater 42 = .ok (.ireturn, 1) := by decide +kernel
theorem dX12_peakAt_0 : decode cX12_peakAt 0 = .ok (.aload_n 0, 1) := by decide +kernel
theorem dX12_peakAt_1 : decode cX12_peakAt 1 = .ok (.iconst 1, 1) := by decide +kernel
theorem dX12_peakAt_2 : decode cX12_peakAt 2 = .ok (.invokevirtual 340, 3) := by decide +kernel
theorem dX12_peakAt_5 : decode cX12_peakAt 5 = .ok (.ifCond .ne 5, 3) := by decide +kernel
theorem dX12_peakAt_8 : decode cX12_peakAt 8 = .ok (.iconst 0, 1) := by decide +kernel
theorem dX12_peakAt_9 : decode cX12_peakAt 9 = .ok (.ireturn, 1) := by decide +kernel
theorem dX12_peakAt_10 : decode cX12_peakAt 10 = .ok (.aload_n 0, 1) := by decide +kernel
theorem dX12_peakAt_11 : decode cX12_peakAt 11 = .ok (.aload_n 0, 1) := by decide +kernel
theorem dX12_peakAt_12 : decode cX12_peakAt 12 = .ok (.getfield 23, 3) := by decide +kernel
theorem dX12_peakAt_15 : decode cX12_peakAt 15 = .ok (.invokevirtual 331, 3) := by decide +kernel
theorem dX12_peakAt_18 : decode cX12_peakAt 18 = .ok (.iconst 0, 1) := by decide +kernel
theorem dX12_peakAt_19 : decode cX12_peakAt 19 = .ok (.istore_n 2, 1) := by decide +kernel
theorem dX12_peakAt_20 : decode cX12_peakAt 20 = .ok (.iload_n 2, 1) := by decide +kernel
theorem dX12_peakAt_21 : decode cX12_peakAt 21 = .ok (.aload_n 0, 1) := by decide +kernel
theorem dX12_peakAt_22 : decode cX12_peakAt 22 = .ok (.invokevirtual 237, 3) := by decide +kernel
theorem dX12_peakAt_25 : decode cX12_peakAt 25 = .ok (.if_icmp .ge 80, 3) := by decide +kernel
theorem dX12_peakAt_28 : decode cX12_peakAt 28 = .ok (.aload_n 0, 1) := by decide +kernel
theorem dX12_peakAt_29 : decode cX12_peakAt 29 = .ok (.iload_n 2, 1) := by decide +kernel
theorem dX12_peakAt_30 : decode cX12_peakAt 30 = .ok (.invokevirtual 370, 3) := by decide +kernel
theorem dX12_peakAt_33 : decode cX12_peakAt 33 = .ok (.ifCond .ne 6, 3) := by decide +kernel
theorem dX12_peakAt_36 : decode cX12_peakAt 36 = .ok (.goto 63, 3) := by decide +kernel
theorem dX12_peakAt_39 : decode cX12_peakAt 39 = .ok (.iconst 0, 1) := by decide +kernel
theorem dX12_peakAt_40 : decode cX12_peakAt 40 = .ok (.istore_n 3, 1) := by decide +kernel
theorem dX12_peakAt_41 : decode cX12_peakAt 41 = .ok (.iconst 0, 1) := by decide +kernel
theorem dX12_peakAt_42 : decode cX12_peakAt 42 = .ok (.istore 4, 2) := by decide +kernel
theorem dX12_peakAt_44 : decode cX12_peakAt 44 = .ok (.iload 4, 2) := by decide +kernel
theorem dX12_peakAt_46 : decode cX12_peakAt 46 = .ok (.aload_n 0, 1) := by decide +kernel
theorem dX12_peakAt_47 : decode cX12_peakAt 47 = .ok (.invokevirtual 237, 3) := by decide +kernel
theorem dX12_peakAt_50 : decode cX12_peakAt 50 = .ok (.if_icmp .ge 42, 3) := by decide +kernel
theorem dX12_peakAt_53 : decode cX12_peakAt 53 = .ok (.iload_n 3, 1) := by decide +kernel
theorem dX12_peakAt_54 : decode cX12_peakAt 54 = .ok (.iload 4, 2) := by decide +kernel
theorem dX12_peakAt_56 : decode cX12_peakAt 56 = .ok (.iload_n 2, 1) := by decide +kernel
theorem dX12_peakAt_57 : decode cX12_peakAt 57 = .ok (.if_icmp .eq 26, 3) := by decide +kernel
theorem dX12_peakAt_60 : decode cX12_peakAt 60 = .ok (.aload_n 0, 1) := by decide +kernel
theorem dX12_peakAt_61 : decode cX12_peakAt 61 = .ok (.iload 4, 2) := by decide +kernel
theorem dX12_peakAt_63 : decode cX12_peakAt 63 = .ok (.invokevirtual 370, 3) := by decide +kernel
theorem dX12_peakAt_66 : decode cX12_peakAt 66 = .ok (.ifCond .eq 17, 3) := by decide +kernel
theorem dX12_peakAt_69 : decode cX12_peakAt 69 = .ok (.aload_n 0, 1) := by decide +kernel
theorem dX12_peakAt_70 : decode cX12_peakAt 70 = .ok (.iload 4, 2) := by decide +kernel
theorem dX12_peakAt_72 : decode cX12_peakAt 72 = .ok (.iload_n 2, 1) := by decide +kernel
theorem dX12_peakAt_73 : decode cX12_peakAt 73 = .ok (.invokevirtual 373, 3) := by decide +kernel
theorem dX12_peakAt_76 : decode cX12_peakAt 76 = .ok (.ifCond .eq 7, 3) := by decide +kernel
theorem dX12_peakAt_79 : decode cX12_peakAt 79 = .ok (.iconst 1, 1) := by decide +kernel
theorem dX12_peakAt_80 : decode cX12_peakAt 80 = .ok (.goto 4, 3) := by decide +kernel
theorem dX12_peakAt_83 : decode cX12_peakAt 83 = .ok (.iconst 0, 1) := by decide +kernel
theorem dX12_peakAt_84 : decode cX12_peakAt 84 = .ok (.iadd, 1) := by decide +kernel
theorem dX12_peakAt_85 : decode cX12_peakAt 85 = .ok (.istore_n 3, 1) := by decide +kernel
theorem dX12_peakAt_86 : decode cX12_peakAt 86 = .ok (.iinc 4 1, 3) := by decide +kernel
theorem dX12_peakAt_89 : decode cX12_peakAt 89 = .ok (.goto (-45), 3) := by decide +kernel
theorem dX12_peakAt_92 : decode cX12_peakAt 92 = .ok (.iload_n 3, 1) := by decide +kernel
theorem dX12_peakAt_93 : decode cX12_peakAt 93 = .ok (.iload_n 1, 1) := by decide +kernel
theorem dX12_peakAt_94 : decode cX12_peakAt 94 = .ok (.if_icmp .ne 5, 3) := by decide +kernel
theorem dX12_peakAt_97 : decode cX12_peakAt 97 = .ok (.iload_n 2, 1) := by decide +kernel
theorem dX12_peakAt_98 : decode cX12_peakAt 98 = .ok (.ireturn, 1) := by decide +kernel
theorem dX12_peakAt_99 : decode cX12_peakAt 99 = .ok (.iinc 2 1, 3) := by decide +kernel
theorem dX12_peakAt_102 : decode cX12_peakAt 102 = .ok (.goto (-82), 3) := by decide +kernel
theorem dX12_peakAt_105 : decode cX12_peakAt 105 = .ok (.aload_n 0, 1) := by decide +kernel
theorem dX12_peakAt_106 : decode cX12_peakAt 106 = .ok (.iconst 2, 1) := by decide +kernel
theorem dX12_peakAt_107 : decode cX12_peakAt 107 = .ok (.invokevirtual 227, 3) := by decide +kernel
theorem dX12_peakAt_110 : decode cX12_peakAt 110 = .ok (.ireturn, 1) := by decide +kernel
theorem dX12_isPeak_0 : decode cX12_isPeak 0 = .ok (.aload_n 0, 1) := by decide +kernel
theorem dX12_isPeak_1 : decode cX12_isPeak 1 = .ok (.aload_n 0, 1) := by decide +kernel
theorem dX12_isPeak_2 : decode cX12_isPeak 2 = .ok (.iload_n 1, 1) := by decide +kernel
theorem dX12_isPeak_3 : decode cX12_isPeak 3 = .ok (.invokevirtual 344, 3) := by decide +kernel
theorem dX12_isPeak_6 : decode cX12_isPeak 6 = .ok (.invokevirtual 340, 3) := by decide +kernel
theorem dX12_isPeak_9 : decode cX12_isPeak 9 = .ok (.ifCond .ne 5, 3) := by decide +kernel
theorem dX12_isPeak_12 : decode cX12_isPeak 12 = .ok (.iconst 0, 1) := by decide +kernel
theorem dX12_isPeak_13 : decode cX12_isPeak 13 = .ok (.ireturn, 1) := by decide +kernel
theorem dX12_isPeak_14 : decode cX12_isPeak 14 = .ok (.aload_n 0, 1) := by decide +kernel
theorem dX12_isPeak_15 : decode cX12_isPeak 15 = .ok (.aload_n 0, 1) := by decide +kernel
theorem dX12_isPeak_16 : decode cX12_isPeak 16 = .ok (.getfield 23, 3) := by decide +kernel
theorem dX12_isPeak_19 : decode cX12_isPeak 19 = .ok (.invokevirtual 331, 3) := by decide +kernel
theorem dX12_isPeak_22 : decode cX12_isPeak 22 = .ok (.aload_n 0, 1) := by decide +kernel
theorem dX12_isPeak_23 : decode cX12_isPeak 23 = .ok (.iload_n 1, 1) := by decide +kernel
theorem dX12_isPeak_24 : decode cX12_isPeak 24 = .ok (.invokevirtual 370, 3) := by decide +kernel
theorem dX12_isPeak_27 : decode cX12_isPeak 27 = .ok (.ireturn, 1) := by decide +kernel
theorem dX12_contrast_0 : decode cX12_contrast 0 = .ok (.aload_n 0, 1) := by decide +kernel
theorem dX12_contrast_1 : decode cX12_contrast 1 = .ok (.iconst 1, 1) := by decide +kernel
theorem dX12_contrast_2 : decode cX12_contrast 2 = .ok (.invokevirtual 340, 3) := by decide +kernel
theorem dX12_contrast_5 : decode cX12_contrast 5 = .ok (.ifCond .ne 5, 3) := by decide +kernel
theorem dX12_contrast_8 : decode cX12_contrast 8 = .ok (.fconst 0, 1) := by decide +kernel
theorem dX12_contrast_9 : decode cX12_contrast 9 = .ok (.freturn, 1) := by decide +kernel
theorem dX12_contrast_10 : decode cX12_contrast 10 = .ok (.aload_n 0, 1) := by decide +kernel
theorem dX12_contrast_11 : decode cX12_contrast 11 = .ok (.aload_n 0, 1) := by decide +kernel
theorem dX12_contrast_12 : decode cX12_contrast 12 = .ok (.getfield 23, 3) := by decide +kernel
theorem dX12_contrast_15 : decode cX12_contrast 15 = .ok (.invokevirtual 367, 3) := by decide +kernel
theorem dX12_contrast_18 : decode cX12_contrast 18 = .ok (.istore_n 1, 1) := by decide +kernel
theorem dX12_contrast_19 : decode cX12_contrast 19 = .ok (.lconst 0, 1) := by decide +kernel
theorem dX12_contrast_20 : decode cX12_contrast 20 = .ok (.lstore_n 2, 1) := by decide +kernel
theorem dX12_contrast_21 : decode cX12_contrast 21 = .ok (.iconst 0, 1) := by decide +kernel
theorem dX12_contrast_22 : decode cX12_contrast 22 = .ok (.istore 4, 2) := by decide +kernel
theorem dX12_contrast_24 : decode cX12_contrast 24 = .ok (.iload 4, 2) := by decide +kernel
theorem dX12_contrast_26 : decode cX12_contrast 26 = .ok (.aload_n 0, 1) := by decide +kernel
theorem dX12_contrast_27 : decode cX12_contrast 27 = .ok (.invokevirtual 237, 3) := by decide +kernel
theorem dX12_contrast_30 : decode cX12_contrast 30 = .ok (.if_icmp .ge 31, 3) := by decide +kernel
theorem dX12_contrast_33 : decode cX12_contrast 33 = .ok (.iload 4, 2) := by decide +kernel
theorem dX12_contrast_35 : decode cX12_contrast 35 = .ok (.iload_n 1, 1) := by decide +kernel
theorem dX12_contrast_36 : decode cX12_contrast 36 = .ok (.if_icmp .ne 7, 3) := by decide +kernel
theorem dX12_contrast_39 : decode cX12_contrast 39 = .ok (.lload_n 2, 1) := by decide +kernel
theorem dX12_contrast_40 : decode cX12_contrast 40 = .ok (.goto 14, 3) := by decide +kernel
theorem dX12_contrast_43 : decode cX12_contrast 43 = .ok (.lload_n 2, 1) := by decide +kernel
theorem dX12_contrast_44 : decode cX12_contrast 44 = .ok (.aload_n 0, 1) := by decide +kernel
theorem dX12_contrast_45 : decode cX12_contrast 45 = .ok (.getfield 54, 3) := by decide +kernel
theorem dX12_contrast_48 : decode cX12_contrast 48 = .ok (.iload 4, 2) := by decide +kernel
theorem dX12_contrast_50 : decode cX12_contrast 50 = .ok (.laload, 1) := by decide +kernel
theorem dX12_contrast_51 : decode cX12_contrast 51 = .ok (.invokestatic 376, 3) := by decide +kernel
theorem dX12_contrast_54 : decode cX12_contrast 54 = .ok (.lstore_n 2, 1) := by decide +kernel
theorem dX12_contrast_55 : decode cX12_contrast 55 = .ok (.iinc 4 1, 3) := by decide +kernel
theorem dX12_contrast_58 : decode cX12_contrast 58 = .ok (.goto (-34), 3) := by decide +kernel
theorem dX12_contrast_61 : decode cX12_contrast 61 = .ok (.lload_n 2, 1) := by decide +kernel
theorem dX12_contrast_62 : decode cX12_contrast 62 = .ok (.lconst 0, 1) := by decide +kernel
theorem dX12_contrast_63 : decode cX12_contrast 63 = .ok (.lcmp, 1) := by decide +kernel
theorem dX12_contrast_64 : decode cX12_contrast 64 = .ok (.ifCond .ne 7, 3) := by decide +kernel
theorem dX12_contrast_67 : decode cX12_contrast 67 = .ok (.fconst 0, 1) := by decide +kernel
theorem dX12_contrast_68 : decode cX12_contrast 68 = .ok (.goto 13, 3) := by decide +kernel
theorem dX12_contrast_71 : decode cX12_contrast 71 = .ok (.aload_n 0, 1) := by decide +kernel
theorem dX12_contrast_72 : decode cX12_contrast 72 = .ok (.getfield 54, 3) := by decide +kernel
theorem dX12_contrast_75 : decode cX12_contrast 75 = .ok (.iload_n 1, 1) := by decide +kernel
theorem dX12_contrast_76 : decode cX12_contrast 76 = .ok (.laload, 1) := by decide +kernel
theorem dX12_contrast_77 : decode cX12_contrast 77 = .ok (.l2f, 1) := by decide +kernel
theorem dX12_contrast_78 : decode cX12_contrast 78 = .ok (.lload_n 2, 1) := by decide +kernel
theorem dX12_contrast_79 : decode cX12_contrast 79 = .ok (.l2f, 1) := by decide +kernel
theorem dX12_contrast_80 : decode cX12_contrast 80 = .ok (.fdiv, 1) := by decide +kernel
theorem dX12_contrast_81 : decode cX12_contrast 81 = .ok (.freturn, 1) := by decide +kernel
theorem dX12_confusion_0 : decode cX12_confusion 0 = .ok (.iconst 0, 1) := by decide +kernel
theorem dX12_confusion_1 : decode cX12_confusion 1 = .ok (.istore 4, 2) := by decide +kernel
theorem dX12_confusion_3 : decode cX12_confusion 3 = .ok (.iconst 0, 1) := by decide +kernel
theorem dX12_confusion_4 : decode cX12_confusion 4 = .ok (.istore 5, 2) := by decide +kernel
theorem dX12_confusion_6 : decode cX12_confusion 6 = .ok (.iload 5, 2) := by decide +kernel
theorem dX12_confusion_8 : decode cX12_confusion 8 = .ok (.aload_n 0, 1) := by decide +kernel
theorem dX12_confusion_9 : decode cX12_confusion 9 = .ok (.getfield 17, 3) := by decide +kernel
theorem dX12_confusion_12 : decode cX12_confusion 12 = .ok (.iconst 4, 1) := by decide +kernel
theorem dX12_confusion_13 : decode cX12_confusion 13 = .ok (.iaload, 1) := by decide +kernel
theorem dX12_confusion_14 : decode cX12_confusion 14 = .ok (.if_icmp .ge 104, 3) := by decide +kernel
theorem dX12_confusion_17 : decode cX12_confusion 17 = .ok (.iconst 0, 1) := by decide +kernel
theorem dX12_confusion_18 : decode cX12_confusion 18 = .ok (.istore 6, 2) := by decide +kernel
theorem dX12_confusion_20 : decode cX12_confusion 20 = .ok (.iconst 0, 1) := by decide +kernel
theorem dX12_confusion_21 : decode cX12_confusion 21 = .ok (.istore 7, 2) := by decide +kernel
theorem dX12_confusion_23 : decode cX12_confusion 23 = .ok (.iload 7, 2) := by decide +kernel
theorem dX12_confusion_25 : decode cX12_confusion 25 = .ok (.aload_n 0, 1) := by decide +kernel
theorem dX12_confusion_26 : decode cX12_confusion 26 = .ok (.getfield 17, 3) := by decide +kernel
theorem dX12_confusion_29 : decode cX12_confusion 29 = .ok (.iconst 4, 1) := by decide +kernel
theorem dX12_confusion_30 : decode cX12_confusion 30 = .ok (.iaload, 1) := by decide +kernel
theorem dX12_confusion_31 : decode cX12_confusion 31 = .ok (.if_icmp .ge 54, 3) := by decide +kernel
theorem dX12_confusion_34 : decode cX12_confusion 34 = .ok (.iload 6, 2) := by decide +kernel
theorem dX12_confusion_36 : decode cX12_confusion 36 = .ok (.aload_n 0, 1) := by decide +kernel
theorem dX12_confusion_37 : decode cX12_confusion 37 = .ok (.aload_n 0, 1) := by decide +kernel
theorem dX12_confusion_38 : decode cX12_confusion 38 = .ok (.getfield 23, 3) := by decide +kernel
theorem dX12_confusion_41 : decode cX12_confusion 41 = .ok (.iload 7, 2) := by decide +kernel
theorem dX12_confusion_43 : decode cX12_confusion 43 = .ok (.invokevirtual 304, 3) := by decide +kernel
theorem dX12_confusion_46 : decode cX12_confusion 46 = .ok (.ifCond .eq 29, 3) := by decide +kernel
theorem dX12_confusion_49 : decode cX12_confusion 49 = .ok (.aload_n 0, 1) := by decide +kernel
theorem dX12_confusion_50 : decode cX12_confusion 50 = .ok (.iload_n 1, 1) := by decide +kernel
theorem dX12_confusion_51 : decode cX12_confusion 51 = .ok (.iload_n 2, 1) := by decide +kernel
theorem dX12_confusion_52 : decode cX12_confusion 52 = .ok (.iload 7, 2) := by decide +kernel
theorem dX12_confusion_54 : decode cX12_confusion 54 = .ok (.invokevirtual 379, 3) := by decide +kernel
theorem dX12_confusion_57 : decode cX12_confusion 57 = .ok (.aload_n 0, 1) := by decide +kernel
theorem dX12_confusion_58 : decode cX12_confusion 58 = .ok (.iload_n 1, 1) := by decide +kernel
theorem dX12_confusion_59 : decode cX12_confusion 59 = .ok (.iload_n 2, 1) := by decide +kernel
theorem dX12_confusion_60 : decode cX12_confusion 60 = .ok (.iload 5, 2) := by decide +kernel
theorem dX12_confusion_62 : decode cX12_confusion 62 = .ok (.invokevirtual 379, 3) := by decide +kernel
theorem dX12_confusion_65 : decode cX12_confusion 65 = .ok (.isub, 1) := by decide +kernel
theorem dX12_confusion_66 : decode cX12_confusion 66 = .ok (.iload_n 3, 1) := by decide +kernel
theorem dX12_confusion_67 : decode cX12_confusion 67 = .ok (.irem, 1) := by decide +kernel
theorem dX12_confusion_68 : decode cX12_confusion 68 = .ok (.ifCond .ne 7, 3) := by decide +kernel
theorem dX12_confusion_71 : decode cX12_confusion 71 = .ok (.iconst 1, 1) := by decide +kernel
theorem dX12_confusion_72 : decode cX12_confusion 72 = .ok (.goto 4, 3) := by decide +kernel
theorem dX12_confusion_75 : decode cX12_confusion 75 = .ok (.iconst 0, 1) := by decide +kernel
theorem dX12_confusion_76 : decode cX12_confusion 76 = .ok (.iadd, 1) := by decide +kernel
theorem dX12_confusion_77 : decode cX12_confusion 77 = .ok (.istore 6, 2) := by decide +kernel
theorem dX12_confusion_79 : decode cX12_confusion 79 = .ok (.iinc 7 1, 3) := by decide +kernel
theorem dX12_confusion_82 : decode cX12_confusion 82 = .ok (.goto (-59), 3) := by decide +kernel
theorem dX12_confusion_85 : decode cX12_confusion 85 = .ok (.aload_n 0, 1) := by decide +kernel
theorem dX12_confusion_86 : decode cX12_confusion 86 = .ok (.aload_n 0, 1) := by decide +kernel
theorem dX12_confusion_87 : decode cX12_confusion 87 = .ok (.getfield 23, 3) := by decide +kernel
theorem dX12_confusion_90 : decode cX12_confusion 90 = .ok (.iload 5, 2) := by decide +kernel
theorem dX12_confusion_92 : decode cX12_confusion 92 = .ok (.invokevirtual 304, 3) := by decide +kernel
theorem dX12_confusion_95 : decode cX12_confusion 95 = .ok (.ifCond .eq 13, 3) := by decide +kernel
theorem dX12_confusion_98 : decode cX12_confusion 98 = .ok (.iload 4, 2) := by decide +kernel
theorem dX12_confusion_100 : decode cX12_confusion 100 = .ok (.iload 6, 2) := by decide +kernel
theorem dX12_confusion_102 : decode cX12_confusion 102 = .ok (.invokestatic 271, 3) := by decide +kernel
theorem dX12_confusion_105 : decode cX12_confusion 105 = .ok (.goto 5, 3) := by decide +kernel
theorem dX12_confusion_108 : decode cX12_confusion 108 = .ok (.iload 4, 2) := by decide +kernel
theorem dX12_confusion_110 : decode cX12_confusion 110 = .ok (.istore 4, 2) := by decide +kernel
theorem dX12_confusion_112 : decode cX12_confusion 112 = .ok (.iinc 5 1, 3) := by decide +kernel
theorem dX12_confusion_115 : decode cX12_confusion 115 = .ok (.goto (-109), 3) := by decide +kernel
theorem dX12_confusion_118 : decode cX12_confusion 118 = .ok (.iload 4, 2) := by decide +kernel
theorem dX12_confusion_120 : decode cX12_confusion 120 = .ok (.ireturn, 1) := by decide +kernel
theorem dX12_shift_0 : decode cX12_shift 0 = .ok (.aload_n 0, 1) := by decide +kernel
theorem dX12_shift_1 : decode cX12_shift 1 = .ok (.getfield 38, 3) := by decide +kernel
theorem dX12_shift_4 : decode cX12_shift 4 = .ok (.bipush 12, 2) := by decide +kernel
theorem dX12_shift_6 : decode cX12_shift 6 = .ok (.iload_n 1, 1) := by decide +kernel
theorem dX12_shift_7 : decode cX12_shift 7 = .ok (.imul, 1) := by decide +kernel
theorem dX12_shift_8 : decode cX12_shift 8 = .ok (.iload_n 3, 1) := by decide +kernel
theorem dX12_shift_9 : decode cX12_shift 9 = .ok (.iadd, 1) := by decide +kernel
theorem dX12_shift_10 : decode cX12_shift 10 = .ok (.iaload, 1) := by decide +kernel
theorem dX12_shift_11 : decode cX12_shift 11 = .ok (.aload_n 0, 1) := by decide +kernel
theorem dX12_shift_12 : decode cX12_shift 12 = .ok (.getfield 38, 3) := by decide +kernel
theorem dX12_shift_15 : decode cX12_shift 15 = .ok (.bipush 12, 2) := by decide +kernel
theorem dX12_shift_17 : decode cX12_shift 17 = .ok (.iload_n 2, 1) := by decide +kernel
theorem dX12_shift_18 : decode cX12_shift 18 = .ok (.imul, 1) := by decide +kernel
theorem dX12_shift_19 : decode cX12_shift 19 = .ok (.iload_n 3, 1) := by decide +kernel
theorem dX12_shift_20 : decode cX12_shift 20 = .ok (.iadd, 1) := by decide +kernel
theorem dX12_shift_21 : decode cX12_shift 21 = .ok (.iaload, 1) := by decide +kernel
theorem dX12_shift_22 : decode cX12_shift 22 = .ok (.isub, 1) := by decide +kernel
theorem dX12_shift_23 : decode cX12_shift 23 = .ok (.ireturn, 1) := by decide +kernel
theorem dX12_alias_0 : decode cX12_alias 0 = .ok (.aload_n 0, 1) := by decide +kernel
theorem dX12_alias_1 : decode cX12_alias 1 = .ok (.aload_n 0, 1) := by decide +kernel
theorem dX12_alias_2 : decode cX12_alias 2 = .ok (.iload_n 1, 1) := by decide +kernel
theorem dX12_alias_3 : decode cX12_alias 3 = .ok (.invokevirtual 344, 3) := by decide +kernel
theorem dX12_alias_6 : decode cX12_alias 6 = .ok (.ifCond .eq 15, 3) := by decide +kernel
theorem dX12_alias_9 : decode cX12_alias 9 = .ok (.aload_n 0, 1) := by decide +kernel
theorem dX12_alias_10 : decode cX12_alias 10 = .ok (.iload_n 2, 1) := by decide +kernel
theorem dX12_alias_11 : decode cX12_alias 11 = .ok (.invokevirtual 344, 3) := by decide +kernel
theorem dX12_alias_14 : decode cX12_alias 14 = .ok (.ifCond .eq 7, 3) := by decide +kernel
theorem dX12_alias_17 : decode cX12_alias 17 = .ok (.iconst 1, 1) := by decide +kernel
theorem dX12_alias_18 : decode cX12_alias 18 = .ok (.goto 4, 3) := by decide +kernel
theorem dX12_alias_21 : decode cX12_alias 21 = .ok (.iconst 0, 1) := by decide +kernel
theorem dX12_alias_22 : decode cX12_alias 22 = .ok (.invokevirtual 340, 3) := by decide +kernel
theorem dX12_alias_25 : decode cX12_alias 25 = .ok (.ifCond .ne 5, 3) := by decide +kernel
theorem dX12_alias_28 : decode cX12_alias 28 = .ok (.iconst 0, 1) := by decide +kernel
theorem dX12_alias_29 : decode cX12_alias 29 = .ok (.ireturn, 1) := by decide +kernel
theorem dX12_alias_30 : decode cX12_alias 30 = .ok (.iload_n 3, 1) := by decide +kernel
theorem dX12_alias_31 : decode cX12_alias 31 = .ok (.invokestatic 382, 3) := by decide +kernel
theorem dX12_alias_34 : decode cX12_alias 34 = .ok (.ifCond .eq 13, 3) := by decide +kernel
theorem dX12_alias_37 : decode cX12_alias 37 = .ok (.aload_n 0, 1) := by decide +kernel
theorem dX12_alias_38 : decode cX12_alias 38 = .ok (.iload_n 1, 1) := by decide +kernel
theorem dX12_alias_39 : decode cX12_alias 39 = .ok (.iload_n 2, 1) := by decide +kernel
theorem dX12_alias_40 : decode cX12_alias 40 = .ok (.iload_n 3, 1) := by decide +kernel
theorem dX12_alias_41 : decode cX12_alias 41 = .ok (.invokevirtual 385, 3) := by decide +kernel
theorem dX12_alias_44 : decode cX12_alias 44 = .ok (.goto 8, 3) := by decide +kernel
theorem dX12_alias_47 : decode cX12_alias 47 = .ok (.aload_n 0, 1) := by decide +kernel
theorem dX12_alias_48 : decode cX12_alias 48 = .ok (.iconst 3, 1) := by decide +kernel
theorem dX12_alias_49 : decode cX12_alias 49 = .ok (.invokevirtual 227, 3) := by decide +kernel
theorem dX12_alias_52 : decode cX12_alias 52 = .ok (.ireturn, 1) := by decide +kernel
theorem dX12_isMark_0 : decode cX12_isMark 0 = .ok (.iload_n 1, 1) := by decide +kernel
theorem dX12_isMark_1 : decode cX12_isMark 1 = .ok (.iload_n 2, 1) := by decide +kernel
theorem dX12_isMark_2 : decode cX12_isMark 2 = .ok (.if_icmp .eq 42, 3) := by decide +kernel
theorem dX12_isMark_5 : decode cX12_isMark 5 = .ok (.aload_n 0, 1) := by decide +kernel
theorem dX12_isMark_6 : decode cX12_isMark 6 = .ok (.iload_n 1, 1) := by decide +kernel
theorem dX12_isMark_7 : decode cX12_isMark 7 = .ok (.invokevirtual 370, 3) := by decide +kernel
theorem dX12_isMark_10 : decode cX12_isMark 10 = .ok (.ifCond .eq 34, 3) := by decide +kernel
theorem dX12_isMark_13 : decode cX12_isMark 13 = .ok (.aload_n 0, 1) := by decide +kernel
theorem dX12_isMark_14 : decode cX12_isMark 14 = .ok (.invokevirtual 357, 3) := by decide +kernel
theorem dX12_isMark_17 : decode cX12_isMark 17 = .ok (.ifCond .le 27, 3) := by decide +kernel
theorem dX12_isMark_20 : decode cX12_isMark 20 = .ok (.bipush 100, 2) := by decide +kernel
theorem dX12_isMark_22 : decode cX12_isMark 22 = .ok (.aload_n 0, 1) := by decide +kernel
theorem dX12_isMark_23 : decode cX12_isMark 23 = .ok (.iload_n 1, 1) := by decide +kernel
theorem dX12_isMark_24 : decode cX12_isMark 24 = .ok (.iload_n 2, 1) := by decide +kernel
theorem dX12_isMark_25 : decode cX12_isMark 25 = .ok (.iload_n 3, 1) := by decide +kernel
theorem dX12_isMark_26 : decode cX12_isMark 26 = .ok (.invokevirtual 385, 3) := by decide +kernel
theorem dX12_isMark_29 : decode cX12_isMark 29 = .ok (.imul, 1) := by decide +kernel
theorem dX12_isMark_30 : decode cX12_isMark 30 = .ok (.iload 4, 2) := by decide +kernel
theorem dX12_isMark_32 : decode cX12_isMark 32 = .ok (.aload_n 0, 1) := by decide +kernel
theorem dX12_isMark_33 : decode cX12_isMark 33 = .ok (.invokevirtual 357, 3) := by decide +kernel
theorem dX12_isMark_36 : decode cX12_isMark 36 = .ok (.imul, 1) := by decide +kernel
theorem dX12_isMark_37 : decode cX12_isMark 37 = .ok (.if_icmp .lt 7, 3) := by decide +kernel
theorem dX12_isMark_40 : decode cX12_isMark 40 = .ok (.iconst 1, 1) := by decide +kernel
theorem dX12_isMark_41 : decode cX12_isMark 41 = .ok (.goto 4, 3) := by decide +kernel
theorem dX12_isMark_44 : decode cX12_isMark 44 = .ok (.iconst 0, 1) := by decide +kernel
theorem dX12_isMark_45 : decode cX12_isMark 45 = .ok (.ireturn, 1) := by decide +kernel
theorem dX12_isShare_0 : decode cX12_isShare 0 = .ok (.iload_n 0, 1) := by decide +kernel
theorem dX12_isShare_1 : decode cX12_isShare 1 = .ok (.iconst 1, 1) := by decide +kernel
theorem dX12_isShare_2 : decode cX12_isShare 2 = .ok (.bipush 100, 2) := by decide +kernel
theorem dX12_isShare_4 : decode cX12_isShare 4 = .ok (.invokestatic 96, 3) := by decide +kernel
theorem dX12_isShare_7 : decode cX12_isShare 7 = .ok (.ireturn, 1) := by decide +kernel
theorem dX12_isAlias_0 : decode cX12_isAlias 0 = .ok (.aload_n 0, 1) := by decide +kernel
theorem dX12_isAlias_1 : decode cX12_isAlias 1 = .ok (.aload_n 0, 1) := by decide +kernel
theorem dX12_isAlias_2 : decode cX12_isAlias 2 = .ok (.iload_n 1, 1) := by decide +kernel
theorem dX12_isAlias_3 : decode cX12_isAlias 3 = .ok (.invokevirtual 344, 3) := by decide +kernel
theorem dX12_isAlias_6 : decode cX12_isAlias 6 = .ok (.invokevirtual 340, 3) := by decide +kernel
theorem dX12_isAlias_9 : decode cX12_isAlias 9 = .ok (.ifCond .ne 5, 3) := by decide +kernel
theorem dX12_isAlias_12 : decode cX12_isAlias 12 = .ok (.iconst 0, 1) := by decide +kernel
theorem dX12_isAlias_13 : decode cX12_isAlias 13 = .ok (.ireturn, 1) := by decide +kernel
theorem dX12_isAlias_14 : decode cX12_isAlias 14 = .ok (.aload_n 0, 1) := by decide +kernel
theorem dX12_isAlias_15 : decode cX12_isAlias 15 = .ok (.iload_n 2, 1) := by decide +kernel
theorem dX12_isAlias_16 : decode cX12_isAlias 16 = .ok (.invokestatic 382, 3) := by decide +kernel
theorem dX12_isAlias_19 : decode cX12_isAlias 19 = .ok (.ifCond .eq 14, 3) := by decide +kernel
theorem dX12_isAlias_22 : decode cX12_isAlias 22 = .ok (.iload_n 3, 1) := by decide +kernel
theorem dX12_isAlias_23 : decode cX12_isAlias 23 = .ok (.invokestatic 388, 3) := by decide +kernel
theorem dX12_isAlias_26 : decode cX12_isAlias 26 = .ok (.ifCond .eq 7, 3) := by decide +kernel
theorem dX12_isAlias_29 : decode cX12_isAlias 29 = .ok (.iconst 0, 1) := by decide +kernel
theorem dX12_isAlias_30 : decode cX12_isAlias 30 = .ok (.goto 4, 3) := by decide +kernel
theorem dX12_isAlias_33 : decode cX12_isAlias 33 = .ok (.iconst 3, 1) := by decide +kernel
theorem dX12_isAlias_34 : decode cX12_isAlias 34 = .ok (.putfield 67, 3) := by decide +kernel
theorem dX12_isAlias_37 : decode cX12_isAlias 37 = .ok (.aload_n 0, 1) := by decide +kernel
theorem dX12_isAlias_38 : decode cX12_isAlias 38 = .ok (.getfield 67, 3) := by decide +kernel
theorem dX12_isAlias_41 : decode cX12_isAlias 41 = .ok (.ifCond .ne 25, 3) := by decide +kernel
theorem dX12_isAlias_44 : decode cX12_isAlias 44 = .ok (.aload_n 0, 1) := by decide +kernel
theorem dX12_isAlias_45 : decode cX12_isAlias 45 = .ok (.iload_n 1, 1) := by decide +kernel
theorem dX12_isAlias_46 : decode cX12_isAlias 46 = .ok (.aload_n 0, 1) := by decide +kernel
theorem dX12_isAlias_47 : decode cX12_isAlias 47 = .ok (.aload_n 0, 1) := by decide +kernel
theorem dX12_isAlias_48 : decode cX12_isAlias 48 = .ok (.getfield 23, 3) := by decide +kernel
theorem dX12_isAlias_51 : decode cX12_isAlias 51 = .ok (.invokevirtual 367, 3) := by decide +kernel
theorem dX12_isAlias_54 : decode cX12_isAlias 54 = .ok (.iload_n 2, 1) := by decide +kernel
theorem dX12_isAlias_55 : decode cX12_isAlias 55 = .ok (.iload_n 3, 1) := by decide +kernel
theorem dX12_isAlias_56 : decode cX12_isAlias 56 = .ok (.invokevirtual 391, 3) := by decide +kernel
theorem dX12_isAlias_59 : decode cX12_isAlias 59 = .ok (.ifCond .eq 7, 3) := by decide +kernel
theorem dX12_isAlias_62 : decode cX12_isAlias 62 = .ok (.iconst 1, 1) := by decide +kernel
theorem dX12_isAlias_63 : decode cX12_isAlias 63 = .ok (.goto 4, 3) := by decide +kernel
theorem dX12_isAlias_66 : decode cX12_isAlias 66 = .ok (.iconst 0, 1) := by decide +kernel
theorem dX12_isAlias_67 : decode cX12_isAlias 67 = .ok (.ireturn, 1) := by decide +kernel
theorem dX12_aliases_0 : decode cX12_aliases 0 = .ok (.aload_n 0, 1) := by decide +kernel
theorem dX12_aliases_1 : decode cX12_aliases 1 = .ok (.iload_n 1, 1) := by decide +kernel
theorem dX12_aliases_2 : decode cX12_aliases 2 = .ok (.invokestatic 382, 3) := by decide +kernel
theorem dX12_aliases_5 : decode cX12_aliases 5 = .ok (.ifCond .eq 14, 3) := by decide +kernel
theorem dX12_aliases_8 : decode cX12_aliases 8 = .ok (.iload_n 2, 1) := by decide +kernel
theorem dX12_aliases_9 : decode cX12_aliases 9 = .ok (.invokestatic 388, 3) := by decide +kernel
theorem dX12_aliases_12 : decode cX12_aliases 12 = .ok (.ifCond .eq 7, 3) := by decide +kernel
theorem dX12_aliases_15 : decode cX12_aliases 15 = .ok (.iconst 1, 1) := by decide +kernel
theorem dX12_aliases_16 : decode cX12_aliases 16 = .ok (.goto 4, 3) := by decide +kernel
theorem dX12_aliases_19 : decode cX12_aliases 19 = .ok (.iconst 0, 1) := by decide +kernel
theorem dX12_aliases_20 : decode cX12_aliases 20 = .ok (.invokevirtual 340, 3) := by decide +kernel
theorem dX12_aliases_23 : decode cX12_aliases 23 = .ok (.ifCond .ne 5, 3) := by decide +kernel
theorem dX12_aliases_26 : decode cX12_aliases 26 = .ok (.iconst 0, 1) := by decide +kernel
theorem dX12_aliases_27 : decode cX12_aliases 27 = .ok (.ireturn, 1) := by decide +kernel
theorem dX12_aliases_28 : decode cX12_aliases 28 = .ok (.aload_n 0, 1) := by decide +kernel
theorem dX12_aliases_29 : decode cX12_aliases 29 = .ok (.aload_n 0, 1) := by decide +kernel
theorem dX12_aliases_30 : decode cX12_aliases 30 = .ok (.getfield 23, 3) := by decide +kernel
theorem dX12_aliases_33 : decode cX12_aliases 33 = .ok (.invokevirtual 367, 3) := by decide +kernel
theorem dX12_aliases_36 : decode cX12_aliases 36 = .ok (.istore_n 3, 1) := by decide +kernel
theorem dX12_aliases_37 : decode cX12_aliases 37 = .ok (.iconst 0, 1) := by decide +kernel
theorem dX12_aliases_38 : decode cX12_aliases 38 = .ok (.istore 4, 2) := by decide +kernel
theorem dX12_aliases_40 : decode cX12_aliases 40 = .ok (.iconst 0, 1) := by decide +kernel
theorem dX12_aliases_41 : decode cX12_aliases 41 = .ok (.istore 5, 2) := by decide +kernel
theorem dX12_aliases_43 : decode cX12_aliases 43 = .ok (.iload 5, 2) := by decide +kernel
theorem dX12_aliases_45 : decode cX12_aliases 45 = .ok (.aload_n 0, 1) := by decide +kernel
theorem dX12_aliases_46 : decode cX12_aliases 46 = .ok (.invokevirtual 237, 3) := by decide +kernel
theorem dX12_aliases_49 : decode cX12_aliases 49 = .ok (.if_icmp .ge 31, 3) := by decide +kernel
theorem dX12_aliases_52 : decode cX12_aliases 52 = .ok (.iload 4, 2) := by decide +kernel
theorem dX12_aliases_54 : decode cX12_aliases 54 = .ok (.aload_n 0, 1) := by decide +kernel
theorem dX12_aliases_55 : decode cX12_aliases 55 = .ok (.iload 5, 2) := by decide +kernel
theorem dX12_aliases_57 : decode cX12_aliases 57 = .ok (.iload_n 3, 1) := by decide +kernel
theorem dX12_aliases_58 : decode cX12_aliases 58 = .ok (.iload_n 1, 1) := by decide +kernel
theorem dX12_aliases_59 : decode cX12_aliases 59 = .ok (.iload_n 2, 1) := by decide +kernel
theorem dX12_aliases_60 : decode cX12_aliases 60 = .ok (.invokevirtual 391, 3) := by decide +kernel
theorem dX12_aliases_63 : decode cX12_aliases 63 = .ok (.ifCond .eq 7, 3) := by decide +kernel
theorem dX12_aliases_66 : decode cX12_aliases 66 = .ok (.iconst 1, 1) := by decide +kernel
theorem dX12_aliases_67 : decode cX12_aliases 67 = .ok (.goto 4, 3) := by decide +kernel
theorem dX12_aliases_70 : decode cX12_aliases 70 = .ok (.iconst 0, 1) := by decide +kernel
theorem dX12_aliases_71 : decode cX12_aliases 71 = .ok (.iadd, 1) := by decide +kernel
theorem dX12_aliases_72 : decode cX12_aliases 72 = .ok (.istore 4, 2) := by decide +kernel
theorem dX12_aliases_74 : decode cX12_aliases 74 = .ok (.iinc 5 1, 3) := by decide +kernel
theorem dX12_aliases_77 : decode cX12_aliases 77 = .ok (.goto (-34), 3) := by decide +kernel
theorem dX12_aliases_80 : decode cX12_aliases 80 = .ok (.iload 4, 2) := by decide +kernel
theorem dX12_aliases_82 : decode cX12_aliases 82 = .ok (.ireturn, 1) := by decide +kernel
theorem dX12_blockOf_0 : decode cX12_blockOf 0 = .ok (.aload_n 0, 1) := by decide +kernel
theorem dX12_blockOf_1 : decode cX12_blockOf 1 = .ok (.iload_n 1, 1) := by decide +kernel
theorem dX12_blockOf_2 : decode cX12_blockOf 2 = .ok (.invokevirtual 320, 3) := by decide +kernel
theorem dX12_blockOf_5 : decode cX12_blockOf 5 = .ok (.aload_n 0, 1) := by decide +kernel
theorem dX12_blockOf_6 : decode cX12_blockOf 6 = .ok (.aload_n 0, 1) := by decide +kernel
theorem dX12_blockOf_7 : decode cX12_blockOf 7 = .ok (.getfield 23, 3) := by decide +kernel
theorem dX12_blockOf_10 : decode cX12_blockOf 10 = .ok (.iload_n 2, 1) := by decide +kernel
theorem dX12_blockOf_11 : decode cX12_blockOf 11 = .ok (.aload_n 0, 1) := by decide +kernel
theorem dX12_blockOf_12 : decode cX12_blockOf 12 = .ok (.aload_n 0, 1) := by decide +kernel
theorem dX12_blockOf_13 : decode cX12_blockOf 13 = .ok (.getfield 23, 3) := by decide +kernel
theorem dX12_blockOf_16 : decode cX12_blockOf 16 = .ok (.invokevirtual 312, 3) := by decide +kernel
theorem dX12_blockOf_19 : decode cX12_blockOf 19 = .ok (.iload_n 2, 1) := by decide +kernel
theorem dX12_blockOf_20 : decode cX12_blockOf 20 = .ok (.iload_n 3, 1) := by decide +kernel
theorem dX12_blockOf_21 : decode cX12_blockOf 21 = .ok (.iadd, 1) := by decide +kernel
theorem dX12_blockOf_22 : decode cX12_blockOf 22 = .ok (.invokestatic 268, 3) := by decide +kernel
theorem dX12_blockOf_25 : decode cX12_blockOf 25 = .ok (.invokevirtual 316, 3) := by decide +kernel
theorem dX12_blockOf_28 : decode cX12_blockOf 28 = .ok (.iload_n 3, 1) := by decide +kernel
theorem dX12_blockOf_29 : decode cX12_blockOf 29 = .ok (.i2l, 1) := by decide +kernel
theorem dX12_blockOf_30 : decode cX12_blockOf 30 = .ok (.ldiv, 1) := by decide +kernel
theorem dX12_blockOf_31 : decode cX12_blockOf 31 = .ok (.lreturn, 1) := by decide +kernel
theorem dX12_isBlock_0 : decode cX12_isBlock 0 = .ok (.aload_n 0, 1) := by decide +kernel
theorem dX12_isBlock_1 : decode cX12_isBlock 1 = .ok (.iload_n 1, 1) := by decide +kernel
theorem dX12_isBlock_2 : decode cX12_isBlock 2 = .ok (.invokevirtual 350, 3) := by decide +kernel
theorem dX12_isBlock_5 : decode cX12_isBlock 5 = .ok (.ifCond .eq 21, 3) := by decide +kernel
theorem dX12_isBlock_8 : decode cX12_isBlock 8 = .ok (.iload_n 2, 1) := by decide +kernel
theorem dX12_isBlock_9 : decode cX12_isBlock 9 = .ok (.iconst 1, 1) := by decide +kernel
theorem dX12_isBlock_10 : decode cX12_isBlock 10 = .ok (.aload_n 0, 1) := by decide +kernel
theorem dX12_isBlock_11 : decode cX12_isBlock 11 = .ok (.getfield 17, 3) := by decide +kernel
theorem dX12_isBlock_14 : decode cX12_isBlock 14 = .ok (.iconst 2, 1) := by decide +kernel
theorem dX12_isBlock_15 : decode cX12_isBlock 15 = .ok (.iaload, 1) := by decide +kernel
theorem dX12_isBlock_16 : decode cX12_isBlock 16 = .ok (.invokestatic 96, 3) := by decide +kernel
theorem dX12_isBlock_19 : decode cX12_isBlock 19 = .ok (.ifCond .eq 7, 3) := by decide +kernel
theorem dX12_isBlock_22 : decode cX12_isBlock 22 = .ok (.iconst 1, 1) := by decide +kernel
theorem dX12_isBlock_23 : decode cX12_isBlock 23 = .ok (.goto 4, 3) := by decide +kernel
theorem dX12_isBlock_26 : decode cX12_isBlock 26 = .ok (.iconst 0, 1) := by decide +kernel
theorem dX12_isBlock_27 : decode cX12_isBlock 27 = .ok (.ireturn, 1) := by decide +kernel
theorem dX12_blockPower_0 : decode cX12_blockPower 0 = .ok (.aload_n 0, 1) := by decide +kernel
theorem dX12_blockPower_1 : decode cX12_blockPower 1 = .ok (.aload_n 0, 1) := by decide +kernel
theorem dX12_blockPower_2 : decode cX12_blockPower 2 = .ok (.iload_n 1, 1) := by decide +kernel
theorem dX12_blockPower_3 : decode cX12_blockPower 3 = .ok (.invokevirtual 344, 3) := by decide +kernel
theorem dX12_blockPower_6 : decode cX12_blockPower 6 = .ok (.invokevirtual 340, 3) := by decide +kernel
theorem dX12_blockPower_9 : decode cX12_blockPower 9 = .ok (.ifCond .ne 5, 3) := by decide +kernel
theorem dX12_blockPower_12 : decode cX12_blockPower 12 = .ok (.lconst 0, 1) := by decide +kernel
theorem dX12_blockPower_13 : decode cX12_blockPower 13 = .ok (.lreturn, 1) := by decide +kernel
theorem dX12_blockPower_14 : decode cX12_blockPower 14 = .ok (.aload_n 0, 1) := by decide +kernel
theorem dX12_blockPower_15 : decode cX12_blockPower 15 = .ok (.iload_n 2, 1) := by decide +kernel
theorem dX12_blockPower_16 : decode cX12_blockPower 16 = .ok (.iload_n 3, 1) := by decide +kernel
theorem dX12_blockPower_17 : decode cX12_blockPower 17 = .ok (.invokevirtual 395, 3) := by decide +kernel
theorem dX12_blockPower_20 : decode cX12_blockPower 20 = .ok (.ifCond .eq 13, 3) := by decide +kernel
theorem dX12_blockPower_23 : decode cX12_blockPower 23 = .ok (.aload_n 0, 1) := by decide +kernel
theorem dX12_blockPower_24 : decode cX12_blockPower 24 = .ok (.iload_n 1, 1) := by decide +kernel
theorem dX12_blockPower_25 : decode cX12_blockPower 25 = .ok (.iload_n 2, 1) := by decide +kernel
theorem dX12_blockPower_26 : decode cX12_blockPower 26 = .ok (.iload_n 3, 1) := by decide +kernel
theorem dX12_blockPower_27 : decode cX12_blockPower 27 = .ok (.invokevirtual 398, 3) := by decide +kernel
theorem dX12_blockPower_30 : decode cX12_blockPower 30 = .ok (.goto 9, 3) := by decide +kernel
theorem dX12_blockPower_33 : decode cX12_blockPower 33 = .ok (.aload_n 0, 1) := by decide +kernel
theorem dX12_blockPower_34 : decode cX12_blockPower 34 = .ok (.iconst 3, 1) := by decide +kernel
theorem dX12_blockPower_35 : decode cX12_blockPower 35 = .ok (.invokevirtual 227, 3) := by decide +kernel
theorem dX12_blockPower_38 : decode cX12_blockPower 38 = .ok (.i2l, 1) := by decide +kernel
theorem dX12_blockPower_39 : decode cX12_blockPower 39 = .ok (.lreturn, 1) := by decide +kernel
theorem dX12_bestOfBlock_0 : decode cX12_bestOfBlock 0 = .ok (.iconst 0, 1) := by decide +kernel
theorem dX12_bestOfBlock_1 : decode cX12_bestOfBlock 1 = .ok (.istore_n 3, 1) := by decide +kernel
theorem dX12_bestOfBlock_2 : decode cX12_bestOfBlock 2 = .ok (.aload_n 0, 1) := by decide +kernel
theorem dX12_bestOfBlock_3 : decode cX12_bestOfBlock 3 = .ok (.iconst 0, 1) := by decide +kernel
theorem dX12_bestOfBlock_4 : decode cX12_bestOfBlock 4 = .ok (.iload_n 1, 1) := by decide +kernel
theorem dX12_bestOfBlock_5 : decode cX12_bestOfBlock 5 = .ok (.iload_n 2, 1) := by decide +kernel
theorem dX12_bestOfBlock_6 : decode cX12_bestOfBlock 6 = .ok (.invokevirtual 398, 3) := by decide +kernel
theorem dX12_bestOfBlock_9 : decode cX12_bestOfBlock 9 = .ok (.lstore 4, 2) := by decide +kernel
theorem dX12_bestOfBlock_11 : decode cX12_bestOfBlock 11 = .ok (.iconst 1, 1) := by decide +kernel
theorem dX12_bestOfBlock_12 : decode cX12_bestOfBlock 12 = .ok (.istore 6, 2) := by decide +kernel
theorem dX12_bestOfBlock_14 : decode cX12_bestOfBlock 14 = .ok (.iload 6, 2) := by decide +kernel
theorem dX12_bestOfBlock_16 : decode cX12_bestOfBlock 16 = .ok (.aload_n 0, 1) := by decide +kernel
theorem dX12_bestOfBlock_17 : decode cX12_bestOfBlock 17 = .ok (.invokevirtual 237, 3) := by decide +kernel
theorem dX12_bestOfBlock_20 : decode cX12_bestOfBlock 20 = .ok (.if_icmp .ge 37, 3) := by decide +kernel
theorem dX12_bestOfBlock_23 : decode cX12_bestOfBlock 23 = .ok (.aload_n 0, 1) := by decide +kernel
theorem dX12_bestOfBlock_24 : decode cX12_bestOfBlock 24 = .ok (.iload 6, 2) := by decide +kernel
theorem dX12_bestOfBlock_26 : decode cX12_bestOfBlock 26 = .ok (.iload_n 1, 1) := by decide +kernel
theorem dX12_bestOfBlock_27 : decode cX12_bestOfBlock 27 = .ok (.iload_n 2, 1) := by decide +kernel
theorem dX12_bestOfBlock_28 : decode cX12_bestOfBlock 28 = .ok (.invokevirtual 398, 3) := by decide +kernel
theorem dX12_bestOfBlock_31 : decode cX12_bestOfBlock 31 = .ok (.lstore 7, 2) := by decide +kernel
theorem dX12_bestOfBlock_33 : decode cX12_bestOfBlock 33 = .ok (.lload 7, 2) := by decide +kernel
theorem dX12_bestOfBlock_35 : decode cX12_bestOfBlock 35 = .ok (.lload 4, 2) := by decide +kernel
theorem dX12_bestOfBlock_37 : decode cX12_bestOfBlock 37 = .ok (.lcmp, 1) := by decide +kernel
theorem dX12_bestOfBlock_38 : decode cX12_bestOfBlock 38 = .ok (.ifCond .gt 6, 3) := by decide +kernel
theorem dX12_bestOfBlock_41 : decode cX12_bestOfBlock 41 = .ok (.goto 10, 3) := by decide +kernel
theorem dX12_bestOfBlock_44 : decode cX12_bestOfBlock 44 = .ok (.iload 6, 2) := by decide +kernel
theorem dX12_bestOfBlock_46 : decode cX12_bestOfBlock 46 = .ok (.istore_n 3, 1) := by decide +kernel
theorem dX12_bestOfBlock_47 : decode cX12_bestOfBlock 47 = .ok (.lload 7, 2) := by decide +kernel
theorem dX12_bestOfBlock_49 : decode cX12_bestOfBlock 49 = .ok (.lstore 4, 2) := by decide +kernel
theorem dX12_bestOfBlock_51 : decode cX12_bestOfBlock 51 = .ok (.iinc 6 1, 3) := by decide +kernel
theorem dX12_bestOfBlock_54 : decode cX12_bestOfBlock 54 = .ok (.goto (-40), 3) := by decide +kernel
theorem dX12_bestOfBlock_57 : decode cX12_bestOfBlock 57 = .ok (.iload_n 3, 1) := by decide +kernel
theorem dX12_bestOfBlock_58 : decode cX12_bestOfBlock 58 = .ok (.ireturn, 1) := by decide +kernel
theorem dX12_blockBest_0 : decode cX12_blockBest 0 = .ok (.aload_n 0, 1) := by decide +kernel
theorem dX12_blockBest_1 : decode cX12_blockBest 1 = .ok (.aload_n 0, 1) := by decide +kernel
theorem dX12_blockBest_2 : decode cX12_blockBest 2 = .ok (.iload_n 1, 1) := by decide +kernel
theorem dX12_blockBest_3 : decode cX12_blockBest 3 = .ok (.iload_n 2, 1) := by decide +kernel
theorem dX12_blockBest_4 : decode cX12_blockBest 4 = .ok (.invokevirtual 395, 3) := by decide +kernel
theorem dX12_blockBest_7 : decode cX12_blockBest 7 = .ok (.invokevirtual 340, 3) := by decide +kernel
theorem dX12_blockBest_10 : decode cX12_blockBest 10 = .ok (.ifCond .eq 12, 3) := by decide +kernel
theorem dX12_blockBest_13 : decode cX12_blockBest 13 = .ok (.aload_n 0, 1) := by decide +kernel
theorem dX12_blockBest_14 : decode cX12_blockBest 14 = .ok (.iload_n 1, 1) := by decide +kernel
theorem dX12_blockBest_15 : decode cX12_blockBest 15 = .ok (.iload_n 2, 1) := by decide +kernel
theorem dX12_blockBest_16 : decode cX12_blockBest 16 = .ok (.invokevirtual 402, 3) := by decide +kernel
theorem dX12_blockBest_19 : decode cX12_blockBest 19 = .ok (.goto 4, 3) := by decide +kernel
theorem dX12_blockBest_22 : decode cX12_blockBest 22 = .ok (.iconst 0, 1) := by decide +kernel
theorem dX12_blockBest_23 : decode cX12_blockBest 23 = .ok (.ireturn, 1) := by decide +kernel
theorem dX12_path_0 : decode cX12_path 0 = .ok (.aload_n 0, 1) := by decide +kernel
theorem dX12_path_1 : decode cX12_path 1 = .ok (.iload_n 1, 1) := by decide +kernel
theorem dX12_path_2 : decode cX12_path 2 = .ok (.iconst 4, 1) := by decide +kernel
theorem dX12_path_3 : decode cX12_path 3 = .ok (.aload_n 0, 1) := by decide +kernel
theorem dX12_path_4 : decode cX12_path 4 = .ok (.getfield 17, 3) := by decide +kernel
theorem dX12_path_7 : decode cX12_path 7 = .ok (.iconst 2, 1) := by decide +kernel
theorem dX12_path_8 : decode cX12_path 8 = .ok (.iaload, 1) := by decide +kernel
theorem dX12_path_9 : decode cX12_path 9 = .ok (.invokestatic 96, 3) := by decide +kernel
theorem dX12_path_12 : decode cX12_path 12 = .ok (.invokevirtual 340, 3) := by decide +kernel
theorem dX12_path_15 : decode cX12_path 15 = .ok (.ifCond .ne 5, 3) := by decide +kernel
theorem dX12_path_18 : decode cX12_path 18 = .ok (.iconst 0, 1) := by decide +kernel
theorem dX12_path_19 : decode cX12_path 19 = .ok (.ireturn, 1) := by decide +kernel
theorem dX12_path_20 : decode cX12_path 20 = .ok (.iconst 0, 1) := by decide +kernel
theorem dX12_path_21 : decode cX12_path 21 = .ok (.istore_n 2, 1) := by decide +kernel
theorem dX12_path_22 : decode cX12_path 22 = .ok (.aload_n 0, 1) := by decide +kernel
theorem dX12_path_23 : decode cX12_path 23 = .ok (.iconst 0, 1) := by decide +kernel
theorem dX12_path_24 : decode cX12_path 24 = .ok (.iload_n 1, 1) := by decide +kernel
theorem dX12_path_25 : decode cX12_path 25 = .ok (.invokevirtual 402, 3) := by decide +kernel
theorem dX12_path_28 : decode cX12_path 28 = .ok (.istore_n 3, 1) := by decide +kernel
theorem dX12_path_29 : decode cX12_path 29 = .ok (.iload_n 1, 1) := by decide +kernel
theorem dX12_path_30 : decode cX12_path 30 = .ok (.istore 4, 2) := by decide +kernel
theorem dX12_path_32 : decode cX12_path 32 = .ok (.iload 4, 2) := by decide +kernel
theorem dX12_path_34 : decode cX12_path 34 = .ok (.iload_n 1, 1) := by decide +kernel
theorem dX12_path_35 : decode cX12_path 35 = .ok (.iadd, 1) := by decide +kernel
theorem dX12_path_36 : decode cX12_path 36 = .ok (.aload_n 0, 1) := by decide +kernel
theorem dX12_path_37 : decode cX12_path 37 = .ok (.getfield 17, 3) := by decide +kernel
theorem dX12_path_40 : decode cX12_path 40 = .ok (.iconst 2, 1) := by decide +kernel
theorem dX12_path_41 : decode cX12_path 41 = .ok (.iaload, 1) := by decide +kernel
theorem dX12_path_42 : decode cX12_path 42 = .ok (.if_icmp .gt 38, 3) := by decide +kernel
theorem dX12_path_45 : decode cX12_path 45 = .ok (.aload_n 0, 1) := by decide +kernel
theorem dX12_path_46 : decode cX12_path 46 = .ok (.iload 4, 2) := by decide +kernel
theorem dX12_path_48 : decode cX12_path 48 = .ok (.iload_n 1, 1) := by decide +kernel
theorem dX12_path_49 : decode cX12_path 49 = .ok (.invokevirtual 402, 3) := by decide +kernel
theorem dX12_path_52 : decode cX12_path 52 = .ok (.istore 5, 2) := by decide +kernel
theorem dX12_path_54 : decode cX12_path 54 = .ok (.iload_n 2, 1) := by decide +kernel
theorem dX12_path_55 : decode cX12_path 55 = .ok (.iload 5, 2) := by decide +kernel
theorem dX12_path_57 : decode cX12_path 57 = .ok (.iload_n 3, 1) := by decide +kernel
theorem dX12_path_58 : decode cX12_path 58 = .ok (.if_icmp .eq 7, 3) := by decide +kernel
theorem dX12_path_61 : decode cX12_path 61 = .ok (.iconst 1, 1) := by decide +kernel
theorem dX12_path_62 : decode cX12_path 62 = .ok (.goto 4, 3) := by decide +kernel
theorem dX12_path_65 : decode cX12_path 65 = .ok (.iconst 0, 1) := by decide +kernel
theorem dX12_path_66 : decode cX12_path 66 = .ok (.iadd, 1) := by decide +kernel
theorem dX12_path_67 : decode cX12_path 67 = .ok (.istore_n 2, 1) := by decide +kernel
theorem dX12_path_68 : decode cX12_path 68 = .ok (.iload 5, 2) := by decide +kernel
theorem dX12_path_70 : decode cX12_path 70 = .ok (.istore_n 3, 1) := by decide +kernel
theorem dX12_path_71 : decode cX12_path 71 = .ok (.iload 4, 2) := by decide +kernel
theorem dX12_path_73 : decode cX12_path 73 = .ok (.iload_n 1, 1) := by decide +kernel
theorem dX12_path_74 : decode cX12_path 74 = .ok (.iadd, 1) := by decide +kernel
theorem dX12_path_75 : decode cX12_path 75 = .ok (.istore 4, 2) := by decide +kernel
theorem dX12_path_77 : decode cX12_path 77 = .ok (.goto (-45), 3) := by decide +kernel
theorem dX12_path_80 : decode cX12_path 80 = .ok (.iload_n 2, 1) := by decide +kernel
theorem dX12_path_81 : decode cX12_path 81 = .ok (.ireturn, 1) := by decide +kernel
theorem dX12_blockCount_0 : decode cX12_blockCount 0 = .ok (.aload_n 0, 1) := by decide +kernel
theorem dX12_blockCount_1 : decode cX12_blockCount 1 = .ok (.getfield 17, 3) := by decide +kernel
theorem dX12_blockCount_4 : decode cX12_blockCount 4 = .ok (.iconst 2, 1) := by decide +kernel
theorem dX12_blockCount_5 : decode cX12_blockCount 5 = .ok (.iaload, 1) := by decide +kernel
theorem dX12_blockCount_6 : decode cX12_blockCount 6 = .ok (.iload_n 1, 1) := by decide +kernel
theorem dX12_blockCount_7 : decode cX12_blockCount 7 = .ok (.idiv, 1) := by decide +kernel
theorem dX12_blockCount_8 : decode cX12_blockCount 8 = .ok (.ireturn, 1) := by decide +kernel
theorem dX12_areNear_0 : decode cX12_areNear 0 = .ok (.iload_n 1, 1) := by decide +kernel
theorem dX12_areNear_1 : decode cX12_areNear 1 = .ok (.aload_n 0, 1) := by decide +kernel
theorem dX12_areNear_2 : decode cX12_areNear 2 = .ok (.getfield 17, 3) := by decide +kernel
theorem dX12_areNear_5 : decode cX12_areNear 5 = .ok (.bipush 9, 2) := by decide +kernel
theorem dX12_areNear_7 : decode cX12_areNear 7 = .ok (.iaload, 1) := by decide +kernel
theorem dX12_areNear_8 : decode cX12_areNear 8 = .ok (.irem, 1) := by decide +kernel
theorem dX12_areNear_9 : decode cX12_areNear 9 = .ok (.iload_n 2, 1) := by decide +kernel
theorem dX12_areNear_10 : decode cX12_areNear 10 = .ok (.aload_n 0, 1) := by decide +kernel
theorem dX12_areNear_11 : decode cX12_areNear 11 = .ok (.getfield 17, 3) := by decide +kernel
theorem dX12_areNear_14 : decode cX12_areNear 14 = .ok (.bipush 9, 2) := by decide +kernel
theorem dX12_areNear_16 : decode cX12_areNear 16 = .ok (.iaload, 1) := by decide +kernel
theorem dX12_areNear_17 : decode cX12_areNear 17 = .ok (.irem, 1) := by decide +kernel
theorem dX12_areNear_18 : decode cX12_areNear 18 = .ok (.isub, 1) := by decide +kernel
theorem dX12_areNear_19 : decode cX12_areNear 19 = .ok (.invokestatic 262, 3) := by decide +kernel
theorem dX12_areNear_22 : decode cX12_areNear 22 = .ok (.iconst 1, 1) := by decide +kernel
theorem dX12_areNear_23 : decode cX12_areNear 23 = .ok (.if_icmp .gt 33, 3) := by decide +kernel
theorem dX12_areNear_26 : decode cX12_areNear 26 = .ok (.iload_n 1, 1) := by decide +kernel
theorem dX12_areNear_27 : decode cX12_areNear 27 = .ok (.aload_n 0, 1) := by decide +kernel
theorem dX12_areNear_28 : decode cX12_areNear 28 = .ok (.getfield 17, 3) := by decide +kernel
theorem dX12_areNear_31 : decode cX12_areNear 31 = .ok (.bipush 9, 2) := by decide +kernel
theorem dX12_areNear_33 : decode cX12_areNear 33 = .ok (.iaload, 1) := by decide +kernel
theorem dX12_areNear_34 : decode cX12_areNear 34 = .ok (.idiv, 1) := by decide +kernel
theorem dX12_areNear_35 : decode cX12_areNear 35 = .ok (.iload_n 2, 1) := by decide +kernel
theorem dX12_areNear_36 : decode cX12_areNear 36 = .ok (.aload_n 0, 1) := by decide +kernel
theorem dX12_areNear_37 : decode cX12_areNear 37 = .ok (.getfield 17, 3) := by decide +kernel
theorem dX12_areNear_40 : decode cX12_areNear 40 = .ok (.bipush 9, 2) := by decide +kernel
theorem dX12_areNear_42 : decode cX12_areNear 42 = .ok (.iaload, 1) := by decide +kernel
theorem dX12_areNear_43 : decode cX12_areNear 43 = .ok (.idiv, 1) := by decide +kernel
theorem dX12_areNear_44 : decode cX12_areNear 44 = .ok (.isub, 1) := by decide +kernel
theorem dX12_areNear_45 : decode cX12_areNear 45 = .ok (.invokestatic 262, 3) := by decide +kernel
theorem dX12_areNear_48 : decode cX12_areNear 48 = .ok (.iconst 1, 1) := by decide +kernel
theorem dX12_areNear_49 : decode cX12_areNear 49 = .ok (.if_icmp .gt 7, 3) := by decide +kernel
theorem dX12_areNear_52 : decode cX12_areNear 52 = .ok (.iconst 1, 1) := by decide +kernel
theorem dX12_areNear_53 : decode cX12_areNear 53 = .ok (.goto 4, 3) := by decide +kernel
theorem dX12_areNear_56 : decode cX12_areNear 56 = .ok (.iconst 0, 1) := by decide +kernel
theorem dX12_areNear_57 : decode cX12_areNear 57 = .ok (.ireturn, 1) := by decide +kernel
theorem dX12_bestBehind_0 : decode cX12_bestBehind 0 = .ok (.iconst (-1), 1) := by decide +kernel
theorem dX12_bestBehind_1 : decode cX12_bestBehind 1 = .ok (.istore_n 3, 1) := by decide +kernel
theorem dX12_bestBehind_2 : decode cX12_bestBehind 2 = .ok (.iconst 0, 1) := by decide +kernel
theorem dX12_bestBehind_3 : decode cX12_bestBehind 3 = .ok (.istore 4, 2) := by decide +kernel
theorem dX12_bestBehind_5 : decode cX12_bestBehind 5 = .ok (.iload 4, 2) := by decide +kernel
theorem dX12_bestBehind_7 : decode cX12_bestBehind 7 = .ok (.aload_n 0, 1) := by decide +kernel
theorem dX12_bestBehind_8 : decode cX12_bestBehind 8 = .ok (.invokevirtual 237, 3) := by decide +kernel
theorem dX12_bestBehind_11 : decode cX12_bestBehind 11 = .ok (.if_icmp .ge 64, 3) := by decide +kernel
theorem dX12_bestBehind_14 : decode cX12_bestBehind 14 = .ok (.iload_n 2, 1) := by decide +kernel
theorem dX12_bestBehind_15 : decode cX12_bestBehind 15 = .ok (.iconst (-1), 1) := by decide +kernel
theorem dX12_bestBehind_16 : decode cX12_bestBehind 16 = .ok (.if_icmp .eq 13, 3) := by decide +kernel
theorem dX12_bestBehind_19 : decode cX12_bestBehind 19 = .ok (.aload_n 0, 1) := by decide +kernel
theorem dX12_bestBehind_20 : decode cX12_bestBehind 20 = .ok (.iload_n 2, 1) := by decide +kernel
theorem dX12_bestBehind_21 : decode cX12_bestBehind 21 = .ok (.iload 4, 2) := by decide +kernel
theorem dX12_bestBehind_23 : decode cX12_bestBehind 23 = .ok (.invokevirtual 405, 3) := by decide +kernel
theorem dX12_bestBehind_26 : decode cX12_bestBehind 26 = .ok (.ifCond .eq 43, 3) := by decide +kernel
theorem dX12_bestBehind_29 : decode cX12_bestBehind 29 = .ok (.iload_n 3, 1) := by decide +kernel
theorem dX12_bestBehind_30 : decode cX12_bestBehind 30 = .ok (.iconst (-1), 1) := by decide +kernel
theorem dX12_bestBehind_31 : decode cX12_bestBehind 31 = .ok (.if_icmp .eq 35, 3) := by decide +kernel
theorem dX12_bestBehind_34 : decode cX12_bestBehind 34 = .ok (.aload_n 0, 1) := by decide +kernel
theorem dX12_bestBehind_35 : decode cX12_bestBehind 35 = .ok (.getfield 58, 3) := by decide +kernel
theorem dX12_bestBehind_38 : decode cX12_bestBehind 38 = .ok (.sipush 144, 3) := by decide +kernel
theorem dX12_bestBehind_41 : decode cX12_bestBehind 41 = .ok (.iload_n 1, 1) := by decide +kernel
theorem dX12_bestBehind_42 : decode cX12_bestBehind 42 = .ok (.imul, 1) := by decide +kernel
theorem dX12_bestBehind_43 : decode cX12_bestBehind 43 = .ok (.iload 4, 2) := by decide +kernel
theorem dX12_bestBehind_45 : decode cX12_bestBehind 45 = .ok (.iadd, 1) := by decide +kernel
theorem dX12_bestBehind_46 : decode cX12_bestBehind 46 = .ok (.laload, 1) := by decide +kernel
theorem dX12_bestBehind_47 : decode cX12_bestBehind 47 = .ok (.aload_n 0, 1) := by decide +kernel
theorem dX12_bestBehind_48 : decode cX12_bestBehind 48 = .ok (.getfield 58, 3) := by decide +kernel
theorem dX12_bestBehind_51 : decode cX12_bestBehind 51 = .ok (.sipush 144, 3) := by decide +kernel
theorem dX12_bestBehind_54 : decode cX12_bestBehind 54 = .ok (.iload_n 1, 1) := by decide +kernel
theorem dX12_bestBehind_55 : decode cX12_bestBehind 55 = .ok (.imul, 1) := by decide +kernel
theorem dX12_bestBehind_56 : decode cX12_bestBehind 56 = .ok (.iload_n 3, 1) := by decide +kernel
theorem dX12_bestBehind_57 : decode cX12_bestBehind 57 = .ok (.iadd, 1) := by decide +kernel
theorem dX12_bestBehind_58 : decode cX12_bestBehind 58 = .ok (.laload, 1) := by decide +kernel
theorem dX12_bestBehind_59 : decode cX12_bestBehind 59 = .ok (.lcmp, 1) := by decide +kernel
theorem dX12_bestBehind_60 : decode cX12_bestBehind 60 = .ok (.ifCond .gt 6, 3) := by decide +kernel
theorem dX12_bestBehind_63 : decode cX12_bestBehind 63 = .ok (.goto 6, 3) := by decide +kernel
theorem dX12_bestBehind_66 : decode cX12_bestBehind 66 = .ok (.iload 4, 2) := by decide +kernel
theorem dX12_bestBehind_68 : decode cX12_bestBehind 68 = .ok (.istore_n 3, 1) := by decide +kernel
theorem dX12_bestBehind_69 : decode cX12_bestBehind 69 = .ok (.iinc 4 1, 3) := by decide +kernel
theorem dX12_bestBehind_72 : decode cX12_bestBehind 72 = .ok (.goto (-67), 3) := by decide +kernel
theorem dX12_bestBehind_75 : decode cX12_bestBehind 75 = .ok (.iload_n 3, 1) := by decide +kernel
theorem dX12_bestBehind_76 : decode cX12_bestBehind 76 = .ok (.ireturn, 1) := by decide +kernel
theorem dX12_laysScores_0 : decode cX12_laysScores 0 = .ok (.aload_n 0, 1) := by decide +kernel
theorem dX12_laysScores_1 : decode cX12_laysScores 1 = .ok (.iload_n 1, 1) := by decide +kernel
theorem dX12_laysScores_2 : decode cX12_laysScores 2 = .ok (.invokevirtual 408, 3) := by decide +kernel
theorem dX12_laysScores_5 : decode cX12_laysScores 5 = .ok (.iconst 1, 1) := by decide +kernel
theorem dX12_laysScores_6 : decode cX12_laysScores 6 = .ok (.isub, 1) := by decide +kernel
theorem dX12_laysScores_7 : decode cX12_laysScores 7 = .ok (.istore_n 2, 1) := by decide +kernel
theorem dX12_laysScores_8 : decode cX12_laysScores 8 = .ok (.iload_n 2, 1) := by decide +kernel
theorem dX12_laysScores_9 : decode cX12_laysScores 9 = .ok (.ifCond .lt 98, 3) := by decide +kernel
theorem dX12_laysScores_12 : decode cX12_laysScores 12 = .ok (.iload_n 2, 1) := by decide +kernel
theorem dX12_laysScores_13 : decode cX12_laysScores 13 = .ok (.aload_n 0, 1) := by decide +kernel
theorem dX12_laysScores_14 : decode cX12_laysScores 14 = .ok (.iload_n 1, 1) := by decide +kernel
theorem dX12_laysScores_15 : decode cX12_laysScores 15 = .ok (.invokevirtual 408, 3) := by decide +kernel
theorem dX12_laysScores_18 : decode cX12_laysScores 18 = .ok (.iconst 1, 1) := by decide +kernel
theorem dX12_laysScores_19 : decode cX12_laysScores 19 = .ok (.isub, 1) := by decide +kernel
theorem dX12_laysScores_20 : decode cX12_laysScores 20 = .ok (.if_icmp .ne 7, 3) := by decide +kernel
theorem dX12_laysScores_23 : decode cX12_laysScores 23 = .ok (.iconst 1, 1) := by decide +kernel
theorem dX12_laysScores_24 : decode cX12_laysScores 24 = .ok (.goto 4, 3) := by decide +kernel
theorem dX12_laysScores_27 : decode cX12_laysScores 27 = .ok (.iconst 0, 1) := by decide +kernel
theorem dX12_laysScores_28 : decode cX12_laysScores 28 = .ok (.istore_n 3, 1) := by decide +kernel
theorem dX12_laysScores_29 : decode cX12_laysScores 29 = .ok (.iconst 0, 1) := by decide +kernel
theorem dX12_laysScores_30 : decode cX12_laysScores 30 = .ok (.istore 4, 2) := by decide +kernel
theorem dX12_laysScores_32 : decode cX12_laysScores 32 = .ok (.iload 4, 2) := by decide +kernel
theorem dX12_laysScores_34 : decode cX12_laysScores 34 = .ok (.aload_n 0, 1) := by decide +kernel
theorem dX12_laysScores_35 : decode cX12_laysScores 35 = .ok (.invokevirtual 237, 3) := by decide +kernel
theorem dX12_laysScores_38 : decode cX12_laysScores 38 = .ok (.if_icmp .ge 63, 3) := by decide +kernel
theorem dX12_laysScores_41 : decode cX12_laysScores 41 = .ok (.aload_n 0, 1) := by decide +kernel
theorem dX12_laysScores_42 : decode cX12_laysScores 42 = .ok (.getfield 58, 3) := by decide +kernel
theorem dX12_laysScores_45 : decode cX12_laysScores 45 = .ok (.sipush 144, 3) := by decide +kernel
theorem dX12_laysScores_48 : decode cX12_laysScores 48 = .ok (.iload_n 2, 1) := by decide +kernel
theorem dX12_laysScores_49 : decode cX12_laysScores 49 = .ok (.imul, 1) := by decide +kernel
theorem dX12_laysScores_50 : decode cX12_laysScores 50 = .ok (.iload 4, 2) := by decide +kernel
theorem dX12_laysScores_52 : decode cX12_laysScores 52 = .ok (.iadd, 1) := by decide +kernel
theorem dX12_laysScores_53 : decode cX12_laysScores 53 = .ok (.aload_n 0, 1) := by decide +kernel
theorem dX12_laysScores_54 : decode cX12_laysScores 54 = .ok (.iload 4, 2) := by decide +kernel
theorem dX12_laysScores_56 : decode cX12_laysScores 56 = .ok (.iload_n 1, 1) := by decide +kernel
theorem dX12_laysScores_57 : decode cX12_laysScores 57 = .ok (.iload_n 2, 1) := by decide +kernel
theorem dX12_laysScores_58 : decode cX12_laysScores 58 = .ok (.imul, 1) := by decide +kernel
theorem dX12_laysScores_59 : decode cX12_laysScores 59 = .ok (.iload_n 1, 1) := by decide +kernel
theorem dX12_laysScores_60 : decode cX12_laysScores 60 = .ok (.invokevirtual 398, 3) := by decide +kernel
theorem dX12_laysScores_63 : decode cX12_laysScores 63 = .ok (.iload_n 3, 1) := by decide +kernel
theorem dX12_laysScores_64 : decode cX12_laysScores 64 = .ok (.ifCond .eq 7, 3) := by decide +kernel
theorem dX12_laysScores_67 : decode cX12_laysScores 67 = .ok (.lconst 0, 1) := by decide +kernel
theorem dX12_laysScores_68 : decode cX12_laysScores 68 = .ok (.goto 25, 3) := by decide +kernel
theorem dX12_laysScores_71 : decode cX12_laysScores 71 = .ok (.aload_n 0, 1) := by decide +kernel
theorem dX12_laysScores_72 : decode cX12_laysScores 72 = .ok (.getfield 58, 3) := by decide +kernel
theorem dX12_laysScores_75 : decode cX12_laysScores 75 = .ok (.sipush 144, 3) := by decide +kernel
theorem dX12_laysScores_78 : decode cX12_laysScores 78 = .ok (.iload_n 2, 1) := by decide +kernel
theorem dX12_laysScores_79 : decode cX12_laysScores 79 = .ok (.iconst 1, 1) := by decide +kernel
theorem dX12_laysScores_80 : decode cX12_laysScores 80 = .ok (.iadd, 1) := by decide +kernel
theorem dX12_laysScores_81 : decode cX12_laysScores 81 = .ok (.imul, 1) := by decide +kernel
theorem dX12_laysScores_82 : decode cX12_laysScores 82 = .ok (.aload_n 0, 1) := by decide +kernel
theorem dX12_laysScores_83 : decode cX12_laysScores 83 = .ok (.iload_n 2, 1) := by decide +kernel
theorem dX12_laysScores_84 : decode cX12_laysScores 84 = .ok (.iconst 1, 1) := by decide +kernel
theorem dX12_laysScores_85 : decode cX12_laysScores 85 = .ok (.iadd, 1) := by decide +kernel
theorem dX12_laysScores_86 : decode cX12_laysScores 86 = .ok (.iload 4, 2) := by decide +kernel
theorem dX12_laysScores_88 : decode cX12_laysScores 88 = .ok (.invokevirtual 411, 3) := by decide +kernel
theorem dX12_laysScores_91 : decode cX12_laysScores 91 = .ok (.iadd, 1) := by decide +kernel
theorem dX12_laysScores_92 : decode cX12_laysScores 92 = .ok (.laload, 1) := by decide +kernel
theorem dX12_laysScores_93 : decode cX12_laysScores 93 = .ok (.ladd, 1) := by decide +kernel
theorem dX12_laysScores_94 : decode cX12_laysScores 94 = .ok (.lastore, 1) := by decide +kernel
theorem dX12_laysScores_95 : decode cX12_laysScores 95 = .ok (.iinc 4 1, 3) := by decide +kernel
theorem dX12_laysScores_98 : decode cX12_laysScores 98 = .ok (.goto (-66), 3) := by decide +kernel
theorem dX12_laysScores_101 : decode cX12_laysScores 101 = .ok (.iinc 2 (-1), 3) := by decide +kernel
theorem dX12_laysScores_104 : decode cX12_laysScores 104 = .ok (.goto (-96), 3) := by decide +kernel
theorem dX12_laysScores_107 : decode cX12_laysScores 107 = .ok (.return_, 1) := by decide +kernel
theorem dX12_isLength_0 : decode cX12_isLength 0 = .ok (.iload_n 1, 1) := by decide +kernel
theorem dX12_isLength_1 : decode cX12_isLength 1 = .ok (.iconst 4, 1) := by decide +kernel
theorem dX12_isLength_2 : decode cX12_isLength 2 = .ok (.aload_n 0, 1) := by decide +kernel
theorem dX12_isLength_3 : decode cX12_isLength 3 = .ok (.getfield 17, 3) := by decide +kernel
theorem dX12_isLength_6 : decode cX12_isLength 6 = .ok (.iconst 2, 1) := by decide +kernel
theorem dX12_isLength_7 : decode cX12_isLength 7 = .ok (.iaload, 1) := by decide +kernel
theorem dX12_isLength_8 : decode cX12_isLength 8 = .ok (.invokestatic 96, 3) := by decide +kernel
theorem dX12_isLength_11 : decode cX12_isLength 11 = .ok (.ireturn, 1) := by decide +kernel
theorem dX12_trackScore_0 : decode cX12_trackScore 0 = .ok (.aload_n 0, 1) := by decide +kernel
theorem dX12_trackScore_1 : decode cX12_trackScore 1 = .ok (.aload_n 0, 1) := by decide +kernel
theorem dX12_trackScore_2 : decode cX12_trackScore 2 = .ok (.iload_n 1, 1) := by decide +kernel
theorem dX12_trackScore_3 : decode cX12_trackScore 3 = .ok (.invokevirtual 414, 3) := by decide +kernel
theorem dX12_trackScore_6 : decode cX12_trackScore 6 = .ok (.invokevirtual 340, 3) := by decide +kernel
theorem dX12_trackScore_9 : decode cX12_trackScore 9 = .ok (.ifCond .ne 5, 3) := by decide +kernel
theorem dX12_trackScore_12 : decode cX12_trackScore 12 = .ok (.lconst 0, 1) := by decide +kernel
theorem dX12_trackScore_13 : decode cX12_trackScore 13 = .ok (.lreturn, 1) := by decide +kernel
theorem dX12_trackScore_14 : decode cX12_trackScore 14 = .ok (.aload_n 0, 1) := by decide +kernel
theorem dX12_trackScore_15 : decode cX12_trackScore 15 = .ok (.iload_n 1, 1) := by decide +kernel
theorem dX12_trackScore_16 : decode cX12_trackScore 16 = .ok (.invokevirtual 417, 3) := by decide +kernel
theorem dX12_trackScore_19 : decode cX12_trackScore 19 = .ok (.aload_n 0, 1) := by decide +kernel
theorem dX12_trackScore_20 : decode cX12_trackScore 20 = .ok (.getfield 58, 3) := by decide +kernel
theorem dX12_trackScore_23 : decode cX12_trackScore 23 = .ok (.aload_n 0, 1) := by decide +kernel
theorem dX12_trackScore_24 : decode cX12_trackScore 24 = .ok (.iconst 0, 1) := by decide +kernel
theorem dX12_trackScore_25 : decode cX12_trackScore 25 = .ok (.iconst (-1), 1) := by decide +kernel
theorem dX12_trackScore_26 : decode cX12_trackScore 26 = .ok (.invokevirtual 411, 3) := by decide +kernel
theorem dX12_trackScore_29 : decode cX12_trackScore 29 = .ok (.laload, 1) := by decide +kernel
theorem dX12_trackScore_30 : decode cX12_trackScore 30 = .ok (.lreturn, 1) := by decide +kernel
theorem dX12_trackCell_0 : decode cX12_trackCell 0 = .ok (.aload_n 0, 1) := by decide +kernel
theorem dX12_trackCell_1 : decode cX12_trackCell 1 = .ok (.aload_n 0, 1) := by decide +kernel
theorem dX12_trackCell_2 : decode cX12_trackCell 2 = .ok (.iload_n 1, 1) := by decide +kernel
theorem dX12_trackCell_3 : decode cX12_trackCell 3 = .ok (.invokevirtual 414, 3) := by decide +kernel
theorem dX12_trackCell_6 : decode cX12_trackCell 6 = .ok (.ifCond .eq 18, 3) := by decide +kernel
theorem dX12_trackCell_9 : decode cX12_trackCell 9 = .ok (.iload_n 2, 1) := by decide +kernel
theorem dX12_trackCell_10 : decode cX12_trackCell 10 = .ok (.iconst 0, 1) := by decide +kernel
theorem dX12_trackCell_11 : decode cX12_trackCell 11 = .ok (.aload_n 0, 1) := by decide +kernel
theorem dX12_trackCell_12 : decode cX12_trackCell 12 = .ok (.iload_n 1, 1) := by decide +kernel
theorem dX12_trackCell_13 : decode cX12_trackCell 13 = .ok (.invokevirtual 408, 3) := by decide +kernel
theorem dX12_trackCell_16 : decode cX12_trackCell 16 = .ok (.iconst 1, 1) := by decide +kernel
theorem dX12_trackCell_17 : decode cX12_trackCell 17 = .ok (.isub, 1) := by decide +kernel
theorem dX12_trackCell_18 : decode cX12_trackCell 18 = .ok (.invokestatic 96, 3) := by decide +kernel
theorem dX12_trackCell_21 : decode cX12_trackCell 21 = .ok (.ifCond .eq 7, 3) := by decide +kernel
theorem dX12_trackCell_24 : decode cX12_trackCell 24 = .ok (.iconst 1, 1) := by decide +kernel
theorem dX12_trackCell_25 : decode cX12_trackCell 25 = .ok (.goto 4, 3) := by decide +kernel
theorem dX12_trackCell_28 : decode cX12_trackCell 28 = .ok (.iconst 0, 1) := by decide +kernel
theorem dX12_trackCell_29 : decode cX12_trackCell 29 = .ok (.invokevirtual 340, 3) := by decide +kernel
theorem dX12_trackCell_32 : decode cX12_trackCell 32 = .ok (.ifCond .ne 5, 3) := by decide +kernel
theorem dX12_trackCell_35 : decode cX12_trackCell 35 = .ok (.iconst 0, 1) := by decide +kernel
theorem dX12_trackCell_36 : decode cX12_trackCell 36 = .ok (.ireturn, 1) := by decide +kernel
theorem dX12_trackCell_37 : decode cX12_trackCell 37 = .ok (.aload_n 0, 1) := by decide +kernel
theorem dX12_trackCell_38 : decode cX12_trackCell 38 = .ok (.iload_n 1, 1) := by decide +kernel
theorem dX12_trackCell_39 : decode cX12_trackCell 39 = .ok (.invokevirtual 414, 3) := by decide +kernel
theorem dX12_trackCell_42 : decode cX12_trackCell 42 = .ok (.ifCond .ne 9, 3) := by decide +kernel
theorem dX12_trackCell_45 : decode cX12_trackCell 45 = .ok (.aload_n 0, 1) := by decide +kernel
theorem dX12_trackCell_46 : decode cX12_trackCell 46 = .ok (.iconst 3, 1) := by decide +kernel
theorem dX12_trackCell_47 : decode cX12_trackCell 47 = .ok (.invokevirtual 227, 3) := by decide +kernel
theorem dX12_trackCell_50 : decode cX12_trackCell 50 = .ok (.ireturn, 1) := by decide +kernel
theorem dX12_trackCell_51 : decode cX12_trackCell 51 = .ok (.aload_n 0, 1) := by decide +kernel
theorem dX12_trackCell_52 : decode cX12_trackCell 52 = .ok (.iload_n 1, 1) := by decide +kernel
theorem dX12_trackCell_53 : decode cX12_trackCell 53 = .ok (.invokevirtual 417, 3) := by decide +kernel
theorem dX12_trackCell_56 : decode cX12_trackCell 56 = .ok (.iconst (-1), 1) := by decide +kernel
theorem dX12_trackCell_57 : decode cX12_trackCell 57 = .ok (.istore_n 3, 1) := by decide +kernel
theorem dX12_trackCell_58 : decode cX12_trackCell 58 = .ok (.iconst 0, 1) := by decide +kernel
theorem dX12_trackCell_59 : decode cX12_trackCell 59 = .ok (.istore 4, 2) := by decide +kernel
theorem dX12_trackCell_61 : decode cX12_trackCell 61 = .ok (.iload 4, 2) := by decide +kernel
theorem dX12_trackCell_63 : decode cX12_trackCell 63 = .ok (.iload_n 2, 1) := by decide +kernel
theorem dX12_trackCell_64 : decode cX12_trackCell 64 = .ok (.if_icmp .gt 17, 3) := by decide +kernel
theorem dX12_trackCell_67 : decode cX12_trackCell 67 = .ok (.aload_n 0, 1) := by decide +kernel
theorem dX12_trackCell_68 : decode cX12_trackCell 68 = .ok (.iload 4, 2) := by decide +kernel
theorem dX12_trackCell_70 : decode cX12_trackCell 70 = .ok (.iload_n 3, 1) := by decide +kernel
theorem dX12_trackCell_71 : decode cX12_trackCell 71 = .ok (.invokevirtual 411, 3) := by decide +kernel
theorem dX12_trackCell_74 : decode cX12_trackCell 74 = .ok (.istore_n 3, 1) := by decide +kernel
theorem dX12_trackCell_75 : decode cX12_trackCell 75 = .ok (.iinc 4 1, 3) := by decide +kernel
theorem dX12_trackCell_78 : decode cX12_trackCell 78 = .ok (.goto (-17), 3) := by decide +kernel
theorem dX12_trackCell_81 : decode cX12_trackCell 81 = .ok (.iload_n 3, 1) := by decide +kernel
theorem dX12_trackCell_82 : decode cX12_trackCell 82 = .ok (.ireturn, 1) := by decide +kernel
theorem dX12_isZone_0 : decode cX12_isZone 0 = .ok (.iload_n 1, 1) := by decide +kernel
theorem dX12_isZone_1 : decode cX12_isZone 1 = .ok (.iconst 0, 1) := by decide +kernel
theorem dX12_isZone_2 : decode cX12_isZone 2 = .ok (.aload_n 0, 1) := by decide +kernel
theorem dX12_isZone_3 : decode cX12_isZone 3 = .ok (.getfield 17, 3) := by decide +kernel
theorem dX12_isZone_6 : decode cX12_isZone 6 = .ok (.bipush 101, 2) := by decide +kernel
theorem dX12_isZone_8 : decode cX12_isZone 8 = .ok (.iaload, 1) := by decide +kernel
theorem dX12_isZone_9 : decode cX12_isZone 9 = .ok (.iconst 1, 1) := by decide +kernel
theorem dX12_isZone_10 : decode cX12_isZone 10 = .ok (.isub, 1) := by decide +kernel
theorem dX12_isZone_11 : decode cX12_isZone 11 = .ok (.invokestatic 96, 3) := by decide +kernel
theorem dX12_isZone_14 : decode cX12_isZone 14 = .ok (.ireturn, 1) := by decide +kernel
theorem dX12_isInZone_0 : decode cX12_isInZone 0 = .ok (.bipush 102, 2) := by decide +kernel
theorem dX12_isInZone_2 : decode cX12_isInZone 2 = .ok (.iconst 4, 1) := by decide +kernel
theorem dX12_isInZone_3 : decode cX12_isInZone 3 = .ok (.iload_n 1, 1) := by decide +kernel
theorem dX12_isInZone_4 : decode cX12_isInZone 4 = .ok (.imul, 1) := by decide +kernel
theorem dX12_isInZone_5 : decode cX12_isInZone 5 = .ok (.iadd, 1) := by decide +kernel
theorem dX12_isInZone_6 : decode cX12_isInZone 6 = .ok (.istore_n 3, 1) := by decide +kernel
theorem dX12_isInZone_7 : decode cX12_isInZone 7 = .ok (.iload_n 2, 1) := by decide +kernel
theorem dX12_isInZone_8 : decode cX12_isInZone 8 = .ok (.aload_n 0, 1) := by decide +kernel
theorem dX12_isInZone_9 : decode cX12_isInZone 9 = .ok (.getfield 17, 3) := by decide +kernel
theorem dX12_isInZone_12 : decode cX12_isInZone 12 = .ok (.bipush 9, 2) := by decide +kernel
theorem dX12_isInZone_14 : decode cX12_isInZone 14 = .ok (.iaload, 1) := by decide +kernel
theorem dX12_isInZone_15 : decode cX12_isInZone 15 = .ok (.irem, 1) := by decide +kernel
theorem dX12_isInZone_16 : decode cX12_isInZone 16 = .ok (.aload_n 0, 1) := by decide +kernel
theorem dX12_isInZone_17 : decode cX12_isInZone 17 = .ok (.getfield 17, 3) := by decide +kernel
theorem dX12_isInZone_20 : decode cX12_isInZone 20 = .ok (.iload_n 3, 1) := by decide +kernel
theorem dX12_isInZone_21 : decode cX12_isInZone 21 = .ok (.iaload, 1) := by decide +kernel
theorem dX12_isInZone_22 : decode cX12_isInZone 22 = .ok (.aload_n 0, 1) := by decide +kernel
theorem dX12_isInZone_23 : decode cX12_isInZone 23 = .ok (.getfield 17, 3) := by decide +kernel
theorem dX12_isInZone_26 : decode cX12_isInZone 26 = .ok (.iload_n 3, 1) := by decide +kernel
theorem dX12_isInZone_27 : decode cX12_isInZone 27 = .ok (.iconst 2, 1) := by decide +kernel
theorem dX12_isInZone_28 : decode cX12_isInZone 28 = .ok (.iadd, 1) := by decide +kernel
theorem dX12_isInZone_29 : decode cX12_isInZone 29 = .ok (.iaload, 1) := by decide +kernel
theorem dX12_isInZone_30 : decode cX12_isInZone 30 = .ok (.invokestatic 96, 3) := by decide +kernel
theorem dX12_isInZone_33 : decode cX12_isInZone 33 = .ok (.ifCond .eq 38, 3) := by decide +kernel
theorem dX12_isInZone_36 : decode cX12_isInZone 36 = .ok (.iload_n 2, 1) := by decide +kernel
theorem dX12_isInZone_37 : decode cX12_isInZone 37 = .ok (.aload_n 0, 1) := by decide +kernel
theorem dX12_isInZone_38 : decode cX12_isInZone 38 = .ok (.getfield 17, 3) := by decide +kernel
theorem dX12_isInZone_41 : decode cX12_isInZone 41 = .ok (.bipush 9, 2) := by decide +kernel
theorem dX12_isInZone_43 : decode cX12_isInZone 43 = .ok (.iaload, 1) := by decide +kernel
theorem dX12_isInZone_44 : decode cX12_isInZone 44 = .ok (.idiv, 1) := by decide +kernel
theorem dX12_isInZone_45 : decode cX12_isInZone 45 = .ok (.aload_n 0, 1) := by decide +kernel
theorem dX12_isInZone_46 : decode cX12_isInZone 46 = .ok (.getfield 17, 3) := by decide +kernel
theorem dX12_isInZone_49 : decode cX12_isInZone 49 = .ok (.iload_n 3, 1) := by decide +kernel
theorem dX12_isInZone_50 : decode cX12_isInZone 50 = .ok (.iconst 1, 1) := by decide +kernel
theorem dX12_isInZone_51 : decode cX12_isInZone 51 = .ok (.iadd, 1) := by decide +kernel
theorem dX12_isInZone_52 : decode cX12_isInZone 52 = .ok (.iaload, 1) := by decide +kernel
theorem dX12_isInZone_53 : decode cX12_isInZone 53 = .ok (.aload_n 0, 1) := by decide +kernel
theorem dX12_isInZone_54 : decode cX12_isInZone 54 = .ok (.getfield 17, 3) := by decide +kernel
theorem dX12_isInZone_57 : decode cX12_isInZone 57 = .ok (.iload_n 3, 1) := by decide +kernel
theorem dX12_isInZone_58 : decode cX12_isInZone 58 = .ok (.iconst 3, 1) := by decide +kernel
theorem dX12_isInZone_59 : decode cX12_isInZone 59 = .ok (.iadd, 1) := by decide +kernel
theorem dX12_isInZone_60 : decode cX12_isInZone 60 = .ok (.iaload, 1) := by decide +kernel
theorem dX12_isInZone_61 : decode cX12_isInZone 61 = .ok (.invokestatic 96, 3) := by decide +kernel
theorem dX12_isInZone_64 : decode cX12_isInZone 64 = .ok (.ifCond .eq 7, 3) := by decide +kernel
theorem dX12_isInZone_67 : decode cX12_isInZone 67 = .ok (.iconst 1, 1) := by decide +kernel
theorem dX12_isInZone_68 : decode cX12_isInZone 68 = .ok (.goto 4, 3) := by decide +kernel
theorem dX12_isInZone_71 : decode cX12_isInZone 71 = .ok (.iconst 0, 1) := by decide +kernel
theorem dX12_isInZone_72 : decode cX12_isInZone 72 = .ok (.ireturn, 1) := by decide +kernel
theorem dX12_zonePower_0 : decode cX12_zonePower 0 = .ok (.aload_n 0, 1) := by decide +kernel
theorem dX12_zonePower_1 : decode cX12_zonePower 1 = .ok (.aload_n 0, 1) := by decide +kernel
theorem dX12_zonePower_2 : decode cX12_zonePower 2 = .ok (.iload_n 1, 1) := by decide +kernel
theorem dX12_zonePower_3 : decode cX12_zonePower 3 = .ok (.invokevirtual 420, 3) := by decide +kernel
theorem dX12_zonePower_6 : decode cX12_zonePower 6 = .ok (.invokevirtual 340, 3) := by decide +kernel
theorem dX12_zonePower_9 : decode cX12_zonePower 9 = .ok (.ifCond .ne 5, 3) := by decide +kernel
theorem dX12_zonePower_12 : decode cX12_zonePower 12 = .ok (.lconst 0, 1) := by decide +kernel
theorem dX12_zonePower_13 : decode cX12_zonePower 13 = .ok (.lreturn, 1) := by decide +kernel
theorem dX12_zonePower_14 : decode cX12_zonePower 14 = .ok (.lconst 0, 1) := by decide +kernel
theorem dX12_zonePower_15 : decode cX12_zonePower 15 = .ok (.lstore_n 2, 1) := by decide +kernel
theorem dX12_zonePower_16 : decode cX12_zonePower 16 = .ok (.iconst 0, 1) := by decide +kernel
theorem dX12_zonePower_17 : decode cX12_zonePower 17 = .ok (.istore 4, 2) := by decide +kernel
theorem dX12_zonePower_19 : decode cX12_zonePower 19 = .ok (.iload 4, 2) := by decide +kernel
theorem dX12_zonePower_21 : decode cX12_zonePower 21 = .ok (.aload_n 0, 1) := by decide +kernel
theorem dX12_zonePower_22 : decode cX12_zonePower 22 = .ok (.invokevirtual 237, 3) := by decide +kernel
theorem dX12_zonePower_25 : decode cX12_zonePower 25 = .ok (.if_icmp .ge 36, 3) := by decide +kernel
theorem dX12_zonePower_28 : decode cX12_zonePower 28 = .ok (.lload_n 2, 1) := by decide +kernel
theorem dX12_zonePower_29 : decode cX12_zonePower 29 = .ok (.aload_n 0, 1) := by decide +kernel
theorem dX12_zonePower_30 : decode cX12_zonePower 30 = .ok (.iload_n 1, 1) := by decide +kernel
theorem dX12_zonePower_31 : decode cX12_zonePower 31 = .ok (.iload 4, 2) := by decide +kernel
theorem dX12_zonePower_33 : decode cX12_zonePower 33 = .ok (.invokevirtual 423, 3) := by decide +kernel
theorem dX12_zonePower_36 : decode cX12_zonePower 36 = .ok (.ifCond .eq 16, 3) := by decide +kernel
theorem dX12_zonePower_39 : decode cX12_zonePower 39 = .ok (.aload_n 0, 1) := by decide +kernel
theorem dX12_zonePower_40 : decode cX12_zonePower 40 = .ok (.aload_n 0, 1) := by decide +kernel
theorem dX12_zonePower_41 : decode cX12_zonePower 41 = .ok (.getfield 23, 3) := by decide +kernel
theorem dX12_zonePower_44 : decode cX12_zonePower 44 = .ok (.iload 4, 2) := by decide +kernel
theorem dX12_zonePower_46 : decode cX12_zonePower 46 = .ok (.invokevirtual 327, 3) := by decide +kernel
theorem dX12_zonePower_49 : decode cX12_zonePower 49 = .ok (.goto 4, 3) := by decide +kernel
theorem dX12_zonePower_52 : decode cX12_zonePower 52 = .ok (.lconst 0, 1) := by decide +kernel
theorem dX12_zonePower_53 : decode cX12_zonePower 53 = .ok (.ladd, 1) := by decide +kernel
theorem dX12_zonePower_54 : decode cX12_zonePower 54 = .ok (.lstore_n 2, 1) := by decide +kernel
theorem dX12_zonePower_55 : decode cX12_zonePower 55 = .ok (.iinc 4 1, 3) := by decide +kernel
theorem dX12_zonePower_58 : decode cX12_zonePower 58 = .ok (.goto (-39), 3) := by decide +kernel
theorem dX12_zonePower_61 : decode cX12_zonePower 61 = .ok (.lload_n 2, 1) := by decide +kernel
theorem dX12_zonePower_62 : decode cX12_zonePower 62 = .ok (.lreturn, 1) := by decide +kernel
theorem dX12_zoneBest_0 : decode cX12_zoneBest 0 = .ok (.aload_n 0, 1) := by decide +kernel
theorem dX12_zoneBest_1 : decode cX12_zoneBest 1 = .ok (.aload_n 0, 1) := by decide +kernel
theorem dX12_zoneBest_2 : decode cX12_zoneBest 2 = .ok (.iload_n 1, 1) := by decide +kernel
theorem dX12_zoneBest_3 : decode cX12_zoneBest 3 = .ok (.invokevirtual 420, 3) := by decide +kernel
theorem dX12_zoneBest_6 : decode cX12_zoneBest 6 = .ok (.invokevirtual 340, 3) := by decide +kernel
theorem dX12_zoneBest_9 : decode cX12_zoneBest 9 = .ok (.ifCond .ne 5, 3) := by decide +kernel
theorem dX12_zoneBest_12 : decode cX12_zoneBest 12 = .ok (.iconst 0, 1) := by decide +kernel
theorem dX12_zoneBest_13 : decode cX12_zoneBest 13 = .ok (.ireturn, 1) := by decide +kernel
theorem dX12_zoneBest_14 : decode cX12_zoneBest 14 = .ok (.aload_n 0, 1) := by decide +kernel
theorem dX12_zoneBest_15 : decode cX12_zoneBest 15 = .ok (.aload_n 0, 1) := by decide +kernel
theorem dX12_zoneBest_16 : decode cX12_zoneBest 16 = .ok (.getfield 23, 3) := by decide +kernel
theorem dX12_zoneBest_19 : decode cX12_zoneBest 19 = .ok (.invokevirtual 331, 3) := by decide +kernel
theorem dX12_zoneBest_22 : decode cX12_zoneBest 22 = .ok (.iconst (-1), 1) := by decide +kernel
theorem dX12_zoneBest_23 : decode cX12_zoneBest 23 = .ok (.istore_n 2, 1) := by decide +kernel
theorem dX12_zoneBest_24 : decode cX12_zoneBest 24 = .ok (.iconst 0, 1) := by decide +kernel
theorem dX12_zoneBest_25 : decode cX12_zoneBest 25 = .ok (.istore_n 3, 1) := by decide +kernel
theorem dX12_zoneBest_26 : decode cX12_zoneBest 26 = .ok (.iload_n 3, 1) := by decide +kernel
theorem dX12_zoneBest_27 : decode cX12_zoneBest 27 = .ok (.aload_n 0, 1) := by decide +kernel
theorem dX12_zoneBest_28 : decode cX12_zoneBest 28 = .ok (.invokevirtual 237, 3) := by decide +kernel
theorem dX12_zoneBest_31 : decode cX12_zoneBest 31 = .ok (.if_icmp .ge 41, 3) := by decide +kernel
theorem dX12_zoneBest_34 : decode cX12_zoneBest 34 = .ok (.aload_n 0, 1) := by decide +kernel
theorem dX12_zoneBest_35 : decode cX12_zoneBest 35 = .ok (.iload_n 1, 1) := by decide +kernel
theorem dX12_zoneBest_36 : decode cX12_zoneBest 36 = .ok (.iload_n 3, 1) := by decide +kernel
theorem dX12_zoneBest_37 : decode cX12_zoneBest 37 = .ok (.invokevirtual 423, 3) := by decide +kernel
theorem dX12_zoneBest_40 : decode cX12_zoneBest 40 = .ok (.ifCond .eq 26, 3) := by decide +kernel
theorem dX12_zoneBest_43 : decode cX12_zoneBest 43 = .ok (.iload_n 2, 1) := by decide +kernel
theorem dX12_zoneBest_44 : decode cX12_zoneBest 44 = .ok (.iconst (-1), 1) := by decide +kernel
theorem dX12_zoneBest_45 : decode cX12_zoneBest 45 = .ok (.if_icmp .eq 19, 3) := by decide +kernel
theorem dX12_zoneBest_48 : decode cX12_zoneBest 48 = .ok (.aload_n 0, 1) := by decide +kernel
theorem dX12_zoneBest_49 : decode cX12_zoneBest 49 = .ok (.getfield 54, 3) := by decide +kernel
theorem dX12_zoneBest_52 : decode cX12_zoneBest 52 = .ok (.iload_n 3, 1) := by decide +kernel
theorem dX12_zoneBest_53 : decode cX12_zoneBest 53 = .ok (.laload, 1) := by decide +kernel
theorem dX12_zoneBest_54 : decode cX12_zoneBest 54 = .ok (.aload_n 0, 1) := by decide +kernel
theorem dX12_zoneBest_55 : decode cX12_zoneBest 55 = .ok (.getfield 54, 3) := by decide +kernel
theorem dX12_zoneBest_58 : decode cX12_zoneBest 58 = .ok (.iload_n 2, 1) := by decide +kernel
theorem dX12_zoneBest_59 : decode cX12_zoneBest 59 = .ok (.laload, 1) := by decide +kernel
theorem dX12_zoneBest_60 : decode cX12_zoneBest 60 = .ok (.lcmp, 1) := by decide +kernel
theorem dX12_zoneBest_61 : decode cX12_zoneBest 61 = .ok (.ifCond .le 5, 3) := by decide +kernel
theorem dX12_zoneBest_64 : decode cX12_zoneBest 64 = .ok (.iload_n 3, 1) := by decide +kernel
theorem dX12_zoneBest_65 : decode cX12_zoneBest 65 = .ok (.istore_n 2, 1) := by decide +kernel
theorem dX12_zoneBest_66 : decode cX12_zoneBest 66 = .ok (.iinc 3 1, 3) := by decide +kernel
theorem dX12_zoneBest_69 : decode cX12_zoneBest 69 = .ok (.goto (-43), 3) := by decide +kernel
theorem dX12_zoneBest_72 : decode cX12_zoneBest 72 = .ok (.iload_n 2, 1) := by decide +kernel
theorem dX12_zoneBest_73 : decode cX12_zoneBest 73 = .ok (.ireturn, 1) := by decide +kernel
theorem dX12_movingOf_0 : decode cX12_movingOf 0 = .ok (.lconst 0, 1) := by decide +kernel
theorem dX12_movingOf_1 : decode cX12_movingOf 1 = .ok (.lstore 4, 2) := by decide +kernel
theorem dX12_movingOf_3 : decode cX12_movingOf 3 = .ok (.iconst 0, 1) := by decide +kernel
theorem dX12_movingOf_4 : decode cX12_movingOf 4 = .ok (.istore 6, 2) := by decide +kernel
theorem dX12_movingOf_6 : decode cX12_movingOf 6 = .ok (.iload 6, 2) := by decide +kernel
theorem dX12_movingOf_8 : decode cX12_movingOf 8 = .ok (.aload_n 0, 1) := by decide +kernel
theorem dX12_movingOf_9 : decode cX12_movingOf 9 = .ok (.getfield 17, 3) := by decide +kernel
theorem dX12_movingOf_12 : decode cX12_movingOf 12 = .ok (.iconst 2, 1) := by decide +kernel
theorem dX12_movingOf_13 : decode cX12_movingOf 13 = .ok (.iaload, 1) := by decide +kernel
theorem dX12_movingOf_14 : decode cX12_movingOf 14 = .ok (.if_icmp .ge 64, 3) := by decide +kernel
theorem dX12_movingOf_17 : decode cX12_movingOf 17 = .ok (.aload_n 0, 1) := by decide +kernel
theorem dX12_movingOf_18 : decode cX12_movingOf 18 = .ok (.aload_n 0, 1) := by decide +kernel
theorem dX12_movingOf_19 : decode cX12_movingOf 19 = .ok (.iload_n 1, 1) := by decide +kernel
theorem dX12_movingOf_20 : decode cX12_movingOf 20 = .ok (.iconst 0, 1) := by decide +kernel
theorem dX12_movingOf_21 : decode cX12_movingOf 21 = .ok (.invokevirtual 240, 3) := by decide +kernel
theorem dX12_movingOf_24 : decode cX12_movingOf 24 = .ok (.iload_n 2, 1) := by decide +kernel
theorem dX12_movingOf_25 : decode cX12_movingOf 25 = .ok (.iload 6, 2) := by decide +kernel
theorem dX12_movingOf_27 : decode cX12_movingOf 27 = .ok (.imul, 1) := by decide +kernel
theorem dX12_movingOf_28 : decode cX12_movingOf 28 = .ok (.bipush 100, 2) := by decide +kernel
theorem dX12_movingOf_30 : decode cX12_movingOf 30 = .ok (.idiv, 1) := by decide +kernel
theorem dX12_movingOf_31 : decode cX12_movingOf 31 = .ok (.iadd, 1) := by decide +kernel
theorem dX12_movingOf_32 : decode cX12_movingOf 32 = .ok (.aload_n 0, 1) := by decide +kernel
theorem dX12_movingOf_33 : decode cX12_movingOf 33 = .ok (.iload_n 1, 1) := by decide +kernel
theorem dX12_movingOf_34 : decode cX12_movingOf 34 = .ok (.iconst 1, 1) := by decide +kernel
theorem dX12_movingOf_35 : decode cX12_movingOf 35 = .ok (.invokevirtual 240, 3) := by decide +kernel
theorem dX12_movingOf_38 : decode cX12_movingOf 38 = .ok (.iload_n 3, 1) := by decide +kernel
theorem dX12_movingOf_39 : decode cX12_movingOf 39 = .ok (.iload 6, 2) := by decide +kernel
theorem dX12_movingOf_41 : decode cX12_movingOf 41 = .ok (.imul, 1) := by decide +kernel
theorem dX12_movingOf_42 : decode cX12_movingOf 42 = .ok (.bipush 100, 2) := by decide +kernel
theorem dX12_movingOf_44 : decode cX12_movingOf 44 = .ok (.idiv, 1) := by decide +kernel
theorem dX12_movingOf_45 : decode cX12_movingOf 45 = .ok (.iadd, 1) := by decide +kernel
theorem dX12_movingOf_46 : decode cX12_movingOf 46 = .ok (.invokevirtual 363, 3) := by decide +kernel
theorem dX12_movingOf_49 : decode cX12_movingOf 49 = .ok (.aload_n 0, 1) := by decide +kernel
theorem dX12_movingOf_50 : decode cX12_movingOf 50 = .ok (.aload_n 0, 1) := by decide +kernel
theorem dX12_movingOf_51 : decode cX12_movingOf 51 = .ok (.getfield 23, 3) := by decide +kernel
theorem dX12_movingOf_54 : decode cX12_movingOf 54 = .ok (.iload 6, 2) := by decide +kernel
theorem dX12_movingOf_56 : decode cX12_movingOf 56 = .ok (.invokevirtual 308, 3) := by decide +kernel
theorem dX12_movingOf_59 : decode cX12_movingOf 59 = .ok (.i2l, 1) := by decide +kernel
theorem dX12_movingOf_60 : decode cX12_movingOf 60 = .ok (.lstore 7, 2) := by decide +kernel
theorem dX12_movingOf_62 : decode cX12_movingOf 62 = .ok (.lload 4, 2) := by decide +kernel
theorem dX12_movingOf_64 : decode cX12_movingOf 64 = .ok (.lload 7, 2) := by decide +kernel
theorem dX12_movingOf_66 : decode cX12_movingOf 66 = .ok (.lload 7, 2) := by decide +kernel
theorem dX12_movingOf_68 : decode cX12_movingOf 68 = .ok (.lmul, 1) := by decide +kernel
theorem dX12_movingOf_69 : decode cX12_movingOf 69 = .ok (.ladd, 1) := by decide +kernel
theorem dX12_movingOf_70 : decode cX12_movingOf 70 = .ok (.lstore 4, 2) := by decide +kernel
theorem dX12_movingOf_72 : decode cX12_movingOf 72 = .ok (.iinc 6 1, 3) := by decide +kernel
theorem dX12_movingOf_75 : decode cX12_movingOf 75 = .ok (.goto (-69), 3) := by decide +kernel
theorem dX12_movingOf_78 : decode cX12_movingOf 78 = .ok (.lload 4, 2) := by decide +kernel
theorem dX12_movingOf_80 : decode cX12_movingOf 80 = .ok (.aload_n 0, 1) := by decide +kernel
theorem dX12_movingOf_81 : decode cX12_movingOf 81 = .ok (.getfield 17, 3) := by decide +kernel
theorem dX12_movingOf_84 : decode cX12_movingOf 84 = .ok (.iconst 2, 1) := by decide +kernel
theorem dX12_movingOf_85 : decode cX12_movingOf 85 = .ok (.iaload, 1) := by decide +kernel
theorem dX12_movingOf_86 : decode cX12_movingOf 86 = .ok (.i2l, 1) := by decide +kernel
theorem dX12_movingOf_87 : decode cX12_movingOf 87 = .ok (.ldiv, 1) := by decide +kernel
theorem dX12_movingOf_88 : decode cX12_movingOf 88 = .ok (.lreturn, 1) := by decide +kernel
theorem dX12_isVelocity_0 : decode cX12_isVelocity 0 = .ok (.iload_n 0, 1) := by decide +kernel
theorem dX12_isVelocity_1 : decode cX12_isVelocity 1 = .ok (.sipush (-999), 3) := by decide +kernel
theorem dX12_isVelocity_4 : decode cX12_isVelocity 4 = .ok (.sipush 999, 3) := by decide +kernel
theorem dX12_isVelocity_7 : decode cX12_isVelocity 7 = .ok (.invokestatic 96, 3) := by decide +kernel
theorem dX12_isVelocity_10 : decode cX12_isVelocity 10 = .ok (.ifCond .eq 20, 3) := by decide +kernel
theorem dX12_isVelocity_13 : decode cX12_isVelocity 13 = .ok (.iload_n 1, 1) := by decide +kernel
theorem dX12_isVelocity_14 : decode cX12_isVelocity 14 = .ok (.sipush (-999), 3) := by decide +kernel
theorem dX12_isVelocity_17 : decode cX12_isVelocity 17 = .ok (.sipush 999, 3) := by decide +kernel
theorem dX12_isVelocity_20 : decode cX12_isVelocity 20 = .ok (.invokestatic 96, 3) := by decide +kernel
theorem dX12_isVelocity_23 : decode cX12_isVelocity 23 = .ok (.ifCond .eq 7, 3) := by decide +kernel
theorem dX12_isVelocity_26 : decode cX12_isVelocity 26 = .ok (.iconst 1, 1) := by decide +kernel
theorem dX12_isVelocity_27 : decode cX12_isVelocity 27 = .ok (.goto 4, 3) := by decide +kernel
theorem dX12_isVelocity_30 : decode cX12_isVelocity 30 = .ok (.iconst 0, 1) := by decide +kernel
theorem dX12_isVelocity_31 : decode cX12_isVelocity 31 = .ok (.ireturn, 1) := by decide +kernel
theorem dX12_movingPower_0 : decode cX12_movingPower 0 = .ok (.aload_n 0, 1) := by decide +kernel
theorem dX12_movingPower_1 : decode cX12_movingPower 1 = .ok (.aload_n 0, 1) := by decide +kernel
theorem dX12_movingPower_2 : decode cX12_movingPower 2 = .ok (.iload_n 1, 1) := by decide +kernel
theorem dX12_movingPower_3 : decode cX12_movingPower 3 = .ok (.invokevirtual 344, 3) := by decide +kernel
theorem dX12_movingPower_6 : decode cX12_movingPower 6 = .ok (.invokevirtual 340, 3) := by decide +kernel
theorem dX12_movingPower_9 : decode cX12_movingPower 9 = .ok (.ifCond .ne 5, 3) := by decide +kernel
theorem dX12_movingPower_12 : decode cX12_movingPower 12 = .ok (.lconst 0, 1) := by decide +kernel
theorem dX12_movingPower_13 : decode cX12_movingPower 13 = .ok (.lreturn, 1) := by decide +kernel
theorem dX12_movingPower_14 : decode cX12_movingPower 14 = .ok (.iload_n 2, 1) := by decide +kernel
theorem dX12_movingPower_15 : decode cX12_movingPower 15 = .ok (.iload_n 3, 1) := by decide +kernel
theorem dX12_movingPower_16 : decode cX12_movingPower 16 = .ok (.invokestatic 426, 3) := by decide +kernel
theorem dX12_movingPower_19 : decode cX12_movingPower 19 = .ok (.ifCond .eq 13, 3) := by decide +kernel
theorem dX12_movingPower_22 : decode cX12_movingPower 22 = .ok (.aload_n 0, 1) := by decide +kernel
theorem dX12_movingPower_23 : decode cX12_movingPower 23 = .ok (.iload_n 1, 1) := by decide +kernel
theorem dX12_movingPower_24 : decode cX12_movingPower 24 = .ok (.iload_n 2, 1) := by decide +kernel
theorem dX12_movingPower_25 : decode cX12_movingPower 25 = .ok (.iload_n 3, 1) := by decide +kernel
theorem dX12_movingPower_26 : decode cX12_movingPower 26 = .ok (.invokevirtual 429, 3) := by decide +kernel
theorem dX12_movingPower_29 : decode cX12_movingPower 29 = .ok (.goto 9, 3) := by decide +kernel
theorem dX12_movingPower_32 : decode cX12_movingPower 32 = .ok (.aload_n 0, 1) := by decide +kernel
theorem dX12_movingPower_33 : decode cX12_movingPower 33 = .ok (.iconst 3, 1) := by decide +kernel
theorem dX12_movingPower_34 : decode cX12_movingPower 34 = .ok (.invokevirtual 227, 3) := by decide +kernel
theorem dX12_movingPower_37 : decode cX12_movingPower 37 = .ok (.i2l, 1) := by decide +kernel
theorem dX12_movingPower_38 : decode cX12_movingPower 38 = .ok (.lreturn, 1) := by decide +kernel
theorem dX12_bestVelocity_0 : decode cX12_bestVelocity 0 = .ok (.aload_n 0, 1) := by decide +kernel
theorem dX12_bestVelocity_1 : decode cX12_bestVelocity 1 = .ok (.aload_n 0, 1) := by decide +kernel
theorem dX12_bestVelocity_2 : decode cX12_bestVelocity 2 = .ok (.iload_n 1, 1) := by decide +kernel
theorem dX12_bestVelocity_3 : decode cX12_bestVelocity 3 = .ok (.invokevirtual 344, 3) := by decide +kernel
theorem dX12_bestVelocity_6 : decode cX12_bestVelocity 6 = .ok (.invokevirtual 340, 3) := by decide +kernel
theorem dX12_bestVelocity_9 : decode cX12_bestVelocity 9 = .ok (.ifCond .ne 5, 3) := by decide +kernel
theorem dX12_bestVelocity_12 : decode cX12_bestVelocity 12 = .ok (.iconst 0, 1) := by decide +kernel
theorem dX12_bestVelocity_13 : decode cX12_bestVelocity 13 = .ok (.ireturn, 1) := by decide +kernel
theorem dX12_bestVelocity_14 : decode cX12_bestVelocity 14 = .ok (.iload_n 2, 1) := by decide +kernel
theorem dX12_bestVelocity_15 : decode cX12_bestVelocity 15 = .ok (.iconst 1, 1) := by decide +kernel
theorem dX12_bestVelocity_16 : decode cX12_bestVelocity 16 = .ok (.bipush 99, 2) := by decide +kernel
theorem dX12_bestVelocity_18 : decode cX12_bestVelocity 18 = .ok (.invokestatic 96, 3) := by decide +kernel
theorem dX12_bestVelocity_21 : decode cX12_bestVelocity 21 = .ok (.ifCond .eq 12, 3) := by decide +kernel
theorem dX12_bestVelocity_24 : decode cX12_bestVelocity 24 = .ok (.iload_n 3, 1) := by decide +kernel
theorem dX12_bestVelocity_25 : decode cX12_bestVelocity 25 = .ok (.iconst 0, 1) := by decide +kernel
theorem dX12_bestVelocity_26 : decode cX12_bestVelocity 26 = .ok (.iconst 4, 1) := by decide +kernel
theorem dX12_bestVelocity_27 : decode cX12_bestVelocity 27 = .ok (.invokestatic 96, 3) := by decide +kernel
theorem dX12_bestVelocity_30 : decode cX12_bestVelocity 30 = .ok (.ifCond .ne 9, 3) := by decide +kernel
theorem dX12_bestVelocity_33 : decode cX12_bestVelocity 33 = .ok (.aload_n 0, 1) := by decide +kernel
theorem dX12_bestVelocity_34 : decode cX12_bestVelocity 34 = .ok (.iconst 3, 1) := by decide +kernel
theorem dX12_bestVelocity_35 : decode cX12_bestVelocity 35 = .ok (.invokevirtual 227, 3) := by decide +kernel
theorem dX12_bestVelocity_38 : decode cX12_bestVelocity 38 = .ok (.ireturn, 1) := by decide +kernel
theorem dX12_bestVelocity_39 : decode cX12_bestVelocity 39 = .ok (.iconst (-1), 1) := by decide +kernel
theorem dX12_bestVelocity_40 : decode cX12_bestVelocity 40 = .ok (.istore 4, 2) := by decide +kernel
theorem dX12_bestVelocity_42 : decode cX12_bestVelocity 42 = .ok (.lconst 0, 1) := by decide +kernel
theorem dX12_bestVelocity_43 : decode cX12_bestVelocity 43 = .ok (.lstore 5, 2) := by decide +kernel
theorem dX12_bestVelocity_45 : decode cX12_bestVelocity 45 = .ok (.iload_n 3, 1) := by decide +kernel
theorem dX12_bestVelocity_46 : decode cX12_bestVelocity 46 = .ok (.ineg, 1) := by decide +kernel
theorem dX12_bestVelocity_47 : decode cX12_bestVelocity 47 = .ok (.istore 7, 2) := by decide +kernel
theorem dX12_bestVelocity_49 : decode cX12_bestVelocity 49 = .ok (.iload 7, 2) := by decide +kernel
theorem dX12_bestVelocity_51 : decode cX12_bestVelocity 51 = .ok (.iload_n 3, 1) := by decide +kernel
theorem dX12_bestVelocity_52 : decode cX12_bestVelocity 52 = .ok (.if_icmp .gt 75, 3) := by decide +kernel
theorem dX12_bestVelocity_55 : decode cX12_bestVelocity 55 = .ok (.iload_n 3, 1) := by decide +kernel
theorem dX12_bestVelocity_56 : decode cX12_bestVelocity 56 = .ok (.ineg, 1) := by decide +kernel
theorem dX12_bestVelocity_57 : decode cX12_bestVelocity 57 = .ok (.istore 8, 2) := by decide +kernel
theorem dX12_bestVelocity_59 : decode cX12_bestVelocity 59 = .ok (.iload 8, 2) := by decide +kernel
theorem dX12_bestVelocity_61 : decode cX12_bestVelocity 61 = .ok (.iload_n 3, 1) := by decide +kernel
theorem dX12_bestVelocity_62 : decode cX12_bestVelocity 62 = .ok (.if_icmp .gt 59, 3) := by decide +kernel
theorem dX12_bestVelocity_65 : decode cX12_bestVelocity 65 = .ok (.aload_n 0, 1) := by decide +kernel
theorem dX12_bestVelocity_66 : decode cX12_bestVelocity 66 = .ok (.iload_n 1, 1) := by decide +kernel
theorem dX12_bestVelocity_67 : decode cX12_bestVelocity 67 = .ok (.iload_n 2, 1) := by decide +kernel
theorem dX12_bestVelocity_68 : decode cX12_bestVelocity 68 = .ok (.iload 7, 2) := by decide +kernel
theorem dX12_bestVelocity_70 : decode cX12_bestVelocity 70 = .ok (.imul, 1) := by decide +kernel
theorem dX12_bestVelocity_71 : decode cX12_bestVelocity 71 = .ok (.iload_n 2, 1) := by decide +kernel
theorem dX12_bestVelocity_72 : decode cX12_bestVelocity 72 = .ok (.iload 8, 2) := by decide +kernel
theorem dX12_bestVelocity_74 : decode cX12_bestVelocity 74 = .ok (.imul, 1) := by decide +kernel
theorem dX12_bestVelocity_75 : decode cX12_bestVelocity 75 = .ok (.invokevirtual 429, 3) := by decide +kernel
theorem dX12_bestVelocity_78 : decode cX12_bestVelocity 78 = .ok (.lstore 9, 2) := by decide +kernel
theorem dX12_bestVelocity_80 : decode cX12_bestVelocity 80 = .ok (.iload 4, 2) := by decide +kernel
theorem dX12_bestVelocity_82 : decode cX12_bestVelocity 82 = .ok (.iconst (-1), 1) := by decide +kernel
theorem dX12_bestVelocity_83 : decode cX12_bestVelocity 83 = .ok (.if_icmp .eq 14, 3) := by decide +kernel
theorem dX12_bestVelocity_86 : decode cX12_bestVelocity 86 = .ok (.lload 9, 2) := by decide +kernel
theorem dX12_bestVelocity_88 : decode cX12_bestVelocity 88 = .ok (.lload 5, 2) := by decide +kernel
theorem dX12_bestVelocity_90 : decode cX12_bestVelocity 90 = .ok (.lcmp, 1) := by decide +kernel
theorem dX12_bestVelocity_91 : decode cX12_bestVelocity 91 = .ok (.ifCond .gt 6, 3) := by decide +kernel
theorem dX12_bestVelocity_94 : decode cX12_bestVelocity 94 = .ok (.goto 21, 3) := by decide +kernel
theorem dX12_bestVelocity_97 : decode cX12_bestVelocity 97 = .ok (.bipush 100, 2) := by decide +kernel
theorem dX12_bestVelocity_99 : decode cX12_bestVelocity 99 = .ok (.iload 7, 2) := by decide +kernel
theorem dX12_bestVelocity_101 : decode cX12_bestVelocity 101 = .ok (.iload_n 3, 1) := by decide +kernel
theorem dX12_bestVelocity_102 : decode cX12_bestVelocity 102 = .ok (.iadd, 1) := by decide +kernel
theorem dX12_bestVelocity_103 : decode cX12_bestVelocity 103 = .ok (.imul, 1) := by decide +kernel
theorem dX12_bestVelocity_104 : decode cX12_bestVelocity 104 = .ok (.iload 8, 2) := by decide +kernel
theorem dX12_bestVelocity_106 : decode cX12_bestVelocity 106 = .ok (.iadd, 1) := by decide +kernel
theorem dX12_bestVelocity_107 : decode cX12_bestVelocity 107 = .ok (.iload_n 3, 1) := by decide +kernel
theorem dX12_bestVelocity_108 : decode cX12_bestVelocity 108 = .ok (.iadd, 1) := by decide +kernel
theorem dX12_bestVelocity_109 : decode cX12_bestVelocity 109 = .ok (.istore 4, 2) := by decide +kernel
theorem dX12_bestVelocity_111 : decode cX12_bestVelocity 111 = .ok (.lload 9, 2) := by decide +kernel
theorem dX12_bestVelocity_113 : decode cX12_bestVelocity 113 = .ok (.lstore 5, 2) := by decide +kernel
theorem dX12_bestVelocity_115 : decode cX12_bestVelocity 115 = .ok (.iinc 8 1, 3) := by decide +kernel
theorem dX12_bestVelocity_118 : decode cX12_bestVelocity 118 = .ok (.goto (-59), 3) := by decide +kernel
theorem dX12_bestVelocity_121 : decode cX12_bestVelocity 121 = .ok (.iinc 7 1, 3) := by decide +kernel
theorem dX12_bestVelocity_124 : decode cX12_bestVelocity 124 = .ok (.goto (-75), 3) := by decide +kernel
theorem dX12_bestVelocity_127 : decode cX12_bestVelocity 127 = .ok (.iload 4, 2) := by decide +kernel
theorem dX12_bestVelocity_129 : decode cX12_bestVelocity 129 = .ok (.ireturn, 1) := by decide +kernel
theorem dX12_together_0 : decode cX12_together 0 = .ok (.lconst 0, 1) := by decide +kernel
theorem dX12_together_1 : decode cX12_together 1 = .ok (.lstore 4, 2) := by decide +kernel
theorem dX12_together_3 : decode cX12_together 3 = .ok (.iconst 0, 1) := by decide +kernel
theorem dX12_together_4 : decode cX12_together 4 = .ok (.istore 6, 2) := by decide +kernel
theorem dX12_together_6 : decode cX12_together 6 = .ok (.iload 6, 2) := by decide +kernel
theorem dX12_together_8 : decode cX12_together 8 = .ok (.iload_n 3, 1) := by decide +kernel
theorem dX12_together_9 : decode cX12_together 9 = .ok (.iadd, 1) := by decide +kernel
theorem dX12_together_10 : decode cX12_together 10 = .ok (.aload_n 0, 1) := by decide +kernel
theorem dX12_together_11 : decode cX12_together 11 = .ok (.getfield 17, 3) := by decide +kernel
theorem dX12_together_14 : decode cX12_together 14 = .ok (.iconst 2, 1) := by decide +kernel
theorem dX12_together_15 : decode cX12_together 15 = .ok (.iaload, 1) := by decide +kernel
theorem dX12_together_16 : decode cX12_together 16 = .ok (.if_icmp .ge 51, 3) := by decide +kernel
theorem dX12_together_19 : decode cX12_together 19 = .ok (.lload 4, 2) := by decide +kernel
theorem dX12_together_21 : decode cX12_together 21 = .ok (.aload_n 0, 1) := by decide +kernel
theorem dX12_together_22 : decode cX12_together 22 = .ok (.getfield 23, 3) := by decide +kernel
theorem dX12_together_25 : decode cX12_together 25 = .ok (.bipush 55, 2) := by decide +kernel
theorem dX12_together_27 : decode cX12_together 27 = .ok (.sipush 200, 3) := by decide +kernel
theorem dX12_together_30 : decode cX12_together 30 = .ok (.iload_n 1, 1) := by decide +kernel
theorem dX12_together_31 : decode cX12_together 31 = .ok (.imul, 1) := by decide +kernel
theorem dX12_together_32 : decode cX12_together 32 = .ok (.iadd, 1) := by decide +kernel
theorem dX12_together_33 : decode cX12_together 33 = .ok (.iload 6, 2) := by decide +kernel
theorem dX12_together_35 : decode cX12_together 35 = .ok (.iadd, 1) := by decide +kernel
theorem dX12_together_36 : decode cX12_together 36 = .ok (.iaload, 1) := by decide +kernel
theorem dX12_together_37 : decode cX12_together 37 = .ok (.i2l, 1) := by decide +kernel
theorem dX12_together_38 : decode cX12_together 38 = .ok (.aload_n 0, 1) := by decide +kernel
theorem dX12_together_39 : decode cX12_together 39 = .ok (.getfield 23, 3) := by decide +kernel
theorem dX12_together_42 : decode cX12_together 42 = .ok (.bipush 55, 2) := by decide +kernel
theorem dX12_together_44 : decode cX12_together 44 = .ok (.sipush 200, 3) := by decide +kernel
theorem dX12_together_47 : decode cX12_together 47 = .ok (.iload_n 2, 1) := by decide +kernel
theorem dX12_together_48 : decode cX12_together 48 = .ok (.imul, 1) := by decide +kernel
theorem dX12_together_49 : decode cX12_together 49 = .ok (.iadd, 1) := by decide +kernel
theorem dX12_together_50 : decode cX12_together 50 = .ok (.iload 6, 2) := by decide +kernel
theorem dX12_together_52 : decode cX12_together 52 = .ok (.iadd, 1) := by decide +kernel
theorem dX12_together_53 : decode cX12_together 53 = .ok (.iload_n 3, 1) := by decide +kernel
theorem dX12_together_54 : decode cX12_together 54 = .ok (.iadd, 1) := by decide +kernel
theorem dX12_together_55 : decode cX12_together 55 = .ok (.iaload, 1) := by decide +kernel
theorem dX12_together_56 : decode cX12_together 56 = .ok (.i2l, 1) := by decide +kernel
theorem dX12_together_57 : decode cX12_together 57 = .ok (.lmul, 1) := by decide +kernel
theorem dX12_together_58 : decode cX12_together 58 = .ok (.ladd, 1) := by decide +kernel
theorem dX12_together_59 : decode cX12_together 59 = .ok (.lstore 4, 2) := by decide +kernel
theorem dX12_together_61 : decode cX12_together 61 = .ok (.iinc 6 1, 3) := by decide +kernel
theorem dX12_together_64 : decode cX12_together 64 = .ok (.goto (-58), 3) := by decide +kernel
theorem dX12_together_67 : decode cX12_together 67 = .ok (.lload 4, 2) := by decide +kernel
theorem dX12_together_69 : decode cX12_together 69 = .ok (.lreturn, 1) := by decide +kernel
theorem dX12_correlation_0 : decode cX12_correlation 0 = .ok (.aload_n 0, 1) := by decide +kernel
theorem dX12_correlation_1 : decode cX12_correlation 1 = .ok (.aload_n 0, 1) := by decide +kernel
theorem dX12_correlation_2 : decode cX12_correlation 2 = .ok (.iload_n 1, 1) := by decide +kernel
theorem dX12_correlation_3 : decode cX12_correlation 3 = .ok (.invokevirtual 337, 3) := by decide +kernel
theorem dX12_correlation_6 : decode cX12_correlation 6 = .ok (.ifCond .eq 15, 3) := by decide +kernel
theorem dX12_correlation_9 : decode cX12_correlation 9 = .ok (.aload_n 0, 1) := by decide +kernel
theorem dX12_correlation_10 : decode cX12_correlation 10 = .ok (.iload_n 2, 1) := by decide +kernel
theorem dX12_correlation_11 : decode cX12_correlation 11 = .ok (.invokevirtual 337, 3) := by decide +kernel
theorem dX12_correlation_14 : decode cX12_correlation 14 = .ok (.ifCond .eq 7, 3) := by decide +kernel
theorem dX12_correlation_17 : decode cX12_correlation 17 = .ok (.iconst 1, 1) := by decide +kernel
theorem dX12_correlation_18 : decode cX12_correlation 18 = .ok (.goto 4, 3) := by decide +kernel
theorem dX12_correlation_21 : decode cX12_correlation 21 = .ok (.iconst 0, 1) := by decide +kernel
theorem dX12_correlation_22 : decode cX12_correlation 22 = .ok (.invokevirtual 340, 3) := by decide +kernel
theorem dX12_correlation_25 : decode cX12_correlation 25 = .ok (.ifCond .ne 5, 3) := by decide +kernel
theorem dX12_correlation_28 : decode cX12_correlation 28 = .ok (.lconst 0, 1) := by decide +kernel
theorem dX12_correlation_29 : decode cX12_correlation 29 = .ok (.lreturn, 1) := by decide +kernel
theorem dX12_correlation_30 : decode cX12_correlation 30 = .ok (.aload_n 0, 1) := by decide +kernel
theorem dX12_correlation_31 : decode cX12_correlation 31 = .ok (.iload_n 3, 1) := by decide +kernel
theorem dX12_correlation_32 : decode cX12_correlation 32 = .ok (.invokevirtual 350, 3) := by decide +kernel
theorem dX12_correlation_35 : decode cX12_correlation 35 = .ok (.ifCond .eq 13, 3) := by decide +kernel
theorem dX12_correlation_38 : decode cX12_correlation 38 = .ok (.aload_n 0, 1) := by decide +kernel
theorem dX12_correlation_39 : decode cX12_correlation 39 = .ok (.iload_n 1, 1) := by decide +kernel
theorem dX12_correlation_40 : decode cX12_correlation 40 = .ok (.iload_n 2, 1) := by decide +kernel
theorem dX12_correlation_41 : decode cX12_correlation 41 = .ok (.iload_n 3, 1) := by decide +kernel
theorem dX12_correlation_42 : decode cX12_correlation 42 = .ok (.invokevirtual 432, 3) := by decide +kernel
theorem dX12_correlation_45 : decode cX12_correlation 45 = .ok (.goto 9, 3) := by decide +kernel
theorem dX12_correlation_48 : decode cX12_correlation 48 = .ok (.aload_n 0, 1) := by decide +kernel
theorem dX12_correlation_49 : decode cX12_correlation 49 = .ok (.iconst 3, 1) := by decide +kernel
theorem dX12_correlation_50 : decode cX12_correlation 50 = .ok (.invokevirtual 227, 3) := by decide +kernel
theorem dX12_correlation_53 : decode cX12_correlation 53 = .ok (.i2l, 1) := by decide +kernel
theorem dX12_correlation_54 : decode cX12_correlation 54 = .ok (.lreturn, 1) := by decide +kernel
theorem dX12_bestLag_0 : decode cX12_bestLag 0 = .ok (.aload_n 0, 1) := by decide +kernel
theorem dX12_bestLag_1 : decode cX12_bestLag 1 = .ok (.aload_n 0, 1) := by decide +kernel
theorem dX12_bestLag_2 : decode cX12_bestLag 2 = .ok (.iload_n 1, 1) := by decide +kernel
theorem dX12_bestLag_3 : decode cX12_bestLag 3 = .ok (.invokevirtual 337, 3) := by decide +kernel
theorem dX12_bestLag_6 : decode cX12_bestLag 6 = .ok (.ifCond .eq 15, 3) := by decide +kernel
theorem dX12_bestLag_9 : decode cX12_bestLag 9 = .ok (.aload_n 0, 1) := by decide +kernel
theorem dX12_bestLag_10 : decode cX12_bestLag 10 = .ok (.iload_n 2, 1) := by decide +kernel
theorem dX12_bestLag_11 : decode cX12_bestLag 11 = .ok (.invokevirtual 337, 3) := by decide +kernel
theorem dX12_bestLag_14 : decode cX12_bestLag 14 = .ok (.ifCond .eq 7, 3) := by decide +kernel
theorem dX12_bestLag_17 : decode cX12_bestLag 17 = .ok (.iconst 1, 1) := by decide +kernel
theorem dX12_bestLag_18 : decode cX12_bestLag 18 = .ok (.goto 4, 3) := by decide +kernel
theorem dX12_bestLag_21 : decode cX12_bestLag 21 = .ok (.iconst 0, 1) := by decide +kernel
theorem dX12_bestLag_22 : decode cX12_bestLag 22 = .ok (.invokevirtual 340, 3) := by decide +kernel
theorem dX12_bestLag_25 : decode cX12_bestLag 25 = .ok (.ifCond .ne 5, 3) := by decide +kernel
theorem dX12_bestLag_28 : decode cX12_bestLag 28 = .ok (.iconst 0, 1) := by decide +kernel
theorem dX12_bestLag_29 : decode cX12_bestLag 29 = .ok (.ireturn, 1) := by decide +kernel
theorem dX12_bestLag_30 : decode cX12_bestLag 30 = .ok (.aload_n 0, 1) := by decide +kernel
theorem dX12_bestLag_31 : decode cX12_bestLag 31 = .ok (.iload_n 3, 1) := by decide +kernel
theorem dX12_bestLag_32 : decode cX12_bestLag 32 = .ok (.invokevirtual 350, 3) := by decide +kernel
theorem dX12_bestLag_35 : decode cX12_bestLag 35 = .ok (.ifCond .ne 9, 3) := by decide +kernel
theorem dX12_bestLag_38 : decode cX12_bestLag 38 = .ok (.aload_n 0, 1) := by decide +kernel
theorem dX12_bestLag_39 : decode cX12_bestLag 39 = .ok (.iconst 3, 1) := by decide +kernel
theorem dX12_bestLag_40 : decode cX12_bestLag 40 = .ok (.invokevirtual 227, 3) := by decide +kernel
theorem dX12_bestLag_43 : decode cX12_bestLag 43 = .ok (.ireturn, 1) := by decide +kernel
theorem dX12_bestLag_44 : decode cX12_bestLag 44 = .ok (.iconst 0, 1) := by decide +kernel
theorem dX12_bestLag_45 : decode cX12_bestLag 45 = .ok (.istore 4, 2) := by decide +kernel
theorem dX12_bestLag_47 : decode cX12_bestLag 47 = .ok (.iconst 1, 1) := by decide +kernel
theorem dX12_bestLag_48 : decode cX12_bestLag 48 = .ok (.istore 5, 2) := by decide +kernel
theorem dX12_bestLag_50 : decode cX12_bestLag 50 = .ok (.iload 5, 2) := by decide +kernel
theorem dX12_bestLag_52 : decode cX12_bestLag 52 = .ok (.iload_n 3, 1) := by decide +kernel
theorem dX12_bestLag_53 : decode cX12_bestLag 53 = .ok (.if_icmp .gt 38, 3) := by decide +kernel
theorem dX12_bestLag_56 : decode cX12_bestLag 56 = .ok (.aload_n 0, 1) := by decide +kernel
theorem dX12_bestLag_57 : decode cX12_bestLag 57 = .ok (.iload_n 1, 1) := by decide +kernel
theorem dX12_bestLag_58 : decode cX12_bestLag 58 = .ok (.iload_n 2, 1) := by decide +kernel
theorem dX12_bestLag_59 : decode cX12_bestLag 59 = .ok (.iload 5, 2) := by decide +kernel
theorem dX12_bestLag_61 : decode cX12_bestLag 61 = .ok (.invokevirtual 432, 3) := by decide +kernel
theorem dX12_bestLag_64 : decode cX12_bestLag 64 = .ok (.aload_n 0, 1) := by decide +kernel
theorem dX12_bestLag_65 : decode cX12_bestLag 65 = .ok (.iload_n 1, 1) := by decide +kernel
theorem dX12_bestLag_66 : decode cX12_bestLag 66 = .ok (.iload_n 2, 1) := by decide +kernel
theorem dX12_bestLag_67 : decode cX12_bestLag 67 = .ok (.iload 4, 2) := by decide +kernel
theorem dX12_bestLag_69 : decode cX12_bestLag 69 = .ok (.invokevirtual 432, 3) := by decide +kernel
theorem dX12_bestLag_72 : decode cX12_bestLag 72 = .ok (.lcmp, 1) := by decide +kernel
theorem dX12_bestLag_73 : decode cX12_bestLag 73 = .ok (.ifCond .le 8, 3) := by decide +kernel
theorem dX12_bestLag_76 : decode cX12_bestLag 76 = .ok (.iload 5, 2) := by decide +kernel
theorem dX12_bestLag_78 : decode cX12_bestLag 78 = .ok (.goto 5, 3) := by decide +kernel
theorem dX12_bestLag_81 : decode cX12_bestLag 81 = .ok (.iload 4, 2) := by decide +kernel
theorem dX12_bestLag_83 : decode cX12_bestLag 83 = .ok (.istore 4, 2) := by decide +kernel
theorem dX12_bestLag_85 : decode cX12_bestLag 85 = .ok (.iinc 5 1, 3) := by decide +kernel
theorem dX12_bestLag_88 : decode cX12_bestLag 88 = .ok (.goto (-38), 3) := by decide +kernel
theorem dX12_bestLag_91 : decode cX12_bestLag 91 = .ok (.iload 4, 2) := by decide +kernel
theorem dX12_bestLag_93 : decode cX12_bestLag 93 = .ok (.ireturn, 1) := by decide +kernel
theorem dX12_levelOf_0 : decode cX12_levelOf 0 = .ok (.aload_n 0, 1) := by decide +kernel
theorem dX12_levelOf_1 : decode cX12_levelOf 1 = .ok (.iload_n 1, 1) := by decide +kernel
theorem dX12_levelOf_2 : decode cX12_levelOf 2 = .ok (.iload_n 1, 1) := by decide +kernel
theorem dX12_levelOf_3 : decode cX12_levelOf 3 = .ok (.iconst 0, 1) := by decide +kernel
theorem dX12_levelOf_4 : decode cX12_levelOf 4 = .ok (.invokevirtual 432, 3) := by decide +kernel
theorem dX12_levelOf_7 : decode cX12_levelOf 7 = .ok (.aload_n 0, 1) := by decide +kernel
theorem dX12_levelOf_8 : decode cX12_levelOf 8 = .ok (.getfield 17, 3) := by decide +kernel
theorem dX12_levelOf_11 : decode cX12_levelOf 11 = .ok (.iconst 2, 1) := by decide +kernel
theorem dX12_levelOf_12 : decode cX12_levelOf 12 = .ok (.iaload, 1) := by decide +kernel
theorem dX12_levelOf_13 : decode cX12_levelOf 13 = .ok (.i2l, 1) := by decide +kernel
theorem dX12_levelOf_14 : decode cX12_levelOf 14 = .ok (.ldiv, 1) := by decide +kernel
theorem dX12_levelOf_15 : decode cX12_levelOf 15 = .ok (.lreturn, 1) := by decide +kernel
theorem dX12_level_0 : decode cX12_level 0 = .ok (.aload_n 0, 1) := by decide +kernel
theorem dX12_level_1 : decode cX12_level 1 = .ok (.aload_n 0, 1) := by decide +kernel
theorem dX12_level_2 : decode cX12_level 2 = .ok (.iload_n 1, 1) := by decide +kernel
theorem dX12_level_3 : decode cX12_level 3 = .ok (.invokevirtual 337, 3) := by decide +kernel
theorem dX12_level_6 : decode cX12_level 6 = .ok (.invokevirtual 340, 3) := by decide +kernel
theorem dX12_level_9 : decode cX12_level 9 = .ok (.ifCond .eq 11, 3) := by decide +kernel
theorem dX12_level_12 : decode cX12_level 12 = .ok (.aload_n 0, 1) := by decide +kernel
theorem dX12_level_13 : decode cX12_level 13 = .ok (.iload_n 1, 1) := by decide +kernel
theorem dX12_level_14 : decode cX12_level 14 = .ok (.invokevirtual 435, 3) := by decide +kernel
theorem dX12_level_17 : decode cX12_level 17 = .ok (.goto 4, 3) := by decide +kernel
theorem dX12_level_20 : decode cX12_level 20 = .ok (.lconst 0, 1) := by decide +kernel
theorem dX12_level_21 : decode cX12_level 21 = .ok (.lreturn, 1) := by decide +kernel
theorem dX12_loudest_0 : decode cX12_loudest 0 = .ok (.aload_n 0, 1) := by decide +kernel
theorem dX12_loudest_1 : decode cX12_loudest 1 = .ok (.aload_n 0, 1) := by decide +kernel
theorem dX12_loudest_2 : decode cX12_loudest 2 = .ok (.iload_n 1, 1) := by decide +kernel
theorem dX12_loudest_3 : decode cX12_loudest 3 = .ok (.invokevirtual 337, 3) := by decide +kernel
theorem dX12_loudest_6 : decode cX12_loudest 6 = .ok (.invokevirtual 340, 3) := by decide +kernel
theorem dX12_loudest_9 : decode cX12_loudest 9 = .ok (.ifCond .ne 5, 3) := by decide +kernel
theorem dX12_loudest_12 : decode cX12_loudest 12 = .ok (.iconst 0, 1) := by decide +kernel
theorem dX12_loudest_13 : decode cX12_loudest 13 = .ok (.ireturn, 1) := by decide +kernel
theorem dX12_loudest_14 : decode cX12_loudest 14 = .ok (.iconst 0, 1) := by decide +kernel
theorem dX12_loudest_15 : decode cX12_loudest 15 = .ok (.istore_n 2, 1) := by decide +kernel
theorem dX12_loudest_16 : decode cX12_loudest 16 = .ok (.iload_n 2, 1) := by decide +kernel
theorem dX12_loudest_17 : decode cX12_loudest 17 = .ok (.aload_n 0, 1) := by decide +kernel
theorem dX12_loudest_18 : decode cX12_loudest 18 = .ok (.getfield 17, 3) := by decide +kernel
theorem dX12_loudest_21 : decode cX12_loudest 21 = .ok (.iconst 4, 1) := by decide +kernel
theorem dX12_loudest_22 : decode cX12_loudest 22 = .ok (.iaload, 1) := by decide +kernel
theorem dX12_loudest_23 : decode cX12_loudest 23 = .ok (.if_icmp .ge 82, 3) := by decide +kernel
theorem dX12_loudest_26 : decode cX12_loudest 26 = .ok (.iconst 0, 1) := by decide +kernel
theorem dX12_loudest_27 : decode cX12_loudest 27 = .ok (.istore_n 3, 1) := by decide +kernel
theorem dX12_loudest_28 : decode cX12_loudest 28 = .ok (.iconst 0, 1) := by decide +kernel
theorem dX12_loudest_29 : decode cX12_loudest 29 = .ok (.istore 4, 2) := by decide +kernel
theorem dX12_loudest_31 : decode cX12_loudest 31 = .ok (.iload 4, 2) := by decide +kernel
theorem dX12_loudest_33 : decode cX12_loudest 33 = .ok (.aload_n 0, 1) := by decide +kernel
theorem dX12_loudest_34 : decode cX12_loudest 34 = .ok (.getfield 17, 3) := by decide +kernel
theorem dX12_loudest_37 : decode cX12_loudest 37 = .ok (.iconst 4, 1) := by decide +kernel
theorem dX12_loudest_38 : decode cX12_loudest 38 = .ok (.iaload, 1) := by decide +kernel
theorem dX12_loudest_39 : decode cX12_loudest 39 = .ok (.if_icmp .ge 53, 3) := by decide +kernel
theorem dX12_loudest_42 : decode cX12_loudest 42 = .ok (.iload_n 3, 1) := by decide +kernel
theorem dX12_loudest_43 : decode cX12_loudest 43 = .ok (.aload_n 0, 1) := by decide +kernel
theorem dX12_loudest_44 : decode cX12_loudest 44 = .ok (.iload 4, 2) := by decide +kernel
theorem dX12_loudest_46 : decode cX12_loudest 46 = .ok (.invokevirtual 435, 3) := by decide +kernel
theorem dX12_loudest_49 : decode cX12_loudest 49 = .ok (.aload_n 0, 1) := by decide +kernel
theorem dX12_loudest_50 : decode cX12_loudest 50 = .ok (.iload_n 2, 1) := by decide +kernel
theorem dX12_loudest_51 : decode cX12_loudest 51 = .ok (.invokevirtual 435, 3) := by decide +kernel
theorem dX12_loudest_54 : decode cX12_loudest 54 = .ok (.lcmp, 1) := by decide +kernel
theorem dX12_loudest_55 : decode cX12_loudest 55 = .ok (.ifCond .gt 24, 3) := by decide +kernel
theorem dX12_loudest_58 : decode cX12_loudest 58 = .ok (.aload_n 0, 1) := by decide +kernel
theorem dX12_loudest_59 : decode cX12_loudest 59 = .ok (.iload 4, 2) := by decide +kernel
theorem dX12_loudest_61 : decode cX12_loudest 61 = .ok (.invokevirtual 435, 3) := by decide +kernel
theorem dX12_loudest_64 : decode cX12_loudest 64 = .ok (.aload_n 0, 1) := by decide +kernel
theorem dX12_loudest_65 : decode cX12_loudest 65 = .ok (.iload_n 2, 1) := by decide +kernel
theorem dX12_loudest_66 : decode cX12_loudest 66 = .ok (.invokevirtual 435, 3) := by decide +kernel
theorem dX12_loudest_69 : decode cX12_loudest 69 = .ok (.lcmp, 1) := by decide +kernel
theorem dX12_loudest_70 : decode cX12_loudest 70 = .ok (.ifCond .ne 13, 3) := by decide +kernel
theorem dX12_loudest_73 : decode cX12_loudest 73 = .ok (.iload 4, 2) := by decide +kernel
theorem dX12_loudest_75 : decode cX12_loudest 75 = .ok (.iload_n 2, 1) := by decide +kernel
theorem dX12_loudest_76 : decode cX12_loudest 76 = .ok (.if_icmp .ge 7, 3) := by decide +kernel
theorem dX12_loudest_79 : decode cX12_loudest 79 = .ok (.iconst 1, 1) := by decide +kernel
theorem dX12_loudest_80 : decode cX12_loudest 80 = .ok (.goto 4, 3) := by decide +kernel
theorem dX12_loudest_83 : decode cX12_loudest 83 = .ok (.iconst 0, 1) := by decide +kernel
theorem dX12_loudest_84 : decode cX12_loudest 84 = .ok (.iadd, 1) := by decide +kernel
theorem dX12_loudest_85 : decode cX12_loudest 85 = .ok (.istore_n 3, 1) := by decide +kernel
theorem dX12_loudest_86 : decode cX12_loudest 86 = .ok (.iinc 4 1, 3) := by decide +kernel
theorem dX12_loudest_89 : decode cX12_loudest 89 = .ok (.goto (-58), 3) := by decide +kernel
theorem dX12_loudest_92 : decode cX12_loudest 92 = .ok (.iload_n 3, 1) := by decide +kernel
theorem dX12_loudest_93 : decode cX12_loudest 93 = .ok (.iload_n 1, 1) := by decide +kernel
theorem dX12_loudest_94 : decode cX12_loudest 94 = .ok (.if_icmp .ne 5, 3) := by decide +kernel
theorem dX12_loudest_97 : decode cX12_loudest 97 = .ok (.iload_n 2, 1) := by decide +kernel
theorem dX12_loudest_98 : decode cX12_loudest 98 = .ok (.ireturn, 1) := by decide +kernel
theorem dX12_loudest_99 : decode cX12_loudest 99 = .ok (.iinc 2 1, 3) := by decide +kernel
theorem dX12_loudest_102 : decode cX12_loudest 102 = .ok (.goto (-86), 3) := by decide +kernel
theorem dX12_loudest_105 : decode cX12_loudest 105 = .ok (.iconst (-1), 1) := by decide +kernel
theorem dX12_loudest_106 : decode cX12_loudest 106 = .ok (.ireturn, 1) := by decide +kernel
theorem dX12_writeMap_0 : decode cX12_writeMap 0 = .ok (.aload_n 0, 1) := by decide +kernel
theorem dX12_writeMap_1 : decode cX12_writeMap 1 = .ok (.iconst 1, 1) := by decide +kernel
theorem dX12_writeMap_2 : decode cX12_writeMap 2 = .ok (.invokevirtual 340, 3) := by decide +kernel
theorem dX12_writeMap_5 : decode cX12_writeMap 5 = .ok (.ifCond .ne 5, 3) := by decide +kernel
theorem dX12_writeMap_8 : decode cX12_writeMap 8 = .ok (.iconst 0, 1) := by decide +kernel
theorem dX12_writeMap_9 : decode cX12_writeMap 9 = .ok (.ireturn, 1) := by decide +kernel
theorem dX12_writeMap_10 : decode cX12_writeMap 10 = .ok (.aload_n 0, 1) := by decide +kernel
theorem dX12_writeMap_11 : decode cX12_writeMap 11 = .ok (.getfield 54, 3) := by decide +kernel
theorem dX12_writeMap_14 : decode cX12_writeMap 14 = .ok (.aload_n 0, 1) := by decide +kernel
theorem dX12_writeMap_15 : decode cX12_writeMap 15 = .ok (.aload_n 0, 1) := by decide +kernel
theorem dX12_writeMap_16 : decode cX12_writeMap 16 = .ok (.getfield 23, 3) := by decide +kernel
theorem dX12_writeMap_19 : decode cX12_writeMap 19 = .ok (.invokevirtual 367, 3) := by decide +kernel
theorem dX12_writeMap_22 : decode cX12_writeMap 22 = .ok (.laload, 1) := by decide +kernel
theorem dX12_writeMap_23 : decode cX12_writeMap 23 = .ok (.lstore_n 1, 1) := by decide +kernel
theorem dX12_writeMap_24 : decode cX12_writeMap 24 = .ok (.aload_n 0, 1) := by decide +kernel
theorem dX12_writeMap_25 : decode cX12_writeMap 25 = .ok (.iconst 0, 1) := by decide +kernel
theorem dX12_writeMap_26 : decode cX12_writeMap 26 = .ok (.putfield 439, 3) := by decide +kernel
theorem dX12_writeMap_29 : decode cX12_writeMap 29 = .ok (.iconst 0, 1) := by decide +kernel
theorem dX12_writeMap_30 : decode cX12_writeMap 30 = .ok (.istore_n 3, 1) := by decide +kernel
theorem dX12_writeMap_31 : decode cX12_writeMap 31 = .ok (.iload_n 3, 1) := by decide +kernel
theorem dX12_writeMap_32 : decode cX12_writeMap 32 = .ok (.aload_n 0, 1) := by decide +kernel
theorem dX12_writeMap_33 : decode cX12_writeMap 33 = .ok (.invokevirtual 237, 3) := by decide +kernel
theorem dX12_writeMap_36 : decode cX12_writeMap 36 = .ok (.if_icmp .ge 91, 3) := by decide +kernel
theorem dX12_writeMap_39 : decode cX12_writeMap 39 = .ok (.iload_n 3, 1) := by decide +kernel
theorem dX12_writeMap_40 : decode cX12_writeMap 40 = .ok (.ifCond .le 36, 3) := by decide +kernel
theorem dX12_writeMap_43 : decode cX12_writeMap 43 = .ok (.iload_n 3, 1) := by decide +kernel
theorem dX12_writeMap_44 : decode cX12_writeMap 44 = .ok (.aload_n 0, 1) := by decide +kernel
theorem dX12_writeMap_45 : decode cX12_writeMap 45 = .ok (.getfield 17, 3) := by decide +kernel
theorem dX12_writeMap_48 : decode cX12_writeMap 48 = .ok (.bipush 9, 2) := by decide +kernel
theorem dX12_writeMap_50 : decode cX12_writeMap 50 = .ok (.iaload, 1) := by decide +kernel
theorem dX12_writeMap_51 : decode cX12_writeMap 51 = .ok (.irem, 1) := by decide +kernel
theorem dX12_writeMap_52 : decode cX12_writeMap 52 = .ok (.ifCond .ne 24, 3) := by decide +kernel
theorem dX12_writeMap_55 : decode cX12_writeMap 55 = .ok (.aload_n 0, 1) := by decide +kernel
theorem dX12_writeMap_56 : decode cX12_writeMap 56 = .ok (.getfield 61, 3) := by decide +kernel
theorem dX12_writeMap_59 : decode cX12_writeMap 59 = .ok (.aload_n 0, 1) := by decide +kernel
theorem dX12_writeMap_60 : decode cX12_writeMap 60 = .ok (.getfield 439, 3) := by decide +kernel
theorem dX12_writeMap_63 : decode cX12_writeMap 63 = .ok (.bipush 59, 2) := by decide +kernel
theorem dX12_writeMap_65 : decode cX12_writeMap 65 = .ok (.iastore, 1) := by decide +kernel
theorem dX12_writeMap_66 : decode cX12_writeMap 66 = .ok (.aload_n 0, 1) := by decide +kernel
theorem dX12_writeMap_67 : decode cX12_writeMap 67 = .ok (.dup, 1) := by decide +kernel
theorem dX12_writeMap_68 : decode cX12_writeMap 68 = .ok (.getfield 439, 3) := by decide +kernel
theorem dX12_writeMap_71 : decode cX12_writeMap 71 = .ok (.iconst 1, 1) := by decide +kernel
theorem dX12_writeMap_72 : decode cX12_writeMap 72 = .ok (.iadd, 1) := by decide +kernel
theorem dX12_writeMap_73 : decode cX12_writeMap 73 = .ok (.putfield 439, 3) := by decide +kernel
theorem dX12_writeMap_76 : decode cX12_writeMap 76 = .ok (.aload_n 0, 1) := by decide +kernel
theorem dX12_writeMap_77 : decode cX12_writeMap 77 = .ok (.getfield 61, 3) := by decide +kernel
theorem dX12_writeMap_80 : decode cX12_writeMap 80 = .ok (.aload_n 0, 1) := by decide +kernel
theorem dX12_writeMap_81 : decode cX12_writeMap 81 = .ok (.getfield 439, 3) := by decide +kernel
theorem dX12_writeMap_84 : decode cX12_writeMap 84 = .ok (.bipush 48, 2) := by decide +kernel
theorem dX12_writeMap_86 : decode cX12_writeMap 86 = .ok (.lload_n 1, 1) := by decide +kernel
theorem dX12_writeMap_87 : decode cX12_writeMap 87 = .ok (.lconst 0, 1) := by decide +kernel
theorem dX12_writeMap_88 : decode cX12_writeMap 88 = .ok (.lcmp, 1) := by decide +kernel
theorem dX12_writeMap_89 : decode cX12_writeMap 89 = .ok (.ifCond .ne 7, 3) := by decide +kernel
theorem dX12_writeMap_92 : decode cX12_writeMap 92 = .ok (.iconst 0, 1) := by decide +kernel
theorem dX12_writeMap_93 : decode cX12_writeMap 93 = .ok (.goto 16, 3) := by decide +kernel
theorem dX12_writeMap_96 : decode cX12_writeMap 96 = .ok (.ldc2_w 442, 3) := by decide +kernel
theorem dX12_writeMap_99 : decode cX12_writeMap 99 = .ok (.aload_n 0, 1) := by decide +kernel
theorem dX12_writeMap_100 : decode cX12_writeMap 100 = .ok (.getfield 54, 3) := by decide +kernel
theorem dX12_writeMap_103 : decode cX12_writeMap 103 = .ok (.iload_n 3, 1) := by decide +kernel
theorem dX12_writeMap_104 : decode cX12_writeMap 104 = .ok (.laload, 1) := by decide +kernel
theorem dX12_writeMap_105 : decode cX12_writeMap 105 = .ok (.lmul, 1) := by decide +kernel
theorem dX12_writeMap_106 : decode cX12_writeMap 106 = .ok (.lload_n 1, 1) := by decide +kernel
theorem dX12_writeMap_107 : decode cX12_writeMap 107 = .ok (.ldiv, 1) := by decide +kernel
theorem dX12_writeMap_108 : decode cX12_writeMap 108 = .ok (.l2i, 1) := by decide +kernel
theorem dX12_writeMap_109 : decode cX12_writeMap 109 = .ok (.iadd, 1) := by decide +kernel
theorem dX12_writeMap_110 : decode cX12_writeMap 110 = .ok (.iastore, 1) := by decide +kernel
theorem dX12_writeMap_111 : decode cX12_writeMap 111 = .ok (.aload_n 0, 1) := by decide +kernel
theorem dX12_writeMap_112 : decode cX12_writeMap 112 = .ok (.dup, 1) := by decide +kernel
theorem dX12_writeMap_113 : decode cX12_writeMap 113 = .ok (.getfield 439, 3) := by decide +kernel
theorem dX12_writeMap_116 : decode cX12_writeMap 116 = .ok (.iconst 1, 1) := by decide +kernel
theorem dX12_writeMap_117 : decode cX12_writeMap 117 = .ok (.iadd, 1) := by decide +kernel
theorem dX12_writeMap_118 : decode cX12_writeMap 118 = .ok (.putfield 439, 3) := by decide +kernel
theorem dX12_writeMap_121 : decode cX12_writeMap 121 = .ok (.iinc 3 1, 3) := by decide +kernel
theorem dX12_writeMap_124 : decode cX12_writeMap 124 = .ok (.goto (-93), 3) := by decide +kernel
theorem dX12_writeMap_127 : decode cX12_writeMap 127 = .ok (.aload_n 0, 1) := by decide +kernel
theorem dX12_writeMap_128 : decode cX12_writeMap 128 = .ok (.getfield 439, 3) := by decide +kernel
theorem dX12_writeMap_131 : decode cX12_writeMap 131 = .ok (.ireturn, 1) := by decide +kernel
theorem dX12_mapByte_0 : decode cX12_mapByte 0 = .ok (.aload_n 0, 1) := by decide +kernel
theorem dX12_mapByte_1 : decode cX12_mapByte 1 = .ok (.iload_n 1, 1) := by decide +kernel
theorem dX12_mapByte_2 : decode cX12_mapByte 2 = .ok (.iconst 0, 1) := by decide +kernel
theorem dX12_mapByte_3 : decode cX12_mapByte 3 = .ok (.aload_n 0, 1) := by decide +kernel
theorem dX12_mapByte_4 : decode cX12_mapByte 4 = .ok (.getfield 439, 3) := by decide +kernel
theorem dX12_mapByte_7 : decode cX12_mapByte 7 = .ok (.iconst 1, 1) := by decide +kernel
theorem dX12_mapByte_8 : decode cX12_mapByte 8 = .ok (.isub, 1) := by decide +kernel
theorem dX12_mapByte_9 : decode cX12_mapByte 9 = .ok (.invokestatic 96, 3) := by decide +kernel
theorem dX12_mapByte_12 : decode cX12_mapByte 12 = .ok (.ifCond .eq 7, 3) := by decide +kernel
theorem dX12_mapByte_15 : decode cX12_mapByte 15 = .ok (.iconst 0, 1) := by decide +kernel
theorem dX12_mapByte_16 : decode cX12_mapByte 16 = .ok (.goto 4, 3) := by decide +kernel
theorem dX12_mapByte_19 : decode cX12_mapByte 19 = .ok (.iconst 1, 1) := by decide +kernel
theorem dX12_mapByte_20 : decode cX12_mapByte 20 = .ok (.putfield 67, 3) := by decide +kernel
theorem dX12_mapByte_23 : decode cX12_mapByte 23 = .ok (.aload_n 0, 1) := by decide +kernel
theorem dX12_mapByte_24 : decode cX12_mapByte 24 = .ok (.getfield 67, 3) := by decide +kernel
theorem dX12_mapByte_27 : decode cX12_mapByte 27 = .ok (.ifCond .ne 12, 3) := by decide +kernel
theorem dX12_mapByte_30 : decode cX12_mapByte 30 = .ok (.aload_n 0, 1) := by decide +kernel
theorem dX12_mapByte_31 : decode cX12_mapByte 31 = .ok (.getfield 61, 3) := by decide +kernel
theorem dX12_mapByte_34 : decode cX12_mapByte 34 = .ok (.iload_n 1, 1) := by decide +kernel
theorem dX12_mapByte_35 : decode cX12_mapByte 35 = .ok (.iaload, 1) := by decide +kernel
theorem dX12_mapByte_36 : decode cX12_mapByte 36 = .ok (.goto 4, 3) := by decide +kernel
theorem dX12_mapByte_39 : decode cX12_mapByte 39 = .ok (.iconst 0, 1) := by decide +kernel
theorem dX12_mapByte_40 : decode cX12_mapByte 40 = .ok (.ireturn, 1) := by decide +kernel
theorem dX12_pointBest_0 : decode cX12_pointBest 0 = .ok (.aload_n 0, 1) := by decide +kernel
theorem dX12_pointBest_1 : decode cX12_pointBest 1 = .ok (.aload_n 0, 1) := by decide +kernel
theorem dX12_pointBest_2 : decode cX12_pointBest 2 = .ok (.iload_n 1, 1) := by decide +kernel
theorem dX12_pointBest_3 : decode cX12_pointBest 3 = .ok (.invokevirtual 344, 3) := by decide +kernel
theorem dX12_pointBest_6 : decode cX12_pointBest 6 = .ok (.invokevirtual 340, 3) := by decide +kernel
theorem dX12_pointBest_9 : decode cX12_pointBest 9 = .ok (.ifCond .ne 5, 3) := by decide +kernel
theorem dX12_pointBest_12 : decode cX12_pointBest 12 = .ok (.iconst 0, 1) := by decide +kernel
theorem dX12_pointBest_13 : decode cX12_pointBest 13 = .ok (.ireturn, 1) := by decide +kernel
theorem dX12_pointBest_14 : decode cX12_pointBest 14 = .ok (.iload_n 2, 1) := by decide +kernel
theorem dX12_pointBest_15 : decode cX12_pointBest 15 = .ok (.invokestatic 382, 3) := by decide +kernel
theorem dX12_pointBest_18 : decode cX12_pointBest 18 = .ok (.ifCond .ne 9, 3) := by decide +kernel
theorem dX12_pointBest_21 : decode cX12_pointBest 21 = .ok (.aload_n 0, 1) := by decide +kernel
theorem dX12_pointBest_22 : decode cX12_pointBest 22 = .ok (.iconst 3, 1) := by decide +kernel
theorem dX12_pointBest_23 : decode cX12_pointBest 23 = .ok (.invokevirtual 227, 3) := by decide +kernel
theorem dX12_pointBest_26 : decode cX12_pointBest 26 = .ok (.ireturn, 1) := by decide +kernel
theorem dX12_pointBest_27 : decode cX12_pointBest 27 = .ok (.aload_n 0, 1) := by decide +kernel
theorem dX12_pointBest_28 : decode cX12_pointBest 28 = .ok (.getfield 23, 3) := by decide +kernel
theorem dX12_pointBest_31 : decode cX12_pointBest 31 = .ok (.iconst 0, 1) := by decide +kernel
theorem dX12_pointBest_32 : decode cX12_pointBest 32 = .ok (.aload_n 0, 1) := by decide +kernel
theorem dX12_pointBest_33 : decode cX12_pointBest 33 = .ok (.getfield 29, 3) := by decide +kernel
theorem dX12_pointBest_36 : decode cX12_pointBest 36 = .ok (.iconst 0, 1) := by decide +kernel
theorem dX12_pointBest_37 : decode cX12_pointBest 37 = .ok (.invokestatic 233, 3) := by decide +kernel
theorem dX12_pointBest_40 : decode cX12_pointBest 40 = .ok (.aload_n 0, 1) := by decide +kernel
theorem dX12_pointBest_41 : decode cX12_pointBest 41 = .ok (.aload_n 0, 1) := by decide +kernel
theorem dX12_pointBest_42 : decode cX12_pointBest 42 = .ok (.getfield 29, 3) := by decide +kernel
theorem dX12_pointBest_45 : decode cX12_pointBest 45 = .ok (.iload_n 1, 1) := by decide +kernel
theorem dX12_pointBest_46 : decode cX12_pointBest 46 = .ok (.iload_n 2, 1) := by decide +kernel
theorem dX12_pointBest_47 : decode cX12_pointBest 47 = .ok (.invokevirtual 444, 3) := by decide +kernel
theorem dX12_pointBest_50 : decode cX12_pointBest 50 = .ok (.aload_n 0, 1) := by decide +kernel
theorem dX12_pointBest_51 : decode cX12_pointBest 51 = .ok (.aload_n 0, 1) := by decide +kernel
theorem dX12_pointBest_52 : decode cX12_pointBest 52 = .ok (.getfield 29, 3) := by decide +kernel
theorem dX12_pointBest_55 : decode cX12_pointBest 55 = .ok (.invokevirtual 367, 3) := by decide +kernel
theorem dX12_pointBest_58 : decode cX12_pointBest 58 = .ok (.ireturn, 1) := by decide +kernel
theorem dX12_pointPower_0 : decode cX12_pointPower 0 = .ok (.aload_n 0, 1) := by decide +kernel
theorem dX12_pointPower_1 : decode cX12_pointPower 1 = .ok (.aload_n 0, 1) := by decide +kernel
theorem dX12_pointPower_2 : decode cX12_pointPower 2 = .ok (.iload_n 1, 1) := by decide +kernel
theorem dX12_pointPower_3 : decode cX12_pointPower 3 = .ok (.invokevirtual 344, 3) := by decide +kernel
theorem dX12_pointPower_6 : decode cX12_pointPower 6 = .ok (.ifCond .eq 15, 3) := by decide +kernel
theorem dX12_pointPower_9 : decode cX12_pointPower 9 = .ok (.aload_n 0, 1) := by decide +kernel
theorem dX12_pointPower_10 : decode cX12_pointPower 10 = .ok (.iload_n 2, 1) := by decide +kernel
theorem dX12_pointPower_11 : decode cX12_pointPower 11 = .ok (.invokevirtual 344, 3) := by decide +kernel
theorem dX12_pointPower_14 : decode cX12_pointPower 14 = .ok (.ifCond .eq 7, 3) := by decide +kernel
theorem dX12_pointPower_17 : decode cX12_pointPower 17 = .ok (.iconst 1, 1) := by decide +kernel
theorem dX12_pointPower_18 : decode cX12_pointPower 18 = .ok (.goto 4, 3) := by decide +kernel
theorem dX12_pointPower_21 : decode cX12_pointPower 21 = .ok (.iconst 0, 1) := by decide +kernel
theorem dX12_pointPower_22 : decode cX12_pointPower 22 = .ok (.invokevirtual 340, 3) := by decide +kernel
theorem dX12_pointPower_25 : decode cX12_pointPower 25 = .ok (.ifCond .ne 5, 3) := by decide +kernel
theorem dX12_pointPower_28 : decode cX12_pointPower 28 = .ok (.lconst 0, 1) := by decide +kernel
theorem dX12_pointPower_29 : decode cX12_pointPower 29 = .ok (.lreturn, 1) := by decide +kernel
theorem dX12_pointPower_30 : decode cX12_pointPower 30 = .ok (.iload_n 3, 1) := by decide +kernel
theorem dX12_pointPower_31 : decode cX12_pointPower 31 = .ok (.invokestatic 382, 3) := by decide +kernel
theorem dX12_pointPower_34 : decode cX12_pointPower 34 = .ok (.ifCond .ne 10, 3) := by decide +kernel
theorem dX12_pointPower_37 : decode cX12_pointPower 37 = .ok (.aload_n 0, 1) := by decide +kernel
theorem dX12_pointPower_38 : decode cX12_pointPower 38 = .ok (.iconst 3, 1) := by decide +kernel
theorem dX12_pointPower_39 : decode cX12_pointPower 39 = .ok (.invokevirtual 227, 3) := by decide +kernel
theorem dX12_pointPower_42 : decode cX12_pointPower 42 = .ok (.i2l, 1) := by decide +kernel
theorem dX12_pointPower_43 : decode cX12_pointPower 43 = .ok (.lreturn, 1) := by decide +kernel
theorem dX12_pointPower_44 : decode cX12_pointPower 44 = .ok (.aload_n 0, 1) := by decide +kernel
theorem dX12_pointPower_45 : decode cX12_pointPower 45 = .ok (.getfield 23, 3) := by decide +kernel
theorem dX12_pointPower_48 : decode cX12_pointPower 48 = .ok (.iconst 0, 1) := by decide +kernel
theorem dX12_pointPower_49 : decode cX12_pointPower 49 = .ok (.aload_n 0, 1) := by decide +kernel
theorem dX12_pointPower_50 : decode cX12_pointPower 50 = .ok (.getfield 29, 3) := by decide +kernel
theorem dX12_pointPower_53 : decode cX12_pointPower 53 = .ok (.iconst 0, 1) := by decide +kernel
theorem dX12_pointPower_54 : decode cX12_pointPower 54 = .ok (.invokestatic 233, 3) := by decide +kernel
theorem dX12_pointPower_57 : decode cX12_pointPower 57 = .ok (.aload_n 0, 1) := by decide +kernel
theorem dX12_pointPower_58 : decode cX12_pointPower 58 = .ok (.aload_n 0, 1) := by decide +kernel
theorem dX12_pointPower_59 : decode cX12_pointPower 59 = .ok (.getfield 29, 3) := by decide +kernel
theorem dX12_pointPower_62 : decode cX12_pointPower 62 = .ok (.iload_n 1, 1) := by decide +kernel
theorem dX12_pointPower_63 : decode cX12_pointPower 63 = .ok (.iload_n 3, 1) := by decide +kernel
theorem dX12_pointPower_64 : decode cX12_pointPower 64 = .ok (.invokevirtual 444, 3) := by decide +kernel
theorem dX12_pointPower_67 : decode cX12_pointPower 67 = .ok (.aload_n 0, 1) := by decide +kernel
theorem dX12_pointPower_68 : decode cX12_pointPower 68 = .ok (.aload_n 0, 1) := by decide +kernel
theorem dX12_pointPower_69 : decode cX12_pointPower 69 = .ok (.getfield 29, 3) := by decide +kernel
theorem dX12_pointPower_72 : decode cX12_pointPower 72 = .ok (.iload_n 2, 1) := by decide +kernel
theorem dX12_pointPower_73 : decode cX12_pointPower 73 = .ok (.invokevirtual 327, 3) := by decide +kernel
theorem dX12_pointPower_76 : decode cX12_pointPower 76 = .ok (.lreturn, 1) := by decide +kernel
theorem dX12_bestWithout_0 : decode cX12_bestWithout 0 = .ok (.aload_n 0, 1) := by decide +kernel
theorem dX12_bestWithout_1 : decode cX12_bestWithout 1 = .ok (.aload_n 0, 1) := by decide +kernel
theorem dX12_bestWithout_2 : decode cX12_bestWithout 2 = .ok (.iload_n 1, 1) := by decide +kernel
theorem dX12_bestWithout_3 : decode cX12_bestWithout 3 = .ok (.invokevirtual 337, 3) := by decide +kernel
theorem dX12_bestWithout_6 : decode cX12_bestWithout 6 = .ok (.invokevirtual 340, 3) := by decide +kernel
theorem dX12_bestWithout_9 : decode cX12_bestWithout 9 = .ok (.ifCond .ne 5, 3) := by decide +kernel
theorem dX12_bestWithout_12 : decode cX12_bestWithout 12 = .ok (.iconst 0, 1) := by decide +kernel
theorem dX12_bestWithout_13 : decode cX12_bestWithout 13 = .ok (.ireturn, 1) := by decide +kernel
theorem dX12_bestWithout_14 : decode cX12_bestWithout 14 = .ok (.aload_n 0, 1) := by decide +kernel
theorem dX12_bestWithout_15 : decode cX12_bestWithout 15 = .ok (.getfield 23, 3) := by decide +kernel
theorem dX12_bestWithout_18 : decode cX12_bestWithout 18 = .ok (.iconst 0, 1) := by decide +kernel
theorem dX12_bestWithout_19 : decode cX12_bestWithout 19 = .ok (.aload_n 0, 1) := by decide +kernel
theorem dX12_bestWithout_20 : decode cX12_bestWithout 20 = .ok (.getfield 29, 3) := by decide +kernel
theorem dX12_bestWithout_23 : decode cX12_bestWithout 23 = .ok (.iconst 0, 1) := by decide +kernel
theorem dX12_bestWithout_24 : decode cX12_bestWithout 24 = .ok (.invokestatic 233, 3) := by decide +kernel
theorem dX12_bestWithout_27 : decode cX12_bestWithout 27 = .ok (.aload_n 0, 1) := by decide +kernel
theorem dX12_bestWithout_28 : decode cX12_bestWithout 28 = .ok (.getfield 29, 3) := by decide +kernel
theorem dX12_bestWithout_31 : decode cX12_bestWithout 31 = .ok (.iconst 1, 1) := by decide +kernel
theorem dX12_bestWithout_32 : decode cX12_bestWithout 32 = .ok (.iload_n 1, 1) := by decide +kernel
theorem dX12_bestWithout_33 : decode cX12_bestWithout 33 = .ok (.iadd, 1) := by decide +kernel
theorem dX12_bestWithout_34 : decode cX12_bestWithout 34 = .ok (.iconst 1, 1) := by decide +kernel
theorem dX12_bestWithout_35 : decode cX12_bestWithout 35 = .ok (.iastore, 1) := by decide +kernel
theorem dX12_bestWithout_36 : decode cX12_bestWithout 36 = .ok (.aload_n 0, 1) := by decide +kernel
theorem dX12_bestWithout_37 : decode cX12_bestWithout 37 = .ok (.aload_n 0, 1) := by decide +kernel
theorem dX12_bestWithout_38 : decode cX12_bestWithout 38 = .ok (.getfield 29, 3) := by decide +kernel
theorem dX12_bestWithout_41 : decode cX12_bestWithout 41 = .ok (.invokevirtual 367, 3) := by decide +kernel
theorem dX12_bestWithout_44 : decode cX12_bestWithout 44 = .ok (.ireturn, 1) := by decide +kernel
theorem dX12_bestIfOff_0 : decode cX12_bestIfOff 0 = .ok (.aload_n 0, 1) := by decide +kernel
theorem dX12_bestIfOff_1 : decode cX12_bestIfOff 1 = .ok (.aload_n 0, 1) := by decide +kernel
theorem dX12_bestIfOff_2 : decode cX12_bestIfOff 2 = .ok (.iload_n 1, 1) := by decide +kernel
theorem dX12_bestIfOff_3 : decode cX12_bestIfOff 3 = .ok (.invokevirtual 347, 3) := by decide +kernel
theorem dX12_bestIfOff_6 : decode cX12_bestIfOff 6 = .ok (.invokevirtual 340, 3) := by decide +kernel
theorem dX12_bestIfOff_9 : decode cX12_bestIfOff 9 = .ok (.ifCond .ne 5, 3) := by decide +kernel
theorem dX12_bestIfOff_12 : decode cX12_bestIfOff 12 = .ok (.iconst 0, 1) := by decide +kernel
theorem dX12_bestIfOff_13 : decode cX12_bestIfOff 13 = .ok (.ireturn, 1) := by decide +kernel
theorem dX12_bestIfOff_14 : decode cX12_bestIfOff 14 = .ok (.aload_n 0, 1) := by decide +kernel
theorem dX12_bestIfOff_15 : decode cX12_bestIfOff 15 = .ok (.getfield 23, 3) := by decide +kernel
theorem dX12_bestIfOff_18 : decode cX12_bestIfOff 18 = .ok (.iconst 0, 1) := by decide +kernel
theorem dX12_bestIfOff_19 : decode cX12_bestIfOff 19 = .ok (.aload_n 0, 1) := by decide +kernel
theorem dX12_bestIfOff_20 : decode cX12_bestIfOff 20 = .ok (.getfield 29, 3) := by decide +kernel
theorem dX12_bestIfOff_23 : decode cX12_bestIfOff 23 = .ok (.iconst 0, 1) := by decide +kernel
theorem dX12_bestIfOff_24 : decode cX12_bestIfOff 24 = .ok (.invokestatic 233, 3) := by decide +kernel
theorem dX12_bestIfOff_27 : decode cX12_bestIfOff 27 = .ok (.aload_n 0, 1) := by decide +kernel
theorem dX12_bestIfOff_28 : decode cX12_bestIfOff 28 = .ok (.getfield 29, 3) := by decide +kernel
theorem dX12_bestIfOff_31 : decode cX12_bestIfOff 31 = .ok (.bipush 25, 2) := by decide +kernel
theorem dX12_bestIfOff_33 : decode cX12_bestIfOff 33 = .ok (.iload_n 1, 1) := by decide +kernel
theorem dX12_bestIfOff_34 : decode cX12_bestIfOff 34 = .ok (.iadd, 1) := by decide +kernel
theorem dX12_bestIfOff_35 : decode cX12_bestIfOff 35 = .ok (.iconst 0, 1) := by decide +kernel
theorem dX12_bestIfOff_36 : decode cX12_bestIfOff 36 = .ok (.iastore, 1) := by decide +kernel
theorem dX12_bestIfOff_37 : decode cX12_bestIfOff 37 = .ok (.aload_n 0, 1) := by decide +kernel
theorem dX12_bestIfOff_38 : decode cX12_bestIfOff 38 = .ok (.aload_n 0, 1) := by decide +kernel
theorem dX12_bestIfOff_39 : decode cX12_bestIfOff 39 = .ok (.getfield 29, 3) := by decide +kernel
theorem dX12_bestIfOff_42 : decode cX12_bestIfOff 42 = .ok (.invokevirtual 247, 3) := by decide +kernel
theorem dX12_bestIfOff_45 : decode cX12_bestIfOff 45 = .ok (.aload_n 0, 1) := by decide +kernel
theorem dX12_bestIfOff_46 : decode cX12_bestIfOff 46 = .ok (.aload_n 0, 1) := by decide +kernel
theorem dX12_bestIfOff_47 : decode cX12_bestIfOff 47 = .ok (.getfield 29, 3) := by decide +kernel
theorem dX12_bestIfOff_50 : decode cX12_bestIfOff 50 = .ok (.invokevirtual 367, 3) := by decide +kernel
theorem dX12_bestIfOff_53 : decode cX12_bestIfOff 53 = .ok (.ireturn, 1) := by decide +kernel
theorem dX12_sets_0 : decode cX12_sets 0 = .ok (.aload_n 0, 1) := by decide +kernel
theorem dX12_sets_1 : decode cX12_sets 1 = .ok (.invokevirtual 448, 3) := by decide +kernel
theorem dX12_sets_4 : decode cX12_sets 4 = .ok (.aload_n 0, 1) := by decide +kernel
theorem dX12_sets_5 : decode cX12_sets 5 = .ok (.getfield 23, 3) := by decide +kernel
theorem dX12_sets_8 : decode cX12_sets 8 = .ok (.iload_n 1, 1) := by decide +kernel
theorem dX12_sets_9 : decode cX12_sets 9 = .ok (.iaload, 1) := by decide +kernel
theorem dX12_sets_10 : decode cX12_sets 10 = .ok (.istore_n 3, 1) := by decide +kernel
theorem dX12_sets_11 : decode cX12_sets 11 = .ok (.aload_n 0, 1) := by decide +kernel
theorem dX12_sets_12 : decode cX12_sets 12 = .ok (.getfield 23, 3) := by decide +kernel
theorem dX12_sets_15 : decode cX12_sets 15 = .ok (.iload_n 1, 1) := by decide +kernel
theorem dX12_sets_16 : decode cX12_sets 16 = .ok (.iload_n 2, 1) := by decide +kernel
theorem dX12_sets_17 : decode cX12_sets 17 = .ok (.iastore, 1) := by decide +kernel
theorem dX12_sets_18 : decode cX12_sets 18 = .ok (.iload_n 3, 1) := by decide +kernel
theorem dX12_sets_19 : decode cX12_sets 19 = .ok (.ireturn, 1) := by decide +kernel
theorem dX12_mute_0 : decode cX12_mute 0 = .ok (.aload_n 0, 1) := by decide +kernel
theorem dX12_mute_1 : decode cX12_mute 1 = .ok (.aload_n 0, 1) := by decide +kernel
theorem dX12_mute_2 : decode cX12_mute 2 = .ok (.iload_n 1, 1) := by decide +kernel
theorem dX12_mute_3 : decode cX12_mute 3 = .ok (.invokevirtual 337, 3) := by decide +kernel
theorem dX12_mute_6 : decode cX12_mute 6 = .ok (.invokevirtual 340, 3) := by decide +kernel
theorem dX12_mute_9 : decode cX12_mute 9 = .ok (.ifCond .eq 27, 3) := by decide +kernel
theorem dX12_mute_12 : decode cX12_mute 12 = .ok (.aload_n 0, 1) := by decide +kernel
theorem dX12_mute_13 : decode cX12_mute 13 = .ok (.iconst 1, 1) := by decide +kernel
theorem dX12_mute_14 : decode cX12_mute 14 = .ok (.iload_n 1, 1) := by decide +kernel
theorem dX12_mute_15 : decode cX12_mute 15 = .ok (.iadd, 1) := by decide +kernel
theorem dX12_mute_16 : decode cX12_mute 16 = .ok (.iload_n 2, 1) := by decide +kernel
theorem dX12_mute_17 : decode cX12_mute 17 = .ok (.ifCond .eq 7, 3) := by decide +kernel
theorem dX12_mute_20 : decode cX12_mute 20 = .ok (.iconst 1, 1) := by decide +kernel
theorem dX12_mute_21 : decode cX12_mute 21 = .ok (.goto 4, 3) := by decide +kernel
theorem dX12_mute_24 : decode cX12_mute 24 = .ok (.iconst 0, 1) := by decide +kernel
theorem dX12_mute_25 : decode cX12_mute 25 = .ok (.invokevirtual 451, 3) := by decide +kernel
theorem dX12_mute_28 : decode cX12_mute 28 = .ok (.iconst 1, 1) := by decide +kernel
theorem dX12_mute_29 : decode cX12_mute 29 = .ok (.if_icmp .ne 7, 3) := by decide +kernel
theorem dX12_mute_32 : decode cX12_mute 32 = .ok (.iconst 1, 1) := by decide +kernel
theorem dX12_mute_33 : decode cX12_mute 33 = .ok (.goto 4, 3) := by decide +kernel
theorem dX12_mute_36 : decode cX12_mute 36 = .ok (.iconst 0, 1) := by decide +kernel
theorem dX12_mute_37 : decode cX12_mute 37 = .ok (.ireturn, 1) := by decide +kernel
theorem dX12_setWeight_0 : decode cX12_setWeight 0 = .ok (.aload_n 0, 1) := by decide +kernel
theorem dX12_setWeight_1 : decode cX12_setWeight 1 = .ok (.aload_n 0, 1) := by decide +kernel
theorem dX12_setWeight_2 : decode cX12_setWeight 2 = .ok (.iload_n 1, 1) := by decide +kernel
theorem dX12_setWeight_3 : decode cX12_setWeight 3 = .ok (.invokevirtual 337, 3) := by decide +kernel
theorem dX12_setWeight_6 : decode cX12_setWeight 6 = .ok (.invokevirtual 340, 3) := by decide +kernel
theorem dX12_setWeight_9 : decode cX12_setWeight 9 = .ok (.ifCond .ne 5, 3) := by decide +kernel
theorem dX12_setWeight_12 : decode cX12_setWeight 12 = .ok (.iconst 0, 1) := by decide +kernel
theorem dX12_setWeight_13 : decode cX12_setWeight 13 = .ok (.ireturn, 1) := by decide +kernel
theorem dX12_setWeight_14 : decode cX12_setWeight 14 = .ok (.iload_n 2, 1) := by decide +kernel
theorem dX12_setWeight_15 : decode cX12_setWeight 15 = .ok (.iconst 0, 1) := by decide +kernel
theorem dX12_setWeight_16 : decode cX12_setWeight 16 = .ok (.bipush 9, 2) := by decide +kernel
theorem dX12_setWeight_18 : decode cX12_setWeight 18 = .ok (.invokestatic 96, 3) := by decide +kernel
theorem dX12_setWeight_21 : decode cX12_setWeight 21 = .ok (.ifCond .eq 15, 3) := by decide +kernel
theorem dX12_setWeight_24 : decode cX12_setWeight 24 = .ok (.aload_n 0, 1) := by decide +kernel
theorem dX12_setWeight_25 : decode cX12_setWeight 25 = .ok (.bipush 13, 2) := by decide +kernel
theorem dX12_setWeight_27 : decode cX12_setWeight 27 = .ok (.iload_n 1, 1) := by decide +kernel
theorem dX12_setWeight_28 : decode cX12_setWeight 28 = .ok (.iadd, 1) := by decide +kernel
theorem dX12_setWeight_29 : decode cX12_setWeight 29 = .ok (.iload_n 2, 1) := by decide +kernel
theorem dX12_setWeight_30 : decode cX12_setWeight 30 = .ok (.invokevirtual 451, 3) := by decide +kernel
theorem dX12_setWeight_33 : decode cX12_setWeight 33 = .ok (.goto 8, 3) := by decide +kernel
theorem dX12_setWeight_36 : decode cX12_setWeight 36 = .ok (.aload_n 0, 1) := by decide +kernel
theorem dX12_setWeight_37 : decode cX12_setWeight 37 = .ok (.iconst 3, 1) := by decide +kernel
theorem dX12_setWeight_38 : decode cX12_setWeight 38 = .ok (.invokevirtual 227, 3) := by decide +kernel
theorem dX12_setWeight_41 : decode cX12_setWeight 41 = .ok (.ireturn, 1) := by decide +kernel
theorem dX12_setOn_0 : decode cX12_setOn 0 = .ok (.aload_n 0, 1) := by decide +kernel
theorem dX12_setOn_1 : decode cX12_setOn 1 = .ok (.aload_n 0, 1) := by decide +kernel
theorem dX12_setOn_2 : decode cX12_setOn 2 = .ok (.iload_n 1, 1) := by decide +kernel
theorem dX12_setOn_3 : decode cX12_setOn 3 = .ok (.invokevirtual 347, 3) := by decide +kernel
theorem dX12_setOn_6 : decode cX12_setOn 6 = .ok (.invokevirtual 340, 3) := by decide +kernel
theorem dX12_setOn_9 : decode cX12_setOn 9 = .ok (.ifCond .ne 5, 3) := by decide +kernel
theorem dX12_setOn_12 : decode cX12_setOn 12 = .ok (.iconst 0, 1) := by decide +kernel
theorem dX12_setOn_13 : decode cX12_setOn 13 = .ok (.ireturn, 1) := by decide +kernel
theorem dX12_setOn_14 : decode cX12_setOn 14 = .ok (.aload_n 0, 1) := by decide +kernel
theorem dX12_setOn_15 : decode cX12_setOn 15 = .ok (.bipush 25, 2) := by decide +kernel
theorem dX12_setOn_17 : decode cX12_setOn 17 = .ok (.iload_n 1, 1) := by decide +kernel
theorem dX12_setOn_18 : decode cX12_setOn 18 = .ok (.iadd, 1) := by decide +kernel
theorem dX12_setOn_19 : decode cX12_setOn 19 = .ok (.iload_n 2, 1) := by decide +kernel
theorem dX12_setOn_20 : decode cX12_setOn 20 = .ok (.ifCond .eq 7, 3) := by decide +kernel
theorem dX12_setOn_23 : decode cX12_setOn 23 = .ok (.iconst 1, 1) := by decide +kernel
theorem dX12_setOn_24 : decode cX12_setOn 24 = .ok (.goto 4, 3) := by decide +kernel
theorem dX12_setOn_27 : decode cX12_setOn 27 = .ok (.iconst 0, 1) := by decide +kernel
theorem dX12_setOn_28 : decode cX12_setOn 28 = .ok (.invokevirtual 451, 3) := by decide +kernel
theorem dX12_setOn_31 : decode cX12_setOn 31 = .ok (.istore_n 3, 1) := by decide +kernel
theorem dX12_setOn_32 : decode cX12_setOn 32 = .ok (.aload_n 0, 1) := by decide +kernel
theorem dX12_setOn_33 : decode cX12_setOn 33 = .ok (.aload_n 0, 1) := by decide +kernel
theorem dX12_setOn_34 : decode cX12_setOn 34 = .ok (.getfield 23, 3) := by decide +kernel
theorem dX12_setOn_37 : decode cX12_setOn 37 = .ok (.invokevirtual 247, 3) := by decide +kernel
theorem dX12_setOn_40 : decode cX12_setOn 40 = .ok (.iload_n 3, 1) := by decide +kernel
theorem dX12_setOn_41 : decode cX12_setOn 41 = .ok (.iconst 1, 1) := by decide +kernel
theorem dX12_setOn_42 : decode cX12_setOn 42 = .ok (.if_icmp .ne 7, 3) := by decide +kernel
theorem dX12_setOn_45 : decode cX12_setOn 45 = .ok (.iconst 1, 1) := by decide +kernel
theorem dX12_setOn_46 : decode cX12_setOn 46 = .ok (.goto 4, 3) := by decide +kernel
theorem dX12_setOn_49 : decode cX12_setOn 49 = .ok (.iconst 0, 1) := by decide +kernel
theorem dX12_setOn_50 : decode cX12_setOn 50 = .ok (.ireturn, 1) := by decide +kernel
theorem dX12_setsTwo_0 : decode cX12_setsTwo 0 = .ok (.aload_n 0, 1) := by decide +kernel
theorem dX12_setsTwo_1 : decode cX12_setsTwo 1 = .ok (.iload_n 1, 1) := by decide +kernel
theorem dX12_setsTwo_2 : decode cX12_setsTwo 2 = .ok (.iload_n 2, 1) := by decide +kernel
theorem dX12_setsTwo_3 : decode cX12_setsTwo 3 = .ok (.invokevirtual 451, 3) := by decide +kernel
theorem dX12_setsTwo_6 : decode cX12_setsTwo 6 = .ok (.istore 4, 2) := by decide +kernel
theorem dX12_setsTwo_8 : decode cX12_setsTwo 8 = .ok (.aload_n 0, 1) := by decide +kernel
theorem dX12_setsTwo_9 : decode cX12_setsTwo 9 = .ok (.getfield 23, 3) := by decide +kernel
theorem dX12_setsTwo_12 : decode cX12_setsTwo 12 = .ok (.iload_n 1, 1) := by decide +kernel
theorem dX12_setsTwo_13 : decode cX12_setsTwo 13 = .ok (.bipush 6, 2) := by decide +kernel
theorem dX12_setsTwo_15 : decode cX12_setsTwo 15 = .ok (.iadd, 1) := by decide +kernel
theorem dX12_setsTwo_16 : decode cX12_setsTwo 16 = .ok (.iload_n 3, 1) := by decide +kernel
theorem dX12_setsTwo_17 : decode cX12_setsTwo 17 = .ok (.iastore, 1) := by decide +kernel
theorem dX12_setsTwo_18 : decode cX12_setsTwo 18 = .ok (.aload_n 0, 1) := by decide +kernel
theorem dX12_setsTwo_19 : decode cX12_setsTwo 19 = .ok (.aload_n 0, 1) := by decide +kernel
theorem dX12_setsTwo_20 : decode cX12_setsTwo 20 = .ok (.getfield 23, 3) := by decide +kernel
theorem dX12_setsTwo_23 : decode cX12_setsTwo 23 = .ok (.invokevirtual 247, 3) := by decide +kernel
theorem dX12_setsTwo_26 : decode cX12_setsTwo 26 = .ok (.aload_n 0, 1) := by decide +kernel
theorem dX12_setsTwo_27 : decode cX12_setsTwo 27 = .ok (.aload_n 0, 1) := by decide +kernel
theorem dX12_setsTwo_28 : decode cX12_setsTwo 28 = .ok (.getfield 23, 3) := by decide +kernel
theorem dX12_setsTwo_31 : decode cX12_setsTwo 31 = .ok (.invokevirtual 367, 3) := by decide +kernel
theorem dX12_setsTwo_34 : decode cX12_setsTwo 34 = .ok (.ireturn, 1) := by decide +kernel
theorem dX12_moveSource_0 : decode cX12_moveSource 0 = .ok (.aload_n 0, 1) := by decide +kernel
theorem dX12_moveSource_1 : decode cX12_moveSource 1 = .ok (.aload_n 0, 1) := by decide +kernel
theorem dX12_moveSource_2 : decode cX12_moveSource 2 = .ok (.iload_n 1, 1) := by decide +kernel
theorem dX12_moveSource_3 : decode cX12_moveSource 3 = .ok (.invokevirtual 347, 3) := by decide +kernel
theorem dX12_moveSource_6 : decode cX12_moveSource 6 = .ok (.invokevirtual 340, 3) := by decide +kernel
theorem dX12_moveSource_9 : decode cX12_moveSource 9 = .ok (.ifCond .ne 5, 3) := by decide +kernel
theorem dX12_moveSource_12 : decode cX12_moveSource 12 = .ok (.iconst 0, 1) := by decide +kernel
theorem dX12_moveSource_13 : decode cX12_moveSource 13 = .ok (.ireturn, 1) := by decide +kernel
theorem dX12_moveSource_14 : decode cX12_moveSource 14 = .ok (.iload_n 2, 1) := by decide +kernel
theorem dX12_moveSource_15 : decode cX12_moveSource 15 = .ok (.sipush (-2000), 3) := by decide +kernel
theorem dX12_moveSource_18 : decode cX12_moveSource 18 = .ok (.sipush 2000, 3) := by decide +kernel
theorem dX12_moveSource_21 : decode cX12_moveSource 21 = .ok (.invokestatic 96, 3) := by decide +kernel
theorem dX12_moveSource_24 : decode cX12_moveSource 24 = .ok (.ifCond .eq 29, 3) := by decide +kernel
theorem dX12_moveSource_27 : decode cX12_moveSource 27 = .ok (.iload_n 3, 1) := by decide +kernel
theorem dX12_moveSource_28 : decode cX12_moveSource 28 = .ok (.sipush (-2000), 3) := by decide +kernel
theorem dX12_moveSource_31 : decode cX12_moveSource 31 = .ok (.sipush 2000, 3) := by decide +kernel
theorem dX12_moveSource_34 : decode cX12_moveSource 34 = .ok (.invokestatic 96, 3) := by decide +kernel
theorem dX12_moveSource_37 : decode cX12_moveSource 37 = .ok (.ifCond .eq 16, 3) := by decide +kernel
theorem dX12_moveSource_40 : decode cX12_moveSource 40 = .ok (.aload_n 0, 1) := by decide +kernel
theorem dX12_moveSource_41 : decode cX12_moveSource 41 = .ok (.bipush 31, 2) := by decide +kernel
theorem dX12_moveSource_43 : decode cX12_moveSource 43 = .ok (.iload_n 1, 1) := by decide +kernel
theorem dX12_moveSource_44 : decode cX12_moveSource 44 = .ok (.iadd, 1) := by decide +kernel
theorem dX12_moveSource_45 : decode cX12_moveSource 45 = .ok (.iload_n 2, 1) := by decide +kernel
theorem dX12_moveSource_46 : decode cX12_moveSource 46 = .ok (.iload_n 3, 1) := by decide +kernel
theorem dX12_moveSource_47 : decode cX12_moveSource 47 = .ok (.invokevirtual 454, 3) := by decide +kernel
theorem dX12_moveSource_50 : decode cX12_moveSource 50 = .ok (.goto 8, 3) := by decide +kernel
theorem dX12_moveSource_53 : decode cX12_moveSource 53 = .ok (.aload_n 0, 1) := by decide +kernel
theorem dX12_moveSource_54 : decode cX12_moveSource 54 = .ok (.iconst 3, 1) := by decide +kernel
theorem dX12_moveSource_55 : decode cX12_moveSource 55 = .ok (.invokevirtual 227, 3) := by decide +kernel
theorem dX12_moveSource_58 : decode cX12_moveSource 58 = .ok (.ireturn, 1) := by decide +kernel
theorem dX12_setVelocity_0 : decode cX12_setVelocity 0 = .ok (.aload_n 0, 1) := by decide +kernel
theorem dX12_setVelocity_1 : decode cX12_setVelocity 1 = .ok (.aload_n 0, 1) := by decide +kernel
theorem dX12_setVelocity_2 : decode cX12_setVelocity 2 = .ok (.iload_n 1, 1) := by decide +kernel
theorem dX12_setVelocity_3 : decode cX12_setVelocity 3 = .ok (.invokevirtual 347, 3) := by decide +kernel
theorem dX12_setVelocity_6 : decode cX12_setVelocity 6 = .ok (.invokevirtual 340, 3) := by decide +kernel
theorem dX12_setVelocity_9 : decode cX12_setVelocity 9 = .ok (.ifCond .ne 5, 3) := by decide +kernel
theorem dX12_setVelocity_12 : decode cX12_setVelocity 12 = .ok (.iconst 0, 1) := by decide +kernel
theorem dX12_setVelocity_13 : decode cX12_setVelocity 13 = .ok (.ireturn, 1) := by decide +kernel
theorem dX12_setVelocity_14 : decode cX12_setVelocity 14 = .ok (.iload_n 2, 1) := by decide +kernel
theorem dX12_setVelocity_15 : decode cX12_setVelocity 15 = .ok (.iload_n 3, 1) := by decide +kernel
theorem dX12_setVelocity_16 : decode cX12_setVelocity 16 = .ok (.invokestatic 426, 3) := by decide +kernel
theorem dX12_setVelocity_19 : decode cX12_setVelocity 19 = .ok (.ifCond .eq 16, 3) := by decide +kernel
theorem dX12_setVelocity_22 : decode cX12_setVelocity 22 = .ok (.aload_n 0, 1) := by decide +kernel
theorem dX12_setVelocity_23 : decode cX12_setVelocity 23 = .ok (.bipush 43, 2) := by decide +kernel
theorem dX12_setVelocity_25 : decode cX12_setVelocity 25 = .ok (.iload_n 1, 1) := by decide +kernel
theorem dX12_setVelocity_26 : decode cX12_setVelocity 26 = .ok (.iadd, 1) := by decide +kernel
theorem dX12_setVelocity_27 : decode cX12_setVelocity 27 = .ok (.iload_n 2, 1) := by decide +kernel
theorem dX12_setVelocity_28 : decode cX12_setVelocity 28 = .ok (.iload_n 3, 1) := by decide +kernel
theorem dX12_setVelocity_29 : decode cX12_setVelocity 29 = .ok (.invokevirtual 454, 3) := by decide +kernel
theorem dX12_setVelocity_32 : decode cX12_setVelocity 32 = .ok (.goto 8, 3) := by decide +kernel
theorem dX12_setVelocity_35 : decode cX12_setVelocity 35 = .ok (.aload_n 0, 1) := by decide +kernel
theorem dX12_setVelocity_36 : decode cX12_setVelocity 36 = .ok (.iconst 3, 1) := by decide +kernel
theorem dX12_setVelocity_37 : decode cX12_setVelocity 37 = .ok (.invokevirtual 227, 3) := by decide +kernel
theorem dX12_setVelocity_40 : decode cX12_setVelocity 40 = .ok (.ireturn, 1) := by decide +kernel
theorem dX12_weightOf_0 : decode cX12_weightOf 0 = .ok (.iconst 0, 1) := by decide +kernel
theorem dX12_weightOf_1 : decode cX12_weightOf 1 = .ok (.istore_n 1, 1) := by decide +kernel
theorem dX12_weightOf_2 : decode cX12_weightOf 2 = .ok (.iconst 0, 1) := by decide +kernel
theorem dX12_weightOf_3 : decode cX12_weightOf 3 = .ok (.istore_n 2, 1) := by decide +kernel
theorem dX12_weightOf_4 : decode cX12_weightOf 4 = .ok (.iload_n 2, 1) := by decide +kernel
theorem dX12_weightOf_5 : decode cX12_weightOf 5 = .ok (.aload_n 0, 1) := by decide +kernel
theorem dX12_weightOf_6 : decode cX12_weightOf 6 = .ok (.getfield 17, 3) := by decide +kernel
theorem dX12_weightOf_9 : decode cX12_weightOf 9 = .ok (.iconst 4, 1) := by decide +kernel
theorem dX12_weightOf_10 : decode cX12_weightOf 10 = .ok (.iaload, 1) := by decide +kernel
theorem dX12_weightOf_11 : decode cX12_weightOf 11 = .ok (.if_icmp .ge 37, 3) := by decide +kernel
theorem dX12_weightOf_14 : decode cX12_weightOf 14 = .ok (.iload_n 1, 1) := by decide +kernel
theorem dX12_weightOf_15 : decode cX12_weightOf 15 = .ok (.aload_n 0, 1) := by decide +kernel
theorem dX12_weightOf_16 : decode cX12_weightOf 16 = .ok (.aload_n 0, 1) := by decide +kernel
theorem dX12_weightOf_17 : decode cX12_weightOf 17 = .ok (.getfield 23, 3) := by decide +kernel
theorem dX12_weightOf_20 : decode cX12_weightOf 20 = .ok (.iload_n 2, 1) := by decide +kernel
theorem dX12_weightOf_21 : decode cX12_weightOf 21 = .ok (.invokevirtual 304, 3) := by decide +kernel
theorem dX12_weightOf_24 : decode cX12_weightOf 24 = .ok (.ifCond .eq 15, 3) := by decide +kernel
theorem dX12_weightOf_27 : decode cX12_weightOf 27 = .ok (.aload_n 0, 1) := by decide +kernel
theorem dX12_weightOf_28 : decode cX12_weightOf 28 = .ok (.getfield 23, 3) := by decide +kernel
theorem dX12_weightOf_31 : decode cX12_weightOf 31 = .ok (.bipush 13, 2) := by decide +kernel
theorem dX12_weightOf_33 : decode cX12_weightOf 33 = .ok (.iload_n 2, 1) := by decide +kernel
theorem dX12_weightOf_34 : decode cX12_weightOf 34 = .ok (.iadd, 1) := by decide +kernel
theorem dX12_weightOf_35 : decode cX12_weightOf 35 = .ok (.iaload, 1) := by decide +kernel
theorem dX12_weightOf_36 : decode cX12_weightOf 36 = .ok (.goto 4, 3) := by decide +kernel
theorem dX12_weightOf_39 : decode cX12_weightOf 39 = .ok (.iconst 0, 1) := by decide +kernel
theorem dX12_weightOf_40 : decode cX12_weightOf 40 = .ok (.iadd, 1) := by decide +kernel
theorem dX12_weightOf_41 : decode cX12_weightOf 41 = .ok (.istore_n 1, 1) := by decide +kernel
theorem dX12_weightOf_42 : decode cX12_weightOf 42 = .ok (.iinc 2 1, 3) := by decide +kernel
theorem dX12_weightOf_45 : decode cX12_weightOf 45 = .ok (.goto (-41), 3) := by decide +kernel
theorem dX12_weightOf_48 : decode cX12_weightOf 48 = .ok (.iload_n 1, 1) := by decide +kernel
theorem dX12_weightOf_49 : decode cX12_weightOf 49 = .ok (.ireturn, 1) := by decide +kernel
theorem dX12_clean_0 : decode cX12_clean 0 = .ok (.aload_n 0, 1) := by decide +kernel
theorem dX12_clean_1 : decode cX12_clean 1 = .ok (.aload_n 0, 1) := by decide +kernel
theorem dX12_clean_2 : decode cX12_clean 2 = .ok (.getfield 251, 3) := by decide +kernel
theorem dX12_clean_5 : decode cX12_clean 5 = .ok (.ifCond .eq 10, 3) := by decide +kernel
theorem dX12_clean_8 : decode cX12_clean 8 = .ok (.aload_n 0, 1) := by decide +kernel
theorem dX12_clean_9 : decode cX12_clean 9 = .ok (.invokevirtual 457, 3) := by decide +kernel
theorem dX12_clean_12 : decode cX12_clean 12 = .ok (.ifCond .ne 7, 3) := by decide +kernel
theorem dX12_clean_15 : decode cX12_clean 15 = .ok (.iconst 1, 1) := by decide +kernel
theorem dX12_clean_16 : decode cX12_clean 16 = .ok (.goto 18, 3) := by decide +kernel
theorem dX12_clean_19 : decode cX12_clean 19 = .ok (.iload_n 1, 1) := by decide +kernel
theorem dX12_clean_20 : decode cX12_clean 20 = .ok (.iconst 1, 1) := by decide +kernel
theorem dX12_clean_21 : decode cX12_clean 21 = .ok (.bipush 100, 2) := by decide +kernel
theorem dX12_clean_23 : decode cX12_clean 23 = .ok (.invokestatic 96, 3) := by decide +kernel
theorem dX12_clean_26 : decode cX12_clean 26 = .ok (.ifCond .eq 7, 3) := by decide +kernel
theorem dX12_clean_29 : decode cX12_clean 29 = .ok (.iconst 0, 1) := by decide +kernel
theorem dX12_clean_30 : decode cX12_clean 30 = .ok (.goto 4, 3) := by decide +kernel
theorem dX12_clean_33 : decode cX12_clean 33 = .ok (.iconst 2, 1) := by decide +kernel
theorem dX12_clean_34 : decode cX12_clean 34 = .ok (.putfield 67, 3) := by decide +kernel
theorem dX12_clean_37 : decode cX12_clean 37 = .ok (.aload_n 0, 1) := by decide +kernel
theorem dX12_clean_38 : decode cX12_clean 38 = .ok (.getfield 67, 3) := by decide +kernel
theorem dX12_clean_41 : decode cX12_clean 41 = .ok (.ifCond .le 5, 3) := by decide +kernel
theorem dX12_clean_44 : decode cX12_clean 44 = .ok (.iconst 0, 1) := by decide +kernel
theorem dX12_clean_45 : decode cX12_clean 45 = .ok (.ireturn, 1) := by decide +kernel
theorem dX12_clean_46 : decode cX12_clean 46 = .ok (.aload_n 0, 1) := by decide +kernel
theorem dX12_clean_47 : decode cX12_clean 47 = .ok (.invokevirtual 448, 3) := by decide +kernel
theorem dX12_clean_50 : decode cX12_clean 50 = .ok (.aload_n 0, 1) := by decide +kernel
theorem dX12_clean_51 : decode cX12_clean 51 = .ok (.aload_n 0, 1) := by decide +kernel
theorem dX12_clean_52 : decode cX12_clean 52 = .ok (.getfield 23, 3) := by decide +kernel
theorem dX12_clean_55 : decode cX12_clean 55 = .ok (.invokevirtual 367, 3) := by decide +kernel
theorem dX12_clean_58 : decode cX12_clean 58 = .ok (.istore_n 2, 1) := by decide +kernel
theorem dX12_clean_59 : decode cX12_clean 59 = .ok (.aload_n 0, 1) := by decide +kernel
theorem dX12_clean_60 : decode cX12_clean 60 = .ok (.iload_n 2, 1) := by decide +kernel
theorem dX12_clean_61 : decode cX12_clean 61 = .ok (.invokevirtual 320, 3) := by decide +kernel
theorem dX12_clean_64 : decode cX12_clean 64 = .ok (.aload_n 0, 1) := by decide +kernel
theorem dX12_clean_65 : decode cX12_clean 65 = .ok (.aload_n 0, 1) := by decide +kernel
theorem dX12_clean_66 : decode cX12_clean 66 = .ok (.getfield 23, 3) := by decide +kernel
theorem dX12_clean_69 : decode cX12_clean 69 = .ok (.invokevirtual 312, 3) := by decide +kernel
theorem dX12_clean_72 : decode cX12_clean 72 = .ok (.istore_n 3, 1) := by decide +kernel
theorem dX12_clean_73 : decode cX12_clean 73 = .ok (.iconst 0, 1) := by decide +kernel
theorem dX12_clean_74 : decode cX12_clean 74 = .ok (.istore 4, 2) := by decide +kernel
theorem dX12_clean_76 : decode cX12_clean 76 = .ok (.iload 4, 2) := by decide +kernel
theorem dX12_clean_78 : decode cX12_clean 78 = .ok (.iload_n 3, 1) := by decide +kernel
theorem dX12_clean_79 : decode cX12_clean 79 = .ok (.if_icmp .ge 26, 3) := by decide +kernel
theorem dX12_clean_82 : decode cX12_clean 82 = .ok (.aload_n 0, 1) := by decide +kernel
theorem dX12_clean_83 : decode cX12_clean 83 = .ok (.getfield 64, 3) := by decide +kernel
theorem dX12_clean_86 : decode cX12_clean 86 = .ok (.iload 4, 2) := by decide +kernel
theorem dX12_clean_88 : decode cX12_clean 88 = .ok (.aload_n 0, 1) := by decide +kernel
theorem dX12_clean_89 : decode cX12_clean 89 = .ok (.aload_n 0, 1) := by decide +kernel
theorem dX12_clean_90 : decode cX12_clean 90 = .ok (.getfield 23, 3) := by decide +kernel
theorem dX12_clean_93 : decode cX12_clean 93 = .ok (.iload 4, 2) := by decide +kernel
theorem dX12_clean_95 : decode cX12_clean 95 = .ok (.invokevirtual 308, 3) := by decide +kernel
theorem dX12_clean_98 : decode cX12_clean 98 = .ok (.iastore, 1) := by decide +kernel
theorem dX12_clean_99 : decode cX12_clean 99 = .ok (.iinc 4 1, 3) := by decide +kernel
theorem dX12_clean_102 : decode cX12_clean 102 = .ok (.goto (-26), 3) := by decide +kernel
theorem dX12_clean_105 : decode cX12_clean 105 = .ok (.iconst 0, 1) := by decide +kernel
theorem dX12_clean_106 : decode cX12_clean 106 = .ok (.istore 4, 2) := by decide +kernel
theorem dX12_clean_108 : decode cX12_clean 108 = .ok (.iload 4, 2) := by decide +kernel
theorem dX12_clean_110 : decode cX12_clean 110 = .ok (.aload_n 0, 1) := by decide +kernel
theorem dX12_clean_111 : decode cX12_clean 111 = .ok (.getfield 17, 3) := by decide +kernel
theorem dX12_clean_114 : decode cX12_clean 114 = .ok (.iconst 4, 1) := by decide +kernel
theorem dX12_clean_115 : decode cX12_clean 115 = .ok (.iaload, 1) := by decide +kernel
theorem dX12_clean_116 : decode cX12_clean 116 = .ok (.if_icmp .ge 86, 3) := by decide +kernel
theorem dX12_clean_119 : decode cX12_clean 119 = .ok (.iconst 0, 1) := by decide +kernel
theorem dX12_clean_120 : decode cX12_clean 120 = .ok (.istore 5, 2) := by decide +kernel
theorem dX12_clean_122 : decode cX12_clean 122 = .ok (.iload 5, 2) := by decide +kernel
theorem dX12_clean_124 : decode cX12_clean 124 = .ok (.iload_n 3, 1) := by decide +kernel
theorem dX12_clean_125 : decode cX12_clean 125 = .ok (.if_icmp .ge 71, 3) := by decide +kernel
theorem dX12_clean_128 : decode cX12_clean 128 = .ok (.aload_n 0, 1) := by decide +kernel
theorem dX12_clean_129 : decode cX12_clean 129 = .ok (.aload_n 0, 1) := by decide +kernel
theorem dX12_clean_130 : decode cX12_clean 130 = .ok (.getfield 23, 3) := by decide +kernel
theorem dX12_clean_133 : decode cX12_clean 133 = .ok (.iload 4, 2) := by decide +kernel
theorem dX12_clean_135 : decode cX12_clean 135 = .ok (.invokevirtual 304, 3) := by decide +kernel
theorem dX12_clean_138 : decode cX12_clean 138 = .ok (.ifCond .eq 58, 3) := by decide +kernel
theorem dX12_clean_141 : decode cX12_clean 141 = .ok (.aload_n 0, 1) := by decide +kernel
theorem dX12_clean_142 : decode cX12_clean 142 = .ok (.getfield 23, 3) := by decide +kernel
theorem dX12_clean_145 : decode cX12_clean 145 = .ok (.bipush 55, 2) := by decide +kernel
theorem dX12_clean_147 : decode cX12_clean 147 = .ok (.sipush 200, 3) := by decide +kernel
theorem dX12_clean_150 : decode cX12_clean 150 = .ok (.iload 4, 2) := by decide +kernel
theorem dX12_clean_152 : decode cX12_clean 152 = .ok (.imul, 1) := by decide +kernel
theorem dX12_clean_153 : decode cX12_clean 153 = .ok (.iadd, 1) := by decide +kernel
theorem dX12_clean_154 : decode cX12_clean 154 = .ok (.iload 5, 2) := by decide +kernel
theorem dX12_clean_156 : decode cX12_clean 156 = .ok (.iadd, 1) := by decide +kernel
theorem dX12_clean_157 : decode cX12_clean 157 = .ok (.aload_n 0, 1) := by decide +kernel
theorem dX12_clean_158 : decode cX12_clean 158 = .ok (.getfield 51, 3) := by decide +kernel
theorem dX12_clean_161 : decode cX12_clean 161 = .ok (.iload 4, 2) := by decide +kernel
theorem dX12_clean_163 : decode cX12_clean 163 = .ok (.iaload, 1) := by decide +kernel
theorem dX12_clean_164 : decode cX12_clean 164 = .ok (.iadd, 1) := by decide +kernel
theorem dX12_clean_165 : decode cX12_clean 165 = .ok (.dup2, 1) := by decide +kernel
theorem dX12_clean_166 : decode cX12_clean 166 = .ok (.iaload, 1) := by decide +kernel
theorem dX12_clean_167 : decode cX12_clean 167 = .ok (.aload_n 0, 1) := by decide +kernel
theorem dX12_clean_168 : decode cX12_clean 168 = .ok (.getfield 64, 3) := by decide +kernel
theorem dX12_clean_171 : decode cX12_clean 171 = .ok (.iload 5, 2) := by decide +kernel
theorem dX12_clean_173 : decode cX12_clean 173 = .ok (.iaload, 1) := by decide +kernel
theorem dX12_clean_174 : decode cX12_clean 174 = .ok (.i2l, 1) := by decide +kernel
theorem dX12_clean_175 : decode cX12_clean 175 = .ok (.iload_n 1, 1) := by decide +kernel
theorem dX12_clean_176 : decode cX12_clean 176 = .ok (.i2l, 1) := by decide +kernel
theorem dX12_clean_177 : decode cX12_clean 177 = .ok (.lmul, 1) := by decide +kernel
theorem dX12_clean_178 : decode cX12_clean 178 = .ok (.bipush 100, 2) := by decide +kernel
theorem dX12_clean_180 : decode cX12_clean 180 = .ok (.aload_n 0, 1) := by decide +kernel
theorem dX12_clean_181 : decode cX12_clean 181 = .ok (.invokevirtual 457, 3) := by decide +kernel
theorem dX12_clean_184 : decode cX12_clean 184 = .ok (.imul, 1) := by decide +kernel
theorem dX12_clean_185 : decode cX12_clean 185 = .ok (.i2l, 1) := by decide +kernel
theorem dX12_clean_186 : decode cX12_clean 186 = .ok (.ldiv, 1) := by decide +kernel
theorem dX12_clean_187 : decode cX12_clean 187 = .ok (.l2i, 1) := by decide +kernel
theorem dX12_clean_188 : decode cX12_clean 188 = .ok (.isub, 1) := by decide +kernel
theorem dX12_clean_189 : decode cX12_clean 189 = .ok (.iastore, 1) := by decide +kernel
theorem dX12_clean_190 : decode cX12_clean 190 = .ok (.iinc 5 1, 3) := by decide +kernel
theorem dX12_clean_193 : decode cX12_clean 193 = .ok (.goto (-71), 3) := by decide +kernel
theorem dX12_clean_196 : decode cX12_clean 196 = .ok (.iinc 4 1, 3) := by decide +kernel
theorem dX12_clean_199 : decode cX12_clean 199 = .ok (.goto (-91), 3) := by decide +kernel
theorem dX12_clean_202 : decode cX12_clean 202 = .ok (.aload_n 0, 1) := by decide +kernel
theorem dX12_clean_203 : decode cX12_clean 203 = .ok (.getfield 23, 3) := by decide +kernel
theorem dX12_clean_206 : decode cX12_clean 206 = .ok (.iconst 0, 1) := by decide +kernel
theorem dX12_clean_207 : decode cX12_clean 207 = .ok (.dup2, 1) := by decide +kernel
theorem dX12_clean_208 : decode cX12_clean 208 = .ok (.iaload, 1) := by decide +kernel
theorem dX12_clean_209 : decode cX12_clean 209 = .ok (.iconst 1, 1) := by decide +kernel
theorem dX12_clean_210 : decode cX12_clean 210 = .ok (.iadd, 1) := by decide +kernel
theorem dX12_clean_211 : decode cX12_clean 211 = .ok (.iastore, 1) := by decide +kernel
theorem dX12_clean_212 : decode cX12_clean 212 = .ok (.iload_n 2, 1) := by decide +kernel
theorem dX12_clean_213 : decode cX12_clean 213 = .ok (.ireturn, 1) := by decide +kernel
theorem dX12_cleaned_0 : decode cX12_cleaned 0 = .ok (.aload_n 0, 1) := by decide +kernel
theorem dX12_cleaned_1 : decode cX12_cleaned 1 = .ok (.iconst 1, 1) := by decide +kernel
theorem dX12_cleaned_2 : decode cX12_cleaned 2 = .ok (.invokevirtual 340, 3) := by decide +kernel
theorem dX12_cleaned_5 : decode cX12_cleaned 5 = .ok (.ifCond .eq 12, 3) := by decide +kernel
theorem dX12_cleaned_8 : decode cX12_cleaned 8 = .ok (.aload_n 0, 1) := by decide +kernel
theorem dX12_cleaned_9 : decode cX12_cleaned 9 = .ok (.getfield 23, 3) := by decide +kernel
theorem dX12_cleaned_12 : decode cX12_cleaned 12 = .ok (.iconst 0, 1) := by decide +kernel
theorem dX12_cleaned_13 : decode cX12_cleaned 13 = .ok (.iaload, 1) := by decide +kernel
theorem dX12_cleaned_14 : decode cX12_cleaned 14 = .ok (.goto 4, 3) := by decide +kernel
theorem dX12_cleaned_17 : decode cX12_cleaned 17 = .ok (.iconst 0, 1) := by decide +kernel
theorem dX12_cleaned_18 : decode cX12_cleaned 18 = .ok (.ireturn, 1) := by decide +kernel
theorem dX12_undo_0 : decode cX12_undo 0 = .ok (.aload_n 0, 1) := by decide +kernel
theorem dX12_undo_1 : decode cX12_undo 1 = .ok (.aload_n 0, 1) := by decide +kernel
theorem dX12_undo_2 : decode cX12_undo 2 = .ok (.getfield 255, 3) := by decide +kernel
theorem dX12_undo_5 : decode cX12_undo 5 = .ok (.ifCond .ne 7, 3) := by decide +kernel
theorem dX12_undo_8 : decode cX12_undo 8 = .ok (.iconst 1, 1) := by decide +kernel
theorem dX12_undo_9 : decode cX12_undo 9 = .ok (.goto 4, 3) := by decide +kernel
theorem dX12_undo_12 : decode cX12_undo 12 = .ok (.iconst 0, 1) := by decide +kernel
theorem dX12_undo_13 : decode cX12_undo 13 = .ok (.putfield 67, 3) := by decide +kernel
theorem dX12_undo_16 : decode cX12_undo 16 = .ok (.aload_n 0, 1) := by decide +kernel
theorem dX12_undo_17 : decode cX12_undo 17 = .ok (.getfield 67, 3) := by decide +kernel
theorem dX12_undo_20 : decode cX12_undo 20 = .ok (.ifCond .le 5, 3) := by decide +kernel
theorem dX12_undo_23 : decode cX12_undo 23 = .ok (.iconst 0, 1) := by decide +kernel
theorem dX12_undo_24 : decode cX12_undo 24 = .ok (.ireturn, 1) := by decide +kernel
theorem dX12_undo_25 : decode cX12_undo 25 = .ok (.aload_n 0, 1) := by decide +kernel
theorem dX12_undo_26 : decode cX12_undo 26 = .ok (.dup, 1) := by decide +kernel
theorem dX12_undo_27 : decode cX12_undo 27 = .ok (.getfield 255, 3) := by decide +kernel
theorem dX12_undo_30 : decode cX12_undo 30 = .ok (.iconst 1, 1) := by decide +kernel
theorem dX12_undo_31 : decode cX12_undo 31 = .ok (.isub, 1) := by decide +kernel
theorem dX12_undo_32 : decode cX12_undo 32 = .ok (.putfield 255, 3) := by decide +kernel
theorem dX12_undo_35 : decode cX12_undo 35 = .ok (.aload_n 0, 1) := by decide +kernel
theorem dX12_undo_36 : decode cX12_undo 36 = .ok (.getfield 32, 3) := by decide +kernel
theorem dX12_undo_39 : decode cX12_undo 39 = .ok (.sipush 2455, 3) := by decide +kernel
theorem dX12_undo_42 : decode cX12_undo 42 = .ok (.aload_n 0, 1) := by decide +kernel
theorem dX12_undo_43 : decode cX12_undo 43 = .ok (.getfield 255, 3) := by decide +kernel
theorem dX12_undo_46 : decode cX12_undo 46 = .ok (.imul, 1) := by decide +kernel
theorem dX12_undo_47 : decode cX12_undo 47 = .ok (.aload_n 0, 1) := by decide +kernel
theorem dX12_undo_48 : decode cX12_undo 48 = .ok (.getfield 23, 3) := by decide +kernel
theorem dX12_undo_51 : decode cX12_undo 51 = .ok (.iconst 0, 1) := by decide +kernel
theorem dX12_undo_52 : decode cX12_undo 52 = .ok (.invokestatic 233, 3) := by decide +kernel
theorem dX12_undo_55 : decode cX12_undo 55 = .ok (.aload_n 0, 1) := by decide +kernel
theorem dX12_undo_56 : decode cX12_undo 56 = .ok (.getfield 255, 3) := by decide +kernel
theorem dX12_undo_59 : decode cX12_undo 59 = .ok (.ireturn, 1) := by decide +kernel
theorem dX12_undoable_0 : decode cX12_undoable 0 = .ok (.aload_n 0, 1) := by decide +kernel
theorem dX12_undoable_1 : decode cX12_undoable 1 = .ok (.iconst 0, 1) := by decide +kernel
theorem dX12_undoable_2 : decode cX12_undoable 2 = .ok (.putfield 67, 3) := by decide +kernel
theorem dX12_undoable_5 : decode cX12_undoable 5 = .ok (.aload_n 0, 1) := by decide +kernel
theorem dX12_undoable_6 : decode cX12_undoable 6 = .ok (.getfield 255, 3) := by decide +kernel
theorem dX12_undoable_9 : decode cX12_undoable 9 = .ok (.ireturn, 1) := by decide +kernel
theorem dX12_save_0 : decode cX12_save 0 = .ok (.aload_n 0, 1) := by decide +kernel
theorem dX12_save_1 : decode cX12_save 1 = .ok (.iload_n 1, 1) := by decide +kernel
theorem dX12_save_2 : decode cX12_save 2 = .ok (.iconst 0, 1) := by decide +kernel
theorem dX12_save_3 : decode cX12_save 3 = .ok (.iconst 1, 1) := by decide +kernel
theorem dX12_save_4 : decode cX12_save 4 = .ok (.invokestatic 96, 3) := by decide +kernel
theorem dX12_save_7 : decode cX12_save 7 = .ok (.invokevirtual 340, 3) := by decide +kernel
theorem dX12_save_10 : decode cX12_save 10 = .ok (.ifCond .ne 5, 3) := by decide +kernel
theorem dX12_save_13 : decode cX12_save 13 = .ok (.iconst 0, 1) := by decide +kernel
theorem dX12_save_14 : decode cX12_save 14 = .ok (.ireturn, 1) := by decide +kernel
theorem dX12_save_15 : decode cX12_save 15 = .ok (.aload_n 0, 1) := by decide +kernel
theorem dX12_save_16 : decode cX12_save 16 = .ok (.getfield 23, 3) := by decide +kernel
theorem dX12_save_19 : decode cX12_save 19 = .ok (.iconst 0, 1) := by decide +kernel
theorem dX12_save_20 : decode cX12_save 20 = .ok (.aload_n 0, 1) := by decide +kernel
theorem dX12_save_21 : decode cX12_save 21 = .ok (.getfield 35, 3) := by decide +kernel
theorem dX12_save_24 : decode cX12_save 24 = .ok (.sipush 2455, 3) := by decide +kernel
theorem dX12_save_27 : decode cX12_save 27 = .ok (.iload_n 1, 1) := by decide +kernel
theorem dX12_save_28 : decode cX12_save 28 = .ok (.imul, 1) := by decide +kernel
theorem dX12_save_29 : decode cX12_save 29 = .ok (.invokestatic 233, 3) := by decide +kernel
theorem dX12_save_32 : decode cX12_save 32 = .ok (.aload_n 0, 1) := by decide +kernel
theorem dX12_save_33 : decode cX12_save 33 = .ok (.getfield 41, 3) := by decide +kernel
theorem dX12_save_36 : decode cX12_save 36 = .ok (.iload_n 1, 1) := by decide +kernel
theorem dX12_save_37 : decode cX12_save 37 = .ok (.iconst 1, 1) := by decide +kernel
theorem dX12_save_38 : decode cX12_save 38 = .ok (.bastore, 1) := by decide +kernel
theorem dX12_save_39 : decode cX12_save 39 = .ok (.aload_n 0, 1) := by decide +kernel
theorem dX12_save_40 : decode cX12_save 40 = .ok (.aload_n 0, 1) := by decide +kernel
theorem dX12_save_41 : decode cX12_save 41 = .ok (.getfield 23, 3) := by decide +kernel
theorem dX12_save_44 : decode cX12_save 44 = .ok (.invokevirtual 367, 3) := by decide +kernel
theorem dX12_save_47 : decode cX12_save 47 = .ok (.ireturn, 1) := by decide +kernel
theorem dX12_restore_0 : decode cX12_restore 0 = .ok (.aload_n 0, 1) := by decide +kernel
theorem dX12_restore_1 : decode cX12_restore 1 = .ok (.iload_n 1, 1) := by decide +kernel
theorem dX12_restore_2 : decode cX12_restore 2 = .ok (.iconst 0, 1) := by decide +kernel
theorem dX12_restore_3 : decode cX12_restore 3 = .ok (.iconst 1, 1) := by decide +kernel
theorem dX12_restore_4 : decode cX12_restore 4 = .ok (.invokestatic 96, 3) := by decide +kernel
theorem dX12_restore_7 : decode cX12_restore 7 = .ok (.ifCond .ne 7, 3) := by decide +kernel
theorem dX12_restore_10 : decode cX12_restore 10 = .ok (.iconst 1, 1) := by decide +kernel
theorem dX12_restore_11 : decode cX12_restore 11 = .ok (.goto 17, 3) := by decide +kernel
theorem dX12_restore_14 : decode cX12_restore 14 = .ok (.aload_n 0, 1) := by decide +kernel
theorem dX12_restore_15 : decode cX12_restore 15 = .ok (.getfield 41, 3) := by decide +kernel
theorem dX12_restore_18 : decode cX12_restore 18 = .ok (.iload_n 1, 1) := by decide +kernel
theorem dX12_restore_19 : decode cX12_restore 19 = .ok (.baload, 1) := by decide +kernel
theorem dX12_restore_20 : decode cX12_restore 20 = .ok (.ifCond .eq 7, 3) := by decide +kernel
theorem dX12_restore_23 : decode cX12_restore 23 = .ok (.iconst 0, 1) := by decide +kernel
theorem dX12_restore_24 : decode cX12_restore 24 = .ok (.goto 4, 3) := by decide +kernel
theorem dX12_restore_27 : decode cX12_restore 27 = .ok (.iconst 2, 1) := by decide +kernel
theorem dX12_restore_28 : decode cX12_restore 28 = .ok (.putfield 67, 3) := by decide +kernel
theorem dX12_restore_31 : decode cX12_restore 31 = .ok (.aload_n 0, 1) := by decide +kernel
theorem dX12_restore_32 : decode cX12_restore 32 = .ok (.getfield 67, 3) := by decide +kernel
theorem dX12_restore_35 : decode cX12_restore 35 = .ok (.ifCond .le 5, 3) := by decide +kernel
theorem dX12_restore_38 : decode cX12_restore 38 = .ok (.iconst 0, 1) := by decide +kernel
theorem dX12_restore_39 : decode cX12_restore 39 = .ok (.ireturn, 1) := by decide +kernel
theorem dX12_restore_40 : decode cX12_restore 40 = .ok (.aload_n 0, 1) := by decide +kernel
theorem dX12_restore_41 : decode cX12_restore 41 = .ok (.getfield 35, 3) := by decide +kernel
theorem dX12_restore_44 : decode cX12_restore 44 = .ok (.sipush 2455, 3) := by decide +kernel
theorem dX12_restore_47 : decode cX12_restore 47 = .ok (.iload_n 1, 1) := by decide +kernel
theorem dX12_restore_48 : decode cX12_restore 48 = .ok (.imul, 1) := by decide +kernel
theorem dX12_restore_49 : decode cX12_restore 49 = .ok (.aload_n 0, 1) := by decide +kernel
theorem dX12_restore_50 : decode cX12_restore 50 = .ok (.getfield 23, 3) := by decide +kernel
theorem dX12_restore_53 : decode cX12_restore 53 = .ok (.iconst 0, 1) := by decide +kernel
theorem dX12_restore_54 : decode cX12_restore 54 = .ok (.invokestatic 233, 3) := by decide +kernel
theorem dX12_restore_57 : decode cX12_restore 57 = .ok (.aload_n 0, 1) := by decide +kernel
theorem dX12_restore_58 : decode cX12_restore 58 = .ok (.iconst 0, 1) := by decide +kernel
theorem dX12_restore_59 : decode cX12_restore 59 = .ok (.putfield 255, 3) := by decide +kernel
theorem dX12_restore_62 : decode cX12_restore 62 = .ok (.aload_n 0, 1) := by decide +kernel
theorem dX12_restore_63 : decode cX12_restore 63 = .ok (.aload_n 0, 1) := by decide +kernel
theorem dX12_restore_64 : decode cX12_restore 64 = .ok (.getfield 23, 3) := by decide +kernel
theorem dX12_restore_67 : decode cX12_restore 67 = .ok (.invokevirtual 367, 3) := by decide +kernel
theorem dX12_restore_70 : decode cX12_restore 70 = .ok (.ireturn, 1) := by decide +kernel
