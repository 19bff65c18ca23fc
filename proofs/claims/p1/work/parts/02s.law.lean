theorem dL_load_0 : decode cL_load 0 = .ok (.aload_n 2, 1) := by decide +kernel
theorem dL_load_1 : decode cL_load 1 = .ok (.iconst 0, 1) := by decide +kernel
theorem dL_load_2 : decode cL_load 2 = .ok (.aload_n 0, 1) := by decide +kernel
theorem dL_load_3 : decode cL_load 3 = .ok (.iload_n 1, 1) := by decide +kernel
theorem dL_load_4 : decode cL_load 4 = .ok (.invokevirtual 7, 3) := by decide +kernel
theorem dL_load_7 : decode cL_load 7 = .ok (.i2l, 1) := by decide +kernel
theorem dL_load_8 : decode cL_load 8 = .ok (.lastore, 1) := by decide +kernel
theorem dL_load_9 : decode cL_load 9 = .ok (.goto 9, 3) := by decide +kernel
theorem dL_load_12 : decode cL_load 12 = .ok (.astore_n 3, 1) := by decide +kernel
theorem dL_load_13 : decode cL_load 13 = .ok (.iconst 1, 1) := by decide +kernel
theorem dL_load_14 : decode cL_load 14 = .ok (.ireturn, 1) := by decide +kernel
theorem dL_load_15 : decode cL_load 15 = .ok (.astore_n 3, 1) := by decide +kernel
theorem dL_load_16 : decode cL_load 16 = .ok (.iconst 2, 1) := by decide +kernel
theorem dL_load_17 : decode cL_load 17 = .ok (.ireturn, 1) := by decide +kernel
theorem dL_load_18 : decode cL_load 18 = .ok (.iconst 0, 1) := by decide +kernel
theorem dL_load_19 : decode cL_load 19 = .ok (.ireturn, 1) := by decide +kernel
theorem dL_micAt_0 : decode cL_micAt 0 = .ok (.aload_n 3, 1) := by decide +kernel
theorem dL_micAt_1 : decode cL_micAt 1 = .ok (.iconst 0, 1) := by decide +kernel
theorem dL_micAt_2 : decode cL_micAt 2 = .ok (.aload_n 0, 1) := by decide +kernel
theorem dL_micAt_3 : decode cL_micAt 3 = .ok (.iload_n 1, 1) := by decide +kernel
theorem dL_micAt_4 : decode cL_micAt 4 = .ok (.iload_n 2, 1) := by decide +kernel
theorem dL_micAt_5 : decode cL_micAt 5 = .ok (.invokevirtual 17, 3) := by decide +kernel
theorem dL_micAt_8 : decode cL_micAt 8 = .ok (.i2l, 1) := by decide +kernel
theorem dL_micAt_9 : decode cL_micAt 9 = .ok (.lastore, 1) := by decide +kernel
theorem dL_micAt_10 : decode cL_micAt 10 = .ok (.goto 15, 3) := by decide +kernel
theorem dL_micAt_13 : decode cL_micAt 13 = .ok (.astore 4, 2) := by decide +kernel
theorem dL_micAt_15 : decode cL_micAt 15 = .ok (.iconst 1, 1) := by decide +kernel
theorem dL_micAt_16 : decode cL_micAt 16 = .ok (.ireturn, 1) := by decide +kernel
theorem dL_micAt_17 : decode cL_micAt 17 = .ok (.astore 4, 2) := by decide +kernel
theorem dL_micAt_19 : decode cL_micAt 19 = .ok (.iconst 2, 1) := by decide +kernel
theorem dL_micAt_20 : decode cL_micAt 20 = .ok (.ireturn, 1) := by decide +kernel
theorem dL_micAt_21 : decode cL_micAt 21 = .ok (.astore 4, 2) := by decide +kernel
theorem dL_micAt_23 : decode cL_micAt 23 = .ok (.iconst 3, 1) := by decide +kernel
theorem dL_micAt_24 : decode cL_micAt 24 = .ok (.ireturn, 1) := by decide +kernel
theorem dL_micAt_25 : decode cL_micAt 25 = .ok (.iconst 0, 1) := by decide +kernel
theorem dL_micAt_26 : decode cL_micAt 26 = .ok (.ireturn, 1) := by decide +kernel
theorem dL_isMuted_0 : decode cL_isMuted 0 = .ok (.aload_n 2, 1) := by decide +kernel
theorem dL_isMuted_1 : decode cL_isMuted 1 = .ok (.iconst 0, 1) := by decide +kernel
theorem dL_isMuted_2 : decode cL_isMuted 2 = .ok (.aload_n 0, 1) := by decide +kernel
theorem dL_isMuted_3 : decode cL_isMuted 3 = .ok (.iload_n 1, 1) := by decide +kernel
theorem dL_isMuted_4 : decode cL_isMuted 4 = .ok (.invokevirtual 23, 3) := by decide +kernel
theorem dL_isMuted_7 : decode cL_isMuted 7 = .ok (.ifCond .eq 7, 3) := by decide +kernel
theorem dL_isMuted_10 : decode cL_isMuted 10 = .ok (.lconst 1, 1) := by decide +kernel
theorem dL_isMuted_11 : decode cL_isMuted 11 = .ok (.goto 4, 3) := by decide +kernel
theorem dL_isMuted_14 : decode cL_isMuted 14 = .ok (.lconst 0, 1) := by decide +kernel
theorem dL_isMuted_15 : decode cL_isMuted 15 = .ok (.lastore, 1) := by decide +kernel
theorem dL_isMuted_16 : decode cL_isMuted 16 = .ok (.goto 9, 3) := by decide +kernel
theorem dL_isMuted_19 : decode cL_isMuted 19 = .ok (.astore_n 3, 1) := by decide +kernel
theorem dL_isMuted_20 : decode cL_isMuted 20 = .ok (.iconst 1, 1) := by decide +kernel
theorem dL_isMuted_21 : decode cL_isMuted 21 = .ok (.ireturn, 1) := by decide +kernel
theorem dL_isMuted_22 : decode cL_isMuted 22 = .ok (.astore_n 3, 1) := by decide +kernel
theorem dL_isMuted_23 : decode cL_isMuted 23 = .ok (.iconst 2, 1) := by decide +kernel
theorem dL_isMuted_24 : decode cL_isMuted 24 = .ok (.ireturn, 1) := by decide +kernel
theorem dL_isMuted_25 : decode cL_isMuted 25 = .ok (.iconst 0, 1) := by decide +kernel
theorem dL_isMuted_26 : decode cL_isMuted 26 = .ok (.ireturn, 1) := by decide +kernel
theorem dL_cellAt_0 : decode cL_cellAt 0 = .ok (.aload_n 3, 1) := by decide +kernel
theorem dL_cellAt_1 : decode cL_cellAt 1 = .ok (.iconst 0, 1) := by decide +kernel
theorem dL_cellAt_2 : decode cL_cellAt 2 = .ok (.aload_n 0, 1) := by decide +kernel
theorem dL_cellAt_3 : decode cL_cellAt 3 = .ok (.iload_n 1, 1) := by decide +kernel
theorem dL_cellAt_4 : decode cL_cellAt 4 = .ok (.iload_n 2, 1) := by decide +kernel
theorem dL_cellAt_5 : decode cL_cellAt 5 = .ok (.invokevirtual 27, 3) := by decide +kernel
theorem dL_cellAt_8 : decode cL_cellAt 8 = .ok (.i2l, 1) := by decide +kernel
theorem dL_cellAt_9 : decode cL_cellAt 9 = .ok (.lastore, 1) := by decide +kernel
theorem dL_cellAt_10 : decode cL_cellAt 10 = .ok (.goto 15, 3) := by decide +kernel
theorem dL_cellAt_13 : decode cL_cellAt 13 = .ok (.astore 4, 2) := by decide +kernel
theorem dL_cellAt_15 : decode cL_cellAt 15 = .ok (.iconst 1, 1) := by decide +kernel
theorem dL_cellAt_16 : decode cL_cellAt 16 = .ok (.ireturn, 1) := by decide +kernel
theorem dL_cellAt_17 : decode cL_cellAt 17 = .ok (.astore 4, 2) := by decide +kernel
theorem dL_cellAt_19 : decode cL_cellAt 19 = .ok (.iconst 2, 1) := by decide +kernel
theorem dL_cellAt_20 : decode cL_cellAt 20 = .ok (.ireturn, 1) := by decide +kernel
theorem dL_cellAt_21 : decode cL_cellAt 21 = .ok (.astore 4, 2) := by decide +kernel
theorem dL_cellAt_23 : decode cL_cellAt 23 = .ok (.iconst 3, 1) := by decide +kernel
theorem dL_cellAt_24 : decode cL_cellAt 24 = .ok (.ireturn, 1) := by decide +kernel
theorem dL_cellAt_25 : decode cL_cellAt 25 = .ok (.iconst 0, 1) := by decide +kernel
theorem dL_cellAt_26 : decode cL_cellAt 26 = .ok (.ireturn, 1) := by decide +kernel
theorem dL_sourceAt_0 : decode cL_sourceAt 0 = .ok (.aload 4, 2) := by decide +kernel
theorem dL_sourceAt_2 : decode cL_sourceAt 2 = .ok (.iconst 0, 1) := by decide +kernel
theorem dL_sourceAt_3 : decode cL_sourceAt 3 = .ok (.aload_n 0, 1) := by decide +kernel
theorem dL_sourceAt_4 : decode cL_sourceAt 4 = .ok (.iload_n 1, 1) := by decide +kernel
theorem dL_sourceAt_5 : decode cL_sourceAt 5 = .ok (.iload_n 2, 1) := by decide +kernel
theorem dL_sourceAt_6 : decode cL_sourceAt 6 = .ok (.iload_n 3, 1) := by decide +kernel
theorem dL_sourceAt_7 : decode cL_sourceAt 7 = .ok (.invokevirtual 30, 3) := by decide +kernel
theorem dL_sourceAt_10 : decode cL_sourceAt 10 = .ok (.i2l, 1) := by decide +kernel
theorem dL_sourceAt_11 : decode cL_sourceAt 11 = .ok (.lastore, 1) := by decide +kernel
theorem dL_sourceAt_12 : decode cL_sourceAt 12 = .ok (.goto 15, 3) := by decide +kernel
theorem dL_sourceAt_15 : decode cL_sourceAt 15 = .ok (.astore 5, 2) := by decide +kernel
theorem dL_sourceAt_17 : decode cL_sourceAt 17 = .ok (.iconst 1, 1) := by decide +kernel
theorem dL_sourceAt_18 : decode cL_sourceAt 18 = .ok (.ireturn, 1) := by decide +kernel
theorem dL_sourceAt_19 : decode cL_sourceAt 19 = .ok (.astore 5, 2) := by decide +kernel
theorem dL_sourceAt_21 : decode cL_sourceAt 21 = .ok (.iconst 2, 1) := by decide +kernel
theorem dL_sourceAt_22 : decode cL_sourceAt 22 = .ok (.ireturn, 1) := by decide +kernel
theorem dL_sourceAt_23 : decode cL_sourceAt 23 = .ok (.astore 5, 2) := by decide +kernel
theorem dL_sourceAt_25 : decode cL_sourceAt 25 = .ok (.iconst 3, 1) := by decide +kernel
theorem dL_sourceAt_26 : decode cL_sourceAt 26 = .ok (.ireturn, 1) := by decide +kernel
theorem dL_sourceAt_27 : decode cL_sourceAt 27 = .ok (.iconst 0, 1) := by decide +kernel
theorem dL_sourceAt_28 : decode cL_sourceAt 28 = .ok (.ireturn, 1) := by decide +kernel
theorem dL_isOn_0 : decode cL_isOn 0 = .ok (.aload_n 2, 1) := by decide +kernel
theorem dL_isOn_1 : decode cL_isOn 1 = .ok (.iconst 0, 1) := by decide +kernel
theorem dL_isOn_2 : decode cL_isOn 2 = .ok (.aload_n 0, 1) := by decide +kernel
theorem dL_isOn_3 : decode cL_isOn 3 = .ok (.iload_n 1, 1) := by decide +kernel
theorem dL_isOn_4 : decode cL_isOn 4 = .ok (.invokevirtual 34, 3) := by decide +kernel
theorem dL_isOn_7 : decode cL_isOn 7 = .ok (.ifCond .eq 7, 3) := by decide +kernel
theorem dL_isOn_10 : decode cL_isOn 10 = .ok (.lconst 1, 1) := by decide +kernel
theorem dL_isOn_11 : decode cL_isOn 11 = .ok (.goto 4, 3) := by decide +kernel
theorem dL_isOn_14 : decode cL_isOn 14 = .ok (.lconst 0, 1) := by decide +kernel
theorem dL_isOn_15 : decode cL_isOn 15 = .ok (.lastore, 1) := by decide +kernel
theorem dL_isOn_16 : decode cL_isOn 16 = .ok (.goto 9, 3) := by decide +kernel
theorem dL_isOn_19 : decode cL_isOn 19 = .ok (.astore_n 3, 1) := by decide +kernel
theorem dL_isOn_20 : decode cL_isOn 20 = .ok (.iconst 1, 1) := by decide +kernel
theorem dL_isOn_21 : decode cL_isOn 21 = .ok (.ireturn, 1) := by decide +kernel
theorem dL_isOn_22 : decode cL_isOn 22 = .ok (.astore_n 3, 1) := by decide +kernel
theorem dL_isOn_23 : decode cL_isOn 23 = .ok (.iconst 2, 1) := by decide +kernel
theorem dL_isOn_24 : decode cL_isOn 24 = .ok (.ireturn, 1) := by decide +kernel
theorem dL_isOn_25 : decode cL_isOn 25 = .ok (.iconst 0, 1) := by decide +kernel
theorem dL_isOn_26 : decode cL_isOn 26 = .ok (.ireturn, 1) := by decide +kernel
theorem dL_waveAt_0 : decode cL_waveAt 0 = .ok (.aload_n 3, 1) := by decide +kernel
theorem dL_waveAt_1 : decode cL_waveAt 1 = .ok (.iconst 0, 1) := by decide +kernel
theorem dL_waveAt_2 : decode cL_waveAt 2 = .ok (.aload_n 0, 1) := by decide +kernel
theorem dL_waveAt_3 : decode cL_waveAt 3 = .ok (.iload_n 1, 1) := by decide +kernel
theorem dL_waveAt_4 : decode cL_waveAt 4 = .ok (.iload_n 2, 1) := by decide +kernel
theorem dL_waveAt_5 : decode cL_waveAt 5 = .ok (.invokevirtual 37, 3) := by decide +kernel
theorem dL_waveAt_8 : decode cL_waveAt 8 = .ok (.i2l, 1) := by decide +kernel
theorem dL_waveAt_9 : decode cL_waveAt 9 = .ok (.lastore, 1) := by decide +kernel
theorem dL_waveAt_10 : decode cL_waveAt 10 = .ok (.goto 15, 3) := by decide +kernel
theorem dL_waveAt_13 : decode cL_waveAt 13 = .ok (.astore 4, 2) := by decide +kernel
theorem dL_waveAt_15 : decode cL_waveAt 15 = .ok (.iconst 1, 1) := by decide +kernel
theorem dL_waveAt_16 : decode cL_waveAt 16 = .ok (.ireturn, 1) := by decide +kernel
theorem dL_waveAt_17 : decode cL_waveAt 17 = .ok (.astore 4, 2) := by decide +kernel
theorem dL_waveAt_19 : decode cL_waveAt 19 = .ok (.iconst 2, 1) := by decide +kernel
theorem dL_waveAt_20 : decode cL_waveAt 20 = .ok (.ireturn, 1) := by decide +kernel
theorem dL_waveAt_21 : decode cL_waveAt 21 = .ok (.astore 4, 2) := by decide +kernel
theorem dL_waveAt_23 : decode cL_waveAt 23 = .ok (.iconst 3, 1) := by decide +kernel
theorem dL_waveAt_24 : decode cL_waveAt 24 = .ok (.ireturn, 1) := by decide +kernel
theorem dL_waveAt_25 : decode cL_waveAt 25 = .ok (.iconst 0, 1) := by decide +kernel
theorem dL_waveAt_26 : decode cL_waveAt 26 = .ok (.ireturn, 1) := by decide +kernel
theorem dL_delay_0 : decode cL_delay 0 = .ok (.aload_n 3, 1) := by decide +kernel
theorem dL_delay_1 : decode cL_delay 1 = .ok (.iconst 0, 1) := by decide +kernel
theorem dL_delay_2 : decode cL_delay 2 = .ok (.aload_n 0, 1) := by decide +kernel
theorem dL_delay_3 : decode cL_delay 3 = .ok (.iload_n 1, 1) := by decide +kernel
theorem dL_delay_4 : decode cL_delay 4 = .ok (.iload_n 2, 1) := by decide +kernel
theorem dL_delay_5 : decode cL_delay 5 = .ok (.invokevirtual 40, 3) := by decide +kernel
theorem dL_delay_8 : decode cL_delay 8 = .ok (.i2l, 1) := by decide +kernel
theorem dL_delay_9 : decode cL_delay 9 = .ok (.lastore, 1) := by decide +kernel
theorem dL_delay_10 : decode cL_delay 10 = .ok (.goto 11, 3) := by decide +kernel
theorem dL_delay_13 : decode cL_delay 13 = .ok (.astore 4, 2) := by decide +kernel
theorem dL_delay_15 : decode cL_delay 15 = .ok (.iconst 1, 1) := by decide +kernel
theorem dL_delay_16 : decode cL_delay 16 = .ok (.ireturn, 1) := by decide +kernel
theorem dL_delay_17 : decode cL_delay 17 = .ok (.astore 4, 2) := by decide +kernel
theorem dL_delay_19 : decode cL_delay 19 = .ok (.iconst 2, 1) := by decide +kernel
theorem dL_delay_20 : decode cL_delay 20 = .ok (.ireturn, 1) := by decide +kernel
theorem dL_delay_21 : decode cL_delay 21 = .ok (.iconst 0, 1) := by decide +kernel
theorem dL_delay_22 : decode cL_delay 22 = .ok (.ireturn, 1) := by decide +kernel
theorem dL_delayTo_0 : decode cL_delayTo 0 = .ok (.aload 4, 2) := by decide +kernel
theorem dL_delayTo_2 : decode cL_delayTo 2 = .ok (.iconst 0, 1) := by decide +kernel
theorem dL_delayTo_3 : decode cL_delayTo 3 = .ok (.aload_n 0, 1) := by decide +kernel
theorem dL_delayTo_4 : decode cL_delayTo 4 = .ok (.iload_n 1, 1) := by decide +kernel
theorem dL_delayTo_5 : decode cL_delayTo 5 = .ok (.iload_n 2, 1) := by decide +kernel
theorem dL_delayTo_6 : decode cL_delayTo 6 = .ok (.iload_n 3, 1) := by decide +kernel
theorem dL_delayTo_7 : decode cL_delayTo 7 = .ok (.invokevirtual 43, 3) := by decide +kernel
theorem dL_delayTo_10 : decode cL_delayTo 10 = .ok (.i2l, 1) := by decide +kernel
theorem dL_delayTo_11 : decode cL_delayTo 11 = .ok (.lastore, 1) := by decide +kernel
theorem dL_delayTo_12 : decode cL_delayTo 12 = .ok (.goto 15, 3) := by decide +kernel
theorem dL_delayTo_15 : decode cL_delayTo 15 = .ok (.astore 5, 2) := by decide +kernel
theorem dL_delayTo_17 : decode cL_delayTo 17 = .ok (.iconst 1, 1) := by decide +kernel
theorem dL_delayTo_18 : decode cL_delayTo 18 = .ok (.ireturn, 1) := by decide +kernel
theorem dL_delayTo_19 : decode cL_delayTo 19 = .ok (.astore 5, 2) := by decide +kernel
theorem dL_delayTo_21 : decode cL_delayTo 21 = .ok (.iconst 2, 1) := by decide +kernel
theorem dL_delayTo_22 : decode cL_delayTo 22 = .ok (.ireturn, 1) := by decide +kernel
theorem dL_delayTo_23 : decode cL_delayTo 23 = .ok (.astore 5, 2) := by decide +kernel
theorem dL_delayTo_25 : decode cL_delayTo 25 = .ok (.iconst 3, 1) := by decide +kernel
theorem dL_delayTo_26 : decode cL_delayTo 26 = .ok (.ireturn, 1) := by decide +kernel
theorem dL_delayTo_27 : decode cL_delayTo 27 = .ok (.iconst 0, 1) := by decide +kernel
theorem dL_delayTo_28 : decode cL_delayTo 28 = .ok (.ireturn, 1) := by decide +kernel
theorem dL_spread_0 : decode cL_spread 0 = .ok (.aload_n 2, 1) := by decide +kernel
theorem dL_spread_1 : decode cL_spread 1 = .ok (.iconst 0, 1) := by decide +kernel
theorem dL_spread_2 : decode cL_spread 2 = .ok (.aload_n 0, 1) := by decide +kernel
theorem dL_spread_3 : decode cL_spread 3 = .ok (.iload_n 1, 1) := by decide +kernel
theorem dL_spread_4 : decode cL_spread 4 = .ok (.invokevirtual 46, 3) := by decide +kernel
theorem dL_spread_7 : decode cL_spread 7 = .ok (.i2l, 1) := by decide +kernel
theorem dL_spread_8 : decode cL_spread 8 = .ok (.lastore, 1) := by decide +kernel
theorem dL_spread_9 : decode cL_spread 9 = .ok (.goto 9, 3) := by decide +kernel
theorem dL_spread_12 : decode cL_spread 12 = .ok (.astore_n 3, 1) := by decide +kernel
theorem dL_spread_13 : decode cL_spread 13 = .ok (.iconst 1, 1) := by decide +kernel
theorem dL_spread_14 : decode cL_spread 14 = .ok (.ireturn, 1) := by decide +kernel
theorem dL_spread_15 : decode cL_spread 15 = .ok (.astore_n 3, 1) := by decide +kernel
theorem dL_spread_16 : decode cL_spread 16 = .ok (.iconst 2, 1) := by decide +kernel
theorem dL_spread_17 : decode cL_spread 17 = .ok (.ireturn, 1) := by decide +kernel
theorem dL_spread_18 : decode cL_spread 18 = .ok (.iconst 0, 1) := by decide +kernel
theorem dL_spread_19 : decode cL_spread 19 = .ok (.ireturn, 1) := by decide +kernel
theorem dL_window_0 : decode cL_window 0 = .ok (.aload_n 2, 1) := by decide +kernel
theorem dL_window_1 : decode cL_window 1 = .ok (.iconst 0, 1) := by decide +kernel
theorem dL_window_2 : decode cL_window 2 = .ok (.aload_n 0, 1) := by decide +kernel
theorem dL_window_3 : decode cL_window 3 = .ok (.iload_n 1, 1) := by decide +kernel
theorem dL_window_4 : decode cL_window 4 = .ok (.invokevirtual 49, 3) := by decide +kernel
theorem dL_window_7 : decode cL_window 7 = .ok (.i2l, 1) := by decide +kernel
theorem dL_window_8 : decode cL_window 8 = .ok (.lastore, 1) := by decide +kernel
theorem dL_window_9 : decode cL_window 9 = .ok (.goto 9, 3) := by decide +kernel
theorem dL_window_12 : decode cL_window 12 = .ok (.astore_n 3, 1) := by decide +kernel
theorem dL_window_13 : decode cL_window 13 = .ok (.iconst 1, 1) := by decide +kernel
theorem dL_window_14 : decode cL_window 14 = .ok (.ireturn, 1) := by decide +kernel
theorem dL_window_15 : decode cL_window 15 = .ok (.astore_n 3, 1) := by decide +kernel
theorem dL_window_16 : decode cL_window 16 = .ok (.iconst 2, 1) := by decide +kernel
theorem dL_window_17 : decode cL_window 17 = .ok (.ireturn, 1) := by decide +kernel
theorem dL_window_18 : decode cL_window 18 = .ok (.iconst 0, 1) := by decide +kernel
theorem dL_window_19 : decode cL_window 19 = .ok (.ireturn, 1) := by decide +kernel
theorem dL_sample_0 : decode cL_sample 0 = .ok (.aload_n 3, 1) := by decide +kernel
theorem dL_sample_1 : decode cL_sample 1 = .ok (.iconst 0, 1) := by decide +kernel
theorem dL_sample_2 : decode cL_sample 2 = .ok (.aload_n 0, 1) := by decide +kernel
theorem dL_sample_3 : decode cL_sample 3 = .ok (.iload_n 1, 1) := by decide +kernel
theorem dL_sample_4 : decode cL_sample 4 = .ok (.iload_n 2, 1) := by decide +kernel
theorem dL_sample_5 : decode cL_sample 5 = .ok (.invokevirtual 52, 3) := by decide +kernel
theorem dL_sample_8 : decode cL_sample 8 = .ok (.i2l, 1) := by decide +kernel
theorem dL_sample_9 : decode cL_sample 9 = .ok (.lastore, 1) := by decide +kernel
theorem dL_sample_10 : decode cL_sample 10 = .ok (.goto 15, 3) := by decide +kernel
theorem dL_sample_13 : decode cL_sample 13 = .ok (.astore 4, 2) := by decide +kernel
theorem dL_sample_15 : decode cL_sample 15 = .ok (.iconst 1, 1) := by decide +kernel
theorem dL_sample_16 : decode cL_sample 16 = .ok (.ireturn, 1) := by decide +kernel
theorem dL_sample_17 : decode cL_sample 17 = .ok (.astore 4, 2) := by decide +kernel
theorem dL_sample_19 : decode cL_sample 19 = .ok (.iconst 2, 1) := by decide +kernel
theorem dL_sample_20 : decode cL_sample 20 = .ok (.ireturn, 1) := by decide +kernel
theorem dL_sample_21 : decode cL_sample 21 = .ok (.astore 4, 2) := by decide +kernel
theorem dL_sample_23 : decode cL_sample 23 = .ok (.iconst 3, 1) := by decide +kernel
theorem dL_sample_24 : decode cL_sample 24 = .ok (.ireturn, 1) := by decide +kernel
theorem dL_sample_25 : decode cL_sample 25 = .ok (.iconst 0, 1) := by decide +kernel
theorem dL_sample_26 : decode cL_sample 26 = .ok (.ireturn, 1) := by decide +kernel
theorem dL_beam_0 : decode cL_beam 0 = .ok (.aload_n 3, 1) := by decide +kernel
theorem dL_beam_1 : decode cL_beam 1 = .ok (.iconst 0, 1) := by decide +kernel
theorem dL_beam_2 : decode cL_beam 2 = .ok (.aload_n 0, 1) := by decide +kernel
theorem dL_beam_3 : decode cL_beam 3 = .ok (.iload_n 1, 1) := by decide +kernel
theorem dL_beam_4 : decode cL_beam 4 = .ok (.iload_n 2, 1) := by decide +kernel
theorem dL_beam_5 : decode cL_beam 5 = .ok (.invokevirtual 55, 3) := by decide +kernel
theorem dL_beam_8 : decode cL_beam 8 = .ok (.i2l, 1) := by decide +kernel
theorem dL_beam_9 : decode cL_beam 9 = .ok (.lastore, 1) := by decide +kernel
theorem dL_beam_10 : decode cL_beam 10 = .ok (.goto 15, 3) := by decide +kernel
theorem dL_beam_13 : decode cL_beam 13 = .ok (.astore 4, 2) := by decide +kernel
theorem dL_beam_15 : decode cL_beam 15 = .ok (.iconst 1, 1) := by decide +kernel
theorem dL_beam_16 : decode cL_beam 16 = .ok (.ireturn, 1) := by decide +kernel
theorem dL_beam_17 : decode cL_beam 17 = .ok (.astore 4, 2) := by decide +kernel
theorem dL_beam_19 : decode cL_beam 19 = .ok (.iconst 2, 1) := by decide +kernel
theorem dL_beam_20 : decode cL_beam 20 = .ok (.ireturn, 1) := by decide +kernel
theorem dL_beam_21 : decode cL_beam 21 = .ok (.astore 4, 2) := by decide +kernel
theorem dL_beam_23 : decode cL_beam 23 = .ok (.iconst 3, 1) := by decide +kernel
theorem dL_beam_24 : decode cL_beam 24 = .ok (.ireturn, 1) := by decide +kernel
theorem dL_beam_25 : decode cL_beam 25 = .ok (.iconst 0, 1) := by decide +kernel
theorem dL_beam_26 : decode cL_beam 26 = .ok (.ireturn, 1) := by decide +kernel
theorem dL_power_0 : decode cL_power 0 = .ok (.aload_n 2, 1) := by decide +kernel
theorem dL_power_1 : decode cL_power 1 = .ok (.iconst 0, 1) := by decide +kernel
theorem dL_power_2 : decode cL_power 2 = .ok (.aload_n 0, 1) := by decide +kernel
theorem dL_power_3 : decode cL_power 3 = .ok (.iload_n 1, 1) := by decide +kernel
theorem dL_power_4 : decode cL_power 4 = .ok (.invokevirtual 58, 3) := by decide +kernel
theorem dL_power_7 : decode cL_power 7 = .ok (.lastore, 1) := by decide +kernel
theorem dL_power_8 : decode cL_power 8 = .ok (.goto 9, 3) := by decide +kernel
theorem dL_power_11 : decode cL_power 11 = .ok (.astore_n 3, 1) := by decide +kernel
theorem dL_power_12 : decode cL_power 12 = .ok (.iconst 1, 1) := by decide +kernel
theorem dL_power_13 : decode cL_power 13 = .ok (.ireturn, 1) := by decide +kernel
theorem dL_power_14 : decode cL_power 14 = .ok (.astore_n 3, 1) := by decide +kernel
theorem dL_power_15 : decode cL_power 15 = .ok (.iconst 2, 1) := by decide +kernel
theorem dL_power_16 : decode cL_power 16 = .ok (.ireturn, 1) := by decide +kernel
theorem dL_power_17 : decode cL_power 17 = .ok (.iconst 0, 1) := by decide +kernel
theorem dL_power_18 : decode cL_power 18 = .ok (.ireturn, 1) := by decide +kernel
theorem dL_powerAt_0 : decode cL_powerAt 0 = .ok (.aload_n 3, 1) := by decide +kernel
theorem dL_powerAt_1 : decode cL_powerAt 1 = .ok (.iconst 0, 1) := by decide +kernel
theorem dL_powerAt_2 : decode cL_powerAt 2 = .ok (.aload_n 0, 1) := by decide +kernel
theorem dL_powerAt_3 : decode cL_powerAt 3 = .ok (.iload_n 1, 1) := by decide +kernel
theorem dL_powerAt_4 : decode cL_powerAt 4 = .ok (.iload_n 2, 1) := by decide +kernel
theorem dL_powerAt_5 : decode cL_powerAt 5 = .ok (.invokevirtual 62, 3) := by decide +kernel
theorem dL_powerAt_8 : decode cL_powerAt 8 = .ok (.lastore, 1) := by decide +kernel
theorem dL_powerAt_9 : decode cL_powerAt 9 = .ok (.goto 11, 3) := by decide +kernel
theorem dL_powerAt_12 : decode cL_powerAt 12 = .ok (.astore 4, 2) := by decide +kernel
theorem dL_powerAt_14 : decode cL_powerAt 14 = .ok (.iconst 1, 1) := by decide +kernel
theorem dL_powerAt_15 : decode cL_powerAt 15 = .ok (.ireturn, 1) := by decide +kernel
theorem dL_powerAt_16 : decode cL_powerAt 16 = .ok (.astore 4, 2) := by decide +kernel
theorem dL_powerAt_18 : decode cL_powerAt 18 = .ok (.iconst 2, 1) := by decide +kernel
theorem dL_powerAt_19 : decode cL_powerAt 19 = .ok (.ireturn, 1) := by decide +kernel
theorem dL_powerAt_20 : decode cL_powerAt 20 = .ok (.iconst 0, 1) := by decide +kernel
theorem dL_powerAt_21 : decode cL_powerAt 21 = .ok (.ireturn, 1) := by decide +kernel
theorem dL_best_0 : decode cL_best 0 = .ok (.aload_n 1, 1) := by decide +kernel
theorem dL_best_1 : decode cL_best 1 = .ok (.iconst 0, 1) := by decide +kernel
theorem dL_best_2 : decode cL_best 2 = .ok (.aload_n 0, 1) := by decide +kernel
theorem dL_best_3 : decode cL_best 3 = .ok (.invokevirtual 66, 3) := by decide +kernel
theorem dL_best_6 : decode cL_best 6 = .ok (.i2l, 1) := by decide +kernel
theorem dL_best_7 : decode cL_best 7 = .ok (.lastore, 1) := by decide +kernel
theorem dL_best_8 : decode cL_best 8 = .ok (.goto 6, 3) := by decide +kernel
theorem dL_best_11 : decode cL_best 11 = .ok (.astore_n 2, 1) := by decide +kernel
theorem dL_best_12 : decode cL_best 12 = .ok (.iconst 1, 1) := by decide +kernel
theorem dL_best_13 : decode cL_best 13 = .ok (.ireturn, 1) := by decide +kernel
theorem dL_best_14 : decode cL_best 14 = .ok (.iconst 0, 1) := by decide +kernel
theorem dL_best_15 : decode cL_best 15 = .ok (.ireturn, 1) := by decide +kernel
theorem dL_bestPower_0 : decode cL_bestPower 0 = .ok (.aload_n 1, 1) := by decide +kernel
theorem dL_bestPower_1 : decode cL_bestPower 1 = .ok (.iconst 0, 1) := by decide +kernel
theorem dL_bestPower_2 : decode cL_bestPower 2 = .ok (.aload_n 0, 1) := by decide +kernel
theorem dL_bestPower_3 : decode cL_bestPower 3 = .ok (.invokevirtual 70, 3) := by decide +kernel
theorem dL_bestPower_6 : decode cL_bestPower 6 = .ok (.lastore, 1) := by decide +kernel
theorem dL_bestPower_7 : decode cL_bestPower 7 = .ok (.goto 6, 3) := by decide +kernel
theorem dL_bestPower_10 : decode cL_bestPower 10 = .ok (.astore_n 2, 1) := by decide +kernel
theorem dL_bestPower_11 : decode cL_bestPower 11 = .ok (.iconst 1, 1) := by decide +kernel
theorem dL_bestPower_12 : decode cL_bestPower 12 = .ok (.ireturn, 1) := by decide +kernel
theorem dL_bestPower_13 : decode cL_bestPower 13 = .ok (.iconst 0, 1) := by decide +kernel
theorem dL_bestPower_14 : decode cL_bestPower 14 = .ok (.ireturn, 1) := by decide +kernel
theorem dL_meanPower_0 : decode cL_meanPower 0 = .ok (.aload_n 1, 1) := by decide +kernel
theorem dL_meanPower_1 : decode cL_meanPower 1 = .ok (.iconst 0, 1) := by decide +kernel
theorem dL_meanPower_2 : decode cL_meanPower 2 = .ok (.aload_n 0, 1) := by decide +kernel
theorem dL_meanPower_3 : decode cL_meanPower 3 = .ok (.invokevirtual 74, 3) := by decide +kernel
theorem dL_meanPower_6 : decode cL_meanPower 6 = .ok (.lastore, 1) := by decide +kernel
theorem dL_meanPower_7 : decode cL_meanPower 7 = .ok (.goto 6, 3) := by decide +kernel
theorem dL_meanPower_10 : decode cL_meanPower 10 = .ok (.astore_n 2, 1) := by decide +kernel
theorem dL_meanPower_11 : decode cL_meanPower 11 = .ok (.iconst 1, 1) := by decide +kernel
theorem dL_meanPower_12 : decode cL_meanPower 12 = .ok (.ireturn, 1) := by decide +kernel
theorem dL_meanPower_13 : decode cL_meanPower 13 = .ok (.iconst 0, 1) := by decide +kernel
theorem dL_meanPower_14 : decode cL_meanPower 14 = .ok (.ireturn, 1) := by decide +kernel
theorem dL_peaks_0 : decode cL_peaks 0 = .ok (.aload_n 1, 1) := by decide +kernel
theorem dL_peaks_1 : decode cL_peaks 1 = .ok (.iconst 0, 1) := by decide +kernel
theorem dL_peaks_2 : decode cL_peaks 2 = .ok (.aload_n 0, 1) := by decide +kernel
theorem dL_peaks_3 : decode cL_peaks 3 = .ok (.invokevirtual 77, 3) := by decide +kernel
theorem dL_peaks_6 : decode cL_peaks 6 = .ok (.i2l, 1) := by decide +kernel
theorem dL_peaks_7 : decode cL_peaks 7 = .ok (.lastore, 1) := by decide +kernel
theorem dL_peaks_8 : decode cL_peaks 8 = .ok (.goto 6, 3) := by decide +kernel
theorem dL_peaks_11 : decode cL_peaks 11 = .ok (.astore_n 2, 1) := by decide +kernel
theorem dL_peaks_12 : decode cL_peaks 12 = .ok (.iconst 1, 1) := by decide +kernel
theorem dL_peaks_13 : decode cL_peaks 13 = .ok (.ireturn, 1) := by decide +kernel
theorem dL_peaks_14 : decode cL_peaks 14 = .ok (.iconst 0, 1) := by decide +kernel
theorem dL_peaks_15 : decode cL_peaks 15 = .ok (.ireturn, 1) := by decide +kernel
theorem dL_peakAt_0 : decode cL_peakAt 0 = .ok (.aload_n 2, 1) := by decide +kernel
theorem dL_peakAt_1 : decode cL_peakAt 1 = .ok (.iconst 0, 1) := by decide +kernel
theorem dL_peakAt_2 : decode cL_peakAt 2 = .ok (.aload_n 0, 1) := by decide +kernel
theorem dL_peakAt_3 : decode cL_peakAt 3 = .ok (.iload_n 1, 1) := by decide +kernel
theorem dL_peakAt_4 : decode cL_peakAt 4 = .ok (.invokevirtual 80, 3) := by decide +kernel
theorem dL_peakAt_7 : decode cL_peakAt 7 = .ok (.i2l, 1) := by decide +kernel
theorem dL_peakAt_8 : decode cL_peakAt 8 = .ok (.lastore, 1) := by decide +kernel
theorem dL_peakAt_9 : decode cL_peakAt 9 = .ok (.goto 9, 3) := by decide +kernel
theorem dL_peakAt_12 : decode cL_peakAt 12 = .ok (.astore_n 3, 1) := by decide +kernel
theorem dL_peakAt_13 : decode cL_peakAt 13 = .ok (.iconst 1, 1) := by decide +kernel
theorem dL_peakAt_14 : decode cL_peakAt 14 = .ok (.ireturn, 1) := by decide +kernel
theorem dL_peakAt_15 : decode cL_peakAt 15 = .ok (.astore_n 3, 1) := by decide +kernel
theorem dL_peakAt_16 : decode cL_peakAt 16 = .ok (.iconst 2, 1) := by decide +kernel
theorem dL_peakAt_17 : decode cL_peakAt 17 = .ok (.ireturn, 1) := by decide +kernel
theorem dL_peakAt_18 : decode cL_peakAt 18 = .ok (.iconst 0, 1) := by decide +kernel
theorem dL_peakAt_19 : decode cL_peakAt 19 = .ok (.ireturn, 1) := by decide +kernel
theorem dL_isPeak_0 : decode cL_isPeak 0 = .ok (.aload_n 2, 1) := by decide +kernel
theorem dL_isPeak_1 : decode cL_isPeak 1 = .ok (.iconst 0, 1) := by decide +kernel
theorem dL_isPeak_2 : decode cL_isPeak 2 = .ok (.aload_n 0, 1) := by decide +kernel
theorem dL_isPeak_3 : decode cL_isPeak 3 = .ok (.iload_n 1, 1) := by decide +kernel
theorem dL_isPeak_4 : decode cL_isPeak 4 = .ok (.invokevirtual 83, 3) := by decide +kernel
theorem dL_isPeak_7 : decode cL_isPeak 7 = .ok (.ifCond .eq 7, 3) := by decide +kernel
theorem dL_isPeak_10 : decode cL_isPeak 10 = .ok (.lconst 1, 1) := by decide +kernel
theorem dL_isPeak_11 : decode cL_isPeak 11 = .ok (.goto 4, 3) := by decide +kernel
theorem dL_isPeak_14 : decode cL_isPeak 14 = .ok (.lconst 0, 1) := by decide +kernel
theorem dL_isPeak_15 : decode cL_isPeak 15 = .ok (.lastore, 1) := by decide +kernel
theorem dL_isPeak_16 : decode cL_isPeak 16 = .ok (.goto 9, 3) := by decide +kernel
theorem dL_isPeak_19 : decode cL_isPeak 19 = .ok (.astore_n 3, 1) := by decide +kernel
theorem dL_isPeak_20 : decode cL_isPeak 20 = .ok (.iconst 1, 1) := by decide +kernel
theorem dL_isPeak_21 : decode cL_isPeak 21 = .ok (.ireturn, 1) := by decide +kernel
theorem dL_isPeak_22 : decode cL_isPeak 22 = .ok (.astore_n 3, 1) := by decide +kernel
theorem dL_isPeak_23 : decode cL_isPeak 23 = .ok (.iconst 2, 1) := by decide +kernel
theorem dL_isPeak_24 : decode cL_isPeak 24 = .ok (.ireturn, 1) := by decide +kernel
theorem dL_isPeak_25 : decode cL_isPeak 25 = .ok (.iconst 0, 1) := by decide +kernel
theorem dL_isPeak_26 : decode cL_isPeak 26 = .ok (.ireturn, 1) := by decide +kernel
theorem dL_zonePower_0 : decode cL_zonePower 0 = .ok (.aload_n 2, 1) := by decide +kernel
theorem dL_zonePower_1 : decode cL_zonePower 1 = .ok (.iconst 0, 1) := by decide +kernel
theorem dL_zonePower_2 : decode cL_zonePower 2 = .ok (.aload_n 0, 1) := by decide +kernel
theorem dL_zonePower_3 : decode cL_zonePower 3 = .ok (.iload_n 1, 1) := by decide +kernel
theorem dL_zonePower_4 : decode cL_zonePower 4 = .ok (.invokevirtual 86, 3) := by decide +kernel
theorem dL_zonePower_7 : decode cL_zonePower 7 = .ok (.lastore, 1) := by decide +kernel
theorem dL_zonePower_8 : decode cL_zonePower 8 = .ok (.goto 9, 3) := by decide +kernel
theorem dL_zonePower_11 : decode cL_zonePower 11 = .ok (.astore_n 3, 1) := by decide +kernel
theorem dL_zonePower_12 : decode cL_zonePower 12 = .ok (.iconst 1, 1) := by decide +kernel
theorem dL_zonePower_13 : decode cL_zonePower 13 = .ok (.ireturn, 1) := by decide +kernel
theorem dL_zonePower_14 : decode cL_zonePower 14 = .ok (.astore_n 3, 1) := by decide +kernel
theorem dL_zonePower_15 : decode cL_zonePower 15 = .ok (.iconst 2, 1) := by decide +kernel
theorem dL_zonePower_16 : decode cL_zonePower 16 = .ok (.ireturn, 1) := by decide +kernel
theorem dL_zonePower_17 : decode cL_zonePower 17 = .ok (.iconst 0, 1) := by decide +kernel
theorem dL_zonePower_18 : decode cL_zonePower 18 = .ok (.ireturn, 1) := by decide +kernel
theorem dL_zoneBest_0 : decode cL_zoneBest 0 = .ok (.aload_n 2, 1) := by decide +kernel
theorem dL_zoneBest_1 : decode cL_zoneBest 1 = .ok (.iconst 0, 1) := by decide +kernel
theorem dL_zoneBest_2 : decode cL_zoneBest 2 = .ok (.aload_n 0, 1) := by decide +kernel
theorem dL_zoneBest_3 : decode cL_zoneBest 3 = .ok (.iload_n 1, 1) := by decide +kernel
theorem dL_zoneBest_4 : decode cL_zoneBest 4 = .ok (.invokevirtual 89, 3) := by decide +kernel
theorem dL_zoneBest_7 : decode cL_zoneBest 7 = .ok (.i2l, 1) := by decide +kernel
theorem dL_zoneBest_8 : decode cL_zoneBest 8 = .ok (.lastore, 1) := by decide +kernel
theorem dL_zoneBest_9 : decode cL_zoneBest 9 = .ok (.goto 9, 3) := by decide +kernel
theorem dL_zoneBest_12 : decode cL_zoneBest 12 = .ok (.astore_n 3, 1) := by decide +kernel
theorem dL_zoneBest_13 : decode cL_zoneBest 13 = .ok (.iconst 1, 1) := by decide +kernel
theorem dL_zoneBest_14 : decode cL_zoneBest 14 = .ok (.ireturn, 1) := by decide +kernel
theorem dL_zoneBest_15 : decode cL_zoneBest 15 = .ok (.astore_n 3, 1) := by decide +kernel
theorem dL_zoneBest_16 : decode cL_zoneBest 16 = .ok (.iconst 2, 1) := by decide +kernel
theorem dL_zoneBest_17 : decode cL_zoneBest 17 = .ok (.ireturn, 1) := by decide +kernel
theorem dL_zoneBest_18 : decode cL_zoneBest 18 = .ok (.iconst 0, 1) := by decide +kernel
theorem dL_zoneBest_19 : decode cL_zoneBest 19 = .ok (.ireturn, 1) := by decide +kernel
theorem dL_contrast_0 : decode cL_contrast 0 = .ok (.aload_n 1, 1) := by decide +kernel
theorem dL_contrast_1 : decode cL_contrast 1 = .ok (.iconst 0, 1) := by decide +kernel
theorem dL_contrast_2 : decode cL_contrast 2 = .ok (.aload_n 0, 1) := by decide +kernel
theorem dL_contrast_3 : decode cL_contrast 3 = .ok (.invokevirtual 92, 3) := by decide +kernel
theorem dL_contrast_6 : decode cL_contrast 6 = .ok (.f2d, 1) := by decide +kernel
theorem dL_contrast_7 : decode cL_contrast 7 = .ok (.dastore, 1) := by decide +kernel
theorem dL_contrast_8 : decode cL_contrast 8 = .ok (.goto 6, 3) := by decide +kernel
theorem dL_contrast_11 : decode cL_contrast 11 = .ok (.astore_n 2, 1) := by decide +kernel
theorem dL_contrast_12 : decode cL_contrast 12 = .ok (.iconst 1, 1) := by decide +kernel
theorem dL_contrast_13 : decode cL_contrast 13 = .ok (.ireturn, 1) := by decide +kernel
theorem dL_contrast_14 : decode cL_contrast 14 = .ok (.iconst 0, 1) := by decide +kernel
theorem dL_contrast_15 : decode cL_contrast 15 = .ok (.ireturn, 1) := by decide +kernel
theorem dL_alias_0 : decode cL_alias 0 = .ok (.aload 4, 2) := by decide +kernel
theorem dL_alias_2 : decode cL_alias 2 = .ok (.iconst 0, 1) := by decide +kernel
theorem dL_alias_3 : decode cL_alias 3 = .ok (.aload_n 0, 1) := by decide +kernel
theorem dL_alias_4 : decode cL_alias 4 = .ok (.iload_n 1, 1) := by decide +kernel
theorem dL_alias_5 : decode cL_alias 5 = .ok (.iload_n 2, 1) := by decide +kernel
theorem dL_alias_6 : decode cL_alias 6 = .ok (.iload_n 3, 1) := by decide +kernel
theorem dL_alias_7 : decode cL_alias 7 = .ok (.invokevirtual 96, 3) := by decide +kernel
theorem dL_alias_10 : decode cL_alias 10 = .ok (.i2l, 1) := by decide +kernel
theorem dL_alias_11 : decode cL_alias 11 = .ok (.lastore, 1) := by decide +kernel
theorem dL_alias_12 : decode cL_alias 12 = .ok (.goto 15, 3) := by decide +kernel
theorem dL_alias_15 : decode cL_alias 15 = .ok (.astore 5, 2) := by decide +kernel
theorem dL_alias_17 : decode cL_alias 17 = .ok (.iconst 1, 1) := by decide +kernel
theorem dL_alias_18 : decode cL_alias 18 = .ok (.ireturn, 1) := by decide +kernel
theorem dL_alias_19 : decode cL_alias 19 = .ok (.astore 5, 2) := by decide +kernel
theorem dL_alias_21 : decode cL_alias 21 = .ok (.iconst 2, 1) := by decide +kernel
theorem dL_alias_22 : decode cL_alias 22 = .ok (.ireturn, 1) := by decide +kernel
theorem dL_alias_23 : decode cL_alias 23 = .ok (.astore 5, 2) := by decide +kernel
theorem dL_alias_25 : decode cL_alias 25 = .ok (.iconst 3, 1) := by decide +kernel
theorem dL_alias_26 : decode cL_alias 26 = .ok (.ireturn, 1) := by decide +kernel
theorem dL_alias_27 : decode cL_alias 27 = .ok (.iconst 0, 1) := by decide +kernel
theorem dL_alias_28 : decode cL_alias 28 = .ok (.ireturn, 1) := by decide +kernel
theorem dL_isAlias_0 : decode cL_isAlias 0 = .ok (.aload 4, 2) := by decide +kernel
theorem dL_isAlias_2 : decode cL_isAlias 2 = .ok (.iconst 0, 1) := by decide +kernel
theorem dL_isAlias_3 : decode cL_isAlias 3 = .ok (.aload_n 0, 1) := by decide +kernel
theorem dL_isAlias_4 : decode cL_isAlias 4 = .ok (.iload_n 1, 1) := by decide +kernel
theorem dL_isAlias_5 : decode cL_isAlias 5 = .ok (.iload_n 2, 1) := by decide +kernel
theorem dL_isAlias_6 : decode cL_isAlias 6 = .ok (.iload_n 3, 1) := by decide +kernel
theorem dL_isAlias_7 : decode cL_isAlias 7 = .ok (.invokevirtual 99, 3) := by decide +kernel
theorem dL_isAlias_10 : decode cL_isAlias 10 = .ok (.ifCond .eq 7, 3) := by decide +kernel
theorem dL_isAlias_13 : decode cL_isAlias 13 = .ok (.lconst 1, 1) := by decide +kernel
theorem dL_isAlias_14 : decode cL_isAlias 14 = .ok (.goto 4, 3) := by decide +kernel
theorem dL_isAlias_17 : decode cL_isAlias 17 = .ok (.lconst 0, 1) := by decide +kernel
theorem dL_isAlias_18 : decode cL_isAlias 18 = .ok (.lastore, 1) := by decide +kernel
theorem dL_isAlias_19 : decode cL_isAlias 19 = .ok (.goto 15, 3) := by decide +kernel
theorem dL_isAlias_22 : decode cL_isAlias 22 = .ok (.astore 5, 2) := by decide +kernel
theorem dL_isAlias_24 : decode cL_isAlias 24 = .ok (.iconst 1, 1) := by decide +kernel
theorem dL_isAlias_25 : decode cL_isAlias 25 = .ok (.ireturn, 1) := by decide +kernel
theorem dL_isAlias_26 : decode cL_isAlias 26 = .ok (.astore 5, 2) := by decide +kernel
theorem dL_isAlias_28 : decode cL_isAlias 28 = .ok (.iconst 2, 1) := by decide +kernel
theorem dL_isAlias_29 : decode cL_isAlias 29 = .ok (.ireturn, 1) := by decide +kernel
theorem dL_isAlias_30 : decode cL_isAlias 30 = .ok (.astore 5, 2) := by decide +kernel
theorem dL_isAlias_32 : decode cL_isAlias 32 = .ok (.iconst 3, 1) := by decide +kernel
theorem dL_isAlias_33 : decode cL_isAlias 33 = .ok (.ireturn, 1) := by decide +kernel
theorem dL_isAlias_34 : decode cL_isAlias 34 = .ok (.iconst 0, 1) := by decide +kernel
theorem dL_isAlias_35 : decode cL_isAlias 35 = .ok (.ireturn, 1) := by decide +kernel
theorem dL_aliases_0 : decode cL_aliases 0 = .ok (.aload_n 3, 1) := by decide +kernel
theorem dL_aliases_1 : decode cL_aliases 1 = .ok (.iconst 0, 1) := by decide +kernel
theorem dL_aliases_2 : decode cL_aliases 2 = .ok (.aload_n 0, 1) := by decide +kernel
theorem dL_aliases_3 : decode cL_aliases 3 = .ok (.iload_n 1, 1) := by decide +kernel
theorem dL_aliases_4 : decode cL_aliases 4 = .ok (.iload_n 2, 1) := by decide +kernel
theorem dL_aliases_5 : decode cL_aliases 5 = .ok (.invokevirtual 103, 3) := by decide +kernel
theorem dL_aliases_8 : decode cL_aliases 8 = .ok (.i2l, 1) := by decide +kernel
theorem dL_aliases_9 : decode cL_aliases 9 = .ok (.lastore, 1) := by decide +kernel
theorem dL_aliases_10 : decode cL_aliases 10 = .ok (.goto 11, 3) := by decide +kernel
theorem dL_aliases_13 : decode cL_aliases 13 = .ok (.astore 4, 2) := by decide +kernel
theorem dL_aliases_15 : decode cL_aliases 15 = .ok (.iconst 1, 1) := by decide +kernel
theorem dL_aliases_16 : decode cL_aliases 16 = .ok (.ireturn, 1) := by decide +kernel
theorem dL_aliases_17 : decode cL_aliases 17 = .ok (.astore 4, 2) := by decide +kernel
theorem dL_aliases_19 : decode cL_aliases 19 = .ok (.iconst 2, 1) := by decide +kernel
theorem dL_aliases_20 : decode cL_aliases 20 = .ok (.ireturn, 1) := by decide +kernel
theorem dL_aliases_21 : decode cL_aliases 21 = .ok (.iconst 0, 1) := by decide +kernel
theorem dL_aliases_22 : decode cL_aliases 22 = .ok (.ireturn, 1) := by decide +kernel
theorem dL_blockPower_0 : decode cL_blockPower 0 = .ok (.aload 4, 2) := by decide +kernel
theorem dL_blockPower_2 : decode cL_blockPower 2 = .ok (.iconst 0, 1) := by decide +kernel
theorem dL_blockPower_3 : decode cL_blockPower 3 = .ok (.aload_n 0, 1) := by decide +kernel
theorem dL_blockPower_4 : decode cL_blockPower 4 = .ok (.iload_n 1, 1) := by decide +kernel
theorem dL_blockPower_5 : decode cL_blockPower 5 = .ok (.iload_n 2, 1) := by decide +kernel
theorem dL_blockPower_6 : decode cL_blockPower 6 = .ok (.iload_n 3, 1) := by decide +kernel
theorem dL_blockPower_7 : decode cL_blockPower 7 = .ok (.invokevirtual 106, 3) := by decide +kernel
theorem dL_blockPower_10 : decode cL_blockPower 10 = .ok (.lastore, 1) := by decide +kernel
theorem dL_blockPower_11 : decode cL_blockPower 11 = .ok (.goto 15, 3) := by decide +kernel
theorem dL_blockPower_14 : decode cL_blockPower 14 = .ok (.astore 5, 2) := by decide +kernel
theorem dL_blockPower_16 : decode cL_blockPower 16 = .ok (.iconst 1, 1) := by decide +kernel
theorem dL_blockPower_17 : decode cL_blockPower 17 = .ok (.ireturn, 1) := by decide +kernel
theorem dL_blockPower_18 : decode cL_blockPower 18 = .ok (.astore 5, 2) := by decide +kernel
theorem dL_blockPower_20 : decode cL_blockPower 20 = .ok (.iconst 2, 1) := by decide +kernel
theorem dL_blockPower_21 : decode cL_blockPower 21 = .ok (.ireturn, 1) := by decide +kernel
theorem dL_blockPower_22 : decode cL_blockPower 22 = .ok (.astore 5, 2) := by decide +kernel
theorem dL_blockPower_24 : decode cL_blockPower 24 = .ok (.iconst 3, 1) := by decide +kernel
theorem dL_blockPower_25 : decode cL_blockPower 25 = .ok (.ireturn, 1) := by decide +kernel
theorem dL_blockPower_26 : decode cL_blockPower 26 = .ok (.iconst 0, 1) := by decide +kernel
theorem dL_blockPower_27 : decode cL_blockPower 27 = .ok (.ireturn, 1) := by decide +kernel
theorem dL_blockBest_0 : decode cL_blockBest 0 = .ok (.aload_n 3, 1) := by decide +kernel
theorem dL_blockBest_1 : decode cL_blockBest 1 = .ok (.iconst 0, 1) := by decide +kernel
theorem dL_blockBest_2 : decode cL_blockBest 2 = .ok (.aload_n 0, 1) := by decide +kernel
theorem dL_blockBest_3 : decode cL_blockBest 3 = .ok (.iload_n 1, 1) := by decide +kernel
theorem dL_blockBest_4 : decode cL_blockBest 4 = .ok (.iload_n 2, 1) := by decide +kernel
theorem dL_blockBest_5 : decode cL_blockBest 5 = .ok (.invokevirtual 110, 3) := by decide +kernel
theorem dL_blockBest_8 : decode cL_blockBest 8 = .ok (.i2l, 1) := by decide +kernel
theorem dL_blockBest_9 : decode cL_blockBest 9 = .ok (.lastore, 1) := by decide +kernel
theorem dL_blockBest_10 : decode cL_blockBest 10 = .ok (.goto 11, 3) := by decide +kernel
theorem dL_blockBest_13 : decode cL_blockBest 13 = .ok (.astore 4, 2) := by decide +kernel
theorem dL_blockBest_15 : decode cL_blockBest 15 = .ok (.iconst 1, 1) := by decide +kernel
theorem dL_blockBest_16 : decode cL_blockBest 16 = .ok (.ireturn, 1) := by decide +kernel
theorem dL_blockBest_17 : decode cL_blockBest 17 = .ok (.astore 4, 2) := by decide +kernel
theorem dL_blockBest_19 : decode cL_blockBest 19 = .ok (.iconst 2, 1) := by decide +kernel
theorem dL_blockBest_20 : decode cL_blockBest 20 = .ok (.ireturn, 1) := by decide +kernel
theorem dL_blockBest_21 : decode cL_blockBest 21 = .ok (.iconst 0, 1) := by decide +kernel
theorem dL_blockBest_22 : decode cL_blockBest 22 = .ok (.ireturn, 1) := by decide +kernel
theorem dL_path_0 : decode cL_path 0 = .ok (.aload_n 2, 1) := by decide +kernel
theorem dL_path_1 : decode cL_path 1 = .ok (.iconst 0, 1) := by decide +kernel
theorem dL_path_2 : decode cL_path 2 = .ok (.aload_n 0, 1) := by decide +kernel
theorem dL_path_3 : decode cL_path 3 = .ok (.iload_n 1, 1) := by decide +kernel
theorem dL_path_4 : decode cL_path 4 = .ok (.invokevirtual 113, 3) := by decide +kernel
theorem dL_path_7 : decode cL_path 7 = .ok (.i2l, 1) := by decide +kernel
theorem dL_path_8 : decode cL_path 8 = .ok (.lastore, 1) := by decide +kernel
theorem dL_path_9 : decode cL_path 9 = .ok (.goto 9, 3) := by decide +kernel
theorem dL_path_12 : decode cL_path 12 = .ok (.astore_n 3, 1) := by decide +kernel
theorem dL_path_13 : decode cL_path 13 = .ok (.iconst 1, 1) := by decide +kernel
theorem dL_path_14 : decode cL_path 14 = .ok (.ireturn, 1) := by decide +kernel
theorem dL_path_15 : decode cL_path 15 = .ok (.astore_n 3, 1) := by decide +kernel
theorem dL_path_16 : decode cL_path 16 = .ok (.iconst 2, 1) := by decide +kernel
theorem dL_path_17 : decode cL_path 17 = .ok (.ireturn, 1) := by decide +kernel
theorem dL_path_18 : decode cL_path 18 = .ok (.iconst 0, 1) := by decide +kernel
theorem dL_path_19 : decode cL_path 19 = .ok (.ireturn, 1) := by decide +kernel
theorem dL_trackScore_0 : decode cL_trackScore 0 = .ok (.aload_n 2, 1) := by decide +kernel
theorem dL_trackScore_1 : decode cL_trackScore 1 = .ok (.iconst 0, 1) := by decide +kernel
theorem dL_trackScore_2 : decode cL_trackScore 2 = .ok (.aload_n 0, 1) := by decide +kernel
theorem dL_trackScore_3 : decode cL_trackScore 3 = .ok (.iload_n 1, 1) := by decide +kernel
theorem dL_trackScore_4 : decode cL_trackScore 4 = .ok (.invokevirtual 116, 3) := by decide +kernel
theorem dL_trackScore_7 : decode cL_trackScore 7 = .ok (.lastore, 1) := by decide +kernel
theorem dL_trackScore_8 : decode cL_trackScore 8 = .ok (.goto 9, 3) := by decide +kernel
theorem dL_trackScore_11 : decode cL_trackScore 11 = .ok (.astore_n 3, 1) := by decide +kernel
theorem dL_trackScore_12 : decode cL_trackScore 12 = .ok (.iconst 1, 1) := by decide +kernel
theorem dL_trackScore_13 : decode cL_trackScore 13 = .ok (.ireturn, 1) := by decide +kernel
theorem dL_trackScore_14 : decode cL_trackScore 14 = .ok (.astore_n 3, 1) := by decide +kernel
theorem dL_trackScore_15 : decode cL_trackScore 15 = .ok (.iconst 2, 1) := by decide +kernel
theorem dL_trackScore_16 : decode cL_trackScore 16 = .ok (.ireturn, 1) := by decide +kernel
theorem dL_trackScore_17 : decode cL_trackScore 17 = .ok (.iconst 0, 1) := by decide +kernel
theorem dL_trackScore_18 : decode cL_trackScore 18 = .ok (.ireturn, 1) := by decide +kernel
theorem dL_trackCell_0 : decode cL_trackCell 0 = .ok (.aload_n 3, 1) := by decide +kernel
theorem dL_trackCell_1 : decode cL_trackCell 1 = .ok (.iconst 0, 1) := by decide +kernel
theorem dL_trackCell_2 : decode cL_trackCell 2 = .ok (.aload_n 0, 1) := by decide +kernel
theorem dL_trackCell_3 : decode cL_trackCell 3 = .ok (.iload_n 1, 1) := by decide +kernel
theorem dL_trackCell_4 : decode cL_trackCell 4 = .ok (.iload_n 2, 1) := by decide +kernel
theorem dL_trackCell_5 : decode cL_trackCell 5 = .ok (.invokevirtual 119, 3) := by decide +kernel
theorem dL_trackCell_8 : decode cL_trackCell 8 = .ok (.i2l, 1) := by decide +kernel
theorem dL_trackCell_9 : decode cL_trackCell 9 = .ok (.lastore, 1) := by decide +kernel
theorem dL_trackCell_10 : decode cL_trackCell 10 = .ok (.goto 15, 3) := by decide +kernel
theorem dL_trackCell_13 : decode cL_trackCell 13 = .ok (.astore 4, 2) := by decide +kernel
theorem dL_trackCell_15 : decode cL_trackCell 15 = .ok (.iconst 1, 1) := by decide +kernel
theorem dL_trackCell_16 : decode cL_trackCell 16 = .ok (.ireturn, 1) := by decide +kernel
theorem dL_trackCell_17 : decode cL_trackCell 17 = .ok (.astore 4, 2) := by decide +kernel
theorem dL_trackCell_19 : decode cL_trackCell 19 = .ok (.iconst 2, 1) := by decide +kernel
theorem dL_trackCell_20 : decode cL_trackCell 20 = .ok (.ireturn, 1) := by decide +kernel
theorem dL_trackCell_21 : decode cL_trackCell 21 = .ok (.astore 4, 2) := by decide +kernel
theorem dL_trackCell_23 : decode cL_trackCell 23 = .ok (.iconst 3, 1) := by decide +kernel
theorem dL_trackCell_24 : decode cL_trackCell 24 = .ok (.ireturn, 1) := by decide +kernel
theorem dL_trackCell_25 : decode cL_trackCell 25 = .ok (.iconst 0, 1) := by decide +kernel
theorem dL_trackCell_26 : decode cL_trackCell 26 = .ok (.ireturn, 1) := by decide +kernel
theorem dL_movingPower_0 : decode cL_movingPower 0 = .ok (.aload 4, 2) := by decide +kernel
theorem dL_movingPower_2 : decode cL_movingPower 2 = .ok (.iconst 0, 1) := by decide +kernel
theorem dL_movingPower_3 : decode cL_movingPower 3 = .ok (.aload_n 0, 1) := by decide +kernel
theorem dL_movingPower_4 : decode cL_movingPower 4 = .ok (.iload_n 1, 1) := by decide +kernel
theorem dL_movingPower_5 : decode cL_movingPower 5 = .ok (.iload_n 2, 1) := by decide +kernel
theorem dL_movingPower_6 : decode cL_movingPower 6 = .ok (.iload_n 3, 1) := by decide +kernel
theorem dL_movingPower_7 : decode cL_movingPower 7 = .ok (.invokevirtual 122, 3) := by decide +kernel
theorem dL_movingPower_10 : decode cL_movingPower 10 = .ok (.lastore, 1) := by decide +kernel
theorem dL_movingPower_11 : decode cL_movingPower 11 = .ok (.goto 15, 3) := by decide +kernel
theorem dL_movingPower_14 : decode cL_movingPower 14 = .ok (.astore 5, 2) := by decide +kernel
theorem dL_movingPower_16 : decode cL_movingPower 16 = .ok (.iconst 1, 1) := by decide +kernel
theorem dL_movingPower_17 : decode cL_movingPower 17 = .ok (.ireturn, 1) := by decide +kernel
theorem dL_movingPower_18 : decode cL_movingPower 18 = .ok (.astore 5, 2) := by decide +kernel
theorem dL_movingPower_20 : decode cL_movingPower 20 = .ok (.iconst 2, 1) := by decide +kernel
theorem dL_movingPower_21 : decode cL_movingPower 21 = .ok (.ireturn, 1) := by decide +kernel
theorem dL_movingPower_22 : decode cL_movingPower 22 = .ok (.astore 5, 2) := by decide +kernel
theorem dL_movingPower_24 : decode cL_movingPower 24 = .ok (.iconst 3, 1) := by decide +kernel
theorem dL_movingPower_25 : decode cL_movingPower 25 = .ok (.ireturn, 1) := by decide +kernel
theorem dL_movingPower_26 : decode cL_movingPower 26 = .ok (.iconst 0, 1) := by decide +kernel
theorem dL_movingPower_27 : decode cL_movingPower 27 = .ok (.ireturn, 1) := by decide +kernel
theorem dL_bestVelocity_0 : decode cL_bestVelocity 0 = .ok (.aload 4, 2) := by decide +kernel
theorem dL_bestVelocity_2 : decode cL_bestVelocity 2 = .ok (.iconst 0, 1) := by decide +kernel
theorem dL_bestVelocity_3 : decode cL_bestVelocity 3 = .ok (.aload_n 0, 1) := by decide +kernel
theorem dL_bestVelocity_4 : decode cL_bestVelocity 4 = .ok (.iload_n 1, 1) := by decide +kernel
theorem dL_bestVelocity_5 : decode cL_bestVelocity 5 = .ok (.iload_n 2, 1) := by decide +kernel
theorem dL_bestVelocity_6 : decode cL_bestVelocity 6 = .ok (.iload_n 3, 1) := by decide +kernel
theorem dL_bestVelocity_7 : decode cL_bestVelocity 7 = .ok (.invokevirtual 125, 3) := by decide +kernel
theorem dL_bestVelocity_10 : decode cL_bestVelocity 10 = .ok (.i2l, 1) := by decide +kernel
theorem dL_bestVelocity_11 : decode cL_bestVelocity 11 = .ok (.lastore, 1) := by decide +kernel
theorem dL_bestVelocity_12 : decode cL_bestVelocity 12 = .ok (.goto 15, 3) := by decide +kernel
theorem dL_bestVelocity_15 : decode cL_bestVelocity 15 = .ok (.astore 5, 2) := by decide +kernel
theorem dL_bestVelocity_17 : decode cL_bestVelocity 17 = .ok (.iconst 1, 1) := by decide +kernel
theorem dL_bestVelocity_18 : decode cL_bestVelocity 18 = .ok (.ireturn, 1) := by decide +kernel
theorem dL_bestVelocity_19 : decode cL_bestVelocity 19 = .ok (.astore 5, 2) := by decide +kernel
theorem dL_bestVelocity_21 : decode cL_bestVelocity 21 = .ok (.iconst 2, 1) := by decide +kernel
theorem dL_bestVelocity_22 : decode cL_bestVelocity 22 = .ok (.ireturn, 1) := by decide +kernel
theorem dL_bestVelocity_23 : decode cL_bestVelocity 23 = .ok (.astore 5, 2) := by decide +kernel
theorem dL_bestVelocity_25 : decode cL_bestVelocity 25 = .ok (.iconst 3, 1) := by decide +kernel
theorem dL_bestVelocity_26 : decode cL_bestVelocity 26 = .ok (.ireturn, 1) := by decide +kernel
theorem dL_bestVelocity_27 : decode cL_bestVelocity 27 = .ok (.iconst 0, 1) := by decide +kernel
theorem dL_bestVelocity_28 : decode cL_bestVelocity 28 = .ok (.ireturn, 1) := by decide +kernel
theorem dL_correlation_0 : decode cL_correlation 0 = .ok (.aload 4, 2) := by decide +kernel
theorem dL_correlation_2 : decode cL_correlation 2 = .ok (.iconst 0, 1) := by decide +kernel
theorem dL_correlation_3 : decode cL_correlation 3 = .ok (.aload_n 0, 1) := by decide +kernel
theorem dL_correlation_4 : decode cL_correlation 4 = .ok (.iload_n 1, 1) := by decide +kernel
theorem dL_correlation_5 : decode cL_correlation 5 = .ok (.iload_n 2, 1) := by decide +kernel
theorem dL_correlation_6 : decode cL_correlation 6 = .ok (.iload_n 3, 1) := by decide +kernel
theorem dL_correlation_7 : decode cL_correlation 7 = .ok (.invokevirtual 128, 3) := by decide +kernel
theorem dL_correlation_10 : decode cL_correlation 10 = .ok (.lastore, 1) := by decide +kernel
theorem dL_correlation_11 : decode cL_correlation 11 = .ok (.goto 15, 3) := by decide +kernel
theorem dL_correlation_14 : decode cL_correlation 14 = .ok (.astore 5, 2) := by decide +kernel
theorem dL_correlation_16 : decode cL_correlation 16 = .ok (.iconst 1, 1) := by decide +kernel
theorem dL_correlation_17 : decode cL_correlation 17 = .ok (.ireturn, 1) := by decide +kernel
theorem dL_correlation_18 : decode cL_correlation 18 = .ok (.astore 5, 2) := by decide +kernel
theorem dL_correlation_20 : decode cL_correlation 20 = .ok (.iconst 2, 1) := by decide +kernel
theorem dL_correlation_21 : decode cL_correlation 21 = .ok (.ireturn, 1) := by decide +kernel
theorem dL_correlation_22 : decode cL_correlation 22 = .ok (.astore 5, 2) := by decide +kernel
theorem dL_correlation_24 : decode cL_correlation 24 = .ok (.iconst 3, 1) := by decide +kernel
theorem dL_correlation_25 : decode cL_correlation 25 = .ok (.ireturn, 1) := by decide +kernel
theorem dL_correlation_26 : decode cL_correlation 26 = .ok (.iconst 0, 1) := by decide +kernel
theorem dL_correlation_27 : decode cL_correlation 27 = .ok (.ireturn, 1) := by decide +kernel
theorem dL_bestLag_0 : decode cL_bestLag 0 = .ok (.aload 4, 2) := by decide +kernel
theorem dL_bestLag_2 : decode cL_bestLag 2 = .ok (.iconst 0, 1) := by decide +kernel
theorem dL_bestLag_3 : decode cL_bestLag 3 = .ok (.aload_n 0, 1) := by decide +kernel
theorem dL_bestLag_4 : decode cL_bestLag 4 = .ok (.iload_n 1, 1) := by decide +kernel
theorem dL_bestLag_5 : decode cL_bestLag 5 = .ok (.iload_n 2, 1) := by decide +kernel
theorem dL_bestLag_6 : decode cL_bestLag 6 = .ok (.iload_n 3, 1) := by decide +kernel
theorem dL_bestLag_7 : decode cL_bestLag 7 = .ok (.invokevirtual 131, 3) := by decide +kernel
theorem dL_bestLag_10 : decode cL_bestLag 10 = .ok (.i2l, 1) := by decide +kernel
theorem dL_bestLag_11 : decode cL_bestLag 11 = .ok (.lastore, 1) := by decide +kernel
theorem dL_bestLag_12 : decode cL_bestLag 12 = .ok (.goto 15, 3) := by decide +kernel
theorem dL_bestLag_15 : decode cL_bestLag 15 = .ok (.astore 5, 2) := by decide +kernel
theorem dL_bestLag_17 : decode cL_bestLag 17 = .ok (.iconst 1, 1) := by decide +kernel
theorem dL_bestLag_18 : decode cL_bestLag 18 = .ok (.ireturn, 1) := by decide +kernel
theorem dL_bestLag_19 : decode cL_bestLag 19 = .ok (.astore 5, 2) := by decide +kernel
theorem dL_bestLag_21 : decode cL_bestLag 21 = .ok (.iconst 2, 1) := by decide +kernel
theorem dL_bestLag_22 : decode cL_bestLag 22 = .ok (.ireturn, 1) := by decide +kernel
theorem dL_bestLag_23 : decode cL_bestLag 23 = .ok (.astore 5, 2) := by decide +kernel
theorem dL_bestLag_25 : decode cL_bestLag 25 = .ok (.iconst 3, 1) := by decide +kernel
theorem dL_bestLag_26 : decode cL_bestLag 26 = .ok (.ireturn, 1) := by decide +kernel
theorem dL_bestLag_27 : decode cL_bestLag 27 = .ok (.iconst 0, 1) := by decide +kernel
theorem dL_bestLag_28 : decode cL_bestLag 28 = .ok (.ireturn, 1) := by decide +kernel
theorem dL_level_0 : decode cL_level 0 = .ok (.aload_n 2, 1) := by decide +kernel
theorem dL_level_1 : decode cL_level 1 = .ok (.iconst 0, 1) := by decide +kernel
theorem dL_level_2 : decode cL_level 2 = .ok (.aload_n 0, 1) := by decide +kernel
theorem dL_level_3 : decode cL_level 3 = .ok (.iload_n 1, 1) := by decide +kernel
theorem dL_level_4 : decode cL_level 4 = .ok (.invokevirtual 134, 3) := by decide +kernel
theorem dL_level_7 : decode cL_level 7 = .ok (.lastore, 1) := by decide +kernel
theorem dL_level_8 : decode cL_level 8 = .ok (.goto 9, 3) := by decide +kernel
theorem dL_level_11 : decode cL_level 11 = .ok (.astore_n 3, 1) := by decide +kernel
theorem dL_level_12 : decode cL_level 12 = .ok (.iconst 1, 1) := by decide +kernel
theorem dL_level_13 : decode cL_level 13 = .ok (.ireturn, 1) := by decide +kernel
theorem dL_level_14 : decode cL_level 14 = .ok (.astore_n 3, 1) := by decide +kernel
theorem dL_level_15 : decode cL_level 15 = .ok (.iconst 2, 1) := by decide +kernel
theorem dL_level_16 : decode cL_level 16 = .ok (.ireturn, 1) := by decide +kernel
theorem dL_level_17 : decode cL_level 17 = .ok (.iconst 0, 1) := by decide +kernel
theorem dL_level_18 : decode cL_level 18 = .ok (.ireturn, 1) := by decide +kernel
theorem dL_loudest_0 : decode cL_loudest 0 = .ok (.aload_n 2, 1) := by decide +kernel
theorem dL_loudest_1 : decode cL_loudest 1 = .ok (.iconst 0, 1) := by decide +kernel
theorem dL_loudest_2 : decode cL_loudest 2 = .ok (.aload_n 0, 1) := by decide +kernel
theorem dL_loudest_3 : decode cL_loudest 3 = .ok (.iload_n 1, 1) := by decide +kernel
theorem dL_loudest_4 : decode cL_loudest 4 = .ok (.invokevirtual 137, 3) := by decide +kernel
theorem dL_loudest_7 : decode cL_loudest 7 = .ok (.i2l, 1) := by decide +kernel
theorem dL_loudest_8 : decode cL_loudest 8 = .ok (.lastore, 1) := by decide +kernel
theorem dL_loudest_9 : decode cL_loudest 9 = .ok (.goto 9, 3) := by decide +kernel
theorem dL_loudest_12 : decode cL_loudest 12 = .ok (.astore_n 3, 1) := by decide +kernel
theorem dL_loudest_13 : decode cL_loudest 13 = .ok (.iconst 1, 1) := by decide +kernel
theorem dL_loudest_14 : decode cL_loudest 14 = .ok (.ireturn, 1) := by decide +kernel
theorem dL_loudest_15 : decode cL_loudest 15 = .ok (.astore_n 3, 1) := by decide +kernel
theorem dL_loudest_16 : decode cL_loudest 16 = .ok (.iconst 2, 1) := by decide +kernel
theorem dL_loudest_17 : decode cL_loudest 17 = .ok (.ireturn, 1) := by decide +kernel
theorem dL_loudest_18 : decode cL_loudest 18 = .ok (.iconst 0, 1) := by decide +kernel
theorem dL_loudest_19 : decode cL_loudest 19 = .ok (.ireturn, 1) := by decide +kernel
theorem dL_writeMap_0 : decode cL_writeMap 0 = .ok (.aload_n 1, 1) := by decide +kernel
theorem dL_writeMap_1 : decode cL_writeMap 1 = .ok (.iconst 0, 1) := by decide +kernel
theorem dL_writeMap_2 : decode cL_writeMap 2 = .ok (.aload_n 0, 1) := by decide +kernel
theorem dL_writeMap_3 : decode cL_writeMap 3 = .ok (.invokevirtual 140, 3) := by decide +kernel
theorem dL_writeMap_6 : decode cL_writeMap 6 = .ok (.i2l, 1) := by decide +kernel
theorem dL_writeMap_7 : decode cL_writeMap 7 = .ok (.lastore, 1) := by decide +kernel
theorem dL_writeMap_8 : decode cL_writeMap 8 = .ok (.goto 6, 3) := by decide +kernel
theorem dL_writeMap_11 : decode cL_writeMap 11 = .ok (.astore_n 2, 1) := by decide +kernel
theorem dL_writeMap_12 : decode cL_writeMap 12 = .ok (.iconst 1, 1) := by decide +kernel
theorem dL_writeMap_13 : decode cL_writeMap 13 = .ok (.ireturn, 1) := by decide +kernel
theorem dL_writeMap_14 : decode cL_writeMap 14 = .ok (.iconst 0, 1) := by decide +kernel
theorem dL_writeMap_15 : decode cL_writeMap 15 = .ok (.ireturn, 1) := by decide +kernel
theorem dL_mapByte_0 : decode cL_mapByte 0 = .ok (.aload_n 2, 1) := by decide +kernel
theorem dL_mapByte_1 : decode cL_mapByte 1 = .ok (.iconst 0, 1) := by decide +kernel
theorem dL_mapByte_2 : decode cL_mapByte 2 = .ok (.aload_n 0, 1) := by decide +kernel
theorem dL_mapByte_3 : decode cL_mapByte 3 = .ok (.iload_n 1, 1) := by decide +kernel
theorem dL_mapByte_4 : decode cL_mapByte 4 = .ok (.invokevirtual 143, 3) := by decide +kernel
theorem dL_mapByte_7 : decode cL_mapByte 7 = .ok (.i2l, 1) := by decide +kernel
theorem dL_mapByte_8 : decode cL_mapByte 8 = .ok (.lastore, 1) := by decide +kernel
theorem dL_mapByte_9 : decode cL_mapByte 9 = .ok (.goto 6, 3) := by decide +kernel
theorem dL_mapByte_12 : decode cL_mapByte 12 = .ok (.astore_n 3, 1) := by decide +kernel
theorem dL_mapByte_13 : decode cL_mapByte 13 = .ok (.iconst 1, 1) := by decide +kernel
theorem dL_mapByte_14 : decode cL_mapByte 14 = .ok (.ireturn, 1) := by decide +kernel
theorem dL_mapByte_15 : decode cL_mapByte 15 = .ok (.iconst 0, 1) := by decide +kernel
theorem dL_mapByte_16 : decode cL_mapByte 16 = .ok (.ireturn, 1) := by decide +kernel
theorem dL_pointBest_0 : decode cL_pointBest 0 = .ok (.aload_n 3, 1) := by decide +kernel
theorem dL_pointBest_1 : decode cL_pointBest 1 = .ok (.iconst 0, 1) := by decide +kernel
theorem dL_pointBest_2 : decode cL_pointBest 2 = .ok (.aload_n 0, 1) := by decide +kernel
theorem dL_pointBest_3 : decode cL_pointBest 3 = .ok (.iload_n 1, 1) := by decide +kernel
theorem dL_pointBest_4 : decode cL_pointBest 4 = .ok (.iload_n 2, 1) := by decide +kernel
theorem dL_pointBest_5 : decode cL_pointBest 5 = .ok (.invokevirtual 146, 3) := by decide +kernel
theorem dL_pointBest_8 : decode cL_pointBest 8 = .ok (.i2l, 1) := by decide +kernel
theorem dL_pointBest_9 : decode cL_pointBest 9 = .ok (.lastore, 1) := by decide +kernel
theorem dL_pointBest_10 : decode cL_pointBest 10 = .ok (.goto 15, 3) := by decide +kernel
theorem dL_pointBest_13 : decode cL_pointBest 13 = .ok (.astore 4, 2) := by decide +kernel
theorem dL_pointBest_15 : decode cL_pointBest 15 = .ok (.iconst 1, 1) := by decide +kernel
theorem dL_pointBest_16 : decode cL_pointBest 16 = .ok (.ireturn, 1) := by decide +kernel
theorem dL_pointBest_17 : decode cL_pointBest 17 = .ok (.astore 4, 2) := by decide +kernel
theorem dL_pointBest_19 : decode cL_pointBest 19 = .ok (.iconst 2, 1) := by decide +kernel
theorem dL_pointBest_20 : decode cL_pointBest 20 = .ok (.ireturn, 1) := by decide +kernel
theorem dL_pointBest_21 : decode cL_pointBest 21 = .ok (.astore 4, 2) := by decide +kernel
theorem dL_pointBest_23 : decode cL_pointBest 23 = .ok (.iconst 3, 1) := by decide +kernel
theorem dL_pointBest_24 : decode cL_pointBest 24 = .ok (.ireturn, 1) := by decide +kernel
theorem dL_pointBest_25 : decode cL_pointBest 25 = .ok (.iconst 0, 1) := by decide +kernel
theorem dL_pointBest_26 : decode cL_pointBest 26 = .ok (.ireturn, 1) := by decide +kernel
theorem dL_pointPower_0 : decode cL_pointPower 0 = .ok (.aload 4, 2) := by decide +kernel
theorem dL_pointPower_2 : decode cL_pointPower 2 = .ok (.iconst 0, 1) := by decide +kernel
theorem dL_pointPower_3 : decode cL_pointPower 3 = .ok (.aload_n 0, 1) := by decide +kernel
theorem dL_pointPower_4 : decode cL_pointPower 4 = .ok (.iload_n 1, 1) := by decide +kernel
theorem dL_pointPower_5 : decode cL_pointPower 5 = .ok (.iload_n 2, 1) := by decide +kernel
theorem dL_pointPower_6 : decode cL_pointPower 6 = .ok (.iload_n 3, 1) := by decide +kernel
theorem dL_pointPower_7 : decode cL_pointPower 7 = .ok (.invokevirtual 149, 3) := by decide +kernel
theorem dL_pointPower_10 : decode cL_pointPower 10 = .ok (.lastore, 1) := by decide +kernel
theorem dL_pointPower_11 : decode cL_pointPower 11 = .ok (.goto 15, 3) := by decide +kernel
theorem dL_pointPower_14 : decode cL_pointPower 14 = .ok (.astore 5, 2) := by decide +kernel
theorem dL_pointPower_16 : decode cL_pointPower 16 = .ok (.iconst 1, 1) := by decide +kernel
theorem dL_pointPower_17 : decode cL_pointPower 17 = .ok (.ireturn, 1) := by decide +kernel
theorem dL_pointPower_18 : decode cL_pointPower 18 = .ok (.astore 5, 2) := by decide +kernel
theorem dL_pointPower_20 : decode cL_pointPower 20 = .ok (.iconst 2, 1) := by decide +kernel
theorem dL_pointPower_21 : decode cL_pointPower 21 = .ok (.ireturn, 1) := by decide +kernel
theorem dL_pointPower_22 : decode cL_pointPower 22 = .ok (.astore 5, 2) := by decide +kernel
theorem dL_pointPower_24 : decode cL_pointPower 24 = .ok (.iconst 3, 1) := by decide +kernel
theorem dL_pointPower_25 : decode cL_pointPower 25 = .ok (.ireturn, 1) := by decide +kernel
theorem dL_pointPower_26 : decode cL_pointPower 26 = .ok (.iconst 0, 1) := by decide +kernel
theorem dL_pointPower_27 : decode cL_pointPower 27 = .ok (.ireturn, 1) := by decide +kernel
theorem dL_bestWithout_0 : decode cL_bestWithout 0 = .ok (.aload_n 2, 1) := by decide +kernel
theorem dL_bestWithout_1 : decode cL_bestWithout 1 = .ok (.iconst 0, 1) := by decide +kernel
theorem dL_bestWithout_2 : decode cL_bestWithout 2 = .ok (.aload_n 0, 1) := by decide +kernel
theorem dL_bestWithout_3 : decode cL_bestWithout 3 = .ok (.iload_n 1, 1) := by decide +kernel
theorem dL_bestWithout_4 : decode cL_bestWithout 4 = .ok (.invokevirtual 152, 3) := by decide +kernel
theorem dL_bestWithout_7 : decode cL_bestWithout 7 = .ok (.i2l, 1) := by decide +kernel
theorem dL_bestWithout_8 : decode cL_bestWithout 8 = .ok (.lastore, 1) := by decide +kernel
theorem dL_bestWithout_9 : decode cL_bestWithout 9 = .ok (.goto 9, 3) := by decide +kernel
theorem dL_bestWithout_12 : decode cL_bestWithout 12 = .ok (.astore_n 3, 1) := by decide +kernel
theorem dL_bestWithout_13 : decode cL_bestWithout 13 = .ok (.iconst 1, 1) := by decide +kernel
theorem dL_bestWithout_14 : decode cL_bestWithout 14 = .ok (.ireturn, 1) := by decide +kernel
theorem dL_bestWithout_15 : decode cL_bestWithout 15 = .ok (.astore_n 3, 1) := by decide +kernel
theorem dL_bestWithout_16 : decode cL_bestWithout 16 = .ok (.iconst 2, 1) := by decide +kernel
theorem dL_bestWithout_17 : decode cL_bestWithout 17 = .ok (.ireturn, 1) := by decide +kernel
theorem dL_bestWithout_18 : decode cL_bestWithout 18 = .ok (.iconst 0, 1) := by decide +kernel
theorem dL_bestWithout_19 : decode cL_bestWithout 19 = .ok (.ireturn, 1) := by decide +kernel
theorem dL_bestIfOff_0 : decode cL_bestIfOff 0 = .ok (.aload_n 2, 1) := by decide +kernel
theorem dL_bestIfOff_1 : decode cL_bestIfOff 1 = .ok (.iconst 0, 1) := by decide +kernel
theorem dL_bestIfOff_2 : decode cL_bestIfOff 2 = .ok (.aload_n 0, 1) := by decide +kernel
theorem dL_bestIfOff_3 : decode cL_bestIfOff 3 = .ok (.iload_n 1, 1) := by decide +kernel
theorem dL_bestIfOff_4 : decode cL_bestIfOff 4 = .ok (.invokevirtual 155, 3) := by decide +kernel
theorem dL_bestIfOff_7 : decode cL_bestIfOff 7 = .ok (.i2l, 1) := by decide +kernel
theorem dL_bestIfOff_8 : decode cL_bestIfOff 8 = .ok (.lastore, 1) := by decide +kernel
theorem dL_bestIfOff_9 : decode cL_bestIfOff 9 = .ok (.goto 9, 3) := by decide +kernel
theorem dL_bestIfOff_12 : decode cL_bestIfOff 12 = .ok (.astore_n 3, 1) := by decide +kernel
theorem dL_bestIfOff_13 : decode cL_bestIfOff 13 = .ok (.iconst 1, 1) := by decide +kernel
theorem dL_bestIfOff_14 : decode cL_bestIfOff 14 = .ok (.ireturn, 1) := by decide +kernel
theorem dL_bestIfOff_15 : decode cL_bestIfOff 15 = .ok (.astore_n 3, 1) := by decide +kernel
theorem dL_bestIfOff_16 : decode cL_bestIfOff 16 = .ok (.iconst 2, 1) := by decide +kernel
theorem dL_bestIfOff_17 : decode cL_bestIfOff 17 = .ok (.ireturn, 1) := by decide +kernel
theorem dL_bestIfOff_18 : decode cL_bestIfOff 18 = .ok (.iconst 0, 1) := by decide +kernel
theorem dL_bestIfOff_19 : decode cL_bestIfOff 19 = .ok (.ireturn, 1) := by decide +kernel
theorem dL_mute_0 : decode cL_mute 0 = .ok (.aload_n 3, 1) := by decide +kernel
theorem dL_mute_1 : decode cL_mute 1 = .ok (.iconst 0, 1) := by decide +kernel
theorem dL_mute_2 : decode cL_mute 2 = .ok (.aload_n 0, 1) := by decide +kernel
theorem dL_mute_3 : decode cL_mute 3 = .ok (.iload_n 1, 1) := by decide +kernel
theorem dL_mute_4 : decode cL_mute 4 = .ok (.iload_n 2, 1) := by decide +kernel
theorem dL_mute_5 : decode cL_mute 5 = .ok (.invokevirtual 158, 3) := by decide +kernel
theorem dL_mute_8 : decode cL_mute 8 = .ok (.ifCond .eq 7, 3) := by decide +kernel
theorem dL_mute_11 : decode cL_mute 11 = .ok (.lconst 1, 1) := by decide +kernel
theorem dL_mute_12 : decode cL_mute 12 = .ok (.goto 4, 3) := by decide +kernel
theorem dL_mute_15 : decode cL_mute 15 = .ok (.lconst 0, 1) := by decide +kernel
theorem dL_mute_16 : decode cL_mute 16 = .ok (.lastore, 1) := by decide +kernel
theorem dL_mute_17 : decode cL_mute 17 = .ok (.goto 11, 3) := by decide +kernel
theorem dL_mute_20 : decode cL_mute 20 = .ok (.astore 4, 2) := by decide +kernel
theorem dL_mute_22 : decode cL_mute 22 = .ok (.iconst 1, 1) := by decide +kernel
theorem dL_mute_23 : decode cL_mute 23 = .ok (.ireturn, 1) := by decide +kernel
theorem dL_mute_24 : decode cL_mute 24 = .ok (.astore 4, 2) := by decide +kernel
theorem dL_mute_26 : decode cL_mute 26 = .ok (.iconst 2, 1) := by decide +kernel
theorem dL_mute_27 : decode cL_mute 27 = .ok (.ireturn, 1) := by decide +kernel
theorem dL_mute_28 : decode cL_mute 28 = .ok (.iconst 0, 1) := by decide +kernel
theorem dL_mute_29 : decode cL_mute 29 = .ok (.ireturn, 1) := by decide +kernel
theorem dL_setWeight_0 : decode cL_setWeight 0 = .ok (.aload_n 3, 1) := by decide +kernel
theorem dL_setWeight_1 : decode cL_setWeight 1 = .ok (.iconst 0, 1) := by decide +kernel
theorem dL_setWeight_2 : decode cL_setWeight 2 = .ok (.aload_n 0, 1) := by decide +kernel
theorem dL_setWeight_3 : decode cL_setWeight 3 = .ok (.iload_n 1, 1) := by decide +kernel
theorem dL_setWeight_4 : decode cL_setWeight 4 = .ok (.iload_n 2, 1) := by decide +kernel
theorem dL_setWeight_5 : decode cL_setWeight 5 = .ok (.invokevirtual 162, 3) := by decide +kernel
theorem dL_setWeight_8 : decode cL_setWeight 8 = .ok (.i2l, 1) := by decide +kernel
theorem dL_setWeight_9 : decode cL_setWeight 9 = .ok (.lastore, 1) := by decide +kernel
theorem dL_setWeight_10 : decode cL_setWeight 10 = .ok (.goto 15, 3) := by decide +kernel
theorem dL_setWeight_13 : decode cL_setWeight 13 = .ok (.astore 4, 2) := by decide +kernel
theorem dL_setWeight_15 : decode cL_setWeight 15 = .ok (.iconst 1, 1) := by decide +kernel
theorem dL_setWeight_16 : decode cL_setWeight 16 = .ok (.ireturn, 1) := by decide +kernel
theorem dL_setWeight_17 : decode cL_setWeight 17 = .ok (.astore 4, 2) := by decide +kernel
theorem dL_setWeight_19 : decode cL_setWeight 19 = .ok (.iconst 2, 1) := by decide +kernel
theorem dL_setWeight_20 : decode cL_setWeight 20 = .ok (.ireturn, 1) := by decide +kernel
theorem dL_setWeight_21 : decode cL_setWeight 21 = .ok (.astore 4, 2) := by decide +kernel
theorem dL_setWeight_23 : decode cL_setWeight 23 = .ok (.iconst 3, 1) := by decide +kernel
theorem dL_setWeight_24 : decode cL_setWeight 24 = .ok (.ireturn, 1) := by decide +kernel
theorem dL_setWeight_25 : decode cL_setWeight 25 = .ok (.iconst 0, 1) := by decide +kernel
theorem dL_setWeight_26 : decode cL_setWeight 26 = .ok (.ireturn, 1) := by decide +kernel
theorem dL_setOn_0 : decode cL_setOn 0 = .ok (.aload_n 3, 1) := by decide +kernel
theorem dL_setOn_1 : decode cL_setOn 1 = .ok (.iconst 0, 1) := by decide +kernel
theorem dL_setOn_2 : decode cL_setOn 2 = .ok (.aload_n 0, 1) := by decide +kernel
theorem dL_setOn_3 : decode cL_setOn 3 = .ok (.iload_n 1, 1) := by decide +kernel
theorem dL_setOn_4 : decode cL_setOn 4 = .ok (.iload_n 2, 1) := by decide +kernel
theorem dL_setOn_5 : decode cL_setOn 5 = .ok (.invokevirtual 165, 3) := by decide +kernel
theorem dL_setOn_8 : decode cL_setOn 8 = .ok (.ifCond .eq 7, 3) := by decide +kernel
theorem dL_setOn_11 : decode cL_setOn 11 = .ok (.lconst 1, 1) := by decide +kernel
theorem dL_setOn_12 : decode cL_setOn 12 = .ok (.goto 4, 3) := by decide +kernel
theorem dL_setOn_15 : decode cL_setOn 15 = .ok (.lconst 0, 1) := by decide +kernel
theorem dL_setOn_16 : decode cL_setOn 16 = .ok (.lastore, 1) := by decide +kernel
theorem dL_setOn_17 : decode cL_setOn 17 = .ok (.goto 11, 3) := by decide +kernel
theorem dL_setOn_20 : decode cL_setOn 20 = .ok (.astore 4, 2) := by decide +kernel
theorem dL_setOn_22 : decode cL_setOn 22 = .ok (.iconst 1, 1) := by decide +kernel
theorem dL_setOn_23 : decode cL_setOn 23 = .ok (.ireturn, 1) := by decide +kernel
theorem dL_setOn_24 : decode cL_setOn 24 = .ok (.astore 4, 2) := by decide +kernel
theorem dL_setOn_26 : decode cL_setOn 26 = .ok (.iconst 2, 1) := by decide +kernel
theorem dL_setOn_27 : decode cL_setOn 27 = .ok (.ireturn, 1) := by decide +kernel
theorem dL_setOn_28 : decode cL_setOn 28 = .ok (.iconst 0, 1) := by decide +kernel
theorem dL_setOn_29 : decode cL_setOn 29 = .ok (.ireturn, 1) := by decide +kernel
theorem dL_moveSource_0 : decode cL_moveSource 0 = .ok (.aload 4, 2) := by decide +kernel
theorem dL_moveSource_2 : decode cL_moveSource 2 = .ok (.iconst 0, 1) := by decide +kernel
theorem dL_moveSource_3 : decode cL_moveSource 3 = .ok (.aload_n 0, 1) := by decide +kernel
theorem dL_moveSource_4 : decode cL_moveSource 4 = .ok (.iload_n 1, 1) := by decide +kernel
theorem dL_moveSource_5 : decode cL_moveSource 5 = .ok (.iload_n 2, 1) := by decide +kernel
theorem dL_moveSource_6 : decode cL_moveSource 6 = .ok (.iload_n 3, 1) := by decide +kernel
theorem dL_moveSource_7 : decode cL_moveSource 7 = .ok (.invokevirtual 168, 3) := by decide +kernel
theorem dL_moveSource_10 : decode cL_moveSource 10 = .ok (.i2l, 1) := by decide +kernel
theorem dL_moveSource_11 : decode cL_moveSource 11 = .ok (.lastore, 1) := by decide +kernel
theorem dL_moveSource_12 : decode cL_moveSource 12 = .ok (.goto 15, 3) := by decide +kernel
theorem dL_moveSource_15 : decode cL_moveSource 15 = .ok (.astore 5, 2) := by decide +kernel
theorem dL_moveSource_17 : decode cL_moveSource 17 = .ok (.iconst 1, 1) := by decide +kernel
theorem dL_moveSource_18 : decode cL_moveSource 18 = .ok (.ireturn, 1) := by decide +kernel
theorem dL_moveSource_19 : decode cL_moveSource 19 = .ok (.astore 5, 2) := by decide +kernel
theorem dL_moveSource_21 : decode cL_moveSource 21 = .ok (.iconst 2, 1) := by decide +kernel
theorem dL_moveSource_22 : decode cL_moveSource 22 = .ok (.ireturn, 1) := by decide +kernel
theorem dL_moveSource_23 : decode cL_moveSource 23 = .ok (.astore 5, 2) := by decide +kernel
theorem dL_moveSource_25 : decode cL_moveSource 25 = .ok (.iconst 3, 1) := by decide +kernel
theorem dL_moveSource_26 : decode cL_moveSource 26 = .ok (.ireturn, 1) := by decide +kernel
theorem dL_moveSource_27 : decode cL_moveSource 27 = .ok (.iconst 0, 1) := by decide +kernel
theorem dL_moveSource_28 : decode cL_moveSource 28 = .ok (.ireturn, 1) := by decide +kernel
theorem dL_setVelocity_0 : decode cL_setVelocity 0 = .ok (.aload 4, 2) := by decide +kernel
theorem dL_setVelocity_2 : decode cL_setVelocity 2 = .ok (.iconst 0, 1) := by decide +kernel
theorem dL_setVelocity_3 : decode cL_setVelocity 3 = .ok (.aload_n 0, 1) := by decide +kernel
theorem dL_setVelocity_4 : decode cL_setVelocity 4 = .ok (.iload_n 1, 1) := by decide +kernel
theorem dL_setVelocity_5 : decode cL_setVelocity 5 = .ok (.iload_n 2, 1) := by decide +kernel
theorem dL_setVelocity_6 : decode cL_setVelocity 6 = .ok (.iload_n 3, 1) := by decide +kernel
theorem dL_setVelocity_7 : decode cL_setVelocity 7 = .ok (.invokevirtual 171, 3) := by decide +kernel
theorem dL_setVelocity_10 : decode cL_setVelocity 10 = .ok (.i2l, 1) := by decide +kernel
theorem dL_setVelocity_11 : decode cL_setVelocity 11 = .ok (.lastore, 1) := by decide +kernel
theorem dL_setVelocity_12 : decode cL_setVelocity 12 = .ok (.goto 15, 3) := by decide +kernel
theorem dL_setVelocity_15 : decode cL_setVelocity 15 = .ok (.astore 5, 2) := by decide +kernel
theorem dL_setVelocity_17 : decode cL_setVelocity 17 = .ok (.iconst 1, 1) := by decide +kernel
theorem dL_setVelocity_18 : decode cL_setVelocity 18 = .ok (.ireturn, 1) := by decide +kernel
theorem dL_setVelocity_19 : decode cL_setVelocity 19 = .ok (.astore 5, 2) := by decide +kernel
theorem dL_setVelocity_21 : decode cL_setVelocity 21 = .ok (.iconst 2, 1) := by decide +kernel
theorem dL_setVelocity_22 : decode cL_setVelocity 22 = .ok (.ireturn, 1) := by decide +kernel
theorem dL_setVelocity_23 : decode cL_setVelocity 23 = .ok (.astore 5, 2) := by decide +kernel
theorem dL_setVelocity_25 : decode cL_setVelocity 25 = .ok (.iconst 3, 1) := by decide +kernel
theorem dL_setVelocity_26 : decode cL_setVelocity 26 = .ok (.ireturn, 1) := by decide +kernel
theorem dL_setVelocity_27 : decode cL_setVelocity 27 = .ok (.iconst 0, 1) := by decide +kernel
theorem dL_setVelocity_28 : decode cL_setVelocity 28 = .ok (.ireturn, 1) := by decide +kernel
theorem dL_clean_0 : decode cL_clean 0 = .ok (.aload_n 2, 1) := by decide +kernel
theorem dL_clean_1 : decode cL_clean 1 = .ok (.iconst 0, 1) := by decide +kernel
theorem dL_clean_2 : decode cL_clean 2 = .ok (.aload_n 0, 1) := by decide +kernel
theorem dL_clean_3 : decode cL_clean 3 = .ok (.iload_n 1, 1) := by decide +kernel
theorem dL_clean_4 : decode cL_clean 4 = .ok (.invokevirtual 174, 3) := by decide +kernel
theorem dL_clean_7 : decode cL_clean 7 = .ok (.i2l, 1) := by decide +kernel
theorem dL_clean_8 : decode cL_clean 8 = .ok (.lastore, 1) := by decide +kernel
theorem dL_clean_9 : decode cL_clean 9 = .ok (.goto 9, 3) := by decide +kernel
theorem dL_clean_12 : decode cL_clean 12 = .ok (.astore_n 3, 1) := by decide +kernel
theorem dL_clean_13 : decode cL_clean 13 = .ok (.iconst 1, 1) := by decide +kernel
theorem dL_clean_14 : decode cL_clean 14 = .ok (.ireturn, 1) := by decide +kernel
theorem dL_clean_15 : decode cL_clean 15 = .ok (.astore_n 3, 1) := by decide +kernel
theorem dL_clean_16 : decode cL_clean 16 = .ok (.iconst 2, 1) := by decide +kernel
theorem dL_clean_17 : decode cL_clean 17 = .ok (.ireturn, 1) := by decide +kernel
theorem dL_clean_18 : decode cL_clean 18 = .ok (.iconst 0, 1) := by decide +kernel
theorem dL_clean_19 : decode cL_clean 19 = .ok (.ireturn, 1) := by decide +kernel
theorem dL_cleaned_0 : decode cL_cleaned 0 = .ok (.aload_n 1, 1) := by decide +kernel
theorem dL_cleaned_1 : decode cL_cleaned 1 = .ok (.iconst 0, 1) := by decide +kernel
theorem dL_cleaned_2 : decode cL_cleaned 2 = .ok (.aload_n 0, 1) := by decide +kernel
theorem dL_cleaned_3 : decode cL_cleaned 3 = .ok (.invokevirtual 177, 3) := by decide +kernel
theorem dL_cleaned_6 : decode cL_cleaned 6 = .ok (.i2l, 1) := by decide +kernel
theorem dL_cleaned_7 : decode cL_cleaned 7 = .ok (.lastore, 1) := by decide +kernel
theorem dL_cleaned_8 : decode cL_cleaned 8 = .ok (.goto 6, 3) := by decide +kernel
theorem dL_cleaned_11 : decode cL_cleaned 11 = .ok (.astore_n 2, 1) := by decide +kernel
theorem dL_cleaned_12 : decode cL_cleaned 12 = .ok (.iconst 1, 1) := by decide +kernel
theorem dL_cleaned_13 : decode cL_cleaned 13 = .ok (.ireturn, 1) := by decide +kernel
theorem dL_cleaned_14 : decode cL_cleaned 14 = .ok (.iconst 0, 1) := by decide +kernel
theorem dL_cleaned_15 : decode cL_cleaned 15 = .ok (.ireturn, 1) := by decide +kernel
theorem dL_undo_0 : decode cL_undo 0 = .ok (.aload_n 1, 1) := by decide +kernel
theorem dL_undo_1 : decode cL_undo 1 = .ok (.iconst 0, 1) := by decide +kernel
theorem dL_undo_2 : decode cL_undo 2 = .ok (.aload_n 0, 1) := by decide +kernel
theorem dL_undo_3 : decode cL_undo 3 = .ok (.invokevirtual 180, 3) := by decide +kernel
theorem dL_undo_6 : decode cL_undo 6 = .ok (.i2l, 1) := by decide +kernel
theorem dL_undo_7 : decode cL_undo 7 = .ok (.lastore, 1) := by decide +kernel
theorem dL_undo_8 : decode cL_undo 8 = .ok (.goto 6, 3) := by decide +kernel
theorem dL_undo_11 : decode cL_undo 11 = .ok (.astore_n 2, 1) := by decide +kernel
theorem dL_undo_12 : decode cL_undo 12 = .ok (.iconst 1, 1) := by decide +kernel
theorem dL_undo_13 : decode cL_undo 13 = .ok (.ireturn, 1) := by decide +kernel
theorem dL_undo_14 : decode cL_undo 14 = .ok (.iconst 0, 1) := by decide +kernel
theorem dL_undo_15 : decode cL_undo 15 = .ok (.ireturn, 1) := by decide +kernel
theorem dL_save_0 : decode cL_save 0 = .ok (.aload_n 2, 1) := by decide +kernel
theorem dL_save_1 : decode cL_save 1 = .ok (.iconst 0, 1) := by decide +kernel
theorem dL_save_2 : decode cL_save 2 = .ok (.aload_n 0, 1) := by decide +kernel
theorem dL_save_3 : decode cL_save 3 = .ok (.iload_n 1, 1) := by decide +kernel
theorem dL_save_4 : decode cL_save 4 = .ok (.invokevirtual 183, 3) := by decide +kernel
theorem dL_save_7 : decode cL_save 7 = .ok (.i2l, 1) := by decide +kernel
theorem dL_save_8 : decode cL_save 8 = .ok (.lastore, 1) := by decide +kernel
theorem dL_save_9 : decode cL_save 9 = .ok (.goto 9, 3) := by decide +kernel
theorem dL_save_12 : decode cL_save 12 = .ok (.astore_n 3, 1) := by decide +kernel
theorem dL_save_13 : decode cL_save 13 = .ok (.iconst 1, 1) := by decide +kernel
theorem dL_save_14 : decode cL_save 14 = .ok (.ireturn, 1) := by decide +kernel
theorem dL_save_15 : decode cL_save 15 = .ok (.astore_n 3, 1) := by decide +kernel
theorem dL_save_16 : decode cL_save 16 = .ok (.iconst 2, 1) := by decide +kernel
theorem dL_save_17 : decode cL_save 17 = .ok (.ireturn, 1) := by decide +kernel
theorem dL_save_18 : decode cL_save 18 = .ok (.iconst 0, 1) := by decide +kernel
theorem dL_save_19 : decode cL_save 19 = .ok (.ireturn, 1) := by decide +kernel
theorem dL_restore_0 : decode cL_restore 0 = .ok (.aload_n 2, 1) := by decide +kernel
theorem dL_restore_1 : decode cL_restore 1 = .ok (.iconst 0, 1) := by decide +kernel
theorem dL_restore_2 : decode cL_restore 2 = .ok (.aload_n 0, 1) := by decide +kernel
theorem dL_restore_3 : decode cL_restore 3 = .ok (.iload_n 1, 1) := by decide +kernel
theorem dL_restore_4 : decode cL_restore 4 = .ok (.invokevirtual 186, 3) := by decide +kernel
theorem dL_restore_7 : decode cL_restore 7 = .ok (.i2l, 1) := by decide +kernel
theorem dL_restore_8 : decode cL_restore 8 = .ok (.lastore, 1) := by decide +kernel
theorem dL_restore_9 : decode cL_restore 9 = .ok (.goto 9, 3) := by decide +kernel
theorem dL_restore_12 : decode cL_restore 12 = .ok (.astore_n 3, 1) := by decide +kernel
theorem dL_restore_13 : decode cL_restore 13 = .ok (.iconst 1, 1) := by decide +kernel
theorem dL_restore_14 : decode cL_restore 14 = .ok (.ireturn, 1) := by decide +kernel
theorem dL_restore_15 : decode cL_restore 15 = .ok (.astore_n 3, 1) := by decide +kernel
theorem dL_restore_16 : decode cL_restore 16 = .ok (.iconst 2, 1) := by decide +kernel
theorem dL_restore_17 : decode cL_restore 17 = .ok (.ireturn, 1) := by decide +kernel
theorem dL_restore_18 : decode cL_restore 18 = .ok (.iconst 0, 1) := by decide +kernel
theorem dL_restore_19 : decode cL_restore 19 = .ok (.ireturn, 1) := by decide +kernel
