theorem dL_open_0 : decode cL_open 0 = .ok (.aload_n 3, 1) := by decide +kernel
theorem dL_open_1 : decode cL_open 1 = .ok (.iconst 0, 1) := by decide +kernel
theorem dL_open_2 : decode cL_open 2 = .ok (.aload_n 0, 1) := by decide +kernel
theorem dL_open_3 : decode cL_open 3 = .ok (.iload_n 1, 1) := by decide +kernel
theorem dL_open_4 : decode cL_open 4 = .ok (.iload_n 2, 1) := by decide +kernel
theorem dL_open_5 : decode cL_open 5 = .ok (.invokevirtual 7, 3) := by decide +kernel
theorem dL_open_8 : decode cL_open 8 = .ok (.i2l, 1) := by decide +kernel
theorem dL_open_9 : decode cL_open 9 = .ok (.lastore, 1) := by decide +kernel
theorem dL_open_10 : decode cL_open 10 = .ok (.goto 11, 3) := by decide +kernel
theorem dL_open_13 : decode cL_open 13 = .ok (.astore 4, 2) := by decide +kernel
theorem dL_open_15 : decode cL_open 15 = .ok (.iconst 1, 1) := by decide +kernel
theorem dL_open_16 : decode cL_open 16 = .ok (.ireturn, 1) := by decide +kernel
theorem dL_open_17 : decode cL_open 17 = .ok (.astore 4, 2) := by decide +kernel
theorem dL_open_19 : decode cL_open 19 = .ok (.iconst 2, 1) := by decide +kernel
theorem dL_open_20 : decode cL_open 20 = .ok (.ireturn, 1) := by decide +kernel
theorem dL_open_21 : decode cL_open 21 = .ok (.iconst 0, 1) := by decide +kernel
theorem dL_open_22 : decode cL_open 22 = .ok (.ireturn, 1) := by decide +kernel
theorem dL_pass_0 : decode cL_pass 0 = .ok (.aload_n 2, 1) := by decide +kernel
theorem dL_pass_1 : decode cL_pass 1 = .ok (.iconst 0, 1) := by decide +kernel
theorem dL_pass_2 : decode cL_pass 2 = .ok (.aload_n 0, 1) := by decide +kernel
theorem dL_pass_3 : decode cL_pass 3 = .ok (.iload_n 1, 1) := by decide +kernel
theorem dL_pass_4 : decode cL_pass 4 = .ok (.invokevirtual 17, 3) := by decide +kernel
theorem dL_pass_7 : decode cL_pass 7 = .ok (.lastore, 1) := by decide +kernel
theorem dL_pass_8 : decode cL_pass 8 = .ok (.goto 6, 3) := by decide +kernel
theorem dL_pass_11 : decode cL_pass 11 = .ok (.astore_n 3, 1) := by decide +kernel
theorem dL_pass_12 : decode cL_pass 12 = .ok (.iconst 1, 1) := by decide +kernel
theorem dL_pass_13 : decode cL_pass 13 = .ok (.ireturn, 1) := by decide +kernel
theorem dL_pass_14 : decode cL_pass 14 = .ok (.iconst 0, 1) := by decide +kernel
theorem dL_pass_15 : decode cL_pass 15 = .ok (.ireturn, 1) := by decide +kernel
theorem dL_add_0 : decode cL_add 0 = .ok (.aload_n 3, 1) := by decide +kernel
theorem dL_add_1 : decode cL_add 1 = .ok (.iconst 0, 1) := by decide +kernel
theorem dL_add_2 : decode cL_add 2 = .ok (.aload_n 0, 1) := by decide +kernel
theorem dL_add_3 : decode cL_add 3 = .ok (.iload_n 1, 1) := by decide +kernel
theorem dL_add_4 : decode cL_add 4 = .ok (.iload_n 2, 1) := by decide +kernel
theorem dL_add_5 : decode cL_add 5 = .ok (.invokevirtual 21, 3) := by decide +kernel
theorem dL_add_8 : decode cL_add 8 = .ok (.i2l, 1) := by decide +kernel
theorem dL_add_9 : decode cL_add 9 = .ok (.lastore, 1) := by decide +kernel
theorem dL_add_10 : decode cL_add 10 = .ok (.goto 15, 3) := by decide +kernel
theorem dL_add_13 : decode cL_add 13 = .ok (.astore 4, 2) := by decide +kernel
theorem dL_add_15 : decode cL_add 15 = .ok (.iconst 1, 1) := by decide +kernel
theorem dL_add_16 : decode cL_add 16 = .ok (.ireturn, 1) := by decide +kernel
theorem dL_add_17 : decode cL_add 17 = .ok (.astore 4, 2) := by decide +kernel
theorem dL_add_19 : decode cL_add 19 = .ok (.iconst 2, 1) := by decide +kernel
theorem dL_add_20 : decode cL_add 20 = .ok (.ireturn, 1) := by decide +kernel
theorem dL_add_21 : decode cL_add 21 = .ok (.astore 4, 2) := by decide +kernel
theorem dL_add_23 : decode cL_add 23 = .ok (.iconst 3, 1) := by decide +kernel
theorem dL_add_24 : decode cL_add 24 = .ok (.ireturn, 1) := by decide +kernel
theorem dL_add_25 : decode cL_add 25 = .ok (.iconst 0, 1) := by decide +kernel
theorem dL_add_26 : decode cL_add 26 = .ok (.ireturn, 1) := by decide +kernel
theorem dL_find_0 : decode cL_find 0 = .ok (.aload_n 3, 1) := by decide +kernel
theorem dL_find_1 : decode cL_find 1 = .ok (.iconst 0, 1) := by decide +kernel
theorem dL_find_2 : decode cL_find 2 = .ok (.aload_n 0, 1) := by decide +kernel
theorem dL_find_3 : decode cL_find 3 = .ok (.iload_n 1, 1) := by decide +kernel
theorem dL_find_4 : decode cL_find 4 = .ok (.iload_n 2, 1) := by decide +kernel
theorem dL_find_5 : decode cL_find 5 = .ok (.invokevirtual 26, 3) := by decide +kernel
theorem dL_find_8 : decode cL_find 8 = .ok (.i2l, 1) := by decide +kernel
theorem dL_find_9 : decode cL_find 9 = .ok (.lastore, 1) := by decide +kernel
theorem dL_find_10 : decode cL_find 10 = .ok (.goto 7, 3) := by decide +kernel
theorem dL_find_13 : decode cL_find 13 = .ok (.astore 4, 2) := by decide +kernel
theorem dL_find_15 : decode cL_find 15 = .ok (.iconst 1, 1) := by decide +kernel
theorem dL_find_16 : decode cL_find 16 = .ok (.ireturn, 1) := by decide +kernel
theorem dL_find_17 : decode cL_find 17 = .ok (.iconst 0, 1) := by decide +kernel
theorem dL_find_18 : decode cL_find 18 = .ok (.ireturn, 1) := by decide +kernel
theorem dL_nameOf_0 : decode cL_nameOf 0 = .ok (.aload_n 2, 1) := by decide +kernel
theorem dL_nameOf_1 : decode cL_nameOf 1 = .ok (.iconst 0, 1) := by decide +kernel
theorem dL_nameOf_2 : decode cL_nameOf 2 = .ok (.aload_n 0, 1) := by decide +kernel
theorem dL_nameOf_3 : decode cL_nameOf 3 = .ok (.iload_n 1, 1) := by decide +kernel
theorem dL_nameOf_4 : decode cL_nameOf 4 = .ok (.invokevirtual 29, 3) := by decide +kernel
theorem dL_nameOf_7 : decode cL_nameOf 7 = .ok (.i2l, 1) := by decide +kernel
theorem dL_nameOf_8 : decode cL_nameOf 8 = .ok (.lastore, 1) := by decide +kernel
theorem dL_nameOf_9 : decode cL_nameOf 9 = .ok (.goto 6, 3) := by decide +kernel
theorem dL_nameOf_12 : decode cL_nameOf 12 = .ok (.astore_n 3, 1) := by decide +kernel
theorem dL_nameOf_13 : decode cL_nameOf 13 = .ok (.iconst 1, 1) := by decide +kernel
theorem dL_nameOf_14 : decode cL_nameOf 14 = .ok (.ireturn, 1) := by decide +kernel
theorem dL_nameOf_15 : decode cL_nameOf 15 = .ok (.iconst 0, 1) := by decide +kernel
theorem dL_nameOf_16 : decode cL_nameOf 16 = .ok (.ireturn, 1) := by decide +kernel
theorem dL_hostOf_0 : decode cL_hostOf 0 = .ok (.aload_n 2, 1) := by decide +kernel
theorem dL_hostOf_1 : decode cL_hostOf 1 = .ok (.iconst 0, 1) := by decide +kernel
theorem dL_hostOf_2 : decode cL_hostOf 2 = .ok (.aload_n 0, 1) := by decide +kernel
theorem dL_hostOf_3 : decode cL_hostOf 3 = .ok (.iload_n 1, 1) := by decide +kernel
theorem dL_hostOf_4 : decode cL_hostOf 4 = .ok (.invokevirtual 33, 3) := by decide +kernel
theorem dL_hostOf_7 : decode cL_hostOf 7 = .ok (.i2l, 1) := by decide +kernel
theorem dL_hostOf_8 : decode cL_hostOf 8 = .ok (.lastore, 1) := by decide +kernel
theorem dL_hostOf_9 : decode cL_hostOf 9 = .ok (.goto 6, 3) := by decide +kernel
theorem dL_hostOf_12 : decode cL_hostOf 12 = .ok (.astore_n 3, 1) := by decide +kernel
theorem dL_hostOf_13 : decode cL_hostOf 13 = .ok (.iconst 1, 1) := by decide +kernel
theorem dL_hostOf_14 : decode cL_hostOf 14 = .ok (.ireturn, 1) := by decide +kernel
theorem dL_hostOf_15 : decode cL_hostOf 15 = .ok (.iconst 0, 1) := by decide +kernel
theorem dL_hostOf_16 : decode cL_hostOf 16 = .ok (.ireturn, 1) := by decide +kernel
theorem dL_samples_0 : decode cL_samples 0 = .ok (.aload_n 2, 1) := by decide +kernel
theorem dL_samples_1 : decode cL_samples 1 = .ok (.iconst 0, 1) := by decide +kernel
theorem dL_samples_2 : decode cL_samples 2 = .ok (.aload_n 0, 1) := by decide +kernel
theorem dL_samples_3 : decode cL_samples 3 = .ok (.iload_n 1, 1) := by decide +kernel
theorem dL_samples_4 : decode cL_samples 4 = .ok (.invokevirtual 36, 3) := by decide +kernel
theorem dL_samples_7 : decode cL_samples 7 = .ok (.i2l, 1) := by decide +kernel
theorem dL_samples_8 : decode cL_samples 8 = .ok (.lastore, 1) := by decide +kernel
theorem dL_samples_9 : decode cL_samples 9 = .ok (.goto 6, 3) := by decide +kernel
theorem dL_samples_12 : decode cL_samples 12 = .ok (.astore_n 3, 1) := by decide +kernel
theorem dL_samples_13 : decode cL_samples 13 = .ok (.iconst 1, 1) := by decide +kernel
theorem dL_samples_14 : decode cL_samples 14 = .ok (.ireturn, 1) := by decide +kernel
theorem dL_samples_15 : decode cL_samples 15 = .ok (.iconst 0, 1) := by decide +kernel
theorem dL_samples_16 : decode cL_samples 16 = .ok (.ireturn, 1) := by decide +kernel
theorem dL_latest_0 : decode cL_latest 0 = .ok (.aload_n 2, 1) := by decide +kernel
theorem dL_latest_1 : decode cL_latest 1 = .ok (.iconst 0, 1) := by decide +kernel
theorem dL_latest_2 : decode cL_latest 2 = .ok (.aload_n 0, 1) := by decide +kernel
theorem dL_latest_3 : decode cL_latest 3 = .ok (.iload_n 1, 1) := by decide +kernel
theorem dL_latest_4 : decode cL_latest 4 = .ok (.invokevirtual 39, 3) := by decide +kernel
theorem dL_latest_7 : decode cL_latest 7 = .ok (.i2l, 1) := by decide +kernel
theorem dL_latest_8 : decode cL_latest 8 = .ok (.lastore, 1) := by decide +kernel
theorem dL_latest_9 : decode cL_latest 9 = .ok (.goto 9, 3) := by decide +kernel
theorem dL_latest_12 : decode cL_latest 12 = .ok (.astore_n 3, 1) := by decide +kernel
theorem dL_latest_13 : decode cL_latest 13 = .ok (.iconst 1, 1) := by decide +kernel
theorem dL_latest_14 : decode cL_latest 14 = .ok (.ireturn, 1) := by decide +kernel
theorem dL_latest_15 : decode cL_latest 15 = .ok (.astore_n 3, 1) := by decide +kernel
theorem dL_latest_16 : decode cL_latest 16 = .ok (.iconst 2, 1) := by decide +kernel
theorem dL_latest_17 : decode cL_latest 17 = .ok (.ireturn, 1) := by decide +kernel
theorem dL_latest_18 : decode cL_latest 18 = .ok (.iconst 0, 1) := by decide +kernel
theorem dL_latest_19 : decode cL_latest 19 = .ok (.ireturn, 1) := by decide +kernel
theorem dL_blocks_0 : decode cL_blocks 0 = .ok (.aload_n 2, 1) := by decide +kernel
theorem dL_blocks_1 : decode cL_blocks 1 = .ok (.iconst 0, 1) := by decide +kernel
theorem dL_blocks_2 : decode cL_blocks 2 = .ok (.aload_n 0, 1) := by decide +kernel
theorem dL_blocks_3 : decode cL_blocks 3 = .ok (.iload_n 1, 1) := by decide +kernel
theorem dL_blocks_4 : decode cL_blocks 4 = .ok (.invokevirtual 42, 3) := by decide +kernel
theorem dL_blocks_7 : decode cL_blocks 7 = .ok (.i2l, 1) := by decide +kernel
theorem dL_blocks_8 : decode cL_blocks 8 = .ok (.lastore, 1) := by decide +kernel
theorem dL_blocks_9 : decode cL_blocks 9 = .ok (.goto 6, 3) := by decide +kernel
theorem dL_blocks_12 : decode cL_blocks 12 = .ok (.astore_n 3, 1) := by decide +kernel
theorem dL_blocks_13 : decode cL_blocks 13 = .ok (.iconst 1, 1) := by decide +kernel
theorem dL_blocks_14 : decode cL_blocks 14 = .ok (.ireturn, 1) := by decide +kernel
theorem dL_blocks_15 : decode cL_blocks 15 = .ok (.iconst 0, 1) := by decide +kernel
theorem dL_blocks_16 : decode cL_blocks 16 = .ok (.ireturn, 1) := by decide +kernel
theorem dL_bitsOf_0 : decode cL_bitsOf 0 = .ok (.aload_n 3, 1) := by decide +kernel
theorem dL_bitsOf_1 : decode cL_bitsOf 1 = .ok (.iconst 0, 1) := by decide +kernel
theorem dL_bitsOf_2 : decode cL_bitsOf 2 = .ok (.aload_n 0, 1) := by decide +kernel
theorem dL_bitsOf_3 : decode cL_bitsOf 3 = .ok (.iload_n 1, 1) := by decide +kernel
theorem dL_bitsOf_4 : decode cL_bitsOf 4 = .ok (.iload_n 2, 1) := by decide +kernel
theorem dL_bitsOf_5 : decode cL_bitsOf 5 = .ok (.invokevirtual 45, 3) := by decide +kernel
theorem dL_bitsOf_8 : decode cL_bitsOf 8 = .ok (.i2l, 1) := by decide +kernel
theorem dL_bitsOf_9 : decode cL_bitsOf 9 = .ok (.lastore, 1) := by decide +kernel
theorem dL_bitsOf_10 : decode cL_bitsOf 10 = .ok (.goto 11, 3) := by decide +kernel
theorem dL_bitsOf_13 : decode cL_bitsOf 13 = .ok (.astore 4, 2) := by decide +kernel
theorem dL_bitsOf_15 : decode cL_bitsOf 15 = .ok (.iconst 1, 1) := by decide +kernel
theorem dL_bitsOf_16 : decode cL_bitsOf 16 = .ok (.ireturn, 1) := by decide +kernel
theorem dL_bitsOf_17 : decode cL_bitsOf 17 = .ok (.astore 4, 2) := by decide +kernel
theorem dL_bitsOf_19 : decode cL_bitsOf 19 = .ok (.iconst 2, 1) := by decide +kernel
theorem dL_bitsOf_20 : decode cL_bitsOf 20 = .ok (.ireturn, 1) := by decide +kernel
theorem dL_bitsOf_21 : decode cL_bitsOf 21 = .ok (.iconst 0, 1) := by decide +kernel
theorem dL_bitsOf_22 : decode cL_bitsOf 22 = .ok (.ireturn, 1) := by decide +kernel
theorem dL_timeAt_0 : decode cL_timeAt 0 = .ok (.aload_n 3, 1) := by decide +kernel
theorem dL_timeAt_1 : decode cL_timeAt 1 = .ok (.iconst 0, 1) := by decide +kernel
theorem dL_timeAt_2 : decode cL_timeAt 2 = .ok (.aload_n 0, 1) := by decide +kernel
theorem dL_timeAt_3 : decode cL_timeAt 3 = .ok (.iload_n 1, 1) := by decide +kernel
theorem dL_timeAt_4 : decode cL_timeAt 4 = .ok (.iload_n 2, 1) := by decide +kernel
theorem dL_timeAt_5 : decode cL_timeAt 5 = .ok (.invokevirtual 50, 3) := by decide +kernel
theorem dL_timeAt_8 : decode cL_timeAt 8 = .ok (.lastore, 1) := by decide +kernel
theorem dL_timeAt_9 : decode cL_timeAt 9 = .ok (.goto 11, 3) := by decide +kernel
theorem dL_timeAt_12 : decode cL_timeAt 12 = .ok (.astore 4, 2) := by decide +kernel
theorem dL_timeAt_14 : decode cL_timeAt 14 = .ok (.iconst 1, 1) := by decide +kernel
theorem dL_timeAt_15 : decode cL_timeAt 15 = .ok (.ireturn, 1) := by decide +kernel
theorem dL_timeAt_16 : decode cL_timeAt 16 = .ok (.astore 4, 2) := by decide +kernel
theorem dL_timeAt_18 : decode cL_timeAt 18 = .ok (.iconst 2, 1) := by decide +kernel
theorem dL_timeAt_19 : decode cL_timeAt 19 = .ok (.ireturn, 1) := by decide +kernel
theorem dL_timeAt_20 : decode cL_timeAt 20 = .ok (.iconst 0, 1) := by decide +kernel
theorem dL_timeAt_21 : decode cL_timeAt 21 = .ok (.ireturn, 1) := by decide +kernel
theorem dL_valueAt_0 : decode cL_valueAt 0 = .ok (.aload_n 3, 1) := by decide +kernel
theorem dL_valueAt_1 : decode cL_valueAt 1 = .ok (.iconst 0, 1) := by decide +kernel
theorem dL_valueAt_2 : decode cL_valueAt 2 = .ok (.aload_n 0, 1) := by decide +kernel
theorem dL_valueAt_3 : decode cL_valueAt 3 = .ok (.iload_n 1, 1) := by decide +kernel
theorem dL_valueAt_4 : decode cL_valueAt 4 = .ok (.iload_n 2, 1) := by decide +kernel
theorem dL_valueAt_5 : decode cL_valueAt 5 = .ok (.invokevirtual 54, 3) := by decide +kernel
theorem dL_valueAt_8 : decode cL_valueAt 8 = .ok (.i2l, 1) := by decide +kernel
theorem dL_valueAt_9 : decode cL_valueAt 9 = .ok (.lastore, 1) := by decide +kernel
theorem dL_valueAt_10 : decode cL_valueAt 10 = .ok (.goto 11, 3) := by decide +kernel
theorem dL_valueAt_13 : decode cL_valueAt 13 = .ok (.astore 4, 2) := by decide +kernel
theorem dL_valueAt_15 : decode cL_valueAt 15 = .ok (.iconst 1, 1) := by decide +kernel
theorem dL_valueAt_16 : decode cL_valueAt 16 = .ok (.ireturn, 1) := by decide +kernel
theorem dL_valueAt_17 : decode cL_valueAt 17 = .ok (.astore 4, 2) := by decide +kernel
theorem dL_valueAt_19 : decode cL_valueAt 19 = .ok (.iconst 2, 1) := by decide +kernel
theorem dL_valueAt_20 : decode cL_valueAt 20 = .ok (.ireturn, 1) := by decide +kernel
theorem dL_valueAt_21 : decode cL_valueAt 21 = .ok (.iconst 0, 1) := by decide +kernel
theorem dL_valueAt_22 : decode cL_valueAt 22 = .ok (.ireturn, 1) := by decide +kernel
theorem dL_count_0 : decode cL_count 0 = .ok (.aload 6, 2) := by decide +kernel
theorem dL_count_2 : decode cL_count 2 = .ok (.iconst 0, 1) := by decide +kernel
theorem dL_count_3 : decode cL_count 3 = .ok (.aload_n 0, 1) := by decide +kernel
theorem dL_count_4 : decode cL_count 4 = .ok (.iload_n 1, 1) := by decide +kernel
theorem dL_count_5 : decode cL_count 5 = .ok (.lload_n 2, 1) := by decide +kernel
theorem dL_count_6 : decode cL_count 6 = .ok (.lload 4, 2) := by decide +kernel
theorem dL_count_8 : decode cL_count 8 = .ok (.invokevirtual 57, 3) := by decide +kernel
theorem dL_count_11 : decode cL_count 11 = .ok (.i2l, 1) := by decide +kernel
theorem dL_count_12 : decode cL_count 12 = .ok (.lastore, 1) := by decide +kernel
theorem dL_count_13 : decode cL_count 13 = .ok (.goto 11, 3) := by decide +kernel
theorem dL_count_16 : decode cL_count 16 = .ok (.astore 7, 2) := by decide +kernel
theorem dL_count_18 : decode cL_count 18 = .ok (.iconst 1, 1) := by decide +kernel
theorem dL_count_19 : decode cL_count 19 = .ok (.ireturn, 1) := by decide +kernel
theorem dL_count_20 : decode cL_count 20 = .ok (.astore 7, 2) := by decide +kernel
theorem dL_count_22 : decode cL_count 22 = .ok (.iconst 2, 1) := by decide +kernel
theorem dL_count_23 : decode cL_count 23 = .ok (.ireturn, 1) := by decide +kernel
theorem dL_count_24 : decode cL_count 24 = .ok (.iconst 0, 1) := by decide +kernel
theorem dL_count_25 : decode cL_count 25 = .ok (.ireturn, 1) := by decide +kernel
theorem dL_sum_0 : decode cL_sum 0 = .ok (.aload 6, 2) := by decide +kernel
theorem dL_sum_2 : decode cL_sum 2 = .ok (.iconst 0, 1) := by decide +kernel
theorem dL_sum_3 : decode cL_sum 3 = .ok (.aload_n 0, 1) := by decide +kernel
theorem dL_sum_4 : decode cL_sum 4 = .ok (.iload_n 1, 1) := by decide +kernel
theorem dL_sum_5 : decode cL_sum 5 = .ok (.lload_n 2, 1) := by decide +kernel
theorem dL_sum_6 : decode cL_sum 6 = .ok (.lload 4, 2) := by decide +kernel
theorem dL_sum_8 : decode cL_sum 8 = .ok (.invokevirtual 61, 3) := by decide +kernel
theorem dL_sum_11 : decode cL_sum 11 = .ok (.lastore, 1) := by decide +kernel
theorem dL_sum_12 : decode cL_sum 12 = .ok (.goto 11, 3) := by decide +kernel
theorem dL_sum_15 : decode cL_sum 15 = .ok (.astore 7, 2) := by decide +kernel
theorem dL_sum_17 : decode cL_sum 17 = .ok (.iconst 1, 1) := by decide +kernel
theorem dL_sum_18 : decode cL_sum 18 = .ok (.ireturn, 1) := by decide +kernel
theorem dL_sum_19 : decode cL_sum 19 = .ok (.astore 7, 2) := by decide +kernel
theorem dL_sum_21 : decode cL_sum 21 = .ok (.iconst 2, 1) := by decide +kernel
theorem dL_sum_22 : decode cL_sum 22 = .ok (.ireturn, 1) := by decide +kernel
theorem dL_sum_23 : decode cL_sum 23 = .ok (.iconst 0, 1) := by decide +kernel
theorem dL_sum_24 : decode cL_sum 24 = .ok (.ireturn, 1) := by decide +kernel
theorem dL_sumByReading_0 : decode cL_sumByReading 0 = .ok (.aload 6, 2) := by decide +kernel
theorem dL_sumByReading_2 : decode cL_sumByReading 2 = .ok (.iconst 0, 1) := by decide +kernel
theorem dL_sumByReading_3 : decode cL_sumByReading 3 = .ok (.aload_n 0, 1) := by decide +kernel
theorem dL_sumByReading_4 : decode cL_sumByReading 4 = .ok (.iload_n 1, 1) := by decide +kernel
theorem dL_sumByReading_5 : decode cL_sumByReading 5 = .ok (.lload_n 2, 1) := by decide +kernel
theorem dL_sumByReading_6 : decode cL_sumByReading 6 = .ok (.lload 4, 2) := by decide +kernel
theorem dL_sumByReading_8 : decode cL_sumByReading 8 = .ok (.invokevirtual 65, 3) := by decide +kernel
theorem dL_sumByReading_11 : decode cL_sumByReading 11 = .ok (.lastore, 1) := by decide +kernel
theorem dL_sumByReading_12 : decode cL_sumByReading 12 = .ok (.goto 11, 3) := by decide +kernel
theorem dL_sumByReading_15 : decode cL_sumByReading 15 = .ok (.astore 7, 2) := by decide +kernel
theorem dL_sumByReading_17 : decode cL_sumByReading 17 = .ok (.iconst 1, 1) := by decide +kernel
theorem dL_sumByReading_18 : decode cL_sumByReading 18 = .ok (.ireturn, 1) := by decide +kernel
theorem dL_sumByReading_19 : decode cL_sumByReading 19 = .ok (.astore 7, 2) := by decide +kernel
theorem dL_sumByReading_21 : decode cL_sumByReading 21 = .ok (.iconst 2, 1) := by decide +kernel
theorem dL_sumByReading_22 : decode cL_sumByReading 22 = .ok (.ireturn, 1) := by decide +kernel
theorem dL_sumByReading_23 : decode cL_sumByReading 23 = .ok (.iconst 0, 1) := by decide +kernel
theorem dL_sumByReading_24 : decode cL_sumByReading 24 = .ok (.ireturn, 1) := by decide +kernel
theorem dL_maximum_0 : decode cL_maximum 0 = .ok (.aload 6, 2) := by decide +kernel
theorem dL_maximum_2 : decode cL_maximum 2 = .ok (.iconst 0, 1) := by decide +kernel
theorem dL_maximum_3 : decode cL_maximum 3 = .ok (.aload_n 0, 1) := by decide +kernel
theorem dL_maximum_4 : decode cL_maximum 4 = .ok (.iload_n 1, 1) := by decide +kernel
theorem dL_maximum_5 : decode cL_maximum 5 = .ok (.lload_n 2, 1) := by decide +kernel
theorem dL_maximum_6 : decode cL_maximum 6 = .ok (.lload 4, 2) := by decide +kernel
theorem dL_maximum_8 : decode cL_maximum 8 = .ok (.invokevirtual 68, 3) := by decide +kernel
theorem dL_maximum_11 : decode cL_maximum 11 = .ok (.i2l, 1) := by decide +kernel
theorem dL_maximum_12 : decode cL_maximum 12 = .ok (.lastore, 1) := by decide +kernel
theorem dL_maximum_13 : decode cL_maximum 13 = .ok (.goto 15, 3) := by decide +kernel
theorem dL_maximum_16 : decode cL_maximum 16 = .ok (.astore 7, 2) := by decide +kernel
theorem dL_maximum_18 : decode cL_maximum 18 = .ok (.iconst 1, 1) := by decide +kernel
theorem dL_maximum_19 : decode cL_maximum 19 = .ok (.ireturn, 1) := by decide +kernel
theorem dL_maximum_20 : decode cL_maximum 20 = .ok (.astore 7, 2) := by decide +kernel
theorem dL_maximum_22 : decode cL_maximum 22 = .ok (.iconst 2, 1) := by decide +kernel
theorem dL_maximum_23 : decode cL_maximum 23 = .ok (.ireturn, 1) := by decide +kernel
theorem dL_maximum_24 : decode cL_maximum 24 = .ok (.astore 7, 2) := by decide +kernel
theorem dL_maximum_26 : decode cL_maximum 26 = .ok (.iconst 3, 1) := by decide +kernel
theorem dL_maximum_27 : decode cL_maximum 27 = .ok (.ireturn, 1) := by decide +kernel
theorem dL_maximum_28 : decode cL_maximum 28 = .ok (.iconst 0, 1) := by decide +kernel
theorem dL_maximum_29 : decode cL_maximum 29 = .ok (.ireturn, 1) := by decide +kernel
theorem dL_mean_0 : decode cL_mean 0 = .ok (.aload 6, 2) := by decide +kernel
theorem dL_mean_2 : decode cL_mean 2 = .ok (.iconst 0, 1) := by decide +kernel
theorem dL_mean_3 : decode cL_mean 3 = .ok (.aload_n 0, 1) := by decide +kernel
theorem dL_mean_4 : decode cL_mean 4 = .ok (.iload_n 1, 1) := by decide +kernel
theorem dL_mean_5 : decode cL_mean 5 = .ok (.lload_n 2, 1) := by decide +kernel
theorem dL_mean_6 : decode cL_mean 6 = .ok (.lload 4, 2) := by decide +kernel
theorem dL_mean_8 : decode cL_mean 8 = .ok (.invokevirtual 71, 3) := by decide +kernel
theorem dL_mean_11 : decode cL_mean 11 = .ok (.dastore, 1) := by decide +kernel
theorem dL_mean_12 : decode cL_mean 12 = .ok (.goto 15, 3) := by decide +kernel
theorem dL_mean_15 : decode cL_mean 15 = .ok (.astore 7, 2) := by decide +kernel
theorem dL_mean_17 : decode cL_mean 17 = .ok (.iconst 1, 1) := by decide +kernel
theorem dL_mean_18 : decode cL_mean 18 = .ok (.ireturn, 1) := by decide +kernel
theorem dL_mean_19 : decode cL_mean 19 = .ok (.astore 7, 2) := by decide +kernel
theorem dL_mean_21 : decode cL_mean 21 = .ok (.iconst 2, 1) := by decide +kernel
theorem dL_mean_22 : decode cL_mean 22 = .ok (.ireturn, 1) := by decide +kernel
theorem dL_mean_23 : decode cL_mean 23 = .ok (.astore 7, 2) := by decide +kernel
theorem dL_mean_25 : decode cL_mean 25 = .ok (.iconst 3, 1) := by decide +kernel
theorem dL_mean_26 : decode cL_mean 26 = .ok (.ireturn, 1) := by decide +kernel
theorem dL_mean_27 : decode cL_mean 27 = .ok (.iconst 0, 1) := by decide +kernel
theorem dL_mean_28 : decode cL_mean 28 = .ok (.ireturn, 1) := by decide +kernel
theorem dL_rollupCount_0 : decode cL_rollupCount 0 = .ok (.aload_n 3, 1) := by decide +kernel
theorem dL_rollupCount_1 : decode cL_rollupCount 1 = .ok (.iconst 0, 1) := by decide +kernel
theorem dL_rollupCount_2 : decode cL_rollupCount 2 = .ok (.aload_n 0, 1) := by decide +kernel
theorem dL_rollupCount_3 : decode cL_rollupCount 3 = .ok (.iload_n 1, 1) := by decide +kernel
theorem dL_rollupCount_4 : decode cL_rollupCount 4 = .ok (.iload_n 2, 1) := by decide +kernel
theorem dL_rollupCount_5 : decode cL_rollupCount 5 = .ok (.invokevirtual 77, 3) := by decide +kernel
theorem dL_rollupCount_8 : decode cL_rollupCount 8 = .ok (.i2l, 1) := by decide +kernel
theorem dL_rollupCount_9 : decode cL_rollupCount 9 = .ok (.lastore, 1) := by decide +kernel
theorem dL_rollupCount_10 : decode cL_rollupCount 10 = .ok (.goto 11, 3) := by decide +kernel
theorem dL_rollupCount_13 : decode cL_rollupCount 13 = .ok (.astore 4, 2) := by decide +kernel
theorem dL_rollupCount_15 : decode cL_rollupCount 15 = .ok (.iconst 1, 1) := by decide +kernel
theorem dL_rollupCount_16 : decode cL_rollupCount 16 = .ok (.ireturn, 1) := by decide +kernel
theorem dL_rollupCount_17 : decode cL_rollupCount 17 = .ok (.astore 4, 2) := by decide +kernel
theorem dL_rollupCount_19 : decode cL_rollupCount 19 = .ok (.iconst 2, 1) := by decide +kernel
theorem dL_rollupCount_20 : decode cL_rollupCount 20 = .ok (.ireturn, 1) := by decide +kernel
theorem dL_rollupCount_21 : decode cL_rollupCount 21 = .ok (.iconst 0, 1) := by decide +kernel
theorem dL_rollupCount_22 : decode cL_rollupCount 22 = .ok (.ireturn, 1) := by decide +kernel
theorem dL_countLow_0 : decode cL_countLow 0 = .ok (.aload 6, 2) := by decide +kernel
theorem dL_countLow_2 : decode cL_countLow 2 = .ok (.iconst 0, 1) := by decide +kernel
theorem dL_countLow_3 : decode cL_countLow 3 = .ok (.aload_n 0, 1) := by decide +kernel
theorem dL_countLow_4 : decode cL_countLow 4 = .ok (.iload_n 1, 1) := by decide +kernel
theorem dL_countLow_5 : decode cL_countLow 5 = .ok (.lload_n 2, 1) := by decide +kernel
theorem dL_countLow_6 : decode cL_countLow 6 = .ok (.lload 4, 2) := by decide +kernel
theorem dL_countLow_8 : decode cL_countLow 8 = .ok (.invokevirtual 80, 3) := by decide +kernel
theorem dL_countLow_11 : decode cL_countLow 11 = .ok (.i2l, 1) := by decide +kernel
theorem dL_countLow_12 : decode cL_countLow 12 = .ok (.lastore, 1) := by decide +kernel
theorem dL_countLow_13 : decode cL_countLow 13 = .ok (.goto 11, 3) := by decide +kernel
theorem dL_countLow_16 : decode cL_countLow 16 = .ok (.astore 7, 2) := by decide +kernel
theorem dL_countLow_18 : decode cL_countLow 18 = .ok (.iconst 1, 1) := by decide +kernel
theorem dL_countLow_19 : decode cL_countLow 19 = .ok (.ireturn, 1) := by decide +kernel
theorem dL_countLow_20 : decode cL_countLow 20 = .ok (.astore 7, 2) := by decide +kernel
theorem dL_countLow_22 : decode cL_countLow 22 = .ok (.iconst 2, 1) := by decide +kernel
theorem dL_countLow_23 : decode cL_countLow 23 = .ok (.ireturn, 1) := by decide +kernel
theorem dL_countLow_24 : decode cL_countLow 24 = .ok (.iconst 0, 1) := by decide +kernel
theorem dL_countLow_25 : decode cL_countLow 25 = .ok (.ireturn, 1) := by decide +kernel
theorem dL_countHigh_0 : decode cL_countHigh 0 = .ok (.aload 6, 2) := by decide +kernel
theorem dL_countHigh_2 : decode cL_countHigh 2 = .ok (.iconst 0, 1) := by decide +kernel
theorem dL_countHigh_3 : decode cL_countHigh 3 = .ok (.aload_n 0, 1) := by decide +kernel
theorem dL_countHigh_4 : decode cL_countHigh 4 = .ok (.iload_n 1, 1) := by decide +kernel
theorem dL_countHigh_5 : decode cL_countHigh 5 = .ok (.lload_n 2, 1) := by decide +kernel
theorem dL_countHigh_6 : decode cL_countHigh 6 = .ok (.lload 4, 2) := by decide +kernel
theorem dL_countHigh_8 : decode cL_countHigh 8 = .ok (.invokevirtual 83, 3) := by decide +kernel
theorem dL_countHigh_11 : decode cL_countHigh 11 = .ok (.i2l, 1) := by decide +kernel
theorem dL_countHigh_12 : decode cL_countHigh 12 = .ok (.lastore, 1) := by decide +kernel
theorem dL_countHigh_13 : decode cL_countHigh 13 = .ok (.goto 11, 3) := by decide +kernel
theorem dL_countHigh_16 : decode cL_countHigh 16 = .ok (.astore 7, 2) := by decide +kernel
theorem dL_countHigh_18 : decode cL_countHigh 18 = .ok (.iconst 1, 1) := by decide +kernel
theorem dL_countHigh_19 : decode cL_countHigh 19 = .ok (.ireturn, 1) := by decide +kernel
theorem dL_countHigh_20 : decode cL_countHigh 20 = .ok (.astore 7, 2) := by decide +kernel
theorem dL_countHigh_22 : decode cL_countHigh 22 = .ok (.iconst 2, 1) := by decide +kernel
theorem dL_countHigh_23 : decode cL_countHigh 23 = .ok (.ireturn, 1) := by decide +kernel
theorem dL_countHigh_24 : decode cL_countHigh 24 = .ok (.iconst 0, 1) := by decide +kernel
theorem dL_countHigh_25 : decode cL_countHigh 25 = .ok (.ireturn, 1) := by decide +kernel
theorem dL_maximumHigh_0 : decode cL_maximumHigh 0 = .ok (.aload 6, 2) := by decide +kernel
theorem dL_maximumHigh_2 : decode cL_maximumHigh 2 = .ok (.iconst 0, 1) := by decide +kernel
theorem dL_maximumHigh_3 : decode cL_maximumHigh 3 = .ok (.aload_n 0, 1) := by decide +kernel
theorem dL_maximumHigh_4 : decode cL_maximumHigh 4 = .ok (.iload_n 1, 1) := by decide +kernel
theorem dL_maximumHigh_5 : decode cL_maximumHigh 5 = .ok (.lload_n 2, 1) := by decide +kernel
theorem dL_maximumHigh_6 : decode cL_maximumHigh 6 = .ok (.lload 4, 2) := by decide +kernel
theorem dL_maximumHigh_8 : decode cL_maximumHigh 8 = .ok (.invokevirtual 86, 3) := by decide +kernel
theorem dL_maximumHigh_11 : decode cL_maximumHigh 11 = .ok (.i2l, 1) := by decide +kernel
theorem dL_maximumHigh_12 : decode cL_maximumHigh 12 = .ok (.lastore, 1) := by decide +kernel
theorem dL_maximumHigh_13 : decode cL_maximumHigh 13 = .ok (.goto 15, 3) := by decide +kernel
theorem dL_maximumHigh_16 : decode cL_maximumHigh 16 = .ok (.astore 7, 2) := by decide +kernel
theorem dL_maximumHigh_18 : decode cL_maximumHigh 18 = .ok (.iconst 1, 1) := by decide +kernel
theorem dL_maximumHigh_19 : decode cL_maximumHigh 19 = .ok (.ireturn, 1) := by decide +kernel
theorem dL_maximumHigh_20 : decode cL_maximumHigh 20 = .ok (.astore 7, 2) := by decide +kernel
theorem dL_maximumHigh_22 : decode cL_maximumHigh 22 = .ok (.iconst 2, 1) := by decide +kernel
theorem dL_maximumHigh_23 : decode cL_maximumHigh 23 = .ok (.ireturn, 1) := by decide +kernel
theorem dL_maximumHigh_24 : decode cL_maximumHigh 24 = .ok (.astore 7, 2) := by decide +kernel
theorem dL_maximumHigh_26 : decode cL_maximumHigh 26 = .ok (.iconst 3, 1) := by decide +kernel
theorem dL_maximumHigh_27 : decode cL_maximumHigh 27 = .ok (.ireturn, 1) := by decide +kernel
theorem dL_maximumHigh_28 : decode cL_maximumHigh 28 = .ok (.iconst 0, 1) := by decide +kernel
theorem dL_maximumHigh_29 : decode cL_maximumHigh 29 = .ok (.ireturn, 1) := by decide +kernel
theorem dL_quantile_0 : decode cL_quantile 0 = .ok (.aload_n 3, 1) := by decide +kernel
theorem dL_quantile_1 : decode cL_quantile 1 = .ok (.iconst 0, 1) := by decide +kernel
theorem dL_quantile_2 : decode cL_quantile 2 = .ok (.aload_n 0, 1) := by decide +kernel
theorem dL_quantile_3 : decode cL_quantile 3 = .ok (.iload_n 1, 1) := by decide +kernel
theorem dL_quantile_4 : decode cL_quantile 4 = .ok (.iload_n 2, 1) := by decide +kernel
theorem dL_quantile_5 : decode cL_quantile 5 = .ok (.invokevirtual 89, 3) := by decide +kernel
theorem dL_quantile_8 : decode cL_quantile 8 = .ok (.i2l, 1) := by decide +kernel
theorem dL_quantile_9 : decode cL_quantile 9 = .ok (.lastore, 1) := by decide +kernel
theorem dL_quantile_10 : decode cL_quantile 10 = .ok (.goto 15, 3) := by decide +kernel
theorem dL_quantile_13 : decode cL_quantile 13 = .ok (.astore 4, 2) := by decide +kernel
theorem dL_quantile_15 : decode cL_quantile 15 = .ok (.iconst 1, 1) := by decide +kernel
theorem dL_quantile_16 : decode cL_quantile 16 = .ok (.ireturn, 1) := by decide +kernel
theorem dL_quantile_17 : decode cL_quantile 17 = .ok (.astore 4, 2) := by decide +kernel
theorem dL_quantile_19 : decode cL_quantile 19 = .ok (.iconst 2, 1) := by decide +kernel
theorem dL_quantile_20 : decode cL_quantile 20 = .ok (.ireturn, 1) := by decide +kernel
theorem dL_quantile_21 : decode cL_quantile 21 = .ok (.astore 4, 2) := by decide +kernel
theorem dL_quantile_23 : decode cL_quantile 23 = .ok (.iconst 3, 1) := by decide +kernel
theorem dL_quantile_24 : decode cL_quantile 24 = .ok (.ireturn, 1) := by decide +kernel
theorem dL_quantile_25 : decode cL_quantile 25 = .ok (.iconst 0, 1) := by decide +kernel
theorem dL_quantile_26 : decode cL_quantile 26 = .ok (.ireturn, 1) := by decide +kernel
theorem dL_exactQuantile_0 : decode cL_exactQuantile 0 = .ok (.aload_n 3, 1) := by decide +kernel
theorem dL_exactQuantile_1 : decode cL_exactQuantile 1 = .ok (.iconst 0, 1) := by decide +kernel
theorem dL_exactQuantile_2 : decode cL_exactQuantile 2 = .ok (.aload_n 0, 1) := by decide +kernel
theorem dL_exactQuantile_3 : decode cL_exactQuantile 3 = .ok (.iload_n 1, 1) := by decide +kernel
theorem dL_exactQuantile_4 : decode cL_exactQuantile 4 = .ok (.iload_n 2, 1) := by decide +kernel
theorem dL_exactQuantile_5 : decode cL_exactQuantile 5 = .ok (.invokevirtual 92, 3) := by decide +kernel
theorem dL_exactQuantile_8 : decode cL_exactQuantile 8 = .ok (.i2l, 1) := by decide +kernel
theorem dL_exactQuantile_9 : decode cL_exactQuantile 9 = .ok (.lastore, 1) := by decide +kernel
theorem dL_exactQuantile_10 : decode cL_exactQuantile 10 = .ok (.goto 15, 3) := by decide +kernel
theorem dL_exactQuantile_13 : decode cL_exactQuantile 13 = .ok (.astore 4, 2) := by decide +kernel
theorem dL_exactQuantile_15 : decode cL_exactQuantile 15 = .ok (.iconst 1, 1) := by decide +kernel
theorem dL_exactQuantile_16 : decode cL_exactQuantile 16 = .ok (.ireturn, 1) := by decide +kernel
theorem dL_exactQuantile_17 : decode cL_exactQuantile 17 = .ok (.astore 4, 2) := by decide +kernel
theorem dL_exactQuantile_19 : decode cL_exactQuantile 19 = .ok (.iconst 2, 1) := by decide +kernel
theorem dL_exactQuantile_20 : decode cL_exactQuantile 20 = .ok (.ireturn, 1) := by decide +kernel
theorem dL_exactQuantile_21 : decode cL_exactQuantile 21 = .ok (.astore 4, 2) := by decide +kernel
theorem dL_exactQuantile_23 : decode cL_exactQuantile 23 = .ok (.iconst 3, 1) := by decide +kernel
theorem dL_exactQuantile_24 : decode cL_exactQuantile 24 = .ok (.ireturn, 1) := by decide +kernel
theorem dL_exactQuantile_25 : decode cL_exactQuantile 25 = .ok (.iconst 0, 1) := by decide +kernel
theorem dL_exactQuantile_26 : decode cL_exactQuantile 26 = .ok (.ireturn, 1) := by decide +kernel
theorem dL_bound_0 : decode cL_bound 0 = .ok (.aload_n 2, 1) := by decide +kernel
theorem dL_bound_1 : decode cL_bound 1 = .ok (.iconst 0, 1) := by decide +kernel
theorem dL_bound_2 : decode cL_bound 2 = .ok (.aload_n 0, 1) := by decide +kernel
theorem dL_bound_3 : decode cL_bound 3 = .ok (.iload_n 1, 1) := by decide +kernel
theorem dL_bound_4 : decode cL_bound 4 = .ok (.invokevirtual 95, 3) := by decide +kernel
theorem dL_bound_7 : decode cL_bound 7 = .ok (.i2l, 1) := by decide +kernel
theorem dL_bound_8 : decode cL_bound 8 = .ok (.lastore, 1) := by decide +kernel
theorem dL_bound_9 : decode cL_bound 9 = .ok (.goto 6, 3) := by decide +kernel
theorem dL_bound_12 : decode cL_bound 12 = .ok (.astore_n 3, 1) := by decide +kernel
theorem dL_bound_13 : decode cL_bound 13 = .ok (.iconst 1, 1) := by decide +kernel
theorem dL_bound_14 : decode cL_bound 14 = .ok (.ireturn, 1) := by decide +kernel
theorem dL_bound_15 : decode cL_bound 15 = .ok (.iconst 0, 1) := by decide +kernel
theorem dL_bound_16 : decode cL_bound 16 = .ok (.ireturn, 1) := by decide +kernel
theorem dL_held_0 : decode cL_held 0 = .ok (.aload_n 2, 1) := by decide +kernel
theorem dL_held_1 : decode cL_held 1 = .ok (.iconst 0, 1) := by decide +kernel
theorem dL_held_2 : decode cL_held 2 = .ok (.aload_n 0, 1) := by decide +kernel
theorem dL_held_3 : decode cL_held 3 = .ok (.iload_n 1, 1) := by decide +kernel
theorem dL_held_4 : decode cL_held 4 = .ok (.invokevirtual 98, 3) := by decide +kernel
theorem dL_held_7 : decode cL_held 7 = .ok (.i2l, 1) := by decide +kernel
theorem dL_held_8 : decode cL_held 8 = .ok (.lastore, 1) := by decide +kernel
theorem dL_held_9 : decode cL_held 9 = .ok (.goto 6, 3) := by decide +kernel
theorem dL_held_12 : decode cL_held 12 = .ok (.astore_n 3, 1) := by decide +kernel
theorem dL_held_13 : decode cL_held 13 = .ok (.iconst 1, 1) := by decide +kernel
theorem dL_held_14 : decode cL_held 14 = .ok (.ireturn, 1) := by decide +kernel
theorem dL_held_15 : decode cL_held 15 = .ok (.iconst 0, 1) := by decide +kernel
theorem dL_held_16 : decode cL_held 16 = .ok (.ireturn, 1) := by decide +kernel
theorem dL_isWithin_0 : decode cL_isWithin 0 = .ok (.aload_n 3, 1) := by decide +kernel
theorem dL_isWithin_1 : decode cL_isWithin 1 = .ok (.iconst 0, 1) := by decide +kernel
theorem dL_isWithin_2 : decode cL_isWithin 2 = .ok (.aload_n 0, 1) := by decide +kernel
theorem dL_isWithin_3 : decode cL_isWithin 3 = .ok (.iload_n 1, 1) := by decide +kernel
theorem dL_isWithin_4 : decode cL_isWithin 4 = .ok (.iload_n 2, 1) := by decide +kernel
theorem dL_isWithin_5 : decode cL_isWithin 5 = .ok (.invokevirtual 101, 3) := by decide +kernel
theorem dL_isWithin_8 : decode cL_isWithin 8 = .ok (.ifCond .eq 7, 3) := by decide +kernel
theorem dL_isWithin_11 : decode cL_isWithin 11 = .ok (.lconst 1, 1) := by decide +kernel
theorem dL_isWithin_12 : decode cL_isWithin 12 = .ok (.goto 4, 3) := by decide +kernel
theorem dL_isWithin_15 : decode cL_isWithin 15 = .ok (.lconst 0, 1) := by decide +kernel
theorem dL_isWithin_16 : decode cL_isWithin 16 = .ok (.lastore, 1) := by decide +kernel
theorem dL_isWithin_17 : decode cL_isWithin 17 = .ok (.goto 15, 3) := by decide +kernel
theorem dL_isWithin_20 : decode cL_isWithin 20 = .ok (.astore 4, 2) := by decide +kernel
theorem dL_isWithin_22 : decode cL_isWithin 22 = .ok (.iconst 1, 1) := by decide +kernel
theorem dL_isWithin_23 : decode cL_isWithin 23 = .ok (.ireturn, 1) := by decide +kernel
theorem dL_isWithin_24 : decode cL_isWithin 24 = .ok (.astore 4, 2) := by decide +kernel
theorem dL_isWithin_26 : decode cL_isWithin 26 = .ok (.iconst 2, 1) := by decide +kernel
theorem dL_isWithin_27 : decode cL_isWithin 27 = .ok (.ireturn, 1) := by decide +kernel
theorem dL_isWithin_28 : decode cL_isWithin 28 = .ok (.astore 4, 2) := by decide +kernel
theorem dL_isWithin_30 : decode cL_isWithin 30 = .ok (.iconst 3, 1) := by decide +kernel
theorem dL_isWithin_31 : decode cL_isWithin 31 = .ok (.ireturn, 1) := by decide +kernel
theorem dL_isWithin_32 : decode cL_isWithin 32 = .ok (.iconst 0, 1) := by decide +kernel
theorem dL_isWithin_33 : decode cL_isWithin 33 = .ok (.ireturn, 1) := by decide +kernel
theorem dL_setAlert_0 : decode cL_setAlert 0 = .ok (.aload 4, 2) := by decide +kernel
theorem dL_setAlert_2 : decode cL_setAlert 2 = .ok (.iconst 0, 1) := by decide +kernel
theorem dL_setAlert_3 : decode cL_setAlert 3 = .ok (.aload_n 0, 1) := by decide +kernel
theorem dL_setAlert_4 : decode cL_setAlert 4 = .ok (.iload_n 1, 1) := by decide +kernel
theorem dL_setAlert_5 : decode cL_setAlert 5 = .ok (.iload_n 2, 1) := by decide +kernel
theorem dL_setAlert_6 : decode cL_setAlert 6 = .ok (.iload_n 3, 1) := by decide +kernel
theorem dL_setAlert_7 : decode cL_setAlert 7 = .ok (.invokevirtual 105, 3) := by decide +kernel
theorem dL_setAlert_10 : decode cL_setAlert 10 = .ok (.i2l, 1) := by decide +kernel
theorem dL_setAlert_11 : decode cL_setAlert 11 = .ok (.lastore, 1) := by decide +kernel
theorem dL_setAlert_12 : decode cL_setAlert 12 = .ok (.goto 11, 3) := by decide +kernel
theorem dL_setAlert_15 : decode cL_setAlert 15 = .ok (.astore 5, 2) := by decide +kernel
theorem dL_setAlert_17 : decode cL_setAlert 17 = .ok (.iconst 1, 1) := by decide +kernel
theorem dL_setAlert_18 : decode cL_setAlert 18 = .ok (.ireturn, 1) := by decide +kernel
theorem dL_setAlert_19 : decode cL_setAlert 19 = .ok (.astore 5, 2) := by decide +kernel
theorem dL_setAlert_21 : decode cL_setAlert 21 = .ok (.iconst 2, 1) := by decide +kernel
theorem dL_setAlert_22 : decode cL_setAlert 22 = .ok (.ireturn, 1) := by decide +kernel
theorem dL_setAlert_23 : decode cL_setAlert 23 = .ok (.iconst 0, 1) := by decide +kernel
theorem dL_setAlert_24 : decode cL_setAlert 24 = .ok (.ireturn, 1) := by decide +kernel
theorem dL_removeAlert_0 : decode cL_removeAlert 0 = .ok (.aload_n 2, 1) := by decide +kernel
theorem dL_removeAlert_1 : decode cL_removeAlert 1 = .ok (.iconst 0, 1) := by decide +kernel
theorem dL_removeAlert_2 : decode cL_removeAlert 2 = .ok (.aload_n 0, 1) := by decide +kernel
theorem dL_removeAlert_3 : decode cL_removeAlert 3 = .ok (.iload_n 1, 1) := by decide +kernel
theorem dL_removeAlert_4 : decode cL_removeAlert 4 = .ok (.invokevirtual 109, 3) := by decide +kernel
theorem dL_removeAlert_7 : decode cL_removeAlert 7 = .ok (.i2l, 1) := by decide +kernel
theorem dL_removeAlert_8 : decode cL_removeAlert 8 = .ok (.lastore, 1) := by decide +kernel
theorem dL_removeAlert_9 : decode cL_removeAlert 9 = .ok (.goto 9, 3) := by decide +kernel
theorem dL_removeAlert_12 : decode cL_removeAlert 12 = .ok (.astore_n 3, 1) := by decide +kernel
theorem dL_removeAlert_13 : decode cL_removeAlert 13 = .ok (.iconst 1, 1) := by decide +kernel
theorem dL_removeAlert_14 : decode cL_removeAlert 14 = .ok (.ireturn, 1) := by decide +kernel
theorem dL_removeAlert_15 : decode cL_removeAlert 15 = .ok (.astore_n 3, 1) := by decide +kernel
theorem dL_removeAlert_16 : decode cL_removeAlert 16 = .ok (.iconst 2, 1) := by decide +kernel
theorem dL_removeAlert_17 : decode cL_removeAlert 17 = .ok (.ireturn, 1) := by decide +kernel
theorem dL_removeAlert_18 : decode cL_removeAlert 18 = .ok (.iconst 0, 1) := by decide +kernel
theorem dL_removeAlert_19 : decode cL_removeAlert 19 = .ok (.ireturn, 1) := by decide +kernel
theorem dL_alertOf_0 : decode cL_alertOf 0 = .ok (.aload_n 2, 1) := by decide +kernel
theorem dL_alertOf_1 : decode cL_alertOf 1 = .ok (.iconst 0, 1) := by decide +kernel
theorem dL_alertOf_2 : decode cL_alertOf 2 = .ok (.aload_n 0, 1) := by decide +kernel
theorem dL_alertOf_3 : decode cL_alertOf 3 = .ok (.iload_n 1, 1) := by decide +kernel
theorem dL_alertOf_4 : decode cL_alertOf 4 = .ok (.invokevirtual 113, 3) := by decide +kernel
theorem dL_alertOf_7 : decode cL_alertOf 7 = .ok (.i2l, 1) := by decide +kernel
theorem dL_alertOf_8 : decode cL_alertOf 8 = .ok (.lastore, 1) := by decide +kernel
theorem dL_alertOf_9 : decode cL_alertOf 9 = .ok (.goto 9, 3) := by decide +kernel
theorem dL_alertOf_12 : decode cL_alertOf 12 = .ok (.astore_n 3, 1) := by decide +kernel
theorem dL_alertOf_13 : decode cL_alertOf 13 = .ok (.iconst 1, 1) := by decide +kernel
theorem dL_alertOf_14 : decode cL_alertOf 14 = .ok (.ireturn, 1) := by decide +kernel
theorem dL_alertOf_15 : decode cL_alertOf 15 = .ok (.astore_n 3, 1) := by decide +kernel
theorem dL_alertOf_16 : decode cL_alertOf 16 = .ok (.iconst 2, 1) := by decide +kernel
theorem dL_alertOf_17 : decode cL_alertOf 17 = .ok (.ireturn, 1) := by decide +kernel
theorem dL_alertOf_18 : decode cL_alertOf 18 = .ok (.iconst 0, 1) := by decide +kernel
theorem dL_alertOf_19 : decode cL_alertOf 19 = .ok (.ireturn, 1) := by decide +kernel
theorem dL_joinCount_0 : decode cL_joinCount 0 = .ok (.aload_n 3, 1) := by decide +kernel
theorem dL_joinCount_1 : decode cL_joinCount 1 = .ok (.iconst 0, 1) := by decide +kernel
theorem dL_joinCount_2 : decode cL_joinCount 2 = .ok (.aload_n 0, 1) := by decide +kernel
theorem dL_joinCount_3 : decode cL_joinCount 3 = .ok (.iload_n 1, 1) := by decide +kernel
theorem dL_joinCount_4 : decode cL_joinCount 4 = .ok (.iload_n 2, 1) := by decide +kernel
theorem dL_joinCount_5 : decode cL_joinCount 5 = .ok (.invokevirtual 116, 3) := by decide +kernel
theorem dL_joinCount_8 : decode cL_joinCount 8 = .ok (.i2l, 1) := by decide +kernel
theorem dL_joinCount_9 : decode cL_joinCount 9 = .ok (.lastore, 1) := by decide +kernel
theorem dL_joinCount_10 : decode cL_joinCount 10 = .ok (.goto 7, 3) := by decide +kernel
theorem dL_joinCount_13 : decode cL_joinCount 13 = .ok (.astore 4, 2) := by decide +kernel
theorem dL_joinCount_15 : decode cL_joinCount 15 = .ok (.iconst 1, 1) := by decide +kernel
theorem dL_joinCount_16 : decode cL_joinCount 16 = .ok (.ireturn, 1) := by decide +kernel
theorem dL_joinCount_17 : decode cL_joinCount 17 = .ok (.iconst 0, 1) := by decide +kernel
theorem dL_joinCount_18 : decode cL_joinCount 18 = .ok (.ireturn, 1) := by decide +kernel
theorem dL_joinSum_0 : decode cL_joinSum 0 = .ok (.aload_n 3, 1) := by decide +kernel
theorem dL_joinSum_1 : decode cL_joinSum 1 = .ok (.iconst 0, 1) := by decide +kernel
theorem dL_joinSum_2 : decode cL_joinSum 2 = .ok (.aload_n 0, 1) := by decide +kernel
theorem dL_joinSum_3 : decode cL_joinSum 3 = .ok (.iload_n 1, 1) := by decide +kernel
theorem dL_joinSum_4 : decode cL_joinSum 4 = .ok (.iload_n 2, 1) := by decide +kernel
theorem dL_joinSum_5 : decode cL_joinSum 5 = .ok (.invokevirtual 119, 3) := by decide +kernel
theorem dL_joinSum_8 : decode cL_joinSum 8 = .ok (.lastore, 1) := by decide +kernel
theorem dL_joinSum_9 : decode cL_joinSum 9 = .ok (.goto 7, 3) := by decide +kernel
theorem dL_joinSum_12 : decode cL_joinSum 12 = .ok (.astore 4, 2) := by decide +kernel
theorem dL_joinSum_14 : decode cL_joinSum 14 = .ok (.iconst 1, 1) := by decide +kernel
theorem dL_joinSum_15 : decode cL_joinSum 15 = .ok (.ireturn, 1) := by decide +kernel
theorem dL_joinSum_16 : decode cL_joinSum 16 = .ok (.iconst 0, 1) := by decide +kernel
theorem dL_joinSum_17 : decode cL_joinSum 17 = .ok (.ireturn, 1) := by decide +kernel
theorem dL_firingShare_0 : decode cL_firingShare 0 = .ok (.aload_n 1, 1) := by decide +kernel
theorem dL_firingShare_1 : decode cL_firingShare 1 = .ok (.iconst 0, 1) := by decide +kernel
theorem dL_firingShare_2 : decode cL_firingShare 2 = .ok (.aload_n 0, 1) := by decide +kernel
theorem dL_firingShare_3 : decode cL_firingShare 3 = .ok (.invokevirtual 122, 3) := by decide +kernel
theorem dL_firingShare_6 : decode cL_firingShare 6 = .ok (.f2d, 1) := by decide +kernel
theorem dL_firingShare_7 : decode cL_firingShare 7 = .ok (.dastore, 1) := by decide +kernel
theorem dL_firingShare_8 : decode cL_firingShare 8 = .ok (.goto 6, 3) := by decide +kernel
theorem dL_firingShare_11 : decode cL_firingShare 11 = .ok (.astore_n 2, 1) := by decide +kernel
theorem dL_firingShare_12 : decode cL_firingShare 12 = .ok (.iconst 1, 1) := by decide +kernel
theorem dL_firingShare_13 : decode cL_firingShare 13 = .ok (.ireturn, 1) := by decide +kernel
theorem dL_firingShare_14 : decode cL_firingShare 14 = .ok (.iconst 0, 1) := by decide +kernel
theorem dL_firingShare_15 : decode cL_firingShare 15 = .ok (.ireturn, 1) := by decide +kernel
theorem dL_law_0 : decode cL_law 0 = .ok (.new 8, 3) := by decide +kernel
theorem dL_law_3 : decode cL_law 3 = .ok (.dup, 1) := by decide +kernel
theorem dL_law_4 : decode cL_law 4 = .ok (.invokespecial 126, 3) := by decide +kernel
theorem dL_law_7 : decode cL_law 7 = .ok (.astore_n 1, 1) := by decide +kernel
theorem dL_law_8 : decode cL_law 8 = .ok (.new 127, 3) := by decide +kernel
theorem dL_law_11 : decode cL_law 11 = .ok (.dup, 1) := by decide +kernel
theorem dL_law_12 : decode cL_law 12 = .ok (.invokespecial 129, 3) := by decide +kernel
theorem dL_law_15 : decode cL_law 15 = .ok (.astore_n 2, 1) := by decide +kernel
theorem dL_law_16 : decode cL_law 16 = .ok (.iconst 1, 1) := by decide +kernel
theorem dL_law_17 : decode cL_law 17 = .ok (.newarray .long, 2) := by decide +kernel
theorem dL_law_19 : decode cL_law 19 = .ok (.astore_n 3, 1) := by decide +kernel
theorem dL_law_20 : decode cL_law 20 = .ok (.iconst 1, 1) := by decide +kernel
theorem dL_law_21 : decode cL_law 21 = .ok (.newarray .double, 2) := by decide +kernel
theorem dL_law_23 : decode cL_law 23 = .ok (.astore 4, 2) := by decide +kernel
theorem dL_law_25 : decode cL_law 25 = .ok (.iconst 0, 1) := by decide +kernel
theorem dL_law_26 : decode cL_law 26 = .ok (.istore 5, 2) := by decide +kernel
theorem dL_law_28 : decode cL_law 28 = .ok (.iload 5, 2) := by decide +kernel
theorem dL_law_30 : decode cL_law 30 = .ok (.aload_n 0, 1) := by decide +kernel
theorem dL_law_31 : decode cL_law 31 = .ok (.arraylength, 1) := by decide +kernel
theorem dL_law_32 : decode cL_law 32 = .ok (.bipush 6, 2) := by decide +kernel
theorem dL_law_34 : decode cL_law 34 = .ok (.isub, 1) := by decide +kernel
theorem dL_law_35 : decode cL_law 35 = .ok (.if_icmp .gt 2943, 3) := by decide +kernel
theorem dL_law_38 : decode cL_law 38 = .ok (.aload_n 0, 1) := by decide +kernel
theorem dL_law_39 : decode cL_law 39 = .ok (.iload 5, 2) := by decide +kernel
theorem dL_law_41 : decode cL_law 41 = .ok (.iaload, 1) := by decide +kernel
theorem dL_law_42 : decode cL_law 42 = .ok (.bipush 63, 2) := by decide +kernel
theorem dL_law_44 : decode cL_law 44 = .ok (.iand, 1) := by decide +kernel
theorem dL_law_45 : decode cL_law 45 = .ok (.tableswitch 2927 0 36 #[163, 231, 286, 354, 368, 381, 449, 505, 561, 617, 673, 729, 797, 864, 932, 946, 1090, 1233, 1376, 1520, 1685, 1753, 1897, 2041, 2185, 2253, 2321, 2377, 2433, 2508, 2588, 2644, 2700, 2713, 2781, 2848, 2914], 163) := by decide +kernel
theorem dL_law_208 : decode cL_law 208 = .ok (.aload_n 1, 1) := by decide +kernel
theorem dL_law_209 : decode cL_law 209 = .ok (.aload_n 0, 1) := by decide +kernel
theorem dL_law_210 : decode cL_law 210 = .ok (.iload 5, 2) := by decide +kernel
theorem dL_law_212 : decode cL_law 212 = .ok (.iconst 1, 1) := by decide +kernel
theorem dL_law_213 : decode cL_law 213 = .ok (.iadd, 1) := by decide +kernel
theorem dL_law_214 : decode cL_law 214 = .ok (.iaload, 1) := by decide +kernel
theorem dL_law_215 : decode cL_law 215 = .ok (.aload_n 0, 1) := by decide +kernel
theorem dL_law_216 : decode cL_law 216 = .ok (.iload 5, 2) := by decide +kernel
theorem dL_law_218 : decode cL_law 218 = .ok (.iconst 2, 1) := by decide +kernel
theorem dL_law_219 : decode cL_law 219 = .ok (.iadd, 1) := by decide +kernel
theorem dL_law_220 : decode cL_law 220 = .ok (.iaload, 1) := by decide +kernel
theorem dL_law_221 : decode cL_law 221 = .ok (.aload_n 3, 1) := by decide +kernel
theorem dL_law_222 : decode cL_law 222 = .ok (.invokestatic 130, 3) := by decide +kernel
theorem dL_law_225 : decode cL_law 225 = .ok (.istore 6, 2) := by decide +kernel
theorem dL_law_227 : decode cL_law 227 = .ok (.aload_n 2, 1) := by decide +kernel
theorem dL_law_228 : decode cL_law 228 = .ok (.aload_n 0, 1) := by decide +kernel
theorem dL_law_229 : decode cL_law 229 = .ok (.iload 5, 2) := by decide +kernel
theorem dL_law_231 : decode cL_law 231 = .ok (.iconst 1, 1) := by decide +kernel
theorem dL_law_232 : decode cL_law 232 = .ok (.iadd, 1) := by decide +kernel
theorem dL_law_233 : decode cL_law 233 = .ok (.iaload, 1) := by decide +kernel
theorem dL_law_234 : decode cL_law 234 = .ok (.aload_n 0, 1) := by decide +kernel
theorem dL_law_235 : decode cL_law 235 = .ok (.iload 5, 2) := by decide +kernel
theorem dL_law_237 : decode cL_law 237 = .ok (.iconst 2, 1) := by decide +kernel
theorem dL_law_238 : decode cL_law 238 = .ok (.iadd, 1) := by decide +kernel
theorem dL_law_239 : decode cL_law 239 = .ok (.iaload, 1) := by decide +kernel
theorem dL_law_240 : decode cL_law 240 = .ok (.invokevirtual 135, 3) := by decide +kernel
theorem dL_law_243 : decode cL_law 243 = .ok (.istore 7, 2) := by decide +kernel
theorem dL_law_245 : decode cL_law 245 = .ok (.aload_n 2, 1) := by decide +kernel
theorem dL_law_246 : decode cL_law 246 = .ok (.invokevirtual 136, 3) := by decide +kernel
theorem dL_law_249 : decode cL_law 249 = .ok (.iload 6, 2) := by decide +kernel
theorem dL_law_251 : decode cL_law 251 = .ok (.if_icmp .eq 5, 3) := by decide +kernel
theorem dL_law_254 : decode cL_law 254 = .ok (.iconst 0, 1) := by decide +kernel
theorem dL_law_255 : decode cL_law 255 = .ok (.ireturn, 1) := by decide +kernel
theorem dL_law_256 : decode cL_law 256 = .ok (.iload 6, 2) := by decide +kernel
theorem dL_law_258 : decode cL_law 258 = .ok (.ifCond .ne 15, 3) := by decide +kernel
theorem dL_law_261 : decode cL_law 261 = .ok (.aload_n 3, 1) := by decide +kernel
theorem dL_law_262 : decode cL_law 262 = .ok (.iconst 0, 1) := by decide +kernel
theorem dL_law_263 : decode cL_law 263 = .ok (.laload, 1) := by decide +kernel
theorem dL_law_264 : decode cL_law 264 = .ok (.iload 7, 2) := by decide +kernel
theorem dL_law_266 : decode cL_law 266 = .ok (.i2l, 1) := by decide +kernel
theorem dL_law_267 : decode cL_law 267 = .ok (.lcmp, 1) := by decide +kernel
theorem dL_law_268 : decode cL_law 268 = .ok (.ifCond .eq 5, 3) := by decide +kernel
theorem dL_law_271 : decode cL_law 271 = .ok (.iconst 0, 1) := by decide +kernel
theorem dL_law_272 : decode cL_law 272 = .ok (.ireturn, 1) := by decide +kernel
theorem dL_law_273 : decode cL_law 273 = .ok (.goto 2699, 3) := by decide +kernel
theorem dL_law_276 : decode cL_law 276 = .ok (.aload_n 1, 1) := by decide +kernel
theorem dL_law_277 : decode cL_law 277 = .ok (.aload_n 0, 1) := by decide +kernel
theorem dL_law_278 : decode cL_law 278 = .ok (.iload 5, 2) := by decide +kernel
theorem dL_law_280 : decode cL_law 280 = .ok (.iconst 1, 1) := by decide +kernel
theorem dL_law_281 : decode cL_law 281 = .ok (.iadd, 1) := by decide +kernel
theorem dL_law_282 : decode cL_law 282 = .ok (.iaload, 1) := by decide +kernel
theorem dL_law_283 : decode cL_law 283 = .ok (.aload_n 3, 1) := by decide +kernel
theorem dL_law_284 : decode cL_law 284 = .ok (.invokestatic 140, 3) := by decide +kernel
theorem dL_law_287 : decode cL_law 287 = .ok (.istore 6, 2) := by decide +kernel
theorem dL_law_289 : decode cL_law 289 = .ok (.aload_n 2, 1) := by decide +kernel
theorem dL_law_290 : decode cL_law 290 = .ok (.aload_n 0, 1) := by decide +kernel
theorem dL_law_291 : decode cL_law 291 = .ok (.iload 5, 2) := by decide +kernel
theorem dL_law_293 : decode cL_law 293 = .ok (.iconst 1, 1) := by decide +kernel
theorem dL_law_294 : decode cL_law 294 = .ok (.iadd, 1) := by decide +kernel
theorem dL_law_295 : decode cL_law 295 = .ok (.iaload, 1) := by decide +kernel
theorem dL_law_296 : decode cL_law 296 = .ok (.invokevirtual 143, 3) := by decide +kernel
theorem dL_law_299 : decode cL_law 299 = .ok (.lstore 7, 2) := by decide +kernel
theorem dL_law_301 : decode cL_law 301 = .ok (.aload_n 2, 1) := by decide +kernel
theorem dL_law_302 : decode cL_law 302 = .ok (.invokevirtual 136, 3) := by decide +kernel
theorem dL_law_305 : decode cL_law 305 = .ok (.iload 6, 2) := by decide +kernel
theorem dL_law_307 : decode cL_law 307 = .ok (.if_icmp .eq 5, 3) := by decide +kernel
theorem dL_law_310 : decode cL_law 310 = .ok (.iconst 0, 1) := by decide +kernel
theorem dL_law_311 : decode cL_law 311 = .ok (.ireturn, 1) := by decide +kernel
theorem dL_law_312 : decode cL_law 312 = .ok (.iload 6, 2) := by decide +kernel
theorem dL_law_314 : decode cL_law 314 = .ok (.ifCond .ne 14, 3) := by decide +kernel
theorem dL_law_317 : decode cL_law 317 = .ok (.aload_n 3, 1) := by decide +kernel
theorem dL_law_318 : decode cL_law 318 = .ok (.iconst 0, 1) := by decide +kernel
theorem dL_law_319 : decode cL_law 319 = .ok (.laload, 1) := by decide +kernel
theorem dL_law_320 : decode cL_law 320 = .ok (.lload 7, 2) := by decide +kernel
theorem dL_law_322 : decode cL_law 322 = .ok (.lcmp, 1) := by decide +kernel
theorem dL_law_323 : decode cL_law 323 = .ok (.ifCond .eq 5, 3) := by decide +kernel
theorem dL_law_326 : decode cL_law 326 = .ok (.iconst 0, 1) := by decide +kernel
theorem dL_law_327 : decode cL_law 327 = .ok (.ireturn, 1) := by decide +kernel
theorem dL_law_328 : decode cL_law 328 = .ok (.goto 2644, 3) := by decide +kernel
theorem dL_law_331 : decode cL_law 331 = .ok (.aload_n 1, 1) := by decide +kernel
theorem dL_law_332 : decode cL_law 332 = .ok (.aload_n 0, 1) := by decide +kernel
theorem dL_law_333 : decode cL_law 333 = .ok (.iload 5, 2) := by decide +kernel
theorem dL_law_335 : decode cL_law 335 = .ok (.iconst 1, 1) := by decide +kernel
theorem dL_law_336 : decode cL_law 336 = .ok (.iadd, 1) := by decide +kernel
theorem dL_law_337 : decode cL_law 337 = .ok (.iaload, 1) := by decide +kernel
theorem dL_law_338 : decode cL_law 338 = .ok (.aload_n 0, 1) := by decide +kernel
theorem dL_law_339 : decode cL_law 339 = .ok (.iload 5, 2) := by decide +kernel
theorem dL_law_341 : decode cL_law 341 = .ok (.iconst 2, 1) := by decide +kernel
theorem dL_law_342 : decode cL_law 342 = .ok (.iadd, 1) := by decide +kernel
theorem dL_law_343 : decode cL_law 343 = .ok (.iaload, 1) := by decide +kernel
theorem dL_law_344 : decode cL_law 344 = .ok (.aload_n 3, 1) := by decide +kernel
theorem dL_law_345 : decode cL_law 345 = .ok (.invokestatic 144, 3) := by decide +kernel
theorem dL_law_348 : decode cL_law 348 = .ok (.istore 6, 2) := by decide +kernel
theorem dL_law_350 : decode cL_law 350 = .ok (.aload_n 2, 1) := by decide +kernel
theorem dL_law_351 : decode cL_law 351 = .ok (.aload_n 0, 1) := by decide +kernel
theorem dL_law_352 : decode cL_law 352 = .ok (.iload 5, 2) := by decide +kernel
theorem dL_law_354 : decode cL_law 354 = .ok (.iconst 1, 1) := by decide +kernel
theorem dL_law_355 : decode cL_law 355 = .ok (.iadd, 1) := by decide +kernel
theorem dL_law_356 : decode cL_law 356 = .ok (.iaload, 1) := by decide +kernel
theorem dL_law_357 : decode cL_law 357 = .ok (.aload_n 0, 1) := by decide +kernel
theorem dL_law_358 : decode cL_law 358 = .ok (.iload 5, 2) := by decide +kernel
theorem dL_law_360 : decode cL_law 360 = .ok (.iconst 2, 1) := by decide +kernel
theorem dL_law_361 : decode cL_law 361 = .ok (.iadd, 1) := by decide +kernel
theorem dL_law_362 : decode cL_law 362 = .ok (.iaload, 1) := by decide +kernel
theorem dL_law_363 : decode cL_law 363 = .ok (.invokevirtual 146, 3) := by decide +kernel
theorem dL_law_366 : decode cL_law 366 = .ok (.istore 7, 2) := by decide +kernel
theorem dL_law_368 : decode cL_law 368 = .ok (.aload_n 2, 1) := by decide +kernel
theorem dL_law_369 : decode cL_law 369 = .ok (.invokevirtual 136, 3) := by decide +kernel
theorem dL_law_372 : decode cL_law 372 = .ok (.iload 6, 2) := by decide +kernel
theorem dL_law_374 : decode cL_law 374 = .ok (.if_icmp .eq 5, 3) := by decide +kernel
theorem dL_law_377 : decode cL_law 377 = .ok (.iconst 0, 1) := by decide +kernel
theorem dL_law_378 : decode cL_law 378 = .ok (.ireturn, 1) := by decide +kernel
theorem dL_law_379 : decode cL_law 379 = .ok (.iload 6, 2) := by decide +kernel
theorem dL_law_381 : decode cL_law 381 = .ok (.ifCond .ne 15, 3) := by decide +kernel
theorem dL_law_384 : decode cL_law 384 = .ok (.aload_n 3, 1) := by decide +kernel
theorem dL_law_385 : decode cL_law 385 = .ok (.iconst 0, 1) := by decide +kernel
theorem dL_law_386 : decode cL_law 386 = .ok (.laload, 1) := by decide +kernel
theorem dL_law_387 : decode cL_law 387 = .ok (.iload 7, 2) := by decide +kernel
theorem dL_law_389 : decode cL_law 389 = .ok (.i2l, 1) := by decide +kernel
theorem dL_law_390 : decode cL_law 390 = .ok (.lcmp, 1) := by decide +kernel
theorem dL_law_391 : decode cL_law 391 = .ok (.ifCond .eq 5, 3) := by decide +kernel
theorem dL_law_394 : decode cL_law 394 = .ok (.iconst 0, 1) := by decide +kernel
theorem dL_law_395 : decode cL_law 395 = .ok (.ireturn, 1) := by decide +kernel
theorem dL_law_396 : decode cL_law 396 = .ok (.goto 2576, 3) := by decide +kernel
theorem dL_law_399 : decode cL_law 399 = .ok (.aload_n 1, 1) := by decide +kernel
theorem dL_law_400 : decode cL_law 400 = .ok (.invokevirtual 147, 3) := by decide +kernel
theorem dL_law_403 : decode cL_law 403 = .ok (.aload_n 2, 1) := by decide +kernel
theorem dL_law_404 : decode cL_law 404 = .ok (.invokevirtual 151, 3) := by decide +kernel
theorem dL_law_407 : decode cL_law 407 = .ok (.lcmp, 1) := by decide +kernel
theorem dL_law_408 : decode cL_law 408 = .ok (.ifCond .eq 2564, 3) := by decide +kernel
theorem dL_law_411 : decode cL_law 411 = .ok (.iconst 0, 1) := by decide +kernel
theorem dL_law_412 : decode cL_law 412 = .ok (.ireturn, 1) := by decide +kernel
theorem dL_law_413 : decode cL_law 413 = .ok (.aload_n 1, 1) := by decide +kernel
theorem dL_law_414 : decode cL_law 414 = .ok (.invokevirtual 152, 3) := by decide +kernel
theorem dL_law_417 : decode cL_law 417 = .ok (.aload_n 2, 1) := by decide +kernel
theorem dL_law_418 : decode cL_law 418 = .ok (.invokevirtual 155, 3) := by decide +kernel
theorem dL_law_421 : decode cL_law 421 = .ok (.if_icmp .eq 2551, 3) := by decide +kernel
theorem dL_law_424 : decode cL_law 424 = .ok (.iconst 0, 1) := by decide +kernel
theorem dL_law_425 : decode cL_law 425 = .ok (.ireturn, 1) := by decide +kernel
theorem dL_law_426 : decode cL_law 426 = .ok (.aload_n 1, 1) := by decide +kernel
theorem dL_law_427 : decode cL_law 427 = .ok (.aload_n 0, 1) := by decide +kernel
theorem dL_law_428 : decode cL_law 428 = .ok (.iload 5, 2) := by decide +kernel
theorem dL_law_430 : decode cL_law 430 = .ok (.iconst 1, 1) := by decide +kernel
theorem dL_law_431 : decode cL_law 431 = .ok (.iadd, 1) := by decide +kernel
theorem dL_law_432 : decode cL_law 432 = .ok (.iaload, 1) := by decide +kernel
theorem dL_law_433 : decode cL_law 433 = .ok (.aload_n 0, 1) := by decide +kernel
theorem dL_law_434 : decode cL_law 434 = .ok (.iload 5, 2) := by decide +kernel
theorem dL_law_436 : decode cL_law 436 = .ok (.iconst 2, 1) := by decide +kernel
theorem dL_law_437 : decode cL_law 437 = .ok (.iadd, 1) := by decide +kernel
theorem dL_law_438 : decode cL_law 438 = .ok (.iaload, 1) := by decide +kernel
theorem dL_law_439 : decode cL_law 439 = .ok (.aload_n 3, 1) := by decide +kernel
theorem dL_law_440 : decode cL_law 440 = .ok (.invokestatic 156, 3) := by decide +kernel
theorem dL_law_443 : decode cL_law 443 = .ok (.istore 6, 2) := by decide +kernel
theorem dL_law_445 : decode cL_law 445 = .ok (.aload_n 2, 1) := by decide +kernel
theorem dL_law_446 : decode cL_law 446 = .ok (.aload_n 0, 1) := by decide +kernel
theorem dL_law_447 : decode cL_law 447 = .ok (.iload 5, 2) := by decide +kernel
theorem dL_law_449 : decode cL_law 449 = .ok (.iconst 1, 1) := by decide +kernel
theorem dL_law_450 : decode cL_law 450 = .ok (.iadd, 1) := by decide +kernel
theorem dL_law_451 : decode cL_law 451 = .ok (.iaload, 1) := by decide +kernel
theorem dL_law_452 : decode cL_law 452 = .ok (.aload_n 0, 1) := by decide +kernel
theorem dL_law_453 : decode cL_law 453 = .ok (.iload 5, 2) := by decide +kernel
theorem dL_law_455 : decode cL_law 455 = .ok (.iconst 2, 1) := by decide +kernel
theorem dL_law_456 : decode cL_law 456 = .ok (.iadd, 1) := by decide +kernel
theorem dL_law_457 : decode cL_law 457 = .ok (.iaload, 1) := by decide +kernel
theorem dL_law_458 : decode cL_law 458 = .ok (.invokevirtual 158, 3) := by decide +kernel
theorem dL_law_461 : decode cL_law 461 = .ok (.istore 7, 2) := by decide +kernel
theorem dL_law_463 : decode cL_law 463 = .ok (.aload_n 2, 1) := by decide +kernel
theorem dL_law_464 : decode cL_law 464 = .ok (.invokevirtual 136, 3) := by decide +kernel
theorem dL_law_467 : decode cL_law 467 = .ok (.iload 6, 2) := by decide +kernel
theorem dL_law_469 : decode cL_law 469 = .ok (.if_icmp .eq 5, 3) := by decide +kernel
theorem dL_law_472 : decode cL_law 472 = .ok (.iconst 0, 1) := by decide +kernel
theorem dL_law_473 : decode cL_law 473 = .ok (.ireturn, 1) := by decide +kernel
theorem dL_law_474 : decode cL_law 474 = .ok (.iload 6, 2) := by decide +kernel
theorem dL_law_476 : decode cL_law 476 = .ok (.ifCond .ne 15, 3) := by decide +kernel
theorem dL_law_479 : decode cL_law 479 = .ok (.aload_n 3, 1) := by decide +kernel
theorem dL_law_480 : decode cL_law 480 = .ok (.iconst 0, 1) := by decide +kernel
theorem dL_law_481 : decode cL_law 481 = .ok (.laload, 1) := by decide +kernel
theorem dL_law_482 : decode cL_law 482 = .ok (.iload 7, 2) := by decide +kernel
theorem dL_law_484 : decode cL_law 484 = .ok (.i2l, 1) := by decide +kernel
theorem dL_law_485 : decode cL_law 485 = .ok (.lcmp, 1) := by decide +kernel
theorem dL_law_486 : decode cL_law 486 = .ok (.ifCond .eq 5, 3) := by decide +kernel
theorem dL_law_489 : decode cL_law 489 = .ok (.iconst 0, 1) := by decide +kernel
theorem dL_law_490 : decode cL_law 490 = .ok (.ireturn, 1) := by decide +kernel
theorem dL_law_491 : decode cL_law 491 = .ok (.goto 2481, 3) := by decide +kernel
theorem dL_law_494 : decode cL_law 494 = .ok (.aload_n 1, 1) := by decide +kernel
theorem dL_law_495 : decode cL_law 495 = .ok (.aload_n 0, 1) := by decide +kernel
theorem dL_law_496 : decode cL_law 496 = .ok (.iload 5, 2) := by decide +kernel
theorem dL_law_498 : decode cL_law 498 = .ok (.iconst 1, 1) := by decide +kernel
theorem dL_law_499 : decode cL_law 499 = .ok (.iadd, 1) := by decide +kernel
theorem dL_law_500 : decode cL_law 500 = .ok (.iaload, 1) := by decide +kernel
theorem dL_law_501 : decode cL_law 501 = .ok (.aload_n 3, 1) := by decide +kernel
theorem dL_law_502 : decode cL_law 502 = .ok (.invokestatic 159, 3) := by decide +kernel
theorem dL_law_505 : decode cL_law 505 = .ok (.istore 6, 2) := by decide +kernel
theorem dL_law_507 : decode cL_law 507 = .ok (.aload_n 2, 1) := by decide +kernel
theorem dL_law_508 : decode cL_law 508 = .ok (.aload_n 0, 1) := by decide +kernel
theorem dL_law_509 : decode cL_law 509 = .ok (.iload 5, 2) := by decide +kernel
theorem dL_law_511 : decode cL_law 511 = .ok (.iconst 1, 1) := by decide +kernel
theorem dL_law_512 : decode cL_law 512 = .ok (.iadd, 1) := by decide +kernel
theorem dL_law_513 : decode cL_law 513 = .ok (.iaload, 1) := by decide +kernel
theorem dL_law_514 : decode cL_law 514 = .ok (.invokevirtual 161, 3) := by decide +kernel
theorem dL_law_517 : decode cL_law 517 = .ok (.istore 7, 2) := by decide +kernel
theorem dL_law_519 : decode cL_law 519 = .ok (.aload_n 2, 1) := by decide +kernel
theorem dL_law_520 : decode cL_law 520 = .ok (.invokevirtual 136, 3) := by decide +kernel
theorem dL_law_523 : decode cL_law 523 = .ok (.iload 6, 2) := by decide +kernel
theorem dL_law_525 : decode cL_law 525 = .ok (.if_icmp .eq 5, 3) := by decide +kernel
theorem dL_law_528 : decode cL_law 528 = .ok (.iconst 0, 1) := by decide +kernel
theorem dL_law_529 : decode cL_law 529 = .ok (.ireturn, 1) := by decide +kernel
theorem dL_law_530 : decode cL_law 530 = .ok (.iload 6, 2) := by decide +kernel
theorem dL_law_532 : decode cL_law 532 = .ok (.ifCond .ne 15, 3) := by decide +kernel
theorem dL_law_535 : decode cL_law 535 = .ok (.aload_n 3, 1) := by decide +kernel
theorem dL_law_536 : decode cL_law 536 = .ok (.iconst 0, 1) := by decide +kernel
theorem dL_law_537 : decode cL_law 537 = .ok (.laload, 1) := by decide +kernel
theorem dL_law_538 : decode cL_law 538 = .ok (.iload 7, 2) := by decide +kernel
theorem dL_law_540 : decode cL_law 540 = .ok (.i2l, 1) := by decide +kernel
theorem dL_law_541 : decode cL_law 541 = .ok (.lcmp, 1) := by decide +kernel
theorem dL_law_542 : decode cL_law 542 = .ok (.ifCond .eq 5, 3) := by decide +kernel
theorem dL_law_545 : decode cL_law 545 = .ok (.iconst 0, 1) := by decide +kernel
theorem dL_law_546 : decode cL_law 546 = .ok (.ireturn, 1) := by decide +kernel
theorem dL_law_547 : decode cL_law 547 = .ok (.goto 2425, 3) := by decide +kernel
theorem dL_law_550 : decode cL_law 550 = .ok (.aload_n 1, 1) := by decide +kernel
theorem dL_law_551 : decode cL_law 551 = .ok (.aload_n 0, 1) := by decide +kernel
theorem dL_law_552 : decode cL_law 552 = .ok (.iload 5, 2) := by decide +kernel
theorem dL_law_554 : decode cL_law 554 = .ok (.iconst 1, 1) := by decide +kernel
theorem dL_law_555 : decode cL_law 555 = .ok (.iadd, 1) := by decide +kernel
theorem dL_law_556 : decode cL_law 556 = .ok (.iaload, 1) := by decide +kernel
theorem dL_law_557 : decode cL_law 557 = .ok (.aload_n 3, 1) := by decide +kernel
theorem dL_law_558 : decode cL_law 558 = .ok (.invokestatic 162, 3) := by decide +kernel
theorem dL_law_561 : decode cL_law 561 = .ok (.istore 6, 2) := by decide +kernel
theorem dL_law_563 : decode cL_law 563 = .ok (.aload_n 2, 1) := by decide +kernel
theorem dL_law_564 : decode cL_law 564 = .ok (.aload_n 0, 1) := by decide +kernel
theorem dL_law_565 : decode cL_law 565 = .ok (.iload 5, 2) := by decide +kernel
theorem dL_law_567 : decode cL_law 567 = .ok (.iconst 1, 1) := by decide +kernel
theorem dL_law_568 : decode cL_law 568 = .ok (.iadd, 1) := by decide +kernel
theorem dL_law_569 : decode cL_law 569 = .ok (.iaload, 1) := by decide +kernel
theorem dL_law_570 : decode cL_law 570 = .ok (.invokevirtual 164, 3) := by decide +kernel
theorem dL_law_573 : decode cL_law 573 = .ok (.istore 7, 2) := by decide +kernel
theorem dL_law_575 : decode cL_law 575 = .ok (.aload_n 2, 1) := by decide +kernel
theorem dL_law_576 : decode cL_law 576 = .ok (.invokevirtual 136, 3) := by decide +kernel
theorem dL_law_579 : decode cL_law 579 = .ok (.iload 6, 2) := by decide +kernel
theorem dL_law_581 : decode cL_law 581 = .ok (.if_icmp .eq 5, 3) := by decide +kernel
theorem dL_law_584 : decode cL_law 584 = .ok (.iconst 0, 1) := by decide +kernel
theorem dL_law_585 : decode cL_law 585 = .ok (.ireturn, 1) := by decide +kernel
theorem dL_law_586 : decode cL_law 586 = .ok (.iload 6, 2) := by decide +kernel
theorem dL_law_588 : decode cL_law 588 = .ok (.ifCond .ne 15, 3) := by decide +kernel
theorem dL_law_591 : decode cL_law 591 = .ok (.aload_n 3, 1) := by decide +kernel
theorem dL_law_592 : decode cL_law 592 = .ok (.iconst 0, 1) := by decide +kernel
theorem dL_law_593 : decode cL_law 593 = .ok (.laload, 1) := by decide +kernel
theorem dL_law_594 : decode cL_law 594 = .ok (.iload 7, 2) := by decide +kernel
theorem dL_law_596 : decode cL_law 596 = .ok (.i2l, 1) := by decide +kernel
theorem dL_law_597 : decode cL_law 597 = .ok (.lcmp, 1) := by decide +kernel
theorem dL_law_598 : decode cL_law 598 = .ok (.ifCond .eq 5, 3) := by decide +kernel
theorem dL_law_601 : decode cL_law 601 = .ok (.iconst 0, 1) := by decide +kernel
theorem dL_law_602 : decode cL_law 602 = .ok (.ireturn, 1) := by decide +kernel
theorem dL_law_603 : decode cL_law 603 = .ok (.goto 2369, 3) := by decide +kernel
theorem dL_law_606 : decode cL_law 606 = .ok (.aload_n 1, 1) := by decide +kernel
theorem dL_law_607 : decode cL_law 607 = .ok (.aload_n 0, 1) := by decide +kernel
theorem dL_law_608 : decode cL_law 608 = .ok (.iload 5, 2) := by decide +kernel
theorem dL_law_610 : decode cL_law 610 = .ok (.iconst 1, 1) := by decide +kernel
theorem dL_law_611 : decode cL_law 611 = .ok (.iadd, 1) := by decide +kernel
theorem dL_law_612 : decode cL_law 612 = .ok (.iaload, 1) := by decide +kernel
theorem dL_law_613 : decode cL_law 613 = .ok (.aload_n 3, 1) := by decide +kernel
theorem dL_law_614 : decode cL_law 614 = .ok (.invokestatic 165, 3) := by decide +kernel
theorem dL_law_617 : decode cL_law 617 = .ok (.istore 6, 2) := by decide +kernel
theorem dL_law_619 : decode cL_law 619 = .ok (.aload_n 2, 1) := by decide +kernel
theorem dL_law_620 : decode cL_law 620 = .ok (.aload_n 0, 1) := by decide +kernel
theorem dL_law_621 : decode cL_law 621 = .ok (.iload 5, 2) := by decide +kernel
theorem dL_law_623 : decode cL_law 623 = .ok (.iconst 1, 1) := by decide +kernel
theorem dL_law_624 : decode cL_law 624 = .ok (.iadd, 1) := by decide +kernel
theorem dL_law_625 : decode cL_law 625 = .ok (.iaload, 1) := by decide +kernel
theorem dL_law_626 : decode cL_law 626 = .ok (.invokevirtual 167, 3) := by decide +kernel
theorem dL_law_629 : decode cL_law 629 = .ok (.istore 7, 2) := by decide +kernel
theorem dL_law_631 : decode cL_law 631 = .ok (.aload_n 2, 1) := by decide +kernel
theorem dL_law_632 : decode cL_law 632 = .ok (.invokevirtual 136, 3) := by decide +kernel
theorem dL_law_635 : decode cL_law 635 = .ok (.iload 6, 2) := by decide +kernel
theorem dL_law_637 : decode cL_law 637 = .ok (.if_icmp .eq 5, 3) := by decide +kernel
theorem dL_law_640 : decode cL_law 640 = .ok (.iconst 0, 1) := by decide +kernel
theorem dL_law_641 : decode cL_law 641 = .ok (.ireturn, 1) := by decide +kernel
theorem dL_law_642 : decode cL_law 642 = .ok (.iload 6, 2) := by decide +kernel
theorem dL_law_644 : decode cL_law 644 = .ok (.ifCond .ne 15, 3) := by decide +kernel
theorem dL_law_647 : decode cL_law 647 = .ok (.aload_n 3, 1) := by decide +kernel
theorem dL_law_648 : decode cL_law 648 = .ok (.iconst 0, 1) := by decide +kernel
theorem dL_law_649 : decode cL_law 649 = .ok (.laload, 1) := by decide +kernel
theorem dL_law_650 : decode cL_law 650 = .ok (.iload 7, 2) := by decide +kernel
theorem dL_law_652 : decode cL_law 652 = .ok (.i2l, 1) := by decide +kernel
theorem dL_law_653 : decode cL_law 653 = .ok (.lcmp, 1) := by decide +kernel
theorem dL_law_654 : decode cL_law 654 = .ok (.ifCond .eq 5, 3) := by decide +kernel
theorem dL_law_657 : decode cL_law 657 = .ok (.iconst 0, 1) := by decide +kernel
theorem dL_law_658 : decode cL_law 658 = .ok (.ireturn, 1) := by decide +kernel
theorem dL_law_659 : decode cL_law 659 = .ok (.goto 2313, 3) := by decide +kernel
theorem dL_law_662 : decode cL_law 662 = .ok (.aload_n 1, 1) := by decide +kernel
theorem dL_law_663 : decode cL_law 663 = .ok (.aload_n 0, 1) := by decide +kernel
theorem dL_law_664 : decode cL_law 664 = .ok (.iload 5, 2) := by decide +kernel
theorem dL_law_666 : decode cL_law 666 = .ok (.iconst 1, 1) := by decide +kernel
theorem dL_law_667 : decode cL_law 667 = .ok (.iadd, 1) := by decide +kernel
theorem dL_law_668 : decode cL_law 668 = .ok (.iaload, 1) := by decide +kernel
theorem dL_law_669 : decode cL_law 669 = .ok (.aload_n 3, 1) := by decide +kernel
theorem dL_law_670 : decode cL_law 670 = .ok (.invokestatic 168, 3) := by decide +kernel
theorem dL_law_673 : decode cL_law 673 = .ok (.istore 6, 2) := by decide +kernel
theorem dL_law_675 : decode cL_law 675 = .ok (.aload_n 2, 1) := by decide +kernel
theorem dL_law_676 : decode cL_law 676 = .ok (.aload_n 0, 1) := by decide +kernel
theorem dL_law_677 : decode cL_law 677 = .ok (.iload 5, 2) := by decide +kernel
theorem dL_law_679 : decode cL_law 679 = .ok (.iconst 1, 1) := by decide +kernel
theorem dL_law_680 : decode cL_law 680 = .ok (.iadd, 1) := by decide +kernel
theorem dL_law_681 : decode cL_law 681 = .ok (.iaload, 1) := by decide +kernel
theorem dL_law_682 : decode cL_law 682 = .ok (.invokevirtual 170, 3) := by decide +kernel
theorem dL_law_685 : decode cL_law 685 = .ok (.istore 7, 2) := by decide +kernel
theorem dL_law_687 : decode cL_law 687 = .ok (.aload_n 2, 1) := by decide +kernel
theorem dL_law_688 : decode cL_law 688 = .ok (.invokevirtual 136, 3) := by decide +kernel
theorem dL_law_691 : decode cL_law 691 = .ok (.iload 6, 2) := by decide +kernel
theorem dL_law_693 : decode cL_law 693 = .ok (.if_icmp .eq 5, 3) := by decide +kernel
theorem dL_law_696 : decode cL_law 696 = .ok (.iconst 0, 1) := by decide +kernel
theorem dL_law_697 : decode cL_law 697 = .ok (.ireturn, 1) := by decide +kernel
theorem dL_law_698 : decode cL_law 698 = .ok (.iload 6, 2) := by decide +kernel
theorem dL_law_700 : decode cL_law 700 = .ok (.ifCond .ne 15, 3) := by decide +kernel
theorem dL_law_703 : decode cL_law 703 = .ok (.aload_n 3, 1) := by decide +kernel
theorem dL_law_704 : decode cL_law 704 = .ok (.iconst 0, 1) := by decide +kernel
theorem dL_law_705 : decode cL_law 705 = .ok (.laload, 1) := by decide +kernel
theorem dL_law_706 : decode cL_law 706 = .ok (.iload 7, 2) := by decide +kernel
theorem dL_law_708 : decode cL_law 708 = .ok (.i2l, 1) := by decide +kernel
theorem dL_law_709 : decode cL_law 709 = .ok (.lcmp, 1) := by decide +kernel
theorem dL_law_710 : decode cL_law 710 = .ok (.ifCond .eq 5, 3) := by decide +kernel
theorem dL_law_713 : decode cL_law 713 = .ok (.iconst 0, 1) := by decide +kernel
theorem dL_law_714 : decode cL_law 714 = .ok (.ireturn, 1) := by decide +kernel
theorem dL_law_715 : decode cL_law 715 = .ok (.goto 2257, 3) := by decide +kernel
theorem dL_law_718 : decode cL_law 718 = .ok (.aload_n 1, 1) := by decide +kernel
theorem dL_law_719 : decode cL_law 719 = .ok (.aload_n 0, 1) := by decide +kernel
theorem dL_law_720 : decode cL_law 720 = .ok (.iload 5, 2) := by decide +kernel
theorem dL_law_722 : decode cL_law 722 = .ok (.iconst 1, 1) := by decide +kernel
theorem dL_law_723 : decode cL_law 723 = .ok (.iadd, 1) := by decide +kernel
theorem dL_law_724 : decode cL_law 724 = .ok (.iaload, 1) := by decide +kernel
theorem dL_law_725 : decode cL_law 725 = .ok (.aload_n 3, 1) := by decide +kernel
theorem dL_law_726 : decode cL_law 726 = .ok (.invokestatic 171, 3) := by decide +kernel
theorem dL_law_729 : decode cL_law 729 = .ok (.istore 6, 2) := by decide +kernel
theorem dL_law_731 : decode cL_law 731 = .ok (.aload_n 2, 1) := by decide +kernel
theorem dL_law_732 : decode cL_law 732 = .ok (.aload_n 0, 1) := by decide +kernel
theorem dL_law_733 : decode cL_law 733 = .ok (.iload 5, 2) := by decide +kernel
theorem dL_law_735 : decode cL_law 735 = .ok (.iconst 1, 1) := by decide +kernel
theorem dL_law_736 : decode cL_law 736 = .ok (.iadd, 1) := by decide +kernel
theorem dL_law_737 : decode cL_law 737 = .ok (.iaload, 1) := by decide +kernel
theorem dL_law_738 : decode cL_law 738 = .ok (.invokevirtual 173, 3) := by decide +kernel
theorem dL_law_741 : decode cL_law 741 = .ok (.istore 7, 2) := by decide +kernel
theorem dL_law_743 : decode cL_law 743 = .ok (.aload_n 2, 1) := by decide +kernel
theorem dL_law_744 : decode cL_law 744 = .ok (.invokevirtual 136, 3) := by decide +kernel
theorem dL_law_747 : decode cL_law 747 = .ok (.iload 6, 2) := by decide +kernel
theorem dL_law_749 : decode cL_law 749 = .ok (.if_icmp .eq 5, 3) := by decide +kernel
theorem dL_law_752 : decode cL_law 752 = .ok (.iconst 0, 1) := by decide +kernel
theorem dL_law_753 : decode cL_law 753 = .ok (.ireturn, 1) := by decide +kernel
theorem dL_law_754 : decode cL_law 754 = .ok (.iload 6, 2) := by decide +kernel
theorem dL_law_756 : decode cL_law 756 = .ok (.ifCond .ne 15, 3) := by decide +kernel
theorem dL_law_759 : decode cL_law 759 = .ok (.aload_n 3, 1) := by decide +kernel
theorem dL_law_760 : decode cL_law 760 = .ok (.iconst 0, 1) := by decide +kernel
theorem dL_law_761 : decode cL_law 761 = .ok (.laload, 1) := by decide +kernel
theorem dL_law_762 : decode cL_law 762 = .ok (.iload 7, 2) := by decide +kernel
theorem dL_law_764 : decode cL_law 764 = .ok (.i2l, 1) := by decide +kernel
theorem dL_law_765 : decode cL_law 765 = .ok (.lcmp, 1) := by decide +kernel
theorem dL_law_766 : decode cL_law 766 = .ok (.ifCond .eq 5, 3) := by decide +kernel
theorem dL_law_769 : decode cL_law 769 = .ok (.iconst 0, 1) := by decide +kernel
theorem dL_law_770 : decode cL_law 770 = .ok (.ireturn, 1) := by decide +kernel
theorem dL_law_771 : decode cL_law 771 = .ok (.goto 2201, 3) := by decide +kernel
theorem dL_law_774 : decode cL_law 774 = .ok (.aload_n 1, 1) := by decide +kernel
theorem dL_law_775 : decode cL_law 775 = .ok (.aload_n 0, 1) := by decide +kernel
theorem dL_law_776 : decode cL_law 776 = .ok (.iload 5, 2) := by decide +kernel
theorem dL_law_778 : decode cL_law 778 = .ok (.iconst 1, 1) := by decide +kernel
theorem dL_law_779 : decode cL_law 779 = .ok (.iadd, 1) := by decide +kernel
theorem dL_law_780 : decode cL_law 780 = .ok (.iaload, 1) := by decide +kernel
theorem dL_law_781 : decode cL_law 781 = .ok (.aload_n 0, 1) := by decide +kernel
theorem dL_law_782 : decode cL_law 782 = .ok (.iload 5, 2) := by decide +kernel
theorem dL_law_784 : decode cL_law 784 = .ok (.iconst 2, 1) := by decide +kernel
theorem dL_law_785 : decode cL_law 785 = .ok (.iadd, 1) := by decide +kernel
theorem dL_law_786 : decode cL_law 786 = .ok (.iaload, 1) := by decide +kernel
theorem dL_law_787 : decode cL_law 787 = .ok (.aload_n 3, 1) := by decide +kernel
theorem dL_law_788 : decode cL_law 788 = .ok (.invokestatic 174, 3) := by decide +kernel
theorem dL_law_791 : decode cL_law 791 = .ok (.istore 6, 2) := by decide +kernel
theorem dL_law_793 : decode cL_law 793 = .ok (.aload_n 2, 1) := by decide +kernel
theorem dL_law_794 : decode cL_law 794 = .ok (.aload_n 0, 1) := by decide +kernel
theorem dL_law_795 : decode cL_law 795 = .ok (.iload 5, 2) := by decide +kernel
theorem dL_law_797 : decode cL_law 797 = .ok (.iconst 1, 1) := by decide +kernel
theorem dL_law_798 : decode cL_law 798 = .ok (.iadd, 1) := by decide +kernel
theorem dL_law_799 : decode cL_law 799 = .ok (.iaload, 1) := by decide +kernel
theorem dL_law_800 : decode cL_law 800 = .ok (.aload_n 0, 1) := by decide +kernel
theorem dL_law_801 : decode cL_law 801 = .ok (.iload 5, 2) := by decide +kernel
theorem dL_law_803 : decode cL_law 803 = .ok (.iconst 2, 1) := by decide +kernel
theorem dL_law_804 : decode cL_law 804 = .ok (.iadd, 1) := by decide +kernel
theorem dL_law_805 : decode cL_law 805 = .ok (.iaload, 1) := by decide +kernel
theorem dL_law_806 : decode cL_law 806 = .ok (.invokevirtual 176, 3) := by decide +kernel
theorem dL_law_809 : decode cL_law 809 = .ok (.istore 7, 2) := by decide +kernel
theorem dL_law_811 : decode cL_law 811 = .ok (.aload_n 2, 1) := by decide +kernel
theorem dL_law_812 : decode cL_law 812 = .ok (.invokevirtual 136, 3) := by decide +kernel
theorem dL_law_815 : decode cL_law 815 = .ok (.iload 6, 2) := by decide +kernel
theorem dL_law_817 : decode cL_law 817 = .ok (.if_icmp .eq 5, 3) := by decide +kernel
theorem dL_law_820 : decode cL_law 820 = .ok (.iconst 0, 1) := by decide +kernel
theorem dL_law_821 : decode cL_law 821 = .ok (.ireturn, 1) := by decide +kernel
theorem dL_law_822 : decode cL_law 822 = .ok (.iload 6, 2) := by decide +kernel
theorem dL_law_824 : decode cL_law 824 = .ok (.ifCond .ne 15, 3) := by decide +kernel
theorem dL_law_827 : decode cL_law 827 = .ok (.aload_n 3, 1) := by decide +kernel
theorem dL_law_828 : decode cL_law 828 = .ok (.iconst 0, 1) := by decide +kernel
theorem dL_law_829 : decode cL_law 829 = .ok (.laload, 1) := by decide +kernel
theorem dL_law_830 : decode cL_law 830 = .ok (.iload 7, 2) := by decide +kernel
theorem dL_law_832 : decode cL_law 832 = .ok (.i2l, 1) := by decide +kernel
theorem dL_law_833 : decode cL_law 833 = .ok (.lcmp, 1) := by decide +kernel
theorem dL_law_834 : decode cL_law 834 = .ok (.ifCond .eq 5, 3) := by decide +kernel
theorem dL_law_837 : decode cL_law 837 = .ok (.iconst 0, 1) := by decide +kernel
theorem dL_law_838 : decode cL_law 838 = .ok (.ireturn, 1) := by decide +kernel
theorem dL_law_839 : decode cL_law 839 = .ok (.goto 2133, 3) := by decide +kernel
theorem dL_law_842 : decode cL_law 842 = .ok (.aload_n 1, 1) := by decide +kernel
theorem dL_law_843 : decode cL_law 843 = .ok (.aload_n 0, 1) := by decide +kernel
theorem dL_law_844 : decode cL_law 844 = .ok (.iload 5, 2) := by decide +kernel
theorem dL_law_846 : decode cL_law 846 = .ok (.iconst 1, 1) := by decide +kernel
theorem dL_law_847 : decode cL_law 847 = .ok (.iadd, 1) := by decide +kernel
theorem dL_law_848 : decode cL_law 848 = .ok (.iaload, 1) := by decide +kernel
theorem dL_law_849 : decode cL_law 849 = .ok (.aload_n 0, 1) := by decide +kernel
theorem dL_law_850 : decode cL_law 850 = .ok (.iload 5, 2) := by decide +kernel
theorem dL_law_852 : decode cL_law 852 = .ok (.iconst 2, 1) := by decide +kernel
theorem dL_law_853 : decode cL_law 853 = .ok (.iadd, 1) := by decide +kernel
theorem dL_law_854 : decode cL_law 854 = .ok (.iaload, 1) := by decide +kernel
theorem dL_law_855 : decode cL_law 855 = .ok (.aload_n 3, 1) := by decide +kernel
theorem dL_law_856 : decode cL_law 856 = .ok (.invokestatic 177, 3) := by decide +kernel
theorem dL_law_859 : decode cL_law 859 = .ok (.istore 6, 2) := by decide +kernel
theorem dL_law_861 : decode cL_law 861 = .ok (.aload_n 2, 1) := by decide +kernel
theorem dL_law_862 : decode cL_law 862 = .ok (.aload_n 0, 1) := by decide +kernel
theorem dL_law_863 : decode cL_law 863 = .ok (.iload 5, 2) := by decide +kernel
theorem dL_law_865 : decode cL_law 865 = .ok (.iconst 1, 1) := by decide +kernel
theorem dL_law_866 : decode cL_law 866 = .ok (.iadd, 1) := by decide +kernel
theorem dL_law_867 : decode cL_law 867 = .ok (.iaload, 1) := by decide +kernel
theorem dL_law_868 : decode cL_law 868 = .ok (.aload_n 0, 1) := by decide +kernel
theorem dL_law_869 : decode cL_law 869 = .ok (.iload 5, 2) := by decide +kernel
theorem dL_law_871 : decode cL_law 871 = .ok (.iconst 2, 1) := by decide +kernel
theorem dL_law_872 : decode cL_law 872 = .ok (.iadd, 1) := by decide +kernel
theorem dL_law_873 : decode cL_law 873 = .ok (.iaload, 1) := by decide +kernel
theorem dL_law_874 : decode cL_law 874 = .ok (.invokevirtual 179, 3) := by decide +kernel
theorem dL_law_877 : decode cL_law 877 = .ok (.lstore 7, 2) := by decide +kernel
theorem dL_law_879 : decode cL_law 879 = .ok (.aload_n 2, 1) := by decide +kernel
theorem dL_law_880 : decode cL_law 880 = .ok (.invokevirtual 136, 3) := by decide +kernel
theorem dL_law_883 : decode cL_law 883 = .ok (.iload 6, 2) := by decide +kernel
theorem dL_law_885 : decode cL_law 885 = .ok (.if_icmp .eq 5, 3) := by decide +kernel
theorem dL_law_888 : decode cL_law 888 = .ok (.iconst 0, 1) := by decide +kernel
theorem dL_law_889 : decode cL_law 889 = .ok (.ireturn, 1) := by decide +kernel
theorem dL_law_890 : decode cL_law 890 = .ok (.iload 6, 2) := by decide +kernel
theorem dL_law_892 : decode cL_law 892 = .ok (.ifCond .ne 14, 3) := by decide +kernel
theorem dL_law_895 : decode cL_law 895 = .ok (.aload_n 3, 1) := by decide +kernel
theorem dL_law_896 : decode cL_law 896 = .ok (.iconst 0, 1) := by decide +kernel
theorem dL_law_897 : decode cL_law 897 = .ok (.laload, 1) := by decide +kernel
theorem dL_law_898 : decode cL_law 898 = .ok (.lload 7, 2) := by decide +kernel
theorem dL_law_900 : decode cL_law 900 = .ok (.lcmp, 1) := by decide +kernel
theorem dL_law_901 : decode cL_law 901 = .ok (.ifCond .eq 5, 3) := by decide +kernel
theorem dL_law_904 : decode cL_law 904 = .ok (.iconst 0, 1) := by decide +kernel
theorem dL_law_905 : decode cL_law 905 = .ok (.ireturn, 1) := by decide +kernel
theorem dL_law_906 : decode cL_law 906 = .ok (.goto 2066, 3) := by decide +kernel
theorem dL_law_909 : decode cL_law 909 = .ok (.aload_n 1, 1) := by decide +kernel
theorem dL_law_910 : decode cL_law 910 = .ok (.aload_n 0, 1) := by decide +kernel
theorem dL_law_911 : decode cL_law 911 = .ok (.iload 5, 2) := by decide +kernel
theorem dL_law_913 : decode cL_law 913 = .ok (.iconst 1, 1) := by decide +kernel
theorem dL_law_914 : decode cL_law 914 = .ok (.iadd, 1) := by decide +kernel
theorem dL_law_915 : decode cL_law 915 = .ok (.iaload, 1) := by decide +kernel
theorem dL_law_916 : decode cL_law 916 = .ok (.aload_n 0, 1) := by decide +kernel
theorem dL_law_917 : decode cL_law 917 = .ok (.iload 5, 2) := by decide +kernel
theorem dL_law_919 : decode cL_law 919 = .ok (.iconst 2, 1) := by decide +kernel
theorem dL_law_920 : decode cL_law 920 = .ok (.iadd, 1) := by decide +kernel
theorem dL_law_921 : decode cL_law 921 = .ok (.iaload, 1) := by decide +kernel
theorem dL_law_922 : decode cL_law 922 = .ok (.aload_n 3, 1) := by decide +kernel
theorem dL_law_923 : decode cL_law 923 = .ok (.invokestatic 180, 3) := by decide +kernel
theorem dL_law_926 : decode cL_law 926 = .ok (.istore 6, 2) := by decide +kernel
theorem dL_law_928 : decode cL_law 928 = .ok (.aload_n 2, 1) := by decide +kernel
theorem dL_law_929 : decode cL_law 929 = .ok (.aload_n 0, 1) := by decide +kernel
theorem dL_law_930 : decode cL_law 930 = .ok (.iload 5, 2) := by decide +kernel
theorem dL_law_932 : decode cL_law 932 = .ok (.iconst 1, 1) := by decide +kernel
theorem dL_law_933 : decode cL_law 933 = .ok (.iadd, 1) := by decide +kernel
theorem dL_law_934 : decode cL_law 934 = .ok (.iaload, 1) := by decide +kernel
theorem dL_law_935 : decode cL_law 935 = .ok (.aload_n 0, 1) := by decide +kernel
theorem dL_law_936 : decode cL_law 936 = .ok (.iload 5, 2) := by decide +kernel
theorem dL_law_938 : decode cL_law 938 = .ok (.iconst 2, 1) := by decide +kernel
theorem dL_law_939 : decode cL_law 939 = .ok (.iadd, 1) := by decide +kernel
theorem dL_law_940 : decode cL_law 940 = .ok (.iaload, 1) := by decide +kernel
theorem dL_law_941 : decode cL_law 941 = .ok (.invokevirtual 182, 3) := by decide +kernel
theorem dL_law_944 : decode cL_law 944 = .ok (.istore 7, 2) := by decide +kernel
theorem dL_law_946 : decode cL_law 946 = .ok (.aload_n 2, 1) := by decide +kernel
theorem dL_law_947 : decode cL_law 947 = .ok (.invokevirtual 136, 3) := by decide +kernel
theorem dL_law_950 : decode cL_law 950 = .ok (.iload 6, 2) := by decide +kernel
theorem dL_law_952 : decode cL_law 952 = .ok (.if_icmp .eq 5, 3) := by decide +kernel
theorem dL_law_955 : decode cL_law 955 = .ok (.iconst 0, 1) := by decide +kernel
theorem dL_law_956 : decode cL_law 956 = .ok (.ireturn, 1) := by decide +kernel
theorem dL_law_957 : decode cL_law 957 = .ok (.iload 6, 2) := by decide +kernel
theorem dL_law_959 : decode cL_law 959 = .ok (.ifCond .ne 15, 3) := by decide +kernel
theorem dL_law_962 : decode cL_law 962 = .ok (.aload_n 3, 1) := by decide +kernel
theorem dL_law_963 : decode cL_law 963 = .ok (.iconst 0, 1) := by decide +kernel
theorem dL_law_964 : decode cL_law 964 = .ok (.laload, 1) := by decide +kernel
theorem dL_law_965 : decode cL_law 965 = .ok (.iload 7, 2) := by decide +kernel
theorem dL_law_967 : decode cL_law 967 = .ok (.i2l, 1) := by decide +kernel
theorem dL_law_968 : decode cL_law 968 = .ok (.lcmp, 1) := by decide +kernel
theorem dL_law_969 : decode cL_law 969 = .ok (.ifCond .eq 5, 3) := by decide +kernel
theorem dL_law_972 : decode cL_law 972 = .ok (.iconst 0, 1) := by decide +kernel
theorem dL_law_973 : decode cL_law 973 = .ok (.ireturn, 1) := by decide +kernel
theorem dL_law_974 : decode cL_law 974 = .ok (.goto 1998, 3) := by decide +kernel
theorem dL_law_977 : decode cL_law 977 = .ok (.aload_n 1, 1) := by decide +kernel
theorem dL_law_978 : decode cL_law 978 = .ok (.invokevirtual 183, 3) := by decide +kernel
theorem dL_law_981 : decode cL_law 981 = .ok (.aload_n 2, 1) := by decide +kernel
theorem dL_law_982 : decode cL_law 982 = .ok (.invokevirtual 186, 3) := by decide +kernel
theorem dL_law_985 : decode cL_law 985 = .ok (.lcmp, 1) := by decide +kernel
theorem dL_law_986 : decode cL_law 986 = .ok (.ifCond .eq 1986, 3) := by decide +kernel
theorem dL_law_989 : decode cL_law 989 = .ok (.iconst 0, 1) := by decide +kernel
theorem dL_law_990 : decode cL_law 990 = .ok (.ireturn, 1) := by decide +kernel
theorem dL_law_991 : decode cL_law 991 = .ok (.aload_n 1, 1) := by decide +kernel
theorem dL_law_992 : decode cL_law 992 = .ok (.aload_n 0, 1) := by decide +kernel
theorem dL_law_993 : decode cL_law 993 = .ok (.iload 5, 2) := by decide +kernel
theorem dL_law_995 : decode cL_law 995 = .ok (.iconst 1, 1) := by decide +kernel
theorem dL_law_996 : decode cL_law 996 = .ok (.iadd, 1) := by decide +kernel
theorem dL_law_997 : decode cL_law 997 = .ok (.iaload, 1) := by decide +kernel
theorem dL_law_998 : decode cL_law 998 = .ok (.aload_n 0, 1) := by decide +kernel
theorem dL_law_999 : decode cL_law 999 = .ok (.iload 5, 2) := by decide +kernel
theorem dL_law_1001 : decode cL_law 1001 = .ok (.iconst 2, 1) := by decide +kernel
theorem dL_law_1002 : decode cL_law 1002 = .ok (.iadd, 1) := by decide +kernel
theorem dL_law_1003 : decode cL_law 1003 = .ok (.iaload, 1) := by decide +kernel
theorem dL_law_1004 : decode cL_law 1004 = .ok (.i2l, 1) := by decide +kernel
theorem dL_law_1005 : decode cL_law 1005 = .ok (.bipush 32, 2) := by decide +kernel
theorem dL_law_1007 : decode cL_law 1007 = .ok (.lshl, 1) := by decide +kernel
theorem dL_law_1008 : decode cL_law 1008 = .ok (.aload_n 0, 1) := by decide +kernel
theorem dL_law_1009 : decode cL_law 1009 = .ok (.iload 5, 2) := by decide +kernel
theorem dL_law_1011 : decode cL_law 1011 = .ok (.iconst 3, 1) := by decide +kernel
theorem dL_law_1012 : decode cL_law 1012 = .ok (.iadd, 1) := by decide +kernel
theorem dL_law_1013 : decode cL_law 1013 = .ok (.iaload, 1) := by decide +kernel
theorem dL_law_1014 : decode cL_law 1014 = .ok (.i2l, 1) := by decide +kernel
theorem dL_law_1015 : decode cL_law 1015 = .ok (.ldc2_w 187, 3) := by decide +kernel
theorem dL_law_1018 : decode cL_law 1018 = .ok (.land, 1) := by decide +kernel
theorem dL_law_1019 : decode cL_law 1019 = .ok (.lor, 1) := by decide +kernel
theorem dL_law_1020 : decode cL_law 1020 = .ok (.aload_n 0, 1) := by decide +kernel
theorem dL_law_1021 : decode cL_law 1021 = .ok (.iload 5, 2) := by decide +kernel
theorem dL_law_1023 : decode cL_law 1023 = .ok (.iconst 4, 1) := by decide +kernel
theorem dL_law_1024 : decode cL_law 1024 = .ok (.iadd, 1) := by decide +kernel
theorem dL_law_1025 : decode cL_law 1025 = .ok (.iaload, 1) := by decide +kernel
theorem dL_law_1026 : decode cL_law 1026 = .ok (.i2l, 1) := by decide +kernel
theorem dL_law_1027 : decode cL_law 1027 = .ok (.bipush 32, 2) := by decide +kernel
theorem dL_law_1029 : decode cL_law 1029 = .ok (.lshl, 1) := by decide +kernel
theorem dL_law_1030 : decode cL_law 1030 = .ok (.aload_n 0, 1) := by decide +kernel
theorem dL_law_1031 : decode cL_law 1031 = .ok (.iload 5, 2) := by decide +kernel
theorem dL_law_1033 : decode cL_law 1033 = .ok (.iconst 5, 1) := by decide +kernel
theorem dL_law_1034 : decode cL_law 1034 = .ok (.iadd, 1) := by decide +kernel
theorem dL_law_1035 : decode cL_law 1035 = .ok (.iaload, 1) := by decide +kernel
theorem dL_law_1036 : decode cL_law 1036 = .ok (.i2l, 1) := by decide +kernel
theorem dL_law_1037 : decode cL_law 1037 = .ok (.ldc2_w 187, 3) := by decide +kernel
theorem dL_law_1040 : decode cL_law 1040 = .ok (.land, 1) := by decide +kernel
theorem dL_law_1041 : decode cL_law 1041 = .ok (.lor, 1) := by decide +kernel
theorem dL_law_1042 : decode cL_law 1042 = .ok (.aload_n 3, 1) := by decide +kernel
theorem dL_law_1043 : decode cL_law 1043 = .ok (.invokestatic 189, 3) := by decide +kernel
theorem dL_law_1046 : decode cL_law 1046 = .ok (.istore 6, 2) := by decide +kernel
theorem dL_law_1048 : decode cL_law 1048 = .ok (.aload_n 2, 1) := by decide +kernel
theorem dL_law_1049 : decode cL_law 1049 = .ok (.aload_n 0, 1) := by decide +kernel
