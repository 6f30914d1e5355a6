theorem dX6_maximum_98 : decode cX6_maximum 98 = .ok (.goto 4, 3) := by decide +kernel
theorem dX6_maximum_101 : decode cX6_maximum 101 = .ok (.iconst 0, 1) := by decide +kernel
theorem dX6_maximum_102 : decode cX6_maximum 102 = .ok (.ireturn, 1) := by decide +kernel
theorem dX6_mean_0 : decode cX6_mean 0 = .ok (.aload_n 0, 1) := by decide +kernel
theorem dX6_mean_1 : decode cX6_mean 1 = .ok (.iload_n 1, 1) := by decide +kernel
theorem dX6_mean_2 : decode cX6_mean 2 = .ok (.lload_n 2, 1) := by decide +kernel
theorem dX6_mean_3 : decode cX6_mean 3 = .ok (.lload 4, 2) := by decide +kernel
theorem dX6_mean_5 : decode cX6_mean 5 = .ok (.invokevirtual 115, 3) := by decide +kernel
theorem dX6_mean_8 : decode cX6_mean 8 = .ok (.ifCond .ne 5, 3) := by decide +kernel
theorem dX6_mean_11 : decode cX6_mean 11 = .ok (.dconst 0, 1) := by decide +kernel
theorem dX6_mean_12 : decode cX6_mean 12 = .ok (.dreturn, 1) := by decide +kernel
theorem dX6_mean_13 : decode cX6_mean 13 = .ok (.aload_n 0, 1) := by decide +kernel
theorem dX6_mean_14 : decode cX6_mean 14 = .ok (.iload_n 1, 1) := by decide +kernel
theorem dX6_mean_15 : decode cX6_mean 15 = .ok (.lload_n 2, 1) := by decide +kernel
theorem dX6_mean_16 : decode cX6_mean 16 = .ok (.lload 4, 2) := by decide +kernel
theorem dX6_mean_18 : decode cX6_mean 18 = .ok (.invokevirtual 119, 3) := by decide +kernel
theorem dX6_mean_21 : decode cX6_mean 21 = .ok (.istore 6, 2) := by decide +kernel
theorem dX6_mean_23 : decode cX6_mean 23 = .ok (.aload_n 0, 1) := by decide +kernel
theorem dX6_mean_24 : decode cX6_mean 24 = .ok (.iload 6, 2) := by decide +kernel
theorem dX6_mean_26 : decode cX6_mean 26 = .ok (.ifCond .ne 7, 3) := by decide +kernel
theorem dX6_mean_29 : decode cX6_mean 29 = .ok (.iconst 3, 1) := by decide +kernel
theorem dX6_mean_30 : decode cX6_mean 30 = .ok (.goto 4, 3) := by decide +kernel
theorem dX6_mean_33 : decode cX6_mean 33 = .ok (.iconst 0, 1) := by decide +kernel
theorem dX6_mean_34 : decode cX6_mean 34 = .ok (.putfield 53, 3) := by decide +kernel
theorem dX6_mean_37 : decode cX6_mean 37 = .ok (.aload_n 0, 1) := by decide +kernel
theorem dX6_mean_38 : decode cX6_mean 38 = .ok (.getfield 53, 3) := by decide +kernel
theorem dX6_mean_41 : decode cX6_mean 41 = .ok (.ifCond .ne 19, 3) := by decide +kernel
theorem dX6_mean_44 : decode cX6_mean 44 = .ok (.aload_n 0, 1) := by decide +kernel
theorem dX6_mean_45 : decode cX6_mean 45 = .ok (.iload_n 1, 1) := by decide +kernel
theorem dX6_mean_46 : decode cX6_mean 46 = .ok (.lload_n 2, 1) := by decide +kernel
theorem dX6_mean_47 : decode cX6_mean 47 = .ok (.lload 4, 2) := by decide +kernel
theorem dX6_mean_49 : decode cX6_mean 49 = .ok (.invokevirtual 123, 3) := by decide +kernel
theorem dX6_mean_52 : decode cX6_mean 52 = .ok (.l2d, 1) := by decide +kernel
theorem dX6_mean_53 : decode cX6_mean 53 = .ok (.iload 6, 2) := by decide +kernel
theorem dX6_mean_55 : decode cX6_mean 55 = .ok (.i2d, 1) := by decide +kernel
theorem dX6_mean_56 : decode cX6_mean 56 = .ok (.ddiv, 1) := by decide +kernel
theorem dX6_mean_57 : decode cX6_mean 57 = .ok (.goto 4, 3) := by decide +kernel
theorem dX6_mean_60 : decode cX6_mean 60 = .ok (.dconst 0, 1) := by decide +kernel
theorem dX6_mean_61 : decode cX6_mean 61 = .ok (.dreturn, 1) := by decide +kernel
theorem dX6_begin_0 : decode cX6_begin 0 = .ok (.aload_n 0, 1) := by decide +kernel
theorem dX6_begin_1 : decode cX6_begin 1 = .ok (.iload_n 1, 1) := by decide +kernel
theorem dX6_begin_2 : decode cX6_begin 2 = .ok (.iload_n 2, 1) := by decide +kernel
theorem dX6_begin_3 : decode cX6_begin 3 = .ok (.invokevirtual 87, 3) := by decide +kernel
theorem dX6_begin_6 : decode cX6_begin 6 = .ok (.ldc2_w 130, 3) := by decide +kernel
theorem dX6_begin_9 : decode cX6_begin 9 = .ok (.ldiv, 1) := by decide +kernel
theorem dX6_begin_10 : decode cX6_begin 10 = .ok (.ldc2_w 130, 3) := by decide +kernel
theorem dX6_begin_13 : decode cX6_begin 13 = .ok (.lmul, 1) := by decide +kernel
theorem dX6_begin_14 : decode cX6_begin 14 = .ok (.lreturn, 1) := by decide +kernel
theorem dX6_rollupCount_0 : decode cX6_rollupCount 0 = .ok (.aload_n 0, 1) := by decide +kernel
theorem dX6_rollupCount_1 : decode cX6_rollupCount 1 = .ok (.iload_n 1, 1) := by decide +kernel
theorem dX6_rollupCount_2 : decode cX6_rollupCount 2 = .ok (.invokevirtual 83, 3) := by decide +kernel
theorem dX6_rollupCount_5 : decode cX6_rollupCount 5 = .ok (.ifCond .ne 5, 3) := by decide +kernel
theorem dX6_rollupCount_8 : decode cX6_rollupCount 8 = .ok (.iconst 0, 1) := by decide +kernel
theorem dX6_rollupCount_9 : decode cX6_rollupCount 9 = .ok (.ireturn, 1) := by decide +kernel
theorem dX6_rollupCount_10 : decode cX6_rollupCount 10 = .ok (.iload_n 2, 1) := by decide +kernel
theorem dX6_rollupCount_11 : decode cX6_rollupCount 11 = .ok (.ifCond .ge 9, 3) := by decide +kernel
theorem dX6_rollupCount_14 : decode cX6_rollupCount 14 = .ok (.aload_n 0, 1) := by decide +kernel
theorem dX6_rollupCount_15 : decode cX6_rollupCount 15 = .ok (.iconst 2, 1) := by decide +kernel
theorem dX6_rollupCount_16 : decode cX6_rollupCount 16 = .ok (.invokevirtual 68, 3) := by decide +kernel
theorem dX6_rollupCount_19 : decode cX6_rollupCount 19 = .ok (.ireturn, 1) := by decide +kernel
theorem dX6_rollupCount_20 : decode cX6_rollupCount 20 = .ok (.iconst 0, 1) := by decide +kernel
theorem dX6_rollupCount_21 : decode cX6_rollupCount 21 = .ok (.istore_n 3, 1) := by decide +kernel
theorem dX6_rollupCount_22 : decode cX6_rollupCount 22 = .ok (.iconst 0, 1) := by decide +kernel
theorem dX6_rollupCount_23 : decode cX6_rollupCount 23 = .ok (.istore 4, 2) := by decide +kernel
theorem dX6_rollupCount_25 : decode cX6_rollupCount 25 = .ok (.iload 4, 2) := by decide +kernel
theorem dX6_rollupCount_27 : decode cX6_rollupCount 27 = .ok (.aload_n 0, 1) := by decide +kernel
theorem dX6_rollupCount_28 : decode cX6_rollupCount 28 = .ok (.getfield 16, 3) := by decide +kernel
theorem dX6_rollupCount_31 : decode cX6_rollupCount 31 = .ok (.iload_n 1, 1) := by decide +kernel
theorem dX6_rollupCount_32 : decode cX6_rollupCount 32 = .ok (.iaload, 1) := by decide +kernel
theorem dX6_rollupCount_33 : decode cX6_rollupCount 33 = .ok (.if_icmp .ge 34, 3) := by decide +kernel
theorem dX6_rollupCount_36 : decode cX6_rollupCount 36 = .ok (.iload_n 3, 1) := by decide +kernel
theorem dX6_rollupCount_37 : decode cX6_rollupCount 37 = .ok (.aload_n 0, 1) := by decide +kernel
theorem dX6_rollupCount_38 : decode cX6_rollupCount 38 = .ok (.iload_n 1, 1) := by decide +kernel
theorem dX6_rollupCount_39 : decode cX6_rollupCount 39 = .ok (.iload 4, 2) := by decide +kernel
theorem dX6_rollupCount_41 : decode cX6_rollupCount 41 = .ok (.invokevirtual 132, 3) := by decide +kernel
theorem dX6_rollupCount_44 : decode cX6_rollupCount 44 = .ok (.ldc2_w 130, 3) := by decide +kernel
theorem dX6_rollupCount_47 : decode cX6_rollupCount 47 = .ok (.iload_n 2, 1) := by decide +kernel
theorem dX6_rollupCount_48 : decode cX6_rollupCount 48 = .ok (.i2l, 1) := by decide +kernel
theorem dX6_rollupCount_49 : decode cX6_rollupCount 49 = .ok (.lmul, 1) := by decide +kernel
theorem dX6_rollupCount_50 : decode cX6_rollupCount 50 = .ok (.lcmp, 1) := by decide +kernel
theorem dX6_rollupCount_51 : decode cX6_rollupCount 51 = .ok (.ifCond .ne 7, 3) := by decide +kernel
theorem dX6_rollupCount_54 : decode cX6_rollupCount 54 = .ok (.iconst 1, 1) := by decide +kernel
theorem dX6_rollupCount_55 : decode cX6_rollupCount 55 = .ok (.goto 4, 3) := by decide +kernel
theorem dX6_rollupCount_58 : decode cX6_rollupCount 58 = .ok (.iconst 0, 1) := by decide +kernel
theorem dX6_rollupCount_59 : decode cX6_rollupCount 59 = .ok (.iadd, 1) := by decide +kernel
theorem dX6_rollupCount_60 : decode cX6_rollupCount 60 = .ok (.istore_n 3, 1) := by decide +kernel
theorem dX6_rollupCount_61 : decode cX6_rollupCount 61 = .ok (.iinc 4 1, 3) := by decide +kernel
theorem dX6_rollupCount_64 : decode cX6_rollupCount 64 = .ok (.goto (-39), 3) := by decide +kernel
theorem dX6_rollupCount_67 : decode cX6_rollupCount 67 = .ok (.iload_n 3, 1) := by decide +kernel
theorem dX6_rollupCount_68 : decode cX6_rollupCount 68 = .ok (.ireturn, 1) := by decide +kernel
theorem dX6_countLow_0 : decode cX6_countLow 0 = .ok (.aload_n 0, 1) := by decide +kernel
theorem dX6_countLow_1 : decode cX6_countLow 1 = .ok (.iload_n 1, 1) := by decide +kernel
theorem dX6_countLow_2 : decode cX6_countLow 2 = .ok (.lload_n 2, 1) := by decide +kernel
theorem dX6_countLow_3 : decode cX6_countLow 3 = .ok (.lload 4, 2) := by decide +kernel
theorem dX6_countLow_5 : decode cX6_countLow 5 = .ok (.invokevirtual 115, 3) := by decide +kernel
theorem dX6_countLow_8 : decode cX6_countLow 8 = .ok (.ifCond .ne 5, 3) := by decide +kernel
theorem dX6_countLow_11 : decode cX6_countLow 11 = .ok (.iconst 0, 1) := by decide +kernel
theorem dX6_countLow_12 : decode cX6_countLow 12 = .ok (.ireturn, 1) := by decide +kernel
theorem dX6_countLow_13 : decode cX6_countLow 13 = .ok (.iconst 0, 1) := by decide +kernel
theorem dX6_countLow_14 : decode cX6_countLow 14 = .ok (.istore 6, 2) := by decide +kernel
theorem dX6_countLow_16 : decode cX6_countLow 16 = .ok (.iconst 0, 1) := by decide +kernel
theorem dX6_countLow_17 : decode cX6_countLow 17 = .ok (.istore 7, 2) := by decide +kernel
theorem dX6_countLow_19 : decode cX6_countLow 19 = .ok (.iload 7, 2) := by decide +kernel
theorem dX6_countLow_21 : decode cX6_countLow 21 = .ok (.aload_n 0, 1) := by decide +kernel
theorem dX6_countLow_22 : decode cX6_countLow 22 = .ok (.getfield 16, 3) := by decide +kernel
theorem dX6_countLow_25 : decode cX6_countLow 25 = .ok (.iload_n 1, 1) := by decide +kernel
theorem dX6_countLow_26 : decode cX6_countLow 26 = .ok (.iaload, 1) := by decide +kernel
theorem dX6_countLow_27 : decode cX6_countLow 27 = .ok (.if_icmp .ge 48, 3) := by decide +kernel
theorem dX6_countLow_30 : decode cX6_countLow 30 = .ok (.iload 6, 2) := by decide +kernel
theorem dX6_countLow_32 : decode cX6_countLow 32 = .ok (.aload_n 0, 1) := by decide +kernel
theorem dX6_countLow_33 : decode cX6_countLow 33 = .ok (.iload_n 1, 1) := by decide +kernel
theorem dX6_countLow_34 : decode cX6_countLow 34 = .ok (.iload 7, 2) := by decide +kernel
theorem dX6_countLow_36 : decode cX6_countLow 36 = .ok (.invokevirtual 132, 3) := by decide +kernel
theorem dX6_countLow_39 : decode cX6_countLow 39 = .ok (.lload_n 2, 1) := by decide +kernel
theorem dX6_countLow_40 : decode cX6_countLow 40 = .ok (.lcmp, 1) := by decide +kernel
theorem dX6_countLow_41 : decode cX6_countLow 41 = .ok (.ifCond .lt 24, 3) := by decide +kernel
theorem dX6_countLow_44 : decode cX6_countLow 44 = .ok (.aload_n 0, 1) := by decide +kernel
theorem dX6_countLow_45 : decode cX6_countLow 45 = .ok (.iload_n 1, 1) := by decide +kernel
theorem dX6_countLow_46 : decode cX6_countLow 46 = .ok (.iload 7, 2) := by decide +kernel
theorem dX6_countLow_48 : decode cX6_countLow 48 = .ok (.invokevirtual 132, 3) := by decide +kernel
theorem dX6_countLow_51 : decode cX6_countLow 51 = .ok (.ldc2_w 135, 3) := by decide +kernel
theorem dX6_countLow_54 : decode cX6_countLow 54 = .ok (.ladd, 1) := by decide +kernel
theorem dX6_countLow_55 : decode cX6_countLow 55 = .ok (.lload 4, 2) := by decide +kernel
theorem dX6_countLow_57 : decode cX6_countLow 57 = .ok (.lcmp, 1) := by decide +kernel
theorem dX6_countLow_58 : decode cX6_countLow 58 = .ok (.ifCond .gt 7, 3) := by decide +kernel
theorem dX6_countLow_61 : decode cX6_countLow 61 = .ok (.iconst 1, 1) := by decide +kernel
theorem dX6_countLow_62 : decode cX6_countLow 62 = .ok (.goto 4, 3) := by decide +kernel
theorem dX6_countLow_65 : decode cX6_countLow 65 = .ok (.iconst 0, 1) := by decide +kernel
theorem dX6_countLow_66 : decode cX6_countLow 66 = .ok (.iadd, 1) := by decide +kernel
theorem dX6_countLow_67 : decode cX6_countLow 67 = .ok (.istore 6, 2) := by decide +kernel
theorem dX6_countLow_69 : decode cX6_countLow 69 = .ok (.iinc 7 1, 3) := by decide +kernel
theorem dX6_countLow_72 : decode cX6_countLow 72 = .ok (.goto (-53), 3) := by decide +kernel
theorem dX6_countLow_75 : decode cX6_countLow 75 = .ok (.iload 6, 2) := by decide +kernel
theorem dX6_countLow_77 : decode cX6_countLow 77 = .ok (.ireturn, 1) := by decide +kernel
theorem dX6_isTouched_0 : decode cX6_isTouched 0 = .ok (.aload_n 0, 1) := by decide +kernel
theorem dX6_isTouched_1 : decode cX6_isTouched 1 = .ok (.iload_n 1, 1) := by decide +kernel
theorem dX6_isTouched_2 : decode cX6_isTouched 2 = .ok (.iload_n 2, 1) := by decide +kernel
theorem dX6_isTouched_3 : decode cX6_isTouched 3 = .ok (.invokevirtual 132, 3) := by decide +kernel
theorem dX6_isTouched_6 : decode cX6_isTouched 6 = .ok (.lload 5, 2) := by decide +kernel
theorem dX6_isTouched_8 : decode cX6_isTouched 8 = .ok (.lcmp, 1) := by decide +kernel
theorem dX6_isTouched_9 : decode cX6_isTouched 9 = .ok (.ifCond .gt 22, 3) := by decide +kernel
theorem dX6_isTouched_12 : decode cX6_isTouched 12 = .ok (.aload_n 0, 1) := by decide +kernel
theorem dX6_isTouched_13 : decode cX6_isTouched 13 = .ok (.iload_n 1, 1) := by decide +kernel
theorem dX6_isTouched_14 : decode cX6_isTouched 14 = .ok (.iload_n 2, 1) := by decide +kernel
theorem dX6_isTouched_15 : decode cX6_isTouched 15 = .ok (.invokevirtual 132, 3) := by decide +kernel
theorem dX6_isTouched_18 : decode cX6_isTouched 18 = .ok (.ldc2_w 135, 3) := by decide +kernel
theorem dX6_isTouched_21 : decode cX6_isTouched 21 = .ok (.ladd, 1) := by decide +kernel
theorem dX6_isTouched_22 : decode cX6_isTouched 22 = .ok (.lload_n 3, 1) := by decide +kernel
theorem dX6_isTouched_23 : decode cX6_isTouched 23 = .ok (.lcmp, 1) := by decide +kernel
theorem dX6_isTouched_24 : decode cX6_isTouched 24 = .ok (.ifCond .lt 7, 3) := by decide +kernel
theorem dX6_isTouched_27 : decode cX6_isTouched 27 = .ok (.iconst 1, 1) := by decide +kernel
theorem dX6_isTouched_28 : decode cX6_isTouched 28 = .ok (.goto 4, 3) := by decide +kernel
theorem dX6_isTouched_31 : decode cX6_isTouched 31 = .ok (.iconst 0, 1) := by decide +kernel
theorem dX6_isTouched_32 : decode cX6_isTouched 32 = .ok (.ireturn, 1) := by decide +kernel
theorem dX6_countHigh_0 : decode cX6_countHigh 0 = .ok (.aload_n 0, 1) := by decide +kernel
theorem dX6_countHigh_1 : decode cX6_countHigh 1 = .ok (.iload_n 1, 1) := by decide +kernel
theorem dX6_countHigh_2 : decode cX6_countHigh 2 = .ok (.lload_n 2, 1) := by decide +kernel
theorem dX6_countHigh_3 : decode cX6_countHigh 3 = .ok (.lload 4, 2) := by decide +kernel
theorem dX6_countHigh_5 : decode cX6_countHigh 5 = .ok (.invokevirtual 115, 3) := by decide +kernel
theorem dX6_countHigh_8 : decode cX6_countHigh 8 = .ok (.ifCond .ne 5, 3) := by decide +kernel
theorem dX6_countHigh_11 : decode cX6_countHigh 11 = .ok (.iconst 0, 1) := by decide +kernel
theorem dX6_countHigh_12 : decode cX6_countHigh 12 = .ok (.ireturn, 1) := by decide +kernel
theorem dX6_countHigh_13 : decode cX6_countHigh 13 = .ok (.iconst 0, 1) := by decide +kernel
theorem dX6_countHigh_14 : decode cX6_countHigh 14 = .ok (.istore 6, 2) := by decide +kernel
theorem dX6_countHigh_16 : decode cX6_countHigh 16 = .ok (.iconst 0, 1) := by decide +kernel
theorem dX6_countHigh_17 : decode cX6_countHigh 17 = .ok (.istore 7, 2) := by decide +kernel
theorem dX6_countHigh_19 : decode cX6_countHigh 19 = .ok (.iload 7, 2) := by decide +kernel
theorem dX6_countHigh_21 : decode cX6_countHigh 21 = .ok (.aload_n 0, 1) := by decide +kernel
theorem dX6_countHigh_22 : decode cX6_countHigh 22 = .ok (.getfield 16, 3) := by decide +kernel
theorem dX6_countHigh_25 : decode cX6_countHigh 25 = .ok (.iload_n 1, 1) := by decide +kernel
theorem dX6_countHigh_26 : decode cX6_countHigh 26 = .ok (.iaload, 1) := by decide +kernel
theorem dX6_countHigh_27 : decode cX6_countHigh 27 = .ok (.if_icmp .ge 32, 3) := by decide +kernel
theorem dX6_countHigh_30 : decode cX6_countHigh 30 = .ok (.iload 6, 2) := by decide +kernel
theorem dX6_countHigh_32 : decode cX6_countHigh 32 = .ok (.aload_n 0, 1) := by decide +kernel
theorem dX6_countHigh_33 : decode cX6_countHigh 33 = .ok (.iload_n 1, 1) := by decide +kernel
theorem dX6_countHigh_34 : decode cX6_countHigh 34 = .ok (.iload 7, 2) := by decide +kernel
theorem dX6_countHigh_36 : decode cX6_countHigh 36 = .ok (.lload_n 2, 1) := by decide +kernel
theorem dX6_countHigh_37 : decode cX6_countHigh 37 = .ok (.lload 4, 2) := by decide +kernel
theorem dX6_countHigh_39 : decode cX6_countHigh 39 = .ok (.invokevirtual 137, 3) := by decide +kernel
theorem dX6_countHigh_42 : decode cX6_countHigh 42 = .ok (.ifCond .eq 7, 3) := by decide +kernel
theorem dX6_countHigh_45 : decode cX6_countHigh 45 = .ok (.iconst 1, 1) := by decide +kernel
theorem dX6_countHigh_46 : decode cX6_countHigh 46 = .ok (.goto 4, 3) := by decide +kernel
theorem dX6_countHigh_49 : decode cX6_countHigh 49 = .ok (.iconst 0, 1) := by decide +kernel
theorem dX6_countHigh_50 : decode cX6_countHigh 50 = .ok (.iadd, 1) := by decide +kernel
theorem dX6_countHigh_51 : decode cX6_countHigh 51 = .ok (.istore 6, 2) := by decide +kernel
theorem dX6_countHigh_53 : decode cX6_countHigh 53 = .ok (.iinc 7 1, 3) := by decide +kernel
theorem dX6_countHigh_56 : decode cX6_countHigh 56 = .ok (.goto (-37), 3) := by decide +kernel
theorem dX6_countHigh_59 : decode cX6_countHigh 59 = .ok (.iload 6, 2) := by decide +kernel
theorem dX6_countHigh_61 : decode cX6_countHigh 61 = .ok (.ireturn, 1) := by decide +kernel
theorem dX6_maximumHigh_0 : decode cX6_maximumHigh 0 = .ok (.aload_n 0, 1) := by decide +kernel
theorem dX6_maximumHigh_1 : decode cX6_maximumHigh 1 = .ok (.iload_n 1, 1) := by decide +kernel
theorem dX6_maximumHigh_2 : decode cX6_maximumHigh 2 = .ok (.lload_n 2, 1) := by decide +kernel
theorem dX6_maximumHigh_3 : decode cX6_maximumHigh 3 = .ok (.lload 4, 2) := by decide +kernel
theorem dX6_maximumHigh_5 : decode cX6_maximumHigh 5 = .ok (.invokevirtual 115, 3) := by decide +kernel
theorem dX6_maximumHigh_8 : decode cX6_maximumHigh 8 = .ok (.ifCond .ne 5, 3) := by decide +kernel
theorem dX6_maximumHigh_11 : decode cX6_maximumHigh 11 = .ok (.iconst 0, 1) := by decide +kernel
theorem dX6_maximumHigh_12 : decode cX6_maximumHigh 12 = .ok (.ireturn, 1) := by decide +kernel
theorem dX6_maximumHigh_13 : decode cX6_maximumHigh 13 = .ok (.sipush (-20000), 3) := by decide +kernel
theorem dX6_maximumHigh_16 : decode cX6_maximumHigh 16 = .ok (.istore 6, 2) := by decide +kernel
theorem dX6_maximumHigh_18 : decode cX6_maximumHigh 18 = .ok (.iconst 0, 1) := by decide +kernel
theorem dX6_maximumHigh_19 : decode cX6_maximumHigh 19 = .ok (.istore 7, 2) := by decide +kernel
theorem dX6_maximumHigh_21 : decode cX6_maximumHigh 21 = .ok (.iload 7, 2) := by decide +kernel
theorem dX6_maximumHigh_23 : decode cX6_maximumHigh 23 = .ok (.aload_n 0, 1) := by decide +kernel
theorem dX6_maximumHigh_24 : decode cX6_maximumHigh 24 = .ok (.getfield 16, 3) := by decide +kernel
theorem dX6_maximumHigh_27 : decode cX6_maximumHigh 27 = .ok (.iload_n 1, 1) := by decide +kernel
theorem dX6_maximumHigh_28 : decode cX6_maximumHigh 28 = .ok (.iaload, 1) := by decide +kernel
theorem dX6_maximumHigh_29 : decode cX6_maximumHigh 29 = .ok (.if_icmp .ge 43, 3) := by decide +kernel
theorem dX6_maximumHigh_32 : decode cX6_maximumHigh 32 = .ok (.aload_n 0, 1) := by decide +kernel
theorem dX6_maximumHigh_33 : decode cX6_maximumHigh 33 = .ok (.iload_n 1, 1) := by decide +kernel
theorem dX6_maximumHigh_34 : decode cX6_maximumHigh 34 = .ok (.iload 7, 2) := by decide +kernel
theorem dX6_maximumHigh_36 : decode cX6_maximumHigh 36 = .ok (.lload_n 2, 1) := by decide +kernel
theorem dX6_maximumHigh_37 : decode cX6_maximumHigh 37 = .ok (.lload 4, 2) := by decide +kernel
theorem dX6_maximumHigh_39 : decode cX6_maximumHigh 39 = .ok (.invokevirtual 137, 3) := by decide +kernel
theorem dX6_maximumHigh_42 : decode cX6_maximumHigh 42 = .ok (.ifCond .eq 24, 3) := by decide +kernel
theorem dX6_maximumHigh_45 : decode cX6_maximumHigh 45 = .ok (.aload_n 0, 1) := by decide +kernel
theorem dX6_maximumHigh_46 : decode cX6_maximumHigh 46 = .ok (.iload_n 1, 1) := by decide +kernel
theorem dX6_maximumHigh_47 : decode cX6_maximumHigh 47 = .ok (.iload 7, 2) := by decide +kernel
theorem dX6_maximumHigh_49 : decode cX6_maximumHigh 49 = .ok (.invokevirtual 64, 3) := by decide +kernel
theorem dX6_maximumHigh_52 : decode cX6_maximumHigh 52 = .ok (.iload 6, 2) := by decide +kernel
theorem dX6_maximumHigh_54 : decode cX6_maximumHigh 54 = .ok (.if_icmp .le 12, 3) := by decide +kernel
theorem dX6_maximumHigh_57 : decode cX6_maximumHigh 57 = .ok (.aload_n 0, 1) := by decide +kernel
theorem dX6_maximumHigh_58 : decode cX6_maximumHigh 58 = .ok (.iload_n 1, 1) := by decide +kernel
theorem dX6_maximumHigh_59 : decode cX6_maximumHigh 59 = .ok (.iload 7, 2) := by decide +kernel
theorem dX6_maximumHigh_61 : decode cX6_maximumHigh 61 = .ok (.invokevirtual 64, 3) := by decide +kernel
theorem dX6_maximumHigh_64 : decode cX6_maximumHigh 64 = .ok (.istore 6, 2) := by decide +kernel
theorem dX6_maximumHigh_66 : decode cX6_maximumHigh 66 = .ok (.iinc 7 1, 3) := by decide +kernel
theorem dX6_maximumHigh_69 : decode cX6_maximumHigh 69 = .ok (.goto (-48), 3) := by decide +kernel
theorem dX6_maximumHigh_72 : decode cX6_maximumHigh 72 = .ok (.aload_n 0, 1) := by decide +kernel
theorem dX6_maximumHigh_73 : decode cX6_maximumHigh 73 = .ok (.iload 6, 2) := by decide +kernel
theorem dX6_maximumHigh_75 : decode cX6_maximumHigh 75 = .ok (.sipush (-20000), 3) := by decide +kernel
theorem dX6_maximumHigh_78 : decode cX6_maximumHigh 78 = .ok (.if_icmp .ne 7, 3) := by decide +kernel
theorem dX6_maximumHigh_81 : decode cX6_maximumHigh 81 = .ok (.iconst 3, 1) := by decide +kernel
theorem dX6_maximumHigh_82 : decode cX6_maximumHigh 82 = .ok (.goto 4, 3) := by decide +kernel
theorem dX6_maximumHigh_85 : decode cX6_maximumHigh 85 = .ok (.iconst 0, 1) := by decide +kernel
theorem dX6_maximumHigh_86 : decode cX6_maximumHigh 86 = .ok (.putfield 53, 3) := by decide +kernel
theorem dX6_maximumHigh_89 : decode cX6_maximumHigh 89 = .ok (.aload_n 0, 1) := by decide +kernel
theorem dX6_maximumHigh_90 : decode cX6_maximumHigh 90 = .ok (.getfield 53, 3) := by decide +kernel
theorem dX6_maximumHigh_93 : decode cX6_maximumHigh 93 = .ok (.ifCond .ne 8, 3) := by decide +kernel
theorem dX6_maximumHigh_96 : decode cX6_maximumHigh 96 = .ok (.iload 6, 2) := by decide +kernel
theorem dX6_maximumHigh_98 : decode cX6_maximumHigh 98 = .ok (.goto 4, 3) := by decide +kernel
theorem dX6_maximumHigh_101 : decode cX6_maximumHigh 101 = .ok (.iconst 0, 1) := by decide +kernel
theorem dX6_maximumHigh_102 : decode cX6_maximumHigh 102 = .ok (.ireturn, 1) := by decide +kernel
theorem dX6_isPart_0 : decode cX6_isPart 0 = .ok (.aload_n 0, 1) := by decide +kernel
theorem dX6_isPart_1 : decode cX6_isPart 1 = .ok (.iload_n 1, 1) := by decide +kernel
theorem dX6_isPart_2 : decode cX6_isPart 2 = .ok (.invokevirtual 83, 3) := by decide +kernel
theorem dX6_isPart_5 : decode cX6_isPart 5 = .ok (.ifCond .eq 35, 3) := by decide +kernel
theorem dX6_isPart_8 : decode cX6_isPart 8 = .ok (.aload_n 0, 1) := by decide +kernel
theorem dX6_isPart_9 : decode cX6_isPart 9 = .ok (.iload_n 2, 1) := by decide +kernel
theorem dX6_isPart_10 : decode cX6_isPart 10 = .ok (.iconst 1, 1) := by decide +kernel
theorem dX6_isPart_11 : decode cX6_isPart 11 = .ok (.bipush 100, 2) := by decide +kernel
theorem dX6_isPart_13 : decode cX6_isPart 13 = .ok (.invokestatic 60, 3) := by decide +kernel
theorem dX6_isPart_16 : decode cX6_isPart 16 = .ok (.ifCond .ne 7, 3) := by decide +kernel
theorem dX6_isPart_19 : decode cX6_isPart 19 = .ok (.iconst 2, 1) := by decide +kernel
theorem dX6_isPart_20 : decode cX6_isPart 20 = .ok (.goto 17, 3) := by decide +kernel
theorem dX6_isPart_23 : decode cX6_isPart 23 = .ok (.aload_n 0, 1) := by decide +kernel
theorem dX6_isPart_24 : decode cX6_isPart 24 = .ok (.getfield 16, 3) := by decide +kernel
theorem dX6_isPart_27 : decode cX6_isPart 27 = .ok (.iload_n 1, 1) := by decide +kernel
theorem dX6_isPart_28 : decode cX6_isPart 28 = .ok (.iaload, 1) := by decide +kernel
theorem dX6_isPart_29 : decode cX6_isPart 29 = .ok (.ifCond .ne 7, 3) := by decide +kernel
theorem dX6_isPart_32 : decode cX6_isPart 32 = .ok (.iconst 3, 1) := by decide +kernel
theorem dX6_isPart_33 : decode cX6_isPart 33 = .ok (.goto 4, 3) := by decide +kernel
theorem dX6_isPart_36 : decode cX6_isPart 36 = .ok (.iconst 0, 1) := by decide +kernel
theorem dX6_isPart_37 : decode cX6_isPart 37 = .ok (.putfield 53, 3) := by decide +kernel
theorem dX6_isPart_40 : decode cX6_isPart 40 = .ok (.aload_n 0, 1) := by decide +kernel
theorem dX6_isPart_41 : decode cX6_isPart 41 = .ok (.getfield 53, 3) := by decide +kernel
theorem dX6_isPart_44 : decode cX6_isPart 44 = .ok (.ifCond .ne 7, 3) := by decide +kernel
theorem dX6_isPart_47 : decode cX6_isPart 47 = .ok (.iconst 1, 1) := by decide +kernel
theorem dX6_isPart_48 : decode cX6_isPart 48 = .ok (.goto 4, 3) := by decide +kernel
theorem dX6_isPart_51 : decode cX6_isPart 51 = .ok (.iconst 0, 1) := by decide +kernel
theorem dX6_isPart_52 : decode cX6_isPart 52 = .ok (.ireturn, 1) := by decide +kernel
theorem dX6_target_0 : decode cX6_target 0 = .ok (.aload_n 0, 1) := by decide +kernel
theorem dX6_target_1 : decode cX6_target 1 = .ok (.getfield 16, 3) := by decide +kernel
theorem dX6_target_4 : decode cX6_target 4 = .ok (.iload_n 1, 1) := by decide +kernel
theorem dX6_target_5 : decode cX6_target 5 = .ok (.iaload, 1) := by decide +kernel
theorem dX6_target_6 : decode cX6_target 6 = .ok (.iload_n 2, 1) := by decide +kernel
theorem dX6_target_7 : decode cX6_target 7 = .ok (.imul, 1) := by decide +kernel
theorem dX6_target_8 : decode cX6_target 8 = .ok (.bipush 99, 2) := by decide +kernel
theorem dX6_target_10 : decode cX6_target 10 = .ok (.iadd, 1) := by decide +kernel
theorem dX6_target_11 : decode cX6_target 11 = .ok (.bipush 100, 2) := by decide +kernel
theorem dX6_target_13 : decode cX6_target 13 = .ok (.idiv, 1) := by decide +kernel
theorem dX6_target_14 : decode cX6_target 14 = .ok (.ireturn, 1) := by decide +kernel
theorem dX6_standing_0 : decode cX6_standing 0 = .ok (.iconst 0, 1) := by decide +kernel
theorem dX6_standing_1 : decode cX6_standing 1 = .ok (.istore_n 3, 1) := by decide +kernel
theorem dX6_standing_2 : decode cX6_standing 2 = .ok (.iconst 0, 1) := by decide +kernel
theorem dX6_standing_3 : decode cX6_standing 3 = .ok (.istore 4, 2) := by decide +kernel
theorem dX6_standing_5 : decode cX6_standing 5 = .ok (.iload 4, 2) := by decide +kernel
theorem dX6_standing_7 : decode cX6_standing 7 = .ok (.bipush 6, 2) := by decide +kernel
theorem dX6_standing_9 : decode cX6_standing 9 = .ok (.if_icmp .ge 67, 3) := by decide +kernel
theorem dX6_standing_12 : decode cX6_standing 12 = .ok (.bipush 6, 2) := by decide +kernel
theorem dX6_standing_14 : decode cX6_standing 14 = .ok (.iload_n 1, 1) := by decide +kernel
theorem dX6_standing_15 : decode cX6_standing 15 = .ok (.imul, 1) := by decide +kernel
theorem dX6_standing_16 : decode cX6_standing 16 = .ok (.iload 4, 2) := by decide +kernel
theorem dX6_standing_18 : decode cX6_standing 18 = .ok (.iadd, 1) := by decide +kernel
theorem dX6_standing_19 : decode cX6_standing 19 = .ok (.istore 5, 2) := by decide +kernel
theorem dX6_standing_21 : decode cX6_standing 21 = .ok (.iconst 0, 1) := by decide +kernel
theorem dX6_standing_22 : decode cX6_standing 22 = .ok (.istore 6, 2) := by decide +kernel
theorem dX6_standing_24 : decode cX6_standing 24 = .ok (.iload 6, 2) := by decide +kernel
theorem dX6_standing_26 : decode cX6_standing 26 = .ok (.aload_n 0, 1) := by decide +kernel
theorem dX6_standing_27 : decode cX6_standing 27 = .ok (.getfield 32, 3) := by decide +kernel
theorem dX6_standing_30 : decode cX6_standing 30 = .ok (.iload 5, 2) := by decide +kernel
theorem dX6_standing_32 : decode cX6_standing 32 = .ok (.iaload, 1) := by decide +kernel
theorem dX6_standing_33 : decode cX6_standing 33 = .ok (.if_icmp .ge 37, 3) := by decide +kernel
theorem dX6_standing_36 : decode cX6_standing 36 = .ok (.iload_n 3, 1) := by decide +kernel
theorem dX6_standing_37 : decode cX6_standing 37 = .ok (.aload_n 0, 1) := by decide +kernel
theorem dX6_standing_38 : decode cX6_standing 38 = .ok (.getfield 29, 3) := by decide +kernel
theorem dX6_standing_41 : decode cX6_standing 41 = .ok (.bipush 8, 2) := by decide +kernel
theorem dX6_standing_43 : decode cX6_standing 43 = .ok (.iload 5, 2) := by decide +kernel
theorem dX6_standing_45 : decode cX6_standing 45 = .ok (.imul, 1) := by decide +kernel
theorem dX6_standing_46 : decode cX6_standing 46 = .ok (.iload 6, 2) := by decide +kernel
theorem dX6_standing_48 : decode cX6_standing 48 = .ok (.iadd, 1) := by decide +kernel
theorem dX6_standing_49 : decode cX6_standing 49 = .ok (.iaload, 1) := by decide +kernel
theorem dX6_standing_50 : decode cX6_standing 50 = .ok (.iload_n 2, 1) := by decide +kernel
theorem dX6_standing_51 : decode cX6_standing 51 = .ok (.if_icmp .gt 10, 3) := by decide +kernel
theorem dX6_standing_54 : decode cX6_standing 54 = .ok (.iconst 1, 1) := by decide +kernel
theorem dX6_standing_55 : decode cX6_standing 55 = .ok (.iload 4, 2) := by decide +kernel
theorem dX6_standing_57 : decode cX6_standing 57 = .ok (.ishl, 1) := by decide +kernel
theorem dX6_standing_58 : decode cX6_standing 58 = .ok (.goto 4, 3) := by decide +kernel
theorem dX6_standing_61 : decode cX6_standing 61 = .ok (.iconst 0, 1) := by decide +kernel
theorem dX6_standing_62 : decode cX6_standing 62 = .ok (.iadd, 1) := by decide +kernel
theorem dX6_standing_63 : decode cX6_standing 63 = .ok (.istore_n 3, 1) := by decide +kernel
theorem dX6_standing_64 : decode cX6_standing 64 = .ok (.iinc 6 1, 3) := by decide +kernel
theorem dX6_standing_67 : decode cX6_standing 67 = .ok (.goto (-43), 3) := by decide +kernel
theorem dX6_standing_70 : decode cX6_standing 70 = .ok (.iinc 4 1, 3) := by decide +kernel
theorem dX6_standing_73 : decode cX6_standing 73 = .ok (.goto (-68), 3) := by decide +kernel
theorem dX6_standing_76 : decode cX6_standing 76 = .ok (.iload_n 3, 1) := by decide +kernel
theorem dX6_standing_77 : decode cX6_standing 77 = .ok (.ireturn, 1) := by decide +kernel
theorem dX6_sketched_0 : decode cX6_sketched 0 = .ok (.sipush 20000, 3) := by decide +kernel
theorem dX6_sketched_3 : decode cX6_sketched 3 = .ok (.istore_n 3, 1) := by decide +kernel
theorem dX6_sketched_4 : decode cX6_sketched 4 = .ok (.iconst 0, 1) := by decide +kernel
theorem dX6_sketched_5 : decode cX6_sketched 5 = .ok (.istore 4, 2) := by decide +kernel
theorem dX6_sketched_7 : decode cX6_sketched 7 = .ok (.iload 4, 2) := by decide +kernel
theorem dX6_sketched_9 : decode cX6_sketched 9 = .ok (.bipush 6, 2) := by decide +kernel
theorem dX6_sketched_11 : decode cX6_sketched 11 = .ok (.if_icmp .ge 79, 3) := by decide +kernel
theorem dX6_sketched_14 : decode cX6_sketched 14 = .ok (.bipush 6, 2) := by decide +kernel
theorem dX6_sketched_16 : decode cX6_sketched 16 = .ok (.iload_n 1, 1) := by decide +kernel
theorem dX6_sketched_17 : decode cX6_sketched 17 = .ok (.imul, 1) := by decide +kernel
theorem dX6_sketched_18 : decode cX6_sketched 18 = .ok (.iload 4, 2) := by decide +kernel
theorem dX6_sketched_20 : decode cX6_sketched 20 = .ok (.iadd, 1) := by decide +kernel
theorem dX6_sketched_21 : decode cX6_sketched 21 = .ok (.istore 5, 2) := by decide +kernel
theorem dX6_sketched_23 : decode cX6_sketched 23 = .ok (.iconst 0, 1) := by decide +kernel
theorem dX6_sketched_24 : decode cX6_sketched 24 = .ok (.istore 6, 2) := by decide +kernel
theorem dX6_sketched_26 : decode cX6_sketched 26 = .ok (.iload 6, 2) := by decide +kernel
theorem dX6_sketched_28 : decode cX6_sketched 28 = .ok (.aload_n 0, 1) := by decide +kernel
theorem dX6_sketched_29 : decode cX6_sketched 29 = .ok (.getfield 32, 3) := by decide +kernel
theorem dX6_sketched_32 : decode cX6_sketched 32 = .ok (.iload 5, 2) := by decide +kernel
theorem dX6_sketched_34 : decode cX6_sketched 34 = .ok (.iaload, 1) := by decide +kernel
theorem dX6_sketched_35 : decode cX6_sketched 35 = .ok (.if_icmp .ge 49, 3) := by decide +kernel
theorem dX6_sketched_38 : decode cX6_sketched 38 = .ok (.aload_n 0, 1) := by decide +kernel
theorem dX6_sketched_39 : decode cX6_sketched 39 = .ok (.getfield 29, 3) := by decide +kernel
theorem dX6_sketched_42 : decode cX6_sketched 42 = .ok (.bipush 8, 2) := by decide +kernel
theorem dX6_sketched_44 : decode cX6_sketched 44 = .ok (.iload 5, 2) := by decide +kernel
theorem dX6_sketched_46 : decode cX6_sketched 46 = .ok (.imul, 1) := by decide +kernel
theorem dX6_sketched_47 : decode cX6_sketched 47 = .ok (.iload 6, 2) := by decide +kernel
theorem dX6_sketched_49 : decode cX6_sketched 49 = .ok (.iadd, 1) := by decide +kernel
theorem dX6_sketched_50 : decode cX6_sketched 50 = .ok (.iaload, 1) := by decide +kernel
theorem dX6_sketched_51 : decode cX6_sketched 51 = .ok (.istore 7, 2) := by decide +kernel
theorem dX6_sketched_53 : decode cX6_sketched 53 = .ok (.iload 7, 2) := by decide +kernel
theorem dX6_sketched_55 : decode cX6_sketched 55 = .ok (.iload_n 3, 1) := by decide +kernel
theorem dX6_sketched_56 : decode cX6_sketched 56 = .ok (.if_icmp .ge 22, 3) := by decide +kernel
theorem dX6_sketched_59 : decode cX6_sketched 59 = .ok (.aload_n 0, 1) := by decide +kernel
theorem dX6_sketched_60 : decode cX6_sketched 60 = .ok (.iload_n 1, 1) := by decide +kernel
theorem dX6_sketched_61 : decode cX6_sketched 61 = .ok (.iload 7, 2) := by decide +kernel
theorem dX6_sketched_63 : decode cX6_sketched 63 = .ok (.invokevirtual 140, 3) := by decide +kernel
theorem dX6_sketched_66 : decode cX6_sketched 66 = .ok (.aload_n 0, 1) := by decide +kernel
theorem dX6_sketched_67 : decode cX6_sketched 67 = .ok (.iload_n 1, 1) := by decide +kernel
theorem dX6_sketched_68 : decode cX6_sketched 68 = .ok (.iload_n 2, 1) := by decide +kernel
theorem dX6_sketched_69 : decode cX6_sketched 69 = .ok (.invokevirtual 143, 3) := by decide +kernel
theorem dX6_sketched_72 : decode cX6_sketched 72 = .ok (.if_icmp .lt 6, 3) := by decide +kernel
theorem dX6_sketched_75 : decode cX6_sketched 75 = .ok (.iload 7, 2) := by decide +kernel
theorem dX6_sketched_77 : decode cX6_sketched 77 = .ok (.istore_n 3, 1) := by decide +kernel
theorem dX6_sketched_78 : decode cX6_sketched 78 = .ok (.iinc 6 1, 3) := by decide +kernel
theorem dX6_sketched_81 : decode cX6_sketched 81 = .ok (.goto (-55), 3) := by decide +kernel
theorem dX6_sketched_84 : decode cX6_sketched 84 = .ok (.iinc 4 1, 3) := by decide +kernel
theorem dX6_sketched_87 : decode cX6_sketched 87 = .ok (.goto (-80), 3) := by decide +kernel
theorem dX6_sketched_90 : decode cX6_sketched 90 = .ok (.iload_n 3, 1) := by decide +kernel
theorem dX6_sketched_91 : decode cX6_sketched 91 = .ok (.ireturn, 1) := by decide +kernel
theorem dX6_upTo_0 : decode cX6_upTo 0 = .ok (.iconst 0, 1) := by decide +kernel
theorem dX6_upTo_1 : decode cX6_upTo 1 = .ok (.istore_n 3, 1) := by decide +kernel
theorem dX6_upTo_2 : decode cX6_upTo 2 = .ok (.iconst 0, 1) := by decide +kernel
theorem dX6_upTo_3 : decode cX6_upTo 3 = .ok (.istore 4, 2) := by decide +kernel
theorem dX6_upTo_5 : decode cX6_upTo 5 = .ok (.iload 4, 2) := by decide +kernel
theorem dX6_upTo_7 : decode cX6_upTo 7 = .ok (.aload_n 0, 1) := by decide +kernel
theorem dX6_upTo_8 : decode cX6_upTo 8 = .ok (.getfield 16, 3) := by decide +kernel
theorem dX6_upTo_11 : decode cX6_upTo 11 = .ok (.iload_n 1, 1) := by decide +kernel
theorem dX6_upTo_12 : decode cX6_upTo 12 = .ok (.iaload, 1) := by decide +kernel
theorem dX6_upTo_13 : decode cX6_upTo 13 = .ok (.if_icmp .ge 28, 3) := by decide +kernel
theorem dX6_upTo_16 : decode cX6_upTo 16 = .ok (.iload_n 3, 1) := by decide +kernel
theorem dX6_upTo_17 : decode cX6_upTo 17 = .ok (.aload_n 0, 1) := by decide +kernel
theorem dX6_upTo_18 : decode cX6_upTo 18 = .ok (.iload_n 1, 1) := by decide +kernel
theorem dX6_upTo_19 : decode cX6_upTo 19 = .ok (.iload 4, 2) := by decide +kernel
theorem dX6_upTo_21 : decode cX6_upTo 21 = .ok (.invokevirtual 64, 3) := by decide +kernel
theorem dX6_upTo_24 : decode cX6_upTo 24 = .ok (.iload_n 2, 1) := by decide +kernel
theorem dX6_upTo_25 : decode cX6_upTo 25 = .ok (.if_icmp .gt 7, 3) := by decide +kernel
theorem dX6_upTo_28 : decode cX6_upTo 28 = .ok (.iconst 1, 1) := by decide +kernel
theorem dX6_upTo_29 : decode cX6_upTo 29 = .ok (.goto 4, 3) := by decide +kernel
theorem dX6_upTo_32 : decode cX6_upTo 32 = .ok (.iconst 0, 1) := by decide +kernel
theorem dX6_upTo_33 : decode cX6_upTo 33 = .ok (.iadd, 1) := by decide +kernel
theorem dX6_upTo_34 : decode cX6_upTo 34 = .ok (.istore_n 3, 1) := by decide +kernel
theorem dX6_upTo_35 : decode cX6_upTo 35 = .ok (.iinc 4 1, 3) := by decide +kernel
theorem dX6_upTo_38 : decode cX6_upTo 38 = .ok (.goto (-33), 3) := by decide +kernel
theorem dX6_upTo_41 : decode cX6_upTo 41 = .ok (.iload_n 3, 1) := by decide +kernel
theorem dX6_upTo_42 : decode cX6_upTo 42 = .ok (.ireturn, 1) := by decide +kernel
theorem dX6_quantile_0 : decode cX6_quantile 0 = .ok (.aload_n 0, 1) := by decide +kernel
theorem dX6_quantile_1 : decode cX6_quantile 1 = .ok (.iload_n 1, 1) := by decide +kernel
theorem dX6_quantile_2 : decode cX6_quantile 2 = .ok (.iload_n 2, 1) := by decide +kernel
theorem dX6_quantile_3 : decode cX6_quantile 3 = .ok (.invokevirtual 146, 3) := by decide +kernel
theorem dX6_quantile_6 : decode cX6_quantile 6 = .ok (.ifCond .eq 12, 3) := by decide +kernel
theorem dX6_quantile_9 : decode cX6_quantile 9 = .ok (.aload_n 0, 1) := by decide +kernel
theorem dX6_quantile_10 : decode cX6_quantile 10 = .ok (.iload_n 1, 1) := by decide +kernel
theorem dX6_quantile_11 : decode cX6_quantile 11 = .ok (.iload_n 2, 1) := by decide +kernel
theorem dX6_quantile_12 : decode cX6_quantile 12 = .ok (.invokevirtual 149, 3) := by decide +kernel
theorem dX6_quantile_15 : decode cX6_quantile 15 = .ok (.goto 4, 3) := by decide +kernel
theorem dX6_quantile_18 : decode cX6_quantile 18 = .ok (.iconst 0, 1) := by decide +kernel
theorem dX6_quantile_19 : decode cX6_quantile 19 = .ok (.ireturn, 1) := by decide +kernel
theorem dX6_exactQuantile_0 : decode cX6_exactQuantile 0 = .ok (.aload_n 0, 1) := by decide +kernel
theorem dX6_exactQuantile_1 : decode cX6_exactQuantile 1 = .ok (.iload_n 1, 1) := by decide +kernel
theorem dX6_exactQuantile_2 : decode cX6_exactQuantile 2 = .ok (.iload_n 2, 1) := by decide +kernel
theorem dX6_exactQuantile_3 : decode cX6_exactQuantile 3 = .ok (.invokevirtual 146, 3) := by decide +kernel
theorem dX6_exactQuantile_6 : decode cX6_exactQuantile 6 = .ok (.ifCond .ne 5, 3) := by decide +kernel
theorem dX6_exactQuantile_9 : decode cX6_exactQuantile 9 = .ok (.iconst 0, 1) := by decide +kernel
theorem dX6_exactQuantile_10 : decode cX6_exactQuantile 10 = .ok (.ireturn, 1) := by decide +kernel
theorem dX6_exactQuantile_11 : decode cX6_exactQuantile 11 = .ok (.sipush 20000, 3) := by decide +kernel
theorem dX6_exactQuantile_14 : decode cX6_exactQuantile 14 = .ok (.istore_n 3, 1) := by decide +kernel
theorem dX6_exactQuantile_15 : decode cX6_exactQuantile 15 = .ok (.iconst 0, 1) := by decide +kernel
theorem dX6_exactQuantile_16 : decode cX6_exactQuantile 16 = .ok (.istore 4, 2) := by decide +kernel
theorem dX6_exactQuantile_18 : decode cX6_exactQuantile 18 = .ok (.iload 4, 2) := by decide +kernel
theorem dX6_exactQuantile_20 : decode cX6_exactQuantile 20 = .ok (.aload_n 0, 1) := by decide +kernel
theorem dX6_exactQuantile_21 : decode cX6_exactQuantile 21 = .ok (.getfield 16, 3) := by decide +kernel
theorem dX6_exactQuantile_24 : decode cX6_exactQuantile 24 = .ok (.iload_n 1, 1) := by decide +kernel
theorem dX6_exactQuantile_25 : decode cX6_exactQuantile 25 = .ok (.iaload, 1) := by decide +kernel
theorem dX6_exactQuantile_26 : decode cX6_exactQuantile 26 = .ok (.if_icmp .ge 43, 3) := by decide +kernel
theorem dX6_exactQuantile_29 : decode cX6_exactQuantile 29 = .ok (.aload_n 0, 1) := by decide +kernel
theorem dX6_exactQuantile_30 : decode cX6_exactQuantile 30 = .ok (.iload_n 1, 1) := by decide +kernel
theorem dX6_exactQuantile_31 : decode cX6_exactQuantile 31 = .ok (.iload 4, 2) := by decide +kernel
theorem dX6_exactQuantile_33 : decode cX6_exactQuantile 33 = .ok (.invokevirtual 64, 3) := by decide +kernel
theorem dX6_exactQuantile_36 : decode cX6_exactQuantile 36 = .ok (.istore 5, 2) := by decide +kernel
theorem dX6_exactQuantile_38 : decode cX6_exactQuantile 38 = .ok (.iload 5, 2) := by decide +kernel
theorem dX6_exactQuantile_40 : decode cX6_exactQuantile 40 = .ok (.iload_n 3, 1) := by decide +kernel
theorem dX6_exactQuantile_41 : decode cX6_exactQuantile 41 = .ok (.if_icmp .ge 22, 3) := by decide +kernel
theorem dX6_exactQuantile_44 : decode cX6_exactQuantile 44 = .ok (.aload_n 0, 1) := by decide +kernel
theorem dX6_exactQuantile_45 : decode cX6_exactQuantile 45 = .ok (.iload_n 1, 1) := by decide +kernel
theorem dX6_exactQuantile_46 : decode cX6_exactQuantile 46 = .ok (.iload 5, 2) := by decide +kernel
theorem dX6_exactQuantile_48 : decode cX6_exactQuantile 48 = .ok (.invokevirtual 152, 3) := by decide +kernel
theorem dX6_exactQuantile_51 : decode cX6_exactQuantile 51 = .ok (.aload_n 0, 1) := by decide +kernel
theorem dX6_exactQuantile_52 : decode cX6_exactQuantile 52 = .ok (.iload_n 1, 1) := by decide +kernel
theorem dX6_exactQuantile_53 : decode cX6_exactQuantile 53 = .ok (.iload_n 2, 1) := by decide +kernel
theorem dX6_exactQuantile_54 : decode cX6_exactQuantile 54 = .ok (.invokevirtual 143, 3) := by decide +kernel
theorem dX6_exactQuantile_57 : decode cX6_exactQuantile 57 = .ok (.if_icmp .lt 6, 3) := by decide +kernel
theorem dX6_exactQuantile_60 : decode cX6_exactQuantile 60 = .ok (.iload 5, 2) := by decide +kernel
theorem dX6_exactQuantile_62 : decode cX6_exactQuantile 62 = .ok (.istore_n 3, 1) := by decide +kernel
theorem dX6_exactQuantile_63 : decode cX6_exactQuantile 63 = .ok (.iinc 4 1, 3) := by decide +kernel
theorem dX6_exactQuantile_66 : decode cX6_exactQuantile 66 = .ok (.goto (-48), 3) := by decide +kernel
theorem dX6_exactQuantile_69 : decode cX6_exactQuantile 69 = .ok (.iload_n 3, 1) := by decide +kernel
theorem dX6_exactQuantile_70 : decode cX6_exactQuantile 70 = .ok (.ireturn, 1) := by decide +kernel
theorem dX6_bound_0 : decode cX6_bound 0 = .ok (.aload_n 0, 1) := by decide +kernel
theorem dX6_bound_1 : decode cX6_bound 1 = .ok (.iload_n 1, 1) := by decide +kernel
theorem dX6_bound_2 : decode cX6_bound 2 = .ok (.invokevirtual 83, 3) := by decide +kernel
theorem dX6_bound_5 : decode cX6_bound 5 = .ok (.ifCond .eq 12, 3) := by decide +kernel
theorem dX6_bound_8 : decode cX6_bound 8 = .ok (.aload_n 0, 1) := by decide +kernel
theorem dX6_bound_9 : decode cX6_bound 9 = .ok (.getfield 22, 3) := by decide +kernel
theorem dX6_bound_12 : decode cX6_bound 12 = .ok (.iload_n 1, 1) := by decide +kernel
theorem dX6_bound_13 : decode cX6_bound 13 = .ok (.iaload, 1) := by decide +kernel
theorem dX6_bound_14 : decode cX6_bound 14 = .ok (.goto 4, 3) := by decide +kernel
theorem dX6_bound_17 : decode cX6_bound 17 = .ok (.iconst 0, 1) := by decide +kernel
theorem dX6_bound_18 : decode cX6_bound 18 = .ok (.ireturn, 1) := by decide +kernel
theorem dX6_held_0 : decode cX6_held 0 = .ok (.aload_n 0, 1) := by decide +kernel
theorem dX6_held_1 : decode cX6_held 1 = .ok (.iload_n 1, 1) := by decide +kernel
theorem dX6_held_2 : decode cX6_held 2 = .ok (.invokevirtual 83, 3) := by decide +kernel
theorem dX6_held_5 : decode cX6_held 5 = .ok (.ifCond .ne 5, 3) := by decide +kernel
theorem dX6_held_8 : decode cX6_held 8 = .ok (.iconst 0, 1) := by decide +kernel
theorem dX6_held_9 : decode cX6_held 9 = .ok (.ireturn, 1) := by decide +kernel
theorem dX6_held_10 : decode cX6_held 10 = .ok (.iconst 0, 1) := by decide +kernel
theorem dX6_held_11 : decode cX6_held 11 = .ok (.istore_n 2, 1) := by decide +kernel
theorem dX6_held_12 : decode cX6_held 12 = .ok (.iconst 0, 1) := by decide +kernel
theorem dX6_held_13 : decode cX6_held 13 = .ok (.istore_n 3, 1) := by decide +kernel
theorem dX6_held_14 : decode cX6_held 14 = .ok (.iload_n 3, 1) := by decide +kernel
theorem dX6_held_15 : decode cX6_held 15 = .ok (.bipush 6, 2) := by decide +kernel
theorem dX6_held_17 : decode cX6_held 17 = .ok (.if_icmp .ge 23, 3) := by decide +kernel
theorem dX6_held_20 : decode cX6_held 20 = .ok (.iload_n 2, 1) := by decide +kernel
theorem dX6_held_21 : decode cX6_held 21 = .ok (.aload_n 0, 1) := by decide +kernel
theorem dX6_held_22 : decode cX6_held 22 = .ok (.getfield 32, 3) := by decide +kernel
theorem dX6_held_25 : decode cX6_held 25 = .ok (.bipush 6, 2) := by decide +kernel
theorem dX6_held_27 : decode cX6_held 27 = .ok (.iload_n 1, 1) := by decide +kernel
theorem dX6_held_28 : decode cX6_held 28 = .ok (.imul, 1) := by decide +kernel
theorem dX6_held_29 : decode cX6_held 29 = .ok (.iload_n 3, 1) := by decide +kernel
theorem dX6_held_30 : decode cX6_held 30 = .ok (.iadd, 1) := by decide +kernel
theorem dX6_held_31 : decode cX6_held 31 = .ok (.iaload, 1) := by decide +kernel
theorem dX6_held_32 : decode cX6_held 32 = .ok (.iadd, 1) := by decide +kernel
theorem dX6_held_33 : decode cX6_held 33 = .ok (.istore_n 2, 1) := by decide +kernel
theorem dX6_held_34 : decode cX6_held 34 = .ok (.iinc 3 1, 3) := by decide +kernel
theorem dX6_held_37 : decode cX6_held 37 = .ok (.goto (-23), 3) := by decide +kernel
theorem dX6_held_40 : decode cX6_held 40 = .ok (.iload_n 2, 1) := by decide +kernel
theorem dX6_held_41 : decode cX6_held 41 = .ok (.ireturn, 1) := by decide +kernel
theorem dX6_isWithin_0 : decode cX6_isWithin 0 = .ok (.aload_n 0, 1) := by decide +kernel
theorem dX6_isWithin_1 : decode cX6_isWithin 1 = .ok (.iload_n 1, 1) := by decide +kernel
theorem dX6_isWithin_2 : decode cX6_isWithin 2 = .ok (.iload_n 2, 1) := by decide +kernel
theorem dX6_isWithin_3 : decode cX6_isWithin 3 = .ok (.invokevirtual 146, 3) := by decide +kernel
theorem dX6_isWithin_6 : decode cX6_isWithin 6 = .ok (.ifCond .ne 5, 3) := by decide +kernel
theorem dX6_isWithin_9 : decode cX6_isWithin 9 = .ok (.iconst 0, 1) := by decide +kernel
theorem dX6_isWithin_10 : decode cX6_isWithin 10 = .ok (.ireturn, 1) := by decide +kernel
theorem dX6_isWithin_11 : decode cX6_isWithin 11 = .ok (.aload_n 0, 1) := by decide +kernel
theorem dX6_isWithin_12 : decode cX6_isWithin 12 = .ok (.iload_n 1, 1) := by decide +kernel
theorem dX6_isWithin_13 : decode cX6_isWithin 13 = .ok (.iload_n 2, 1) := by decide +kernel
theorem dX6_isWithin_14 : decode cX6_isWithin 14 = .ok (.invokevirtual 149, 3) := by decide +kernel
theorem dX6_isWithin_17 : decode cX6_isWithin 17 = .ok (.istore_n 3, 1) := by decide +kernel
theorem dX6_isWithin_18 : decode cX6_isWithin 18 = .ok (.aload_n 0, 1) := by decide +kernel
theorem dX6_isWithin_19 : decode cX6_isWithin 19 = .ok (.iload_n 1, 1) := by decide +kernel
theorem dX6_isWithin_20 : decode cX6_isWithin 20 = .ok (.iload_n 2, 1) := by decide +kernel
theorem dX6_isWithin_21 : decode cX6_isWithin 21 = .ok (.invokevirtual 143, 3) := by decide +kernel
theorem dX6_isWithin_24 : decode cX6_isWithin 24 = .ok (.istore 4, 2) := by decide +kernel
theorem dX6_isWithin_26 : decode cX6_isWithin 26 = .ok (.aload_n 0, 1) := by decide +kernel
theorem dX6_isWithin_27 : decode cX6_isWithin 27 = .ok (.iload_n 1, 1) := by decide +kernel
theorem dX6_isWithin_28 : decode cX6_isWithin 28 = .ok (.iload_n 3, 1) := by decide +kernel
theorem dX6_isWithin_29 : decode cX6_isWithin 29 = .ok (.invokevirtual 152, 3) := by decide +kernel
theorem dX6_isWithin_32 : decode cX6_isWithin 32 = .ok (.iload 4, 2) := by decide +kernel
theorem dX6_isWithin_34 : decode cX6_isWithin 34 = .ok (.aload_n 0, 1) := by decide +kernel
theorem dX6_isWithin_35 : decode cX6_isWithin 35 = .ok (.getfield 22, 3) := by decide +kernel
theorem dX6_isWithin_38 : decode cX6_isWithin 38 = .ok (.iload_n 1, 1) := by decide +kernel
theorem dX6_isWithin_39 : decode cX6_isWithin 39 = .ok (.iaload, 1) := by decide +kernel
theorem dX6_isWithin_40 : decode cX6_isWithin 40 = .ok (.isub, 1) := by decide +kernel
theorem dX6_isWithin_41 : decode cX6_isWithin 41 = .ok (.if_icmp .lt 27, 3) := by decide +kernel
theorem dX6_isWithin_44 : decode cX6_isWithin 44 = .ok (.aload_n 0, 1) := by decide +kernel
theorem dX6_isWithin_45 : decode cX6_isWithin 45 = .ok (.iload_n 1, 1) := by decide +kernel
theorem dX6_isWithin_46 : decode cX6_isWithin 46 = .ok (.iload_n 3, 1) := by decide +kernel
theorem dX6_isWithin_47 : decode cX6_isWithin 47 = .ok (.iconst 1, 1) := by decide +kernel
theorem dX6_isWithin_48 : decode cX6_isWithin 48 = .ok (.isub, 1) := by decide +kernel
theorem dX6_isWithin_49 : decode cX6_isWithin 49 = .ok (.invokevirtual 152, 3) := by decide +kernel
theorem dX6_isWithin_52 : decode cX6_isWithin 52 = .ok (.iload 4, 2) := by decide +kernel
theorem dX6_isWithin_54 : decode cX6_isWithin 54 = .ok (.aload_n 0, 1) := by decide +kernel
theorem dX6_isWithin_55 : decode cX6_isWithin 55 = .ok (.getfield 22, 3) := by decide +kernel
theorem dX6_isWithin_58 : decode cX6_isWithin 58 = .ok (.iload_n 1, 1) := by decide +kernel
theorem dX6_isWithin_59 : decode cX6_isWithin 59 = .ok (.iaload, 1) := by decide +kernel
theorem dX6_isWithin_60 : decode cX6_isWithin 60 = .ok (.iadd, 1) := by decide +kernel
theorem dX6_isWithin_61 : decode cX6_isWithin 61 = .ok (.if_icmp .ge 7, 3) := by decide +kernel
theorem dX6_isWithin_64 : decode cX6_isWithin 64 = .ok (.iconst 1, 1) := by decide +kernel
theorem dX6_isWithin_65 : decode cX6_isWithin 65 = .ok (.goto 4, 3) := by decide +kernel
theorem dX6_isWithin_68 : decode cX6_isWithin 68 = .ok (.iconst 0, 1) := by decide +kernel
theorem dX6_isWithin_69 : decode cX6_isWithin 69 = .ok (.ireturn, 1) := by decide +kernel
theorem dX6_state_0 : decode cX6_state 0 = .ok (.aload_n 0, 1) := by decide +kernel
theorem dX6_state_1 : decode cX6_state 1 = .ok (.getfield 47, 3) := by decide +kernel
theorem dX6_state_4 : decode cX6_state 4 = .ok (.iload_n 1, 1) := by decide +kernel
theorem dX6_state_5 : decode cX6_state 5 = .ok (.iaload, 1) := by decide +kernel
theorem dX6_state_6 : decode cX6_state 6 = .ok (.ifCond .ne 8, 3) := by decide +kernel
theorem dX6_state_9 : decode cX6_state 9 = .ok (.bipush 111, 2) := by decide +kernel
theorem dX6_state_11 : decode cX6_state 11 = .ok (.goto 32, 3) := by decide +kernel
theorem dX6_state_14 : decode cX6_state 14 = .ok (.aload_n 0, 1) := by decide +kernel
theorem dX6_state_15 : decode cX6_state 15 = .ok (.getfield 75, 3) := by decide +kernel
theorem dX6_state_18 : decode cX6_state 18 = .ok (.aload_n 0, 1) := by decide +kernel
theorem dX6_state_19 : decode cX6_state 19 = .ok (.getfield 50, 3) := by decide +kernel
theorem dX6_state_22 : decode cX6_state 22 = .ok (.iload_n 1, 1) := by decide +kernel
theorem dX6_state_23 : decode cX6_state 23 = .ok (.laload, 1) := by decide +kernel
theorem dX6_state_24 : decode cX6_state 24 = .ok (.lsub, 1) := by decide +kernel
theorem dX6_state_25 : decode cX6_state 25 = .ok (.aload_n 0, 1) := by decide +kernel
theorem dX6_state_26 : decode cX6_state 26 = .ok (.getfield 44, 3) := by decide +kernel
theorem dX6_state_29 : decode cX6_state 29 = .ok (.iload_n 1, 1) := by decide +kernel
theorem dX6_state_30 : decode cX6_state 30 = .ok (.iaload, 1) := by decide +kernel
theorem dX6_state_31 : decode cX6_state 31 = .ok (.i2l, 1) := by decide +kernel
theorem dX6_state_32 : decode cX6_state 32 = .ok (.lcmp, 1) := by decide +kernel
theorem dX6_state_33 : decode cX6_state 33 = .ok (.ifCond .lt 8, 3) := by decide +kernel
theorem dX6_state_36 : decode cX6_state 36 = .ok (.bipush 102, 2) := by decide +kernel
theorem dX6_state_38 : decode cX6_state 38 = .ok (.goto 5, 3) := by decide +kernel
theorem dX6_state_41 : decode cX6_state 41 = .ok (.bipush 112, 2) := by decide +kernel
theorem dX6_state_43 : decode cX6_state 43 = .ok (.ireturn, 1) := by decide +kernel
theorem dX6_setAlert_0 : decode cX6_setAlert 0 = .ok (.aload_n 0, 1) := by decide +kernel
theorem dX6_setAlert_1 : decode cX6_setAlert 1 = .ok (.iload_n 1, 1) := by decide +kernel
theorem dX6_setAlert_2 : decode cX6_setAlert 2 = .ok (.invokevirtual 83, 3) := by decide +kernel
theorem dX6_setAlert_5 : decode cX6_setAlert 5 = .ok (.ifCond .ne 6, 3) := by decide +kernel
theorem dX6_setAlert_8 : decode cX6_setAlert 8 = .ok (.bipush 111, 2) := by decide +kernel
theorem dX6_setAlert_10 : decode cX6_setAlert 10 = .ok (.ireturn, 1) := by decide +kernel
theorem dX6_setAlert_11 : decode cX6_setAlert 11 = .ok (.aload_n 0, 1) := by decide +kernel
theorem dX6_setAlert_12 : decode cX6_setAlert 12 = .ok (.iload_n 2, 1) := by decide +kernel
theorem dX6_setAlert_13 : decode cX6_setAlert 13 = .ok (.sipush (-10000), 3) := by decide +kernel
theorem dX6_setAlert_16 : decode cX6_setAlert 16 = .ok (.sipush 10000, 3) := by decide +kernel
theorem dX6_setAlert_19 : decode cX6_setAlert 19 = .ok (.invokestatic 60, 3) := by decide +kernel
theorem dX6_setAlert_22 : decode cX6_setAlert 22 = .ok (.ifCond .eq 18, 3) := by decide +kernel
theorem dX6_setAlert_25 : decode cX6_setAlert 25 = .ok (.iload_n 3, 1) := by decide +kernel
theorem dX6_setAlert_26 : decode cX6_setAlert 26 = .ok (.iconst 0, 1) := by decide +kernel
theorem dX6_setAlert_27 : decode cX6_setAlert 27 = .ok (.sipush 600, 3) := by decide +kernel
theorem dX6_setAlert_30 : decode cX6_setAlert 30 = .ok (.invokestatic 60, 3) := by decide +kernel
theorem dX6_setAlert_33 : decode cX6_setAlert 33 = .ok (.ifCond .eq 7, 3) := by decide +kernel
theorem dX6_setAlert_36 : decode cX6_setAlert 36 = .ok (.iconst 0, 1) := by decide +kernel
theorem dX6_setAlert_37 : decode cX6_setAlert 37 = .ok (.goto 4, 3) := by decide +kernel
theorem dX6_setAlert_40 : decode cX6_setAlert 40 = .ok (.iconst 2, 1) := by decide +kernel
theorem dX6_setAlert_41 : decode cX6_setAlert 41 = .ok (.putfield 53, 3) := by decide +kernel
theorem dX6_setAlert_44 : decode cX6_setAlert 44 = .ok (.aload_n 0, 1) := by decide +kernel
theorem dX6_setAlert_45 : decode cX6_setAlert 45 = .ok (.getfield 53, 3) := by decide +kernel
theorem dX6_setAlert_48 : decode cX6_setAlert 48 = .ok (.ifCond .eq 6, 3) := by decide +kernel
theorem dX6_setAlert_51 : decode cX6_setAlert 51 = .ok (.bipush 111, 2) := by decide +kernel
theorem dX6_setAlert_53 : decode cX6_setAlert 53 = .ok (.ireturn, 1) := by decide +kernel
theorem dX6_setAlert_54 : decode cX6_setAlert 54 = .ok (.aload_n 0, 1) := by decide +kernel
theorem dX6_setAlert_55 : decode cX6_setAlert 55 = .ok (.getfield 38, 3) := by decide +kernel
theorem dX6_setAlert_58 : decode cX6_setAlert 58 = .ok (.iload_n 1, 1) := by decide +kernel
theorem dX6_setAlert_59 : decode cX6_setAlert 59 = .ok (.iconst 1, 1) := by decide +kernel
theorem dX6_setAlert_60 : decode cX6_setAlert 60 = .ok (.iastore, 1) := by decide +kernel
theorem dX6_setAlert_61 : decode cX6_setAlert 61 = .ok (.aload_n 0, 1) := by decide +kernel
theorem dX6_setAlert_62 : decode cX6_setAlert 62 = .ok (.getfield 41, 3) := by decide +kernel
theorem dX6_setAlert_65 : decode cX6_setAlert 65 = .ok (.iload_n 1, 1) := by decide +kernel
theorem dX6_setAlert_66 : decode cX6_setAlert 66 = .ok (.iload_n 2, 1) := by decide +kernel
theorem dX6_setAlert_67 : decode cX6_setAlert 67 = .ok (.iastore, 1) := by decide +kernel
theorem dX6_setAlert_68 : decode cX6_setAlert 68 = .ok (.aload_n 0, 1) := by decide +kernel
theorem dX6_setAlert_69 : decode cX6_setAlert 69 = .ok (.getfield 44, 3) := by decide +kernel
theorem dX6_setAlert_72 : decode cX6_setAlert 72 = .ok (.iload_n 1, 1) := by decide +kernel
theorem dX6_setAlert_73 : decode cX6_setAlert 73 = .ok (.iload_n 3, 1) := by decide +kernel
theorem dX6_setAlert_74 : decode cX6_setAlert 74 = .ok (.iastore, 1) := by decide +kernel
theorem dX6_setAlert_75 : decode cX6_setAlert 75 = .ok (.aload_n 0, 1) := by decide +kernel
theorem dX6_setAlert_76 : decode cX6_setAlert 76 = .ok (.getfield 47, 3) := by decide +kernel
theorem dX6_setAlert_79 : decode cX6_setAlert 79 = .ok (.iload_n 1, 1) := by decide +kernel
theorem dX6_setAlert_80 : decode cX6_setAlert 80 = .ok (.aload_n 0, 1) := by decide +kernel
theorem dX6_setAlert_81 : decode cX6_setAlert 81 = .ok (.getfield 16, 3) := by decide +kernel
theorem dX6_setAlert_84 : decode cX6_setAlert 84 = .ok (.iload_n 1, 1) := by decide +kernel
theorem dX6_setAlert_85 : decode cX6_setAlert 85 = .ok (.iaload, 1) := by decide +kernel
theorem dX6_setAlert_86 : decode cX6_setAlert 86 = .ok (.ifCond .le 16, 3) := by decide +kernel
theorem dX6_setAlert_89 : decode cX6_setAlert 89 = .ok (.aload_n 0, 1) := by decide +kernel
theorem dX6_setAlert_90 : decode cX6_setAlert 90 = .ok (.iload_n 1, 1) := by decide +kernel
theorem dX6_setAlert_91 : decode cX6_setAlert 91 = .ok (.invokevirtual 95, 3) := by decide +kernel
theorem dX6_setAlert_94 : decode cX6_setAlert 94 = .ok (.iload_n 2, 1) := by decide +kernel
theorem dX6_setAlert_95 : decode cX6_setAlert 95 = .ok (.if_icmp .le 7, 3) := by decide +kernel
theorem dX6_setAlert_98 : decode cX6_setAlert 98 = .ok (.iconst 1, 1) := by decide +kernel
theorem dX6_setAlert_99 : decode cX6_setAlert 99 = .ok (.goto 4, 3) := by decide +kernel
theorem dX6_setAlert_102 : decode cX6_setAlert 102 = .ok (.iconst 0, 1) := by decide +kernel
theorem dX6_setAlert_103 : decode cX6_setAlert 103 = .ok (.iastore, 1) := by decide +kernel
theorem dX6_setAlert_104 : decode cX6_setAlert 104 = .ok (.aload_n 0, 1) := by decide +kernel
theorem dX6_setAlert_105 : decode cX6_setAlert 105 = .ok (.getfield 50, 3) := by decide +kernel
theorem dX6_setAlert_108 : decode cX6_setAlert 108 = .ok (.iload_n 1, 1) := by decide +kernel
theorem dX6_setAlert_109 : decode cX6_setAlert 109 = .ok (.aload_n 0, 1) := by decide +kernel
theorem dX6_setAlert_110 : decode cX6_setAlert 110 = .ok (.getfield 75, 3) := by decide +kernel
theorem dX6_setAlert_113 : decode cX6_setAlert 113 = .ok (.lastore, 1) := by decide +kernel
theorem dX6_setAlert_114 : decode cX6_setAlert 114 = .ok (.aload_n 0, 1) := by decide +kernel
theorem dX6_setAlert_115 : decode cX6_setAlert 115 = .ok (.iload_n 1, 1) := by decide +kernel
theorem dX6_setAlert_116 : decode cX6_setAlert 116 = .ok (.invokevirtual 155, 3) := by decide +kernel
theorem dX6_setAlert_119 : decode cX6_setAlert 119 = .ok (.ireturn, 1) := by decide +kernel
theorem dX6_isSet_0 : decode cX6_isSet 0 = .ok (.aload_n 0, 1) := by decide +kernel
theorem dX6_isSet_1 : decode cX6_isSet 1 = .ok (.iload_n 1, 1) := by decide +kernel
theorem dX6_isSet_2 : decode cX6_isSet 2 = .ok (.invokevirtual 83, 3) := by decide +kernel
theorem dX6_isSet_5 : decode cX6_isSet 5 = .ok (.ifCond .eq 17, 3) := by decide +kernel
theorem dX6_isSet_8 : decode cX6_isSet 8 = .ok (.aload_n 0, 1) := by decide +kernel
theorem dX6_isSet_9 : decode cX6_isSet 9 = .ok (.getfield 38, 3) := by decide +kernel
theorem dX6_isSet_12 : decode cX6_isSet 12 = .ok (.iload_n 1, 1) := by decide +kernel
theorem dX6_isSet_13 : decode cX6_isSet 13 = .ok (.iaload, 1) := by decide +kernel
theorem dX6_isSet_14 : decode cX6_isSet 14 = .ok (.ifCond .ne 8, 3) := by decide +kernel
theorem dX6_isSet_17 : decode cX6_isSet 17 = .ok (.aload_n 0, 1) := by decide +kernel
theorem dX6_isSet_18 : decode cX6_isSet 18 = .ok (.iconst 2, 1) := by decide +kernel
theorem dX6_isSet_19 : decode cX6_isSet 19 = .ok (.putfield 53, 3) := by decide +kernel
theorem dX6_isSet_22 : decode cX6_isSet 22 = .ok (.aload_n 0, 1) := by decide +kernel
theorem dX6_isSet_23 : decode cX6_isSet 23 = .ok (.getfield 53, 3) := by decide +kernel
theorem dX6_isSet_26 : decode cX6_isSet 26 = .ok (.ifCond .ne 7, 3) := by decide +kernel
theorem dX6_isSet_29 : decode cX6_isSet 29 = .ok (.iconst 1, 1) := by decide +kernel
theorem dX6_isSet_30 : decode cX6_isSet 30 = .ok (.goto 4, 3) := by decide +kernel
theorem dX6_isSet_33 : decode cX6_isSet 33 = .ok (.iconst 0, 1) := by decide +kernel
theorem dX6_isSet_34 : decode cX6_isSet 34 = .ok (.ireturn, 1) := by decide +kernel
theorem dX6_removeAlert_0 : decode cX6_removeAlert 0 = .ok (.aload_n 0, 1) := by decide +kernel
theorem dX6_removeAlert_1 : decode cX6_removeAlert 1 = .ok (.iload_n 1, 1) := by decide +kernel
theorem dX6_removeAlert_2 : decode cX6_removeAlert 2 = .ok (.invokevirtual 159, 3) := by decide +kernel
theorem dX6_removeAlert_5 : decode cX6_removeAlert 5 = .ok (.ifCond .ne 6, 3) := by decide +kernel
theorem dX6_removeAlert_8 : decode cX6_removeAlert 8 = .ok (.bipush 111, 2) := by decide +kernel
theorem dX6_removeAlert_10 : decode cX6_removeAlert 10 = .ok (.ireturn, 1) := by decide +kernel
theorem dX6_removeAlert_11 : decode cX6_removeAlert 11 = .ok (.aload_n 0, 1) := by decide +kernel
theorem dX6_removeAlert_12 : decode cX6_removeAlert 12 = .ok (.iload_n 1, 1) := by decide +kernel
theorem dX6_removeAlert_13 : decode cX6_removeAlert 13 = .ok (.invokevirtual 155, 3) := by decide +kernel
theorem dX6_removeAlert_16 : decode cX6_removeAlert 16 = .ok (.istore_n 2, 1) := by decide +kernel
theorem dX6_removeAlert_17 : decode cX6_removeAlert 17 = .ok (.aload_n 0, 1) := by decide +kernel
theorem dX6_removeAlert_18 : decode cX6_removeAlert 18 = .ok (.getfield 38, 3) := by decide +kernel
theorem dX6_removeAlert_21 : decode cX6_removeAlert 21 = .ok (.iload_n 1, 1) := by decide +kernel
theorem dX6_removeAlert_22 : decode cX6_removeAlert 22 = .ok (.iconst 0, 1) := by decide +kernel
theorem dX6_removeAlert_23 : decode cX6_removeAlert 23 = .ok (.iastore, 1) := by decide +kernel
theorem dX6_removeAlert_24 : decode cX6_removeAlert 24 = .ok (.aload_n 0, 1) := by decide +kernel
theorem dX6_removeAlert_25 : decode cX6_removeAlert 25 = .ok (.getfield 47, 3) := by decide +kernel
theorem dX6_removeAlert_28 : decode cX6_removeAlert 28 = .ok (.iload_n 1, 1) := by decide +kernel
theorem dX6_removeAlert_29 : decode cX6_removeAlert 29 = .ok (.iconst 0, 1) := by decide +kernel
theorem dX6_removeAlert_30 : decode cX6_removeAlert 30 = .ok (.iastore, 1) := by decide +kernel
theorem dX6_removeAlert_31 : decode cX6_removeAlert 31 = .ok (.iload_n 2, 1) := by decide +kernel
theorem dX6_removeAlert_32 : decode cX6_removeAlert 32 = .ok (.ireturn, 1) := by decide +kernel
theorem dX6_alertOf_0 : decode cX6_alertOf 0 = .ok (.aload_n 0, 1) := by decide +kernel
theorem dX6_alertOf_1 : decode cX6_alertOf 1 = .ok (.iload_n 1, 1) := by decide +kernel
theorem dX6_alertOf_2 : decode cX6_alertOf 2 = .ok (.invokevirtual 159, 3) := by decide +kernel
theorem dX6_alertOf_5 : decode cX6_alertOf 5 = .ok (.ifCond .eq 11, 3) := by decide +kernel
theorem dX6_alertOf_8 : decode cX6_alertOf 8 = .ok (.aload_n 0, 1) := by decide +kernel
theorem dX6_alertOf_9 : decode cX6_alertOf 9 = .ok (.iload_n 1, 1) := by decide +kernel
theorem dX6_alertOf_10 : decode cX6_alertOf 10 = .ok (.invokevirtual 155, 3) := by decide +kernel
theorem dX6_alertOf_13 : decode cX6_alertOf 13 = .ok (.goto 5, 3) := by decide +kernel
theorem dX6_alertOf_16 : decode cX6_alertOf 16 = .ok (.bipush 111, 2) := by decide +kernel
theorem dX6_alertOf_18 : decode cX6_alertOf 18 = .ok (.ireturn, 1) := by decide +kernel
theorem dX6_firing_0 : decode cX6_firing 0 = .ok (.aload_n 0, 1) := by decide +kernel
theorem dX6_firing_1 : decode cX6_firing 1 = .ok (.iconst 0, 1) := by decide +kernel
theorem dX6_firing_2 : decode cX6_firing 2 = .ok (.putfield 53, 3) := by decide +kernel
theorem dX6_firing_5 : decode cX6_firing 5 = .ok (.iconst 0, 1) := by decide +kernel
theorem dX6_firing_6 : decode cX6_firing 6 = .ok (.istore_n 1, 1) := by decide +kernel
theorem dX6_firing_7 : decode cX6_firing 7 = .ok (.iconst 0, 1) := by decide +kernel
theorem dX6_firing_8 : decode cX6_firing 8 = .ok (.istore_n 2, 1) := by decide +kernel
theorem dX6_firing_9 : decode cX6_firing 9 = .ok (.iload_n 2, 1) := by decide +kernel
theorem dX6_firing_10 : decode cX6_firing 10 = .ok (.aload_n 0, 1) := by decide +kernel
theorem dX6_firing_11 : decode cX6_firing 11 = .ok (.getfield 57, 3) := by decide +kernel
theorem dX6_firing_14 : decode cX6_firing 14 = .ok (.if_icmp .ge 37, 3) := by decide +kernel
theorem dX6_firing_17 : decode cX6_firing 17 = .ok (.iload_n 1, 1) := by decide +kernel
theorem dX6_firing_18 : decode cX6_firing 18 = .ok (.aload_n 0, 1) := by decide +kernel
theorem dX6_firing_19 : decode cX6_firing 19 = .ok (.getfield 38, 3) := by decide +kernel
theorem dX6_firing_22 : decode cX6_firing 22 = .ok (.iload_n 2, 1) := by decide +kernel
theorem dX6_firing_23 : decode cX6_firing 23 = .ok (.iaload, 1) := by decide +kernel
theorem dX6_firing_24 : decode cX6_firing 24 = .ok (.iconst 1, 1) := by decide +kernel
theorem dX6_firing_25 : decode cX6_firing 25 = .ok (.if_icmp .ne 17, 3) := by decide +kernel
theorem dX6_firing_28 : decode cX6_firing 28 = .ok (.aload_n 0, 1) := by decide +kernel
theorem dX6_firing_29 : decode cX6_firing 29 = .ok (.iload_n 2, 1) := by decide +kernel
theorem dX6_firing_30 : decode cX6_firing 30 = .ok (.invokevirtual 155, 3) := by decide +kernel
theorem dX6_firing_33 : decode cX6_firing 33 = .ok (.bipush 102, 2) := by decide +kernel
theorem dX6_firing_35 : decode cX6_firing 35 = .ok (.if_icmp .ne 7, 3) := by decide +kernel
theorem dX6_firing_38 : decode cX6_firing 38 = .ok (.iconst 1, 1) := by decide +kernel
theorem dX6_firing_39 : decode cX6_firing 39 = .ok (.goto 4, 3) := by decide +kernel
theorem dX6_firing_42 : decode cX6_firing 42 = .ok (.iconst 0, 1) := by decide +kernel
theorem dX6_firing_43 : decode cX6_firing 43 = .ok (.iadd, 1) := by decide +kernel
theorem dX6_firing_44 : decode cX6_firing 44 = .ok (.istore_n 1, 1) := by decide +kernel
theorem dX6_firing_45 : decode cX6_firing 45 = .ok (.iinc 2 1, 3) := by decide +kernel
theorem dX6_firing_48 : decode cX6_firing 48 = .ok (.goto (-39), 3) := by decide +kernel
theorem dX6_firing_51 : decode cX6_firing 51 = .ok (.iload_n 1, 1) := by decide +kernel
theorem dX6_firing_52 : decode cX6_firing 52 = .ok (.ireturn, 1) := by decide +kernel
theorem dX6_joined_0 : decode cX6_joined 0 = .ok (.lconst 0, 1) := by decide +kernel
theorem dX6_joined_1 : decode cX6_joined 1 = .ok (.lstore 4, 2) := by decide +kernel
theorem dX6_joined_3 : decode cX6_joined 3 = .ok (.iconst 0, 1) := by decide +kernel
theorem dX6_joined_4 : decode cX6_joined 4 = .ok (.istore 6, 2) := by decide +kernel
theorem dX6_joined_6 : decode cX6_joined 6 = .ok (.iload 6, 2) := by decide +kernel
theorem dX6_joined_8 : decode cX6_joined 8 = .ok (.bipush 10, 2) := by decide +kernel
theorem dX6_joined_10 : decode cX6_joined 10 = .ok (.if_icmp .ge 88, 3) := by decide +kernel
theorem dX6_joined_13 : decode cX6_joined 13 = .ok (.aload_n 0, 1) := by decide +kernel
theorem dX6_joined_14 : decode cX6_joined 14 = .ok (.iload_n 1, 1) := by decide +kernel
theorem dX6_joined_15 : decode cX6_joined 15 = .ok (.iload 6, 2) := by decide +kernel
theorem dX6_joined_17 : decode cX6_joined 17 = .ok (.invokevirtual 72, 3) := by decide +kernel
theorem dX6_joined_20 : decode cX6_joined 20 = .ok (.istore 7, 2) := by decide +kernel
theorem dX6_joined_22 : decode cX6_joined 22 = .ok (.aload_n 0, 1) := by decide +kernel
theorem dX6_joined_23 : decode cX6_joined 23 = .ok (.iload_n 2, 1) := by decide +kernel
theorem dX6_joined_24 : decode cX6_joined 24 = .ok (.iload 6, 2) := by decide +kernel
theorem dX6_joined_26 : decode cX6_joined 26 = .ok (.invokevirtual 72, 3) := by decide +kernel
theorem dX6_joined_29 : decode cX6_joined 29 = .ok (.istore 8, 2) := by decide +kernel
theorem dX6_joined_31 : decode cX6_joined 31 = .ok (.iload 7, 2) := by decide +kernel
theorem dX6_joined_33 : decode cX6_joined 33 = .ok (.ifCond .lt 59, 3) := by decide +kernel
theorem dX6_joined_36 : decode cX6_joined 36 = .ok (.iload 8, 2) := by decide +kernel
theorem dX6_joined_38 : decode cX6_joined 38 = .ok (.ifCond .lt 54, 3) := by decide +kernel
theorem dX6_joined_41 : decode cX6_joined 41 = .ok (.aload_n 0, 1) := by decide +kernel
theorem dX6_joined_42 : decode cX6_joined 42 = .ok (.getfield 16, 3) := by decide +kernel
theorem dX6_joined_45 : decode cX6_joined 45 = .ok (.iload 7, 2) := by decide +kernel
theorem dX6_joined_47 : decode cX6_joined 47 = .ok (.iaload, 1) := by decide +kernel
theorem dX6_joined_48 : decode cX6_joined 48 = .ok (.ifCond .eq 44, 3) := by decide +kernel
theorem dX6_joined_51 : decode cX6_joined 51 = .ok (.aload_n 0, 1) := by decide +kernel
theorem dX6_joined_52 : decode cX6_joined 52 = .ok (.getfield 16, 3) := by decide +kernel
theorem dX6_joined_55 : decode cX6_joined 55 = .ok (.iload 8, 2) := by decide +kernel
theorem dX6_joined_57 : decode cX6_joined 57 = .ok (.iaload, 1) := by decide +kernel
theorem dX6_joined_58 : decode cX6_joined 58 = .ok (.ifCond .ne 6, 3) := by decide +kernel
theorem dX6_joined_61 : decode cX6_joined 61 = .ok (.goto 31, 3) := by decide +kernel
theorem dX6_joined_64 : decode cX6_joined 64 = .ok (.lload 4, 2) := by decide +kernel
theorem dX6_joined_66 : decode cX6_joined 66 = .ok (.iload_n 3, 1) := by decide +kernel
theorem dX6_joined_67 : decode cX6_joined 67 = .ok (.ifCond .eq 21, 3) := by decide +kernel
theorem dX6_joined_70 : decode cX6_joined 70 = .ok (.aload_n 0, 1) := by decide +kernel
theorem dX6_joined_71 : decode cX6_joined 71 = .ok (.iload 7, 2) := by decide +kernel
theorem dX6_joined_73 : decode cX6_joined 73 = .ok (.invokevirtual 95, 3) := by decide +kernel
theorem dX6_joined_76 : decode cX6_joined 76 = .ok (.i2l, 1) := by decide +kernel
theorem dX6_joined_77 : decode cX6_joined 77 = .ok (.aload_n 0, 1) := by decide +kernel
theorem dX6_joined_78 : decode cX6_joined 78 = .ok (.iload 8, 2) := by decide +kernel
theorem dX6_joined_80 : decode cX6_joined 80 = .ok (.invokevirtual 95, 3) := by decide +kernel
theorem dX6_joined_83 : decode cX6_joined 83 = .ok (.i2l, 1) := by decide +kernel
theorem dX6_joined_84 : decode cX6_joined 84 = .ok (.lmul, 1) := by decide +kernel
theorem dX6_joined_85 : decode cX6_joined 85 = .ok (.goto 4, 3) := by decide +kernel
theorem dX6_joined_88 : decode cX6_joined 88 = .ok (.lconst 1, 1) := by decide +kernel
theorem dX6_joined_89 : decode cX6_joined 89 = .ok (.ladd, 1) := by decide +kernel
theorem dX6_joined_90 : decode cX6_joined 90 = .ok (.lstore 4, 2) := by decide +kernel
theorem dX6_joined_92 : decode cX6_joined 92 = .ok (.iinc 6 1, 3) := by decide +kernel
theorem dX6_joined_95 : decode cX6_joined 95 = .ok (.goto (-89), 3) := by decide +kernel
theorem dX6_joined_98 : decode cX6_joined 98 = .ok (.lload 4, 2) := by decide +kernel
theorem dX6_joined_100 : decode cX6_joined 100 = .ok (.lreturn, 1) := by decide +kernel
theorem dX6_areNames_0 : decode cX6_areNames 0 = .ok (.aload_n 0, 1) := by decide +kernel
theorem dX6_areNames_1 : decode cX6_areNames 1 = .ok (.iload_n 1, 1) := by decide +kernel
theorem dX6_areNames_2 : decode cX6_areNames 2 = .ok (.iconst 0, 1) := by decide +kernel
theorem dX6_areNames_3 : decode cX6_areNames 3 = .ok (.bipush 9, 2) := by decide +kernel
theorem dX6_areNames_5 : decode cX6_areNames 5 = .ok (.invokestatic 60, 3) := by decide +kernel
theorem dX6_areNames_8 : decode cX6_areNames 8 = .ok (.ifCond .eq 17, 3) := by decide +kernel
theorem dX6_areNames_11 : decode cX6_areNames 11 = .ok (.iload_n 2, 1) := by decide +kernel
theorem dX6_areNames_12 : decode cX6_areNames 12 = .ok (.iconst 0, 1) := by decide +kernel
theorem dX6_areNames_13 : decode cX6_areNames 13 = .ok (.bipush 9, 2) := by decide +kernel
theorem dX6_areNames_15 : decode cX6_areNames 15 = .ok (.invokestatic 60, 3) := by decide +kernel
theorem dX6_areNames_18 : decode cX6_areNames 18 = .ok (.ifCond .eq 7, 3) := by decide +kernel
theorem dX6_areNames_21 : decode cX6_areNames 21 = .ok (.iconst 0, 1) := by decide +kernel
theorem dX6_areNames_22 : decode cX6_areNames 22 = .ok (.goto 4, 3) := by decide +kernel
theorem dX6_areNames_25 : decode cX6_areNames 25 = .ok (.iconst 1, 1) := by decide +kernel
theorem dX6_areNames_26 : decode cX6_areNames 26 = .ok (.putfield 53, 3) := by decide +kernel
theorem dX6_areNames_29 : decode cX6_areNames 29 = .ok (.aload_n 0, 1) := by decide +kernel
theorem dX6_areNames_30 : decode cX6_areNames 30 = .ok (.getfield 53, 3) := by decide +kernel
theorem dX6_areNames_33 : decode cX6_areNames 33 = .ok (.ifCond .ne 7, 3) := by decide +kernel
theorem dX6_areNames_36 : decode cX6_areNames 36 = .ok (.iconst 1, 1) := by decide +kernel
theorem dX6_areNames_37 : decode cX6_areNames 37 = .ok (.goto 4, 3) := by decide +kernel
theorem dX6_areNames_40 : decode cX6_areNames 40 = .ok (.iconst 0, 1) := by decide +kernel
theorem dX6_areNames_41 : decode cX6_areNames 41 = .ok (.ireturn, 1) := by decide +kernel
theorem dX6_joinCount_0 : decode cX6_joinCount 0 = .ok (.aload_n 0, 1) := by decide +kernel
theorem dX6_joinCount_1 : decode cX6_joinCount 1 = .ok (.iload_n 1, 1) := by decide +kernel
theorem dX6_joinCount_2 : decode cX6_joinCount 2 = .ok (.iload_n 2, 1) := by decide +kernel
theorem dX6_joinCount_3 : decode cX6_joinCount 3 = .ok (.invokevirtual 162, 3) := by decide +kernel
theorem dX6_joinCount_6 : decode cX6_joinCount 6 = .ok (.ifCond .eq 14, 3) := by decide +kernel
theorem dX6_joinCount_9 : decode cX6_joinCount 9 = .ok (.aload_n 0, 1) := by decide +kernel
theorem dX6_joinCount_10 : decode cX6_joinCount 10 = .ok (.iload_n 1, 1) := by decide +kernel
theorem dX6_joinCount_11 : decode cX6_joinCount 11 = .ok (.iload_n 2, 1) := by decide +kernel
theorem dX6_joinCount_12 : decode cX6_joinCount 12 = .ok (.iconst 0, 1) := by decide +kernel
theorem dX6_joinCount_13 : decode cX6_joinCount 13 = .ok (.invokevirtual 165, 3) := by decide +kernel
theorem dX6_joinCount_16 : decode cX6_joinCount 16 = .ok (.l2i, 1) := by decide +kernel
theorem dX6_joinCount_17 : decode cX6_joinCount 17 = .ok (.goto 4, 3) := by decide +kernel
theorem dX6_joinCount_20 : decode cX6_joinCount 20 = .ok (.iconst 0, 1) := by decide +kernel
theorem dX6_joinCount_21 : decode cX6_joinCount 21 = .ok (.ireturn, 1) := by decide +kernel
theorem dX6_joinSum_0 : decode cX6_joinSum 0 = .ok (.aload_n 0, 1) := by decide +kernel
theorem dX6_joinSum_1 : decode cX6_joinSum 1 = .ok (.iload_n 1, 1) := by decide +kernel
theorem dX6_joinSum_2 : decode cX6_joinSum 2 = .ok (.iload_n 2, 1) := by decide +kernel
theorem dX6_joinSum_3 : decode cX6_joinSum 3 = .ok (.invokevirtual 162, 3) := by decide +kernel
theorem dX6_joinSum_6 : decode cX6_joinSum 6 = .ok (.ifCond .eq 13, 3) := by decide +kernel
theorem dX6_joinSum_9 : decode cX6_joinSum 9 = .ok (.aload_n 0, 1) := by decide +kernel
theorem dX6_joinSum_10 : decode cX6_joinSum 10 = .ok (.iload_n 1, 1) := by decide +kernel
theorem dX6_joinSum_11 : decode cX6_joinSum 11 = .ok (.iload_n 2, 1) := by decide +kernel
theorem dX6_joinSum_12 : decode cX6_joinSum 12 = .ok (.iconst 1, 1) := by decide +kernel
theorem dX6_joinSum_13 : decode cX6_joinSum 13 = .ok (.invokevirtual 165, 3) := by decide +kernel
theorem dX6_joinSum_16 : decode cX6_joinSum 16 = .ok (.goto 4, 3) := by decide +kernel
theorem dX6_joinSum_19 : decode cX6_joinSum 19 = .ok (.lconst 0, 1) := by decide +kernel
theorem dX6_joinSum_20 : decode cX6_joinSum 20 = .ok (.lreturn, 1) := by decide +kernel
theorem dX6_firingShare_0 : decode cX6_firingShare 0 = .ok (.aload_n 0, 1) := by decide +kernel
theorem dX6_firingShare_1 : decode cX6_firingShare 1 = .ok (.invokevirtual 169, 3) := by decide +kernel
theorem dX6_firingShare_4 : decode cX6_firingShare 4 = .ok (.istore_n 1, 1) := by decide +kernel
theorem dX6_firingShare_5 : decode cX6_firingShare 5 = .ok (.aload_n 0, 1) := by decide +kernel
theorem dX6_firingShare_6 : decode cX6_firingShare 6 = .ok (.aload_n 0, 1) := by decide +kernel
theorem dX6_firingShare_7 : decode cX6_firingShare 7 = .ok (.getfield 57, 3) := by decide +kernel
theorem dX6_firingShare_10 : decode cX6_firingShare 10 = .ok (.ifCond .ne 7, 3) := by decide +kernel
theorem dX6_firingShare_13 : decode cX6_firingShare 13 = .ok (.iconst 1, 1) := by decide +kernel
theorem dX6_firingShare_14 : decode cX6_firingShare 14 = .ok (.goto 4, 3) := by decide +kernel
theorem dX6_firingShare_17 : decode cX6_firingShare 17 = .ok (.iconst 0, 1) := by decide +kernel
theorem dX6_firingShare_18 : decode cX6_firingShare 18 = .ok (.putfield 53, 3) := by decide +kernel
theorem dX6_firingShare_21 : decode cX6_firingShare 21 = .ok (.aload_n 0, 1) := by decide +kernel
theorem dX6_firingShare_22 : decode cX6_firingShare 22 = .ok (.getfield 53, 3) := by decide +kernel
theorem dX6_firingShare_25 : decode cX6_firingShare 25 = .ok (.ifCond .ne 14, 3) := by decide +kernel
theorem dX6_firingShare_28 : decode cX6_firingShare 28 = .ok (.iload_n 1, 1) := by decide +kernel
theorem dX6_firingShare_29 : decode cX6_firingShare 29 = .ok (.i2f, 1) := by decide +kernel
theorem dX6_firingShare_30 : decode cX6_firingShare 30 = .ok (.aload_n 0, 1) := by decide +kernel
theorem dX6_firingShare_31 : decode cX6_firingShare 31 = .ok (.getfield 57, 3) := by decide +kernel
theorem dX6_firingShare_34 : decode cX6_firingShare 34 = .ok (.i2f, 1) := by decide +kernel
theorem dX6_firingShare_35 : decode cX6_firingShare 35 = .ok (.fdiv, 1) := by decide +kernel
theorem dX6_firingShare_36 : decode cX6_firingShare 36 = .ok (.goto 4, 3) := by decide +kernel
theorem dX6_firingShare_39 : decode cX6_firingShare 39 = .ok (.fconst 0, 1) := by decide +kernel
theorem dX6_firingShare_40 : decode cX6_firingShare 40 = .ok (.freturn, 1) := by decide +kernel
theorem dX6_isConsistent_0 : decode cX6_isConsistent 0 = .ok (.aload_n 0, 1) := by decide +kernel
theorem dX6_isConsistent_1 : decode cX6_isConsistent 1 = .ok (.iconst 0, 1) := by decide +kernel
theorem dX6_isConsistent_2 : decode cX6_isConsistent 2 = .ok (.putfield 53, 3) := by decide +kernel
theorem dX6_isConsistent_5 : decode cX6_isConsistent 5 = .ok (.iconst 1, 1) := by decide +kernel
theorem dX6_isConsistent_6 : decode cX6_isConsistent 6 = .ok (.ireturn, 1) := by decide +kernel
