theorem dX0_init_0 : decode cX0_init 0 = .ok (.aload_n 0, 1) := by decide +kernel
theorem dX0_init_1 : decode cX0_init 1 = .ok (.invokespecial 3, 3) := by decide +kernel
theorem dX0_init_4 : decode cX0_init 4 = .ok (.aload_n 0, 1) := by decide +kernel
theorem dX0_init_5 : decode cX0_init 5 = .ok (.iload_n 1, 1) := by decide +kernel
theorem dX0_init_6 : decode cX0_init 6 = .ok (.putfield 9, 3) := by decide +kernel
theorem dX0_init_9 : decode cX0_init 9 = .ok (.aload_n 0, 1) := by decide +kernel
theorem dX0_init_10 : decode cX0_init 10 = .ok (.iload_n 2, 1) := by decide +kernel
theorem dX0_init_11 : decode cX0_init 11 = .ok (.putfield 15, 3) := by decide +kernel
theorem dX0_init_14 : decode cX0_init 14 = .ok (.aload_n 0, 1) := by decide +kernel
theorem dX0_init_15 : decode cX0_init 15 = .ok (.iconst 0, 1) := by decide +kernel
theorem dX0_init_16 : decode cX0_init 16 = .ok (.putfield 18, 3) := by decide +kernel
theorem dX0_init_19 : decode cX0_init 19 = .ok (.aload_n 0, 1) := by decide +kernel
theorem dX0_init_20 : decode cX0_init 20 = .ok (.lconst 0, 1) := by decide +kernel
theorem dX0_init_21 : decode cX0_init 21 = .ok (.putfield 22, 3) := by decide +kernel
theorem dX0_init_24 : decode cX0_init 24 = .ok (.return_, 1) := by decide +kernel
theorem dX0_see_0 : decode cX0_see 0 = .ok (.iload_n 3, 1) := by decide +kernel
theorem dX0_see_1 : decode cX0_see 1 = .ok (.aload_n 0, 1) := by decide +kernel
theorem dX0_see_2 : decode cX0_see 2 = .ok (.getfield 9, 3) := by decide +kernel
theorem dX0_see_5 : decode cX0_see 5 = .ok (.if_icmp .gt 11, 3) := by decide +kernel
theorem dX0_see_8 : decode cX0_see 8 = .ok (.aload_n 0, 1) := by decide +kernel
theorem dX0_see_9 : decode cX0_see 9 = .ok (.iconst 0, 1) := by decide +kernel
theorem dX0_see_10 : decode cX0_see 10 = .ok (.putfield 18, 3) := by decide +kernel
theorem dX0_see_13 : decode cX0_see 13 = .ok (.goto 20, 3) := by decide +kernel
theorem dX0_see_16 : decode cX0_see 16 = .ok (.aload_n 0, 1) := by decide +kernel
theorem dX0_see_17 : decode cX0_see 17 = .ok (.getfield 18, 3) := by decide +kernel
theorem dX0_see_20 : decode cX0_see 20 = .ok (.ifCond .ne 13, 3) := by decide +kernel
theorem dX0_see_23 : decode cX0_see 23 = .ok (.aload_n 0, 1) := by decide +kernel
theorem dX0_see_24 : decode cX0_see 24 = .ok (.iconst 1, 1) := by decide +kernel
theorem dX0_see_25 : decode cX0_see 25 = .ok (.putfield 18, 3) := by decide +kernel
theorem dX0_see_28 : decode cX0_see 28 = .ok (.aload_n 0, 1) := by decide +kernel
theorem dX0_see_29 : decode cX0_see 29 = .ok (.lload_n 1, 1) := by decide +kernel
theorem dX0_see_30 : decode cX0_see 30 = .ok (.putfield 22, 3) := by decide +kernel
theorem dX0_see_33 : decode cX0_see 33 = .ok (.return_, 1) := by decide +kernel
theorem dX0_stateAt_0 : decode cX0_stateAt 0 = .ok (.aload_n 0, 1) := by decide +kernel
theorem dX0_stateAt_1 : decode cX0_stateAt 1 = .ok (.getfield 18, 3) := by decide +kernel
theorem dX0_stateAt_4 : decode cX0_stateAt 4 = .ok (.ifCond .ne 6, 3) := by decide +kernel
theorem dX0_stateAt_7 : decode cX0_stateAt 7 = .ok (.bipush 111, 2) := by decide +kernel
theorem dX0_stateAt_9 : decode cX0_stateAt 9 = .ok (.ireturn, 1) := by decide +kernel
theorem dX0_stateAt_10 : decode cX0_stateAt 10 = .ok (.lload_n 1, 1) := by decide +kernel
theorem dX0_stateAt_11 : decode cX0_stateAt 11 = .ok (.aload_n 0, 1) := by decide +kernel
theorem dX0_stateAt_12 : decode cX0_stateAt 12 = .ok (.getfield 22, 3) := by decide +kernel
theorem dX0_stateAt_15 : decode cX0_stateAt 15 = .ok (.lsub, 1) := by decide +kernel
theorem dX0_stateAt_16 : decode cX0_stateAt 16 = .ok (.aload_n 0, 1) := by decide +kernel
theorem dX0_stateAt_17 : decode cX0_stateAt 17 = .ok (.getfield 15, 3) := by decide +kernel
theorem dX0_stateAt_20 : decode cX0_stateAt 20 = .ok (.i2l, 1) := by decide +kernel
theorem dX0_stateAt_21 : decode cX0_stateAt 21 = .ok (.lcmp, 1) := by decide +kernel
theorem dX0_stateAt_22 : decode cX0_stateAt 22 = .ok (.ifCond .lt 8, 3) := by decide +kernel
theorem dX0_stateAt_25 : decode cX0_stateAt 25 = .ok (.bipush 102, 2) := by decide +kernel
theorem dX0_stateAt_27 : decode cX0_stateAt 27 = .ok (.goto 5, 3) := by decide +kernel
theorem dX0_stateAt_30 : decode cX0_stateAt 30 = .ok (.bipush 112, 2) := by decide +kernel
theorem dX0_stateAt_32 : decode cX0_stateAt 32 = .ok (.ireturn, 1) := by decide +kernel
theorem dX1_init_0 : decode cX1_init 0 = .ok (.aload_n 0, 1) := by decide +kernel
theorem dX1_init_1 : decode cX1_init 1 = .ok (.invokespecial 3, 3) := by decide +kernel
theorem dX1_init_4 : decode cX1_init 4 = .ok (.aload_n 0, 1) := by decide +kernel
theorem dX1_init_5 : decode cX1_init 5 = .ok (.lload_n 1, 1) := by decide +kernel
theorem dX1_init_6 : decode cX1_init 6 = .ok (.putfield 9, 3) := by decide +kernel
theorem dX1_init_9 : decode cX1_init 9 = .ok (.aload_n 0, 1) := by decide +kernel
theorem dX1_init_10 : decode cX1_init 10 = .ok (.iload_n 3, 1) := by decide +kernel
theorem dX1_init_11 : decode cX1_init 11 = .ok (.putfield 15, 3) := by decide +kernel
theorem dX1_init_14 : decode cX1_init 14 = .ok (.aload_n 0, 1) := by decide +kernel
theorem dX1_init_15 : decode cX1_init 15 = .ok (.bipush 8, 2) := by decide +kernel
theorem dX1_init_17 : decode cX1_init 17 = .ok (.newarray .long, 2) := by decide +kernel
theorem dX1_init_19 : decode cX1_init 19 = .ok (.putfield 19, 3) := by decide +kernel
theorem dX1_init_22 : decode cX1_init 22 = .ok (.aload_n 0, 1) := by decide +kernel
theorem dX1_init_23 : decode cX1_init 23 = .ok (.bipush 8, 2) := by decide +kernel
theorem dX1_init_25 : decode cX1_init 25 = .ok (.newarray .int, 2) := by decide +kernel
theorem dX1_init_27 : decode cX1_init 27 = .ok (.putfield 23, 3) := by decide +kernel
theorem dX1_init_30 : decode cX1_init 30 = .ok (.aload_n 0, 1) := by decide +kernel
theorem dX1_init_31 : decode cX1_init 31 = .ok (.iconst 1, 1) := by decide +kernel
theorem dX1_init_32 : decode cX1_init 32 = .ok (.putfield 27, 3) := by decide +kernel
theorem dX1_init_35 : decode cX1_init 35 = .ok (.aload_n 0, 1) := by decide +kernel
theorem dX1_init_36 : decode cX1_init 36 = .ok (.bipush 64, 2) := by decide +kernel
theorem dX1_init_38 : decode cX1_init 38 = .ok (.putfield 30, 3) := by decide +kernel
theorem dX1_init_41 : decode cX1_init 41 = .ok (.aload_n 0, 1) := by decide +kernel
theorem dX1_init_42 : decode cX1_init 42 = .ok (.lload_n 1, 1) := by decide +kernel
theorem dX1_init_43 : decode cX1_init 43 = .ok (.putfield 33, 3) := by decide +kernel
theorem dX1_init_46 : decode cX1_init 46 = .ok (.aload_n 0, 1) := by decide +kernel
theorem dX1_init_47 : decode cX1_init 47 = .ok (.lconst 0, 1) := by decide +kernel
theorem dX1_init_48 : decode cX1_init 48 = .ok (.putfield 36, 3) := by decide +kernel
theorem dX1_init_51 : decode cX1_init 51 = .ok (.aload_n 0, 1) := by decide +kernel
theorem dX1_init_52 : decode cX1_init 52 = .ok (.iload_n 3, 1) := by decide +kernel
theorem dX1_init_53 : decode cX1_init 53 = .ok (.putfield 39, 3) := by decide +kernel
theorem dX1_init_56 : decode cX1_init 56 = .ok (.return_, 1) := by decide +kernel
theorem dX1_append_0 : decode cX1_append 0 = .ok (.aload_n 0, 1) := by decide +kernel
theorem dX1_append_1 : decode cX1_append 1 = .ok (.getfield 27, 3) := by decide +kernel
theorem dX1_append_4 : decode cX1_append 4 = .ok (.bipush 8, 2) := by decide +kernel
theorem dX1_append_6 : decode cX1_append 6 = .ok (.if_icmp .lt 4, 3) := by decide +kernel
theorem dX1_append_9 : decode cX1_append 9 = .ok (.return_, 1) := by decide +kernel
theorem dX1_append_10 : decode cX1_append 10 = .ok (.lload_n 1, 1) := by decide +kernel
theorem dX1_append_11 : decode cX1_append 11 = .ok (.aload_n 0, 1) := by decide +kernel
theorem dX1_append_12 : decode cX1_append 12 = .ok (.getfield 33, 3) := by decide +kernel
theorem dX1_append_15 : decode cX1_append 15 = .ok (.lsub, 1) := by decide +kernel
theorem dX1_append_16 : decode cX1_append 16 = .ok (.lstore 4, 2) := by decide +kernel
theorem dX1_append_18 : decode cX1_append 18 = .ok (.aload_n 0, 1) := by decide +kernel
theorem dX1_append_19 : decode cX1_append 19 = .ok (.getfield 19, 3) := by decide +kernel
theorem dX1_append_22 : decode cX1_append 22 = .ok (.aload_n 0, 1) := by decide +kernel
theorem dX1_append_23 : decode cX1_append 23 = .ok (.getfield 27, 3) := by decide +kernel
theorem dX1_append_26 : decode cX1_append 26 = .ok (.lload 4, 2) := by decide +kernel
theorem dX1_append_28 : decode cX1_append 28 = .ok (.aload_n 0, 1) := by decide +kernel
theorem dX1_append_29 : decode cX1_append 29 = .ok (.getfield 36, 3) := by decide +kernel
theorem dX1_append_32 : decode cX1_append 32 = .ok (.lsub, 1) := by decide +kernel
theorem dX1_append_33 : decode cX1_append 33 = .ok (.lastore, 1) := by decide +kernel
theorem dX1_append_34 : decode cX1_append 34 = .ok (.aload_n 0, 1) := by decide +kernel
theorem dX1_append_35 : decode cX1_append 35 = .ok (.getfield 23, 3) := by decide +kernel
theorem dX1_append_38 : decode cX1_append 38 = .ok (.aload_n 0, 1) := by decide +kernel
theorem dX1_append_39 : decode cX1_append 39 = .ok (.getfield 27, 3) := by decide +kernel
theorem dX1_append_42 : decode cX1_append 42 = .ok (.iload_n 3, 1) := by decide +kernel
theorem dX1_append_43 : decode cX1_append 43 = .ok (.aload_n 0, 1) := by decide +kernel
theorem dX1_append_44 : decode cX1_append 44 = .ok (.getfield 39, 3) := by decide +kernel
theorem dX1_append_47 : decode cX1_append 47 = .ok (.isub, 1) := by decide +kernel
theorem dX1_append_48 : decode cX1_append 48 = .ok (.iastore, 1) := by decide +kernel
theorem dX1_append_49 : decode cX1_append 49 = .ok (.aload_n 0, 1) := by decide +kernel
theorem dX1_append_50 : decode cX1_append 50 = .ok (.dup, 1) := by decide +kernel
theorem dX1_append_51 : decode cX1_append 51 = .ok (.getfield 30, 3) := by decide +kernel
theorem dX1_append_54 : decode cX1_append 54 = .ok (.lload 4, 2) := by decide +kernel
theorem dX1_append_56 : decode cX1_append 56 = .ok (.aload_n 0, 1) := by decide +kernel
theorem dX1_append_57 : decode cX1_append 57 = .ok (.getfield 36, 3) := by decide +kernel
theorem dX1_append_60 : decode cX1_append 60 = .ok (.lsub, 1) := by decide +kernel
theorem dX1_append_61 : decode cX1_append 61 = .ok (.invokestatic 42, 3) := by decide +kernel
theorem dX1_append_64 : decode cX1_append 64 = .ok (.iload_n 3, 1) := by decide +kernel
theorem dX1_append_65 : decode cX1_append 65 = .ok (.aload_n 0, 1) := by decide +kernel
theorem dX1_append_66 : decode cX1_append 66 = .ok (.getfield 39, 3) := by decide +kernel
theorem dX1_append_69 : decode cX1_append 69 = .ok (.isub, 1) := by decide +kernel
theorem dX1_append_70 : decode cX1_append 70 = .ok (.invokestatic 46, 3) := by decide +kernel
theorem dX1_append_73 : decode cX1_append 73 = .ok (.iadd, 1) := by decide +kernel
theorem dX1_append_74 : decode cX1_append 74 = .ok (.iadd, 1) := by decide +kernel
theorem dX1_append_75 : decode cX1_append 75 = .ok (.putfield 30, 3) := by decide +kernel
theorem dX1_append_78 : decode cX1_append 78 = .ok (.aload_n 0, 1) := by decide +kernel
theorem dX1_append_79 : decode cX1_append 79 = .ok (.dup, 1) := by decide +kernel
theorem dX1_append_80 : decode cX1_append 80 = .ok (.getfield 27, 3) := by decide +kernel
theorem dX1_append_83 : decode cX1_append 83 = .ok (.iconst 1, 1) := by decide +kernel
theorem dX1_append_84 : decode cX1_append 84 = .ok (.iadd, 1) := by decide +kernel
theorem dX1_append_85 : decode cX1_append 85 = .ok (.putfield 27, 3) := by decide +kernel
theorem dX1_append_88 : decode cX1_append 88 = .ok (.aload_n 0, 1) := by decide +kernel
theorem dX1_append_89 : decode cX1_append 89 = .ok (.lload_n 1, 1) := by decide +kernel
theorem dX1_append_90 : decode cX1_append 90 = .ok (.putfield 33, 3) := by decide +kernel
theorem dX1_append_93 : decode cX1_append 93 = .ok (.aload_n 0, 1) := by decide +kernel
theorem dX1_append_94 : decode cX1_append 94 = .ok (.lload 4, 2) := by decide +kernel
theorem dX1_append_96 : decode cX1_append 96 = .ok (.putfield 36, 3) := by decide +kernel
theorem dX1_append_99 : decode cX1_append 99 = .ok (.aload_n 0, 1) := by decide +kernel
theorem dX1_append_100 : decode cX1_append 100 = .ok (.iload_n 3, 1) := by decide +kernel
theorem dX1_append_101 : decode cX1_append 101 = .ok (.putfield 39, 3) := by decide +kernel
theorem dX1_append_104 : decode cX1_append 104 = .ok (.return_, 1) := by decide +kernel
theorem dX1_timeStepBits_0 : decode cX1_timeStepBits 0 = .ok (.lload_n 0, 1) := by decide +kernel
theorem dX1_timeStepBits_1 : decode cX1_timeStepBits 1 = .ok (.lconst 0, 1) := by decide +kernel
theorem dX1_timeStepBits_2 : decode cX1_timeStepBits 2 = .ok (.lcmp, 1) := by decide +kernel
theorem dX1_timeStepBits_3 : decode cX1_timeStepBits 3 = .ok (.ifCond .ne 5, 3) := by decide +kernel
theorem dX1_timeStepBits_6 : decode cX1_timeStepBits 6 = .ok (.iconst 1, 1) := by decide +kernel
theorem dX1_timeStepBits_7 : decode cX1_timeStepBits 7 = .ok (.ireturn, 1) := by decide +kernel
theorem dX1_timeStepBits_8 : decode cX1_timeStepBits 8 = .ok (.lload_n 0, 1) := by decide +kernel
theorem dX1_timeStepBits_9 : decode cX1_timeStepBits 9 = .ok (.ldc2_w 50, 3) := by decide +kernel
theorem dX1_timeStepBits_12 : decode cX1_timeStepBits 12 = .ok (.lcmp, 1) := by decide +kernel
theorem dX1_timeStepBits_13 : decode cX1_timeStepBits 13 = .ok (.ifCond .lt 16, 3) := by decide +kernel
theorem dX1_timeStepBits_16 : decode cX1_timeStepBits 16 = .ok (.lload_n 0, 1) := by decide +kernel
theorem dX1_timeStepBits_17 : decode cX1_timeStepBits 17 = .ok (.ldc2_w 52, 3) := by decide +kernel
theorem dX1_timeStepBits_20 : decode cX1_timeStepBits 20 = .ok (.lcmp, 1) := by decide +kernel
theorem dX1_timeStepBits_21 : decode cX1_timeStepBits 21 = .ok (.ifCond .gt 8, 3) := by decide +kernel
theorem dX1_timeStepBits_24 : decode cX1_timeStepBits 24 = .ok (.bipush 6, 2) := by decide +kernel
theorem dX1_timeStepBits_26 : decode cX1_timeStepBits 26 = .ok (.goto 5, 3) := by decide +kernel
theorem dX1_timeStepBits_29 : decode cX1_timeStepBits 29 = .ok (.bipush 15, 2) := by decide +kernel
theorem dX1_timeStepBits_31 : decode cX1_timeStepBits 31 = .ok (.ireturn, 1) := by decide +kernel
theorem dX1_valueStepBits_0 : decode cX1_valueStepBits 0 = .ok (.iload_n 0, 1) := by decide +kernel
theorem dX1_valueStepBits_1 : decode cX1_valueStepBits 1 = .ok (.ifCond .ne 5, 3) := by decide +kernel
theorem dX1_valueStepBits_4 : decode cX1_valueStepBits 4 = .ok (.iconst 1, 1) := by decide +kernel
theorem dX1_valueStepBits_5 : decode cX1_valueStepBits 5 = .ok (.ireturn, 1) := by decide +kernel
theorem dX1_valueStepBits_6 : decode cX1_valueStepBits 6 = .ok (.iload_n 0, 1) := by decide +kernel
theorem dX1_valueStepBits_7 : decode cX1_valueStepBits 7 = .ok (.bipush (-31), 2) := by decide +kernel
theorem dX1_valueStepBits_9 : decode cX1_valueStepBits 9 = .ok (.if_icmp .lt 14, 3) := by decide +kernel
theorem dX1_valueStepBits_12 : decode cX1_valueStepBits 12 = .ok (.iload_n 0, 1) := by decide +kernel
theorem dX1_valueStepBits_13 : decode cX1_valueStepBits 13 = .ok (.bipush 32, 2) := by decide +kernel
theorem dX1_valueStepBits_15 : decode cX1_valueStepBits 15 = .ok (.if_icmp .gt 8, 3) := by decide +kernel
theorem dX1_valueStepBits_18 : decode cX1_valueStepBits 18 = .ok (.bipush 8, 2) := by decide +kernel
theorem dX1_valueStepBits_20 : decode cX1_valueStepBits 20 = .ok (.goto 5, 3) := by decide +kernel
theorem dX1_valueStepBits_23 : decode cX1_valueStepBits 23 = .ok (.bipush 18, 2) := by decide +kernel
theorem dX1_valueStepBits_25 : decode cX1_valueStepBits 25 = .ok (.ireturn, 1) := by decide +kernel
theorem dX1_timeOfSample_0 : decode cX1_timeOfSample 0 = .ok (.aload_n 0, 1) := by decide +kernel
theorem dX1_timeOfSample_1 : decode cX1_timeOfSample 1 = .ok (.getfield 9, 3) := by decide +kernel
theorem dX1_timeOfSample_4 : decode cX1_timeOfSample 4 = .ok (.lstore_n 2, 1) := by decide +kernel
theorem dX1_timeOfSample_5 : decode cX1_timeOfSample 5 = .ok (.lconst 0, 1) := by decide +kernel
theorem dX1_timeOfSample_6 : decode cX1_timeOfSample 6 = .ok (.lstore 4, 2) := by decide +kernel
theorem dX1_timeOfSample_8 : decode cX1_timeOfSample 8 = .ok (.iconst 0, 1) := by decide +kernel
theorem dX1_timeOfSample_9 : decode cX1_timeOfSample 9 = .ok (.istore 6, 2) := by decide +kernel
theorem dX1_timeOfSample_11 : decode cX1_timeOfSample 11 = .ok (.iload 6, 2) := by decide +kernel
theorem dX1_timeOfSample_13 : decode cX1_timeOfSample 13 = .ok (.iload_n 1, 1) := by decide +kernel
theorem dX1_timeOfSample_14 : decode cX1_timeOfSample 14 = .ok (.if_icmp .gt 36, 3) := by decide +kernel
theorem dX1_timeOfSample_17 : decode cX1_timeOfSample 17 = .ok (.iload 6, 2) := by decide +kernel
theorem dX1_timeOfSample_19 : decode cX1_timeOfSample 19 = .ok (.aload_n 0, 1) := by decide +kernel
theorem dX1_timeOfSample_20 : decode cX1_timeOfSample 20 = .ok (.getfield 19, 3) := by decide +kernel
theorem dX1_timeOfSample_23 : decode cX1_timeOfSample 23 = .ok (.arraylength, 1) := by decide +kernel
theorem dX1_timeOfSample_24 : decode cX1_timeOfSample 24 = .ok (.if_icmp .ge 26, 3) := by decide +kernel
theorem dX1_timeOfSample_27 : decode cX1_timeOfSample 27 = .ok (.lload 4, 2) := by decide +kernel
theorem dX1_timeOfSample_29 : decode cX1_timeOfSample 29 = .ok (.aload_n 0, 1) := by decide +kernel
theorem dX1_timeOfSample_30 : decode cX1_timeOfSample 30 = .ok (.getfield 19, 3) := by decide +kernel
theorem dX1_timeOfSample_33 : decode cX1_timeOfSample 33 = .ok (.iload 6, 2) := by decide +kernel
theorem dX1_timeOfSample_35 : decode cX1_timeOfSample 35 = .ok (.laload, 1) := by decide +kernel
theorem dX1_timeOfSample_36 : decode cX1_timeOfSample 36 = .ok (.ladd, 1) := by decide +kernel
theorem dX1_timeOfSample_37 : decode cX1_timeOfSample 37 = .ok (.lstore 4, 2) := by decide +kernel
theorem dX1_timeOfSample_39 : decode cX1_timeOfSample 39 = .ok (.lload_n 2, 1) := by decide +kernel
theorem dX1_timeOfSample_40 : decode cX1_timeOfSample 40 = .ok (.lload 4, 2) := by decide +kernel
theorem dX1_timeOfSample_42 : decode cX1_timeOfSample 42 = .ok (.ladd, 1) := by decide +kernel
theorem dX1_timeOfSample_43 : decode cX1_timeOfSample 43 = .ok (.lstore_n 2, 1) := by decide +kernel
theorem dX1_timeOfSample_44 : decode cX1_timeOfSample 44 = .ok (.iinc 6 1, 3) := by decide +kernel
theorem dX1_timeOfSample_47 : decode cX1_timeOfSample 47 = .ok (.goto (-36), 3) := by decide +kernel
theorem dX1_timeOfSample_50 : decode cX1_timeOfSample 50 = .ok (.lload_n 2, 1) := by decide +kernel
theorem dX1_timeOfSample_51 : decode cX1_timeOfSample 51 = .ok (.lreturn, 1) := by decide +kernel
theorem dX1_valueOfSample_0 : decode cX1_valueOfSample 0 = .ok (.aload_n 0, 1) := by decide +kernel
theorem dX1_valueOfSample_1 : decode cX1_valueOfSample 1 = .ok (.getfield 15, 3) := by decide +kernel
theorem dX1_valueOfSample_4 : decode cX1_valueOfSample 4 = .ok (.istore_n 2, 1) := by decide +kernel
theorem dX1_valueOfSample_5 : decode cX1_valueOfSample 5 = .ok (.iconst 0, 1) := by decide +kernel
theorem dX1_valueOfSample_6 : decode cX1_valueOfSample 6 = .ok (.istore_n 3, 1) := by decide +kernel
theorem dX1_valueOfSample_7 : decode cX1_valueOfSample 7 = .ok (.iload_n 3, 1) := by decide +kernel
theorem dX1_valueOfSample_8 : decode cX1_valueOfSample 8 = .ok (.iload_n 1, 1) := by decide +kernel
theorem dX1_valueOfSample_9 : decode cX1_valueOfSample 9 = .ok (.if_icmp .gt 27, 3) := by decide +kernel
theorem dX1_valueOfSample_12 : decode cX1_valueOfSample 12 = .ok (.iload_n 3, 1) := by decide +kernel
theorem dX1_valueOfSample_13 : decode cX1_valueOfSample 13 = .ok (.aload_n 0, 1) := by decide +kernel
theorem dX1_valueOfSample_14 : decode cX1_valueOfSample 14 = .ok (.getfield 23, 3) := by decide +kernel
theorem dX1_valueOfSample_17 : decode cX1_valueOfSample 17 = .ok (.arraylength, 1) := by decide +kernel
theorem dX1_valueOfSample_18 : decode cX1_valueOfSample 18 = .ok (.if_icmp .ge 18, 3) := by decide +kernel
theorem dX1_valueOfSample_21 : decode cX1_valueOfSample 21 = .ok (.iload_n 2, 1) := by decide +kernel
theorem dX1_valueOfSample_22 : decode cX1_valueOfSample 22 = .ok (.aload_n 0, 1) := by decide +kernel
theorem dX1_valueOfSample_23 : decode cX1_valueOfSample 23 = .ok (.getfield 23, 3) := by decide +kernel
theorem dX1_valueOfSample_26 : decode cX1_valueOfSample 26 = .ok (.iload_n 3, 1) := by decide +kernel
theorem dX1_valueOfSample_27 : decode cX1_valueOfSample 27 = .ok (.iaload, 1) := by decide +kernel
theorem dX1_valueOfSample_28 : decode cX1_valueOfSample 28 = .ok (.iadd, 1) := by decide +kernel
theorem dX1_valueOfSample_29 : decode cX1_valueOfSample 29 = .ok (.istore_n 2, 1) := by decide +kernel
theorem dX1_valueOfSample_30 : decode cX1_valueOfSample 30 = .ok (.iinc 3 1, 3) := by decide +kernel
theorem dX1_valueOfSample_33 : decode cX1_valueOfSample 33 = .ok (.goto (-26), 3) := by decide +kernel
theorem dX1_valueOfSample_36 : decode cX1_valueOfSample 36 = .ok (.iload_n 2, 1) := by decide +kernel
theorem dX1_valueOfSample_37 : decode cX1_valueOfSample 37 = .ok (.ireturn, 1) := by decide +kernel
theorem dX1_read_0 : decode cX1_read 0 = .ok (.aload_n 0, 1) := by decide +kernel
theorem dX1_read_1 : decode cX1_read 1 = .ok (.getfield 9, 3) := by decide +kernel
theorem dX1_read_4 : decode cX1_read 4 = .ok (.lstore 6, 2) := by decide +kernel
theorem dX1_read_6 : decode cX1_read 6 = .ok (.lconst 0, 1) := by decide +kernel
theorem dX1_read_7 : decode cX1_read 7 = .ok (.lstore 8, 2) := by decide +kernel
theorem dX1_read_9 : decode cX1_read 9 = .ok (.aload_n 0, 1) := by decide +kernel
theorem dX1_read_10 : decode cX1_read 10 = .ok (.getfield 15, 3) := by decide +kernel
theorem dX1_read_13 : decode cX1_read 13 = .ok (.istore 10, 2) := by decide +kernel
theorem dX1_read_15 : decode cX1_read 15 = .ok (.iconst 0, 1) := by decide +kernel
theorem dX1_read_16 : decode cX1_read 16 = .ok (.istore 11, 2) := by decide +kernel
theorem dX1_read_18 : decode cX1_read 18 = .ok (.iload 11, 2) := by decide +kernel
theorem dX1_read_20 : decode cX1_read 20 = .ok (.aload_n 0, 1) := by decide +kernel
theorem dX1_read_21 : decode cX1_read 21 = .ok (.getfield 27, 3) := by decide +kernel
theorem dX1_read_24 : decode cX1_read 24 = .ok (.if_icmp .ge 81, 3) := by decide +kernel
theorem dX1_read_27 : decode cX1_read 27 = .ok (.iload 11, 2) := by decide +kernel
theorem dX1_read_29 : decode cX1_read 29 = .ok (.aload_n 0, 1) := by decide +kernel
theorem dX1_read_30 : decode cX1_read 30 = .ok (.getfield 19, 3) := by decide +kernel
theorem dX1_read_33 : decode cX1_read 33 = .ok (.arraylength, 1) := by decide +kernel
theorem dX1_read_34 : decode cX1_read 34 = .ok (.if_icmp .ge 71, 3) := by decide +kernel
theorem dX1_read_37 : decode cX1_read 37 = .ok (.iload 11, 2) := by decide +kernel
theorem dX1_read_39 : decode cX1_read 39 = .ok (.aload_n 0, 1) := by decide +kernel
theorem dX1_read_40 : decode cX1_read 40 = .ok (.getfield 23, 3) := by decide +kernel
theorem dX1_read_43 : decode cX1_read 43 = .ok (.arraylength, 1) := by decide +kernel
theorem dX1_read_44 : decode cX1_read 44 = .ok (.if_icmp .ge 61, 3) := by decide +kernel
theorem dX1_read_47 : decode cX1_read 47 = .ok (.lload 8, 2) := by decide +kernel
theorem dX1_read_49 : decode cX1_read 49 = .ok (.aload_n 0, 1) := by decide +kernel
theorem dX1_read_50 : decode cX1_read 50 = .ok (.getfield 19, 3) := by decide +kernel
theorem dX1_read_53 : decode cX1_read 53 = .ok (.iload 11, 2) := by decide +kernel
theorem dX1_read_55 : decode cX1_read 55 = .ok (.laload, 1) := by decide +kernel
theorem dX1_read_56 : decode cX1_read 56 = .ok (.ladd, 1) := by decide +kernel
theorem dX1_read_57 : decode cX1_read 57 = .ok (.lstore 8, 2) := by decide +kernel
theorem dX1_read_59 : decode cX1_read 59 = .ok (.lload 6, 2) := by decide +kernel
theorem dX1_read_61 : decode cX1_read 61 = .ok (.lload 8, 2) := by decide +kernel
theorem dX1_read_63 : decode cX1_read 63 = .ok (.ladd, 1) := by decide +kernel
theorem dX1_read_64 : decode cX1_read 64 = .ok (.lstore 6, 2) := by decide +kernel
theorem dX1_read_66 : decode cX1_read 66 = .ok (.iload 10, 2) := by decide +kernel
theorem dX1_read_68 : decode cX1_read 68 = .ok (.aload_n 0, 1) := by decide +kernel
theorem dX1_read_69 : decode cX1_read 69 = .ok (.getfield 23, 3) := by decide +kernel
theorem dX1_read_72 : decode cX1_read 72 = .ok (.iload 11, 2) := by decide +kernel
theorem dX1_read_74 : decode cX1_read 74 = .ok (.iaload, 1) := by decide +kernel
theorem dX1_read_75 : decode cX1_read 75 = .ok (.iadd, 1) := by decide +kernel
theorem dX1_read_76 : decode cX1_read 76 = .ok (.istore 10, 2) := by decide +kernel
theorem dX1_read_78 : decode cX1_read 78 = .ok (.lload 6, 2) := by decide +kernel
theorem dX1_read_80 : decode cX1_read 80 = .ok (.lload_n 2, 1) := by decide +kernel
theorem dX1_read_81 : decode cX1_read 81 = .ok (.lcmp, 1) := by decide +kernel
theorem dX1_read_82 : decode cX1_read 82 = .ok (.ifCond .lt 17, 3) := by decide +kernel
theorem dX1_read_85 : decode cX1_read 85 = .ok (.lload 6, 2) := by decide +kernel
theorem dX1_read_87 : decode cX1_read 87 = .ok (.lload 4, 2) := by decide +kernel
theorem dX1_read_89 : decode cX1_read 89 = .ok (.lcmp, 1) := by decide +kernel
theorem dX1_read_90 : decode cX1_read 90 = .ok (.ifCond .gt 9, 3) := by decide +kernel
theorem dX1_read_93 : decode cX1_read 93 = .ok (.aload_n 1, 1) := by decide +kernel
theorem dX1_read_94 : decode cX1_read 94 = .ok (.iload 10, 2) := by decide +kernel
theorem dX1_read_96 : decode cX1_read 96 = .ok (.invokevirtual 54, 3) := by decide +kernel
theorem dX1_read_99 : decode cX1_read 99 = .ok (.iinc 11 1, 3) := by decide +kernel
theorem dX1_read_102 : decode cX1_read 102 = .ok (.goto (-84), 3) := by decide +kernel
theorem dX1_read_105 : decode cX1_read 105 = .ok (.return_, 1) := by decide +kernel
theorem dX2_init_0 : decode cX2_init 0 = .ok (.aload_n 0, 1) := by decide +kernel
theorem dX2_init_1 : decode cX2_init 1 = .ok (.invokespecial 3, 3) := by decide +kernel
theorem dX2_init_4 : decode cX2_init 4 = .ok (.aload_n 0, 1) := by decide +kernel
theorem dX2_init_5 : decode cX2_init 5 = .ok (.iload_n 1, 1) := by decide +kernel
theorem dX2_init_6 : decode cX2_init 6 = .ok (.putfield 9, 3) := by decide +kernel
theorem dX2_init_9 : decode cX2_init 9 = .ok (.aload_n 0, 1) := by decide +kernel
theorem dX2_init_10 : decode cX2_init 10 = .ok (.iload_n 2, 1) := by decide +kernel
theorem dX2_init_11 : decode cX2_init 11 = .ok (.putfield 15, 3) := by decide +kernel
theorem dX2_init_14 : decode cX2_init 14 = .ok (.aload_n 0, 1) := by decide +kernel
theorem dX2_init_15 : decode cX2_init 15 = .ok (.bipush 120, 2) := by decide +kernel
theorem dX2_init_17 : decode cX2_init 17 = .ok (.newarray .long, 2) := by decide +kernel
theorem dX2_init_19 : decode cX2_init 19 = .ok (.putfield 18, 3) := by decide +kernel
theorem dX2_init_22 : decode cX2_init 22 = .ok (.aload_n 0, 1) := by decide +kernel
theorem dX2_init_23 : decode cX2_init 23 = .ok (.bipush 120, 2) := by decide +kernel
theorem dX2_init_25 : decode cX2_init 25 = .ok (.newarray .int, 2) := by decide +kernel
theorem dX2_init_27 : decode cX2_init 27 = .ok (.putfield 22, 3) := by decide +kernel
theorem dX2_init_30 : decode cX2_init 30 = .ok (.aload_n 0, 1) := by decide +kernel
theorem dX2_init_31 : decode cX2_init 31 = .ok (.bipush 120, 2) := by decide +kernel
theorem dX2_init_33 : decode cX2_init 33 = .ok (.newarray .int, 2) := by decide +kernel
theorem dX2_init_35 : decode cX2_init 35 = .ok (.putfield 26, 3) := by decide +kernel
theorem dX2_init_38 : decode cX2_init 38 = .ok (.aload_n 0, 1) := by decide +kernel
theorem dX2_init_39 : decode cX2_init 39 = .ok (.bipush 15, 2) := by decide +kernel
theorem dX2_init_41 : decode cX2_init 41 = .ok (.anewarray 29, 3) := by decide +kernel
theorem dX2_init_44 : decode cX2_init 44 = .ok (.putfield 31, 3) := by decide +kernel
theorem dX2_init_47 : decode cX2_init 47 = .ok (.aload_n 0, 1) := by decide +kernel
theorem dX2_init_48 : decode cX2_init 48 = .ok (.new 35, 3) := by decide +kernel
theorem dX2_init_51 : decode cX2_init 51 = .ok (.dup, 1) := by decide +kernel
theorem dX2_init_52 : decode cX2_init 52 = .ok (.invokespecial 37, 3) := by decide +kernel
theorem dX2_init_55 : decode cX2_init 55 = .ok (.putfield 38, 3) := by decide +kernel
theorem dX2_init_58 : decode cX2_init 58 = .ok (.aload_n 0, 1) := by decide +kernel
theorem dX2_init_59 : decode cX2_init 59 = .ok (.iconst 0, 1) := by decide +kernel
theorem dX2_init_60 : decode cX2_init 60 = .ok (.putfield 42, 3) := by decide +kernel
theorem dX2_init_63 : decode cX2_init 63 = .ok (.aload_n 0, 1) := by decide +kernel
theorem dX2_init_64 : decode cX2_init 64 = .ok (.aconst_null, 1) := by decide +kernel
theorem dX2_init_65 : decode cX2_init 65 = .ok (.putfield 45, 3) := by decide +kernel
theorem dX2_init_68 : decode cX2_init 68 = .ok (.return_, 1) := by decide +kernel
theorem dX2_isFull_0 : decode cX2_isFull 0 = .ok (.aload_n 0, 1) := by decide +kernel
theorem dX2_isFull_1 : decode cX2_isFull 1 = .ok (.getfield 42, 3) := by decide +kernel
theorem dX2_isFull_4 : decode cX2_isFull 4 = .ok (.bipush 120, 2) := by decide +kernel
theorem dX2_isFull_6 : decode cX2_isFull 6 = .ok (.if_icmp .lt 7, 3) := by decide +kernel
theorem dX2_isFull_9 : decode cX2_isFull 9 = .ok (.iconst 1, 1) := by decide +kernel
theorem dX2_isFull_10 : decode cX2_isFull 10 = .ok (.goto 4, 3) := by decide +kernel
theorem dX2_isFull_13 : decode cX2_isFull 13 = .ok (.iconst 0, 1) := by decide +kernel
theorem dX2_isFull_14 : decode cX2_isFull 14 = .ok (.ireturn, 1) := by decide +kernel
theorem dX2_hasSampleAt_0 : decode cX2_hasSampleAt 0 = .ok (.aload_n 0, 1) := by decide +kernel
theorem dX2_hasSampleAt_1 : decode cX2_hasSampleAt 1 = .ok (.getfield 42, 3) := by decide +kernel
theorem dX2_hasSampleAt_4 : decode cX2_hasSampleAt 4 = .ok (.ifCond .le 35, 3) := by decide +kernel
theorem dX2_hasSampleAt_7 : decode cX2_hasSampleAt 7 = .ok (.aload_n 0, 1) := by decide +kernel
theorem dX2_hasSampleAt_8 : decode cX2_hasSampleAt 8 = .ok (.getfield 42, 3) := by decide +kernel
theorem dX2_hasSampleAt_11 : decode cX2_hasSampleAt 11 = .ok (.aload_n 0, 1) := by decide +kernel
theorem dX2_hasSampleAt_12 : decode cX2_hasSampleAt 12 = .ok (.getfield 18, 3) := by decide +kernel
theorem dX2_hasSampleAt_15 : decode cX2_hasSampleAt 15 = .ok (.arraylength, 1) := by decide +kernel
theorem dX2_hasSampleAt_16 : decode cX2_hasSampleAt 16 = .ok (.if_icmp .gt 23, 3) := by decide +kernel
theorem dX2_hasSampleAt_19 : decode cX2_hasSampleAt 19 = .ok (.aload_n 0, 1) := by decide +kernel
theorem dX2_hasSampleAt_20 : decode cX2_hasSampleAt 20 = .ok (.getfield 18, 3) := by decide +kernel
theorem dX2_hasSampleAt_23 : decode cX2_hasSampleAt 23 = .ok (.aload_n 0, 1) := by decide +kernel
theorem dX2_hasSampleAt_24 : decode cX2_hasSampleAt 24 = .ok (.getfield 42, 3) := by decide +kernel
theorem dX2_hasSampleAt_27 : decode cX2_hasSampleAt 27 = .ok (.iconst 1, 1) := by decide +kernel
theorem dX2_hasSampleAt_28 : decode cX2_hasSampleAt 28 = .ok (.isub, 1) := by decide +kernel
theorem dX2_hasSampleAt_29 : decode cX2_hasSampleAt 29 = .ok (.laload, 1) := by decide +kernel
theorem dX2_hasSampleAt_30 : decode cX2_hasSampleAt 30 = .ok (.lload_n 1, 1) := by decide +kernel
theorem dX2_hasSampleAt_31 : decode cX2_hasSampleAt 31 = .ok (.lcmp, 1) := by decide +kernel
theorem dX2_hasSampleAt_32 : decode cX2_hasSampleAt 32 = .ok (.ifCond .ne 7, 3) := by decide +kernel
theorem dX2_hasSampleAt_35 : decode cX2_hasSampleAt 35 = .ok (.iconst 1, 1) := by decide +kernel
theorem dX2_hasSampleAt_36 : decode cX2_hasSampleAt 36 = .ok (.goto 4, 3) := by decide +kernel
theorem dX2_hasSampleAt_39 : decode cX2_hasSampleAt 39 = .ok (.iconst 0, 1) := by decide +kernel
theorem dX2_hasSampleAt_40 : decode cX2_hasSampleAt 40 = .ok (.ireturn, 1) := by decide +kernel
theorem dX2_newestValue_0 : decode cX2_newestValue 0 = .ok (.aload_n 0, 1) := by decide +kernel
theorem dX2_newestValue_1 : decode cX2_newestValue 1 = .ok (.getfield 42, 3) := by decide +kernel
theorem dX2_newestValue_4 : decode cX2_newestValue 4 = .ok (.ifCond .le 29, 3) := by decide +kernel
theorem dX2_newestValue_7 : decode cX2_newestValue 7 = .ok (.aload_n 0, 1) := by decide +kernel
theorem dX2_newestValue_8 : decode cX2_newestValue 8 = .ok (.getfield 42, 3) := by decide +kernel
theorem dX2_newestValue_11 : decode cX2_newestValue 11 = .ok (.aload_n 0, 1) := by decide +kernel
theorem dX2_newestValue_12 : decode cX2_newestValue 12 = .ok (.getfield 22, 3) := by decide +kernel
theorem dX2_newestValue_15 : decode cX2_newestValue 15 = .ok (.arraylength, 1) := by decide +kernel
theorem dX2_newestValue_16 : decode cX2_newestValue 16 = .ok (.if_icmp .gt 17, 3) := by decide +kernel
theorem dX2_newestValue_19 : decode cX2_newestValue 19 = .ok (.aload_n 0, 1) := by decide +kernel
theorem dX2_newestValue_20 : decode cX2_newestValue 20 = .ok (.getfield 22, 3) := by decide +kernel
theorem dX2_newestValue_23 : decode cX2_newestValue 23 = .ok (.aload_n 0, 1) := by decide +kernel
theorem dX2_newestValue_24 : decode cX2_newestValue 24 = .ok (.getfield 42, 3) := by decide +kernel
theorem dX2_newestValue_27 : decode cX2_newestValue 27 = .ok (.iconst 1, 1) := by decide +kernel
theorem dX2_newestValue_28 : decode cX2_newestValue 28 = .ok (.isub, 1) := by decide +kernel
theorem dX2_newestValue_29 : decode cX2_newestValue 29 = .ok (.iaload, 1) := by decide +kernel
theorem dX2_newestValue_30 : decode cX2_newestValue 30 = .ok (.goto 4, 3) := by decide +kernel
theorem dX2_newestValue_33 : decode cX2_newestValue 33 = .ok (.iconst 0, 1) := by decide +kernel
theorem dX2_newestValue_34 : decode cX2_newestValue 34 = .ok (.ireturn, 1) := by decide +kernel
theorem dX2_take_0 : decode cX2_take 0 = .ok (.aload_n 0, 1) := by decide +kernel
theorem dX2_take_1 : decode cX2_take 1 = .ok (.invokevirtual 49, 3) := by decide +kernel
theorem dX2_take_4 : decode cX2_take 4 = .ok (.ifCond .eq 4, 3) := by decide +kernel
theorem dX2_take_7 : decode cX2_take 7 = .ok (.return_, 1) := by decide +kernel
theorem dX2_take_8 : decode cX2_take 8 = .ok (.aload_n 0, 1) := by decide +kernel
theorem dX2_take_9 : decode cX2_take 9 = .ok (.getfield 18, 3) := by decide +kernel
theorem dX2_take_12 : decode cX2_take 12 = .ok (.aload_n 0, 1) := by decide +kernel
theorem dX2_take_13 : decode cX2_take 13 = .ok (.getfield 42, 3) := by decide +kernel
theorem dX2_take_16 : decode cX2_take 16 = .ok (.lload_n 1, 1) := by decide +kernel
theorem dX2_take_17 : decode cX2_take 17 = .ok (.lastore, 1) := by decide +kernel
theorem dX2_take_18 : decode cX2_take 18 = .ok (.aload_n 0, 1) := by decide +kernel
theorem dX2_take_19 : decode cX2_take 19 = .ok (.getfield 22, 3) := by decide +kernel
theorem dX2_take_22 : decode cX2_take 22 = .ok (.aload_n 0, 1) := by decide +kernel
theorem dX2_take_23 : decode cX2_take 23 = .ok (.getfield 42, 3) := by decide +kernel
theorem dX2_take_26 : decode cX2_take 26 = .ok (.iload_n 3, 1) := by decide +kernel
theorem dX2_take_27 : decode cX2_take 27 = .ok (.iastore, 1) := by decide +kernel
theorem dX2_take_28 : decode cX2_take 28 = .ok (.aload_n 0, 1) := by decide +kernel
theorem dX2_take_29 : decode cX2_take 29 = .ok (.iload_n 3, 1) := by decide +kernel
theorem dX2_take_30 : decode cX2_take 30 = .ok (.invokevirtual 53, 3) := by decide +kernel
theorem dX2_take_33 : decode cX2_take 33 = .ok (.aload_n 0, 1) := by decide +kernel
theorem dX2_take_34 : decode cX2_take 34 = .ok (.lload_n 1, 1) := by decide +kernel
theorem dX2_take_35 : decode cX2_take 35 = .ok (.iload_n 3, 1) := by decide +kernel
theorem dX2_take_36 : decode cX2_take 36 = .ok (.invokevirtual 57, 3) := by decide +kernel
theorem dX2_take_39 : decode cX2_take 39 = .ok (.aload_n 0, 1) := by decide +kernel
theorem dX2_take_40 : decode cX2_take 40 = .ok (.dup, 1) := by decide +kernel
theorem dX2_take_41 : decode cX2_take 41 = .ok (.getfield 42, 3) := by decide +kernel
theorem dX2_take_44 : decode cX2_take 44 = .ok (.iconst 1, 1) := by decide +kernel
theorem dX2_take_45 : decode cX2_take 45 = .ok (.iadd, 1) := by decide +kernel
theorem dX2_take_46 : decode cX2_take 46 = .ok (.putfield 42, 3) := by decide +kernel
theorem dX2_take_49 : decode cX2_take 49 = .ok (.aload_n 0, 1) := by decide +kernel
theorem dX2_take_50 : decode cX2_take 50 = .ok (.getfield 38, 3) := by decide +kernel
theorem dX2_take_53 : decode cX2_take 53 = .ok (.iload_n 3, 1) := by decide +kernel
theorem dX2_take_54 : decode cX2_take 54 = .ok (.invokevirtual 61, 3) := by decide +kernel
theorem dX2_take_57 : decode cX2_take 57 = .ok (.aload_n 0, 1) := by decide +kernel
theorem dX2_take_58 : decode cX2_take 58 = .ok (.getfield 45, 3) := by decide +kernel
theorem dX2_take_61 : decode cX2_take 61 = .ok (.ifnull 12, 3) := by decide +kernel
theorem dX2_take_64 : decode cX2_take 64 = .ok (.aload_n 0, 1) := by decide +kernel
theorem dX2_take_65 : decode cX2_take 65 = .ok (.getfield 45, 3) := by decide +kernel
theorem dX2_take_68 : decode cX2_take 68 = .ok (.lload_n 1, 1) := by decide +kernel
theorem dX2_take_69 : decode cX2_take 69 = .ok (.iload_n 3, 1) := by decide +kernel
theorem dX2_take_70 : decode cX2_take 70 = .ok (.invokevirtual 64, 3) := by decide +kernel
theorem dX2_take_73 : decode cX2_take 73 = .ok (.return_, 1) := by decide +kernel
theorem dX2_sortIn_0 : decode cX2_sortIn 0 = .ok (.aload_n 0, 1) := by decide +kernel
theorem dX2_sortIn_1 : decode cX2_sortIn 1 = .ok (.getfield 42, 3) := by decide +kernel
theorem dX2_sortIn_4 : decode cX2_sortIn 4 = .ok (.istore_n 2, 1) := by decide +kernel
theorem dX2_sortIn_5 : decode cX2_sortIn 5 = .ok (.iload_n 2, 1) := by decide +kernel
theorem dX2_sortIn_6 : decode cX2_sortIn 6 = .ok (.ifCond .le 44, 3) := by decide +kernel
theorem dX2_sortIn_9 : decode cX2_sortIn 9 = .ok (.iload_n 2, 1) := by decide +kernel
theorem dX2_sortIn_10 : decode cX2_sortIn 10 = .ok (.aload_n 0, 1) := by decide +kernel
theorem dX2_sortIn_11 : decode cX2_sortIn 11 = .ok (.getfield 26, 3) := by decide +kernel
theorem dX2_sortIn_14 : decode cX2_sortIn 14 = .ok (.arraylength, 1) := by decide +kernel
theorem dX2_sortIn_15 : decode cX2_sortIn 15 = .ok (.if_icmp .ge 35, 3) := by decide +kernel
theorem dX2_sortIn_18 : decode cX2_sortIn 18 = .ok (.aload_n 0, 1) := by decide +kernel
theorem dX2_sortIn_19 : decode cX2_sortIn 19 = .ok (.getfield 26, 3) := by decide +kernel
theorem dX2_sortIn_22 : decode cX2_sortIn 22 = .ok (.iload_n 2, 1) := by decide +kernel
theorem dX2_sortIn_23 : decode cX2_sortIn 23 = .ok (.iconst 1, 1) := by decide +kernel
theorem dX2_sortIn_24 : decode cX2_sortIn 24 = .ok (.isub, 1) := by decide +kernel
theorem dX2_sortIn_25 : decode cX2_sortIn 25 = .ok (.iaload, 1) := by decide +kernel
theorem dX2_sortIn_26 : decode cX2_sortIn 26 = .ok (.iload_n 1, 1) := by decide +kernel
theorem dX2_sortIn_27 : decode cX2_sortIn 27 = .ok (.if_icmp .le 23, 3) := by decide +kernel
theorem dX2_sortIn_30 : decode cX2_sortIn 30 = .ok (.aload_n 0, 1) := by decide +kernel
theorem dX2_sortIn_31 : decode cX2_sortIn 31 = .ok (.getfield 26, 3) := by decide +kernel
theorem dX2_sortIn_34 : decode cX2_sortIn 34 = .ok (.iload_n 2, 1) := by decide +kernel
theorem dX2_sortIn_35 : decode cX2_sortIn 35 = .ok (.aload_n 0, 1) := by decide +kernel
theorem dX2_sortIn_36 : decode cX2_sortIn 36 = .ok (.getfield 26, 3) := by decide +kernel
theorem dX2_sortIn_39 : decode cX2_sortIn 39 = .ok (.iload_n 2, 1) := by decide +kernel
theorem dX2_sortIn_40 : decode cX2_sortIn 40 = .ok (.iconst 1, 1) := by decide +kernel
theorem dX2_sortIn_41 : decode cX2_sortIn 41 = .ok (.isub, 1) := by decide +kernel
theorem dX2_sortIn_42 : decode cX2_sortIn 42 = .ok (.iaload, 1) := by decide +kernel
theorem dX2_sortIn_43 : decode cX2_sortIn 43 = .ok (.iastore, 1) := by decide +kernel
theorem dX2_sortIn_44 : decode cX2_sortIn 44 = .ok (.iinc 2 (-1), 3) := by decide +kernel
theorem dX2_sortIn_47 : decode cX2_sortIn 47 = .ok (.goto (-42), 3) := by decide +kernel
theorem dX2_sortIn_50 : decode cX2_sortIn 50 = .ok (.iload_n 2, 1) := by decide +kernel
theorem dX2_sortIn_51 : decode cX2_sortIn 51 = .ok (.ifCond .lt 19, 3) := by decide +kernel
theorem dX2_sortIn_54 : decode cX2_sortIn 54 = .ok (.iload_n 2, 1) := by decide +kernel
theorem dX2_sortIn_55 : decode cX2_sortIn 55 = .ok (.aload_n 0, 1) := by decide +kernel
theorem dX2_sortIn_56 : decode cX2_sortIn 56 = .ok (.getfield 26, 3) := by decide +kernel
theorem dX2_sortIn_59 : decode cX2_sortIn 59 = .ok (.arraylength, 1) := by decide +kernel
theorem dX2_sortIn_60 : decode cX2_sortIn 60 = .ok (.if_icmp .ge 10, 3) := by decide +kernel
theorem dX2_sortIn_63 : decode cX2_sortIn 63 = .ok (.aload_n 0, 1) := by decide +kernel
theorem dX2_sortIn_64 : decode cX2_sortIn 64 = .ok (.getfield 26, 3) := by decide +kernel
theorem dX2_sortIn_67 : decode cX2_sortIn 67 = .ok (.iload_n 2, 1) := by decide +kernel
theorem dX2_sortIn_68 : decode cX2_sortIn 68 = .ok (.iload_n 1, 1) := by decide +kernel
theorem dX2_sortIn_69 : decode cX2_sortIn 69 = .ok (.iastore, 1) := by decide +kernel
theorem dX2_sortIn_70 : decode cX2_sortIn 70 = .ok (.return_, 1) := by decide +kernel
theorem dX2_toBlock_0 : decode cX2_toBlock 0 = .ok (.aload_n 0, 1) := by decide +kernel
theorem dX2_toBlock_1 : decode cX2_toBlock 1 = .ok (.getfield 42, 3) := by decide +kernel
theorem dX2_toBlock_4 : decode cX2_toBlock 4 = .ok (.bipush 8, 2) := by decide +kernel
theorem dX2_toBlock_6 : decode cX2_toBlock 6 = .ok (.idiv, 1) := by decide +kernel
theorem dX2_toBlock_7 : decode cX2_toBlock 7 = .ok (.istore 4, 2) := by decide +kernel
theorem dX2_toBlock_9 : decode cX2_toBlock 9 = .ok (.iload 4, 2) := by decide +kernel
theorem dX2_toBlock_11 : decode cX2_toBlock 11 = .ok (.aload_n 0, 1) := by decide +kernel
theorem dX2_toBlock_12 : decode cX2_toBlock 12 = .ok (.getfield 31, 3) := by decide +kernel
theorem dX2_toBlock_15 : decode cX2_toBlock 15 = .ok (.arraylength, 1) := by decide +kernel
theorem dX2_toBlock_16 : decode cX2_toBlock 16 = .ok (.if_icmp .lt 4, 3) := by decide +kernel
theorem dX2_toBlock_19 : decode cX2_toBlock 19 = .ok (.return_, 1) := by decide +kernel
theorem dX2_toBlock_20 : decode cX2_toBlock 20 = .ok (.aload_n 0, 1) := by decide +kernel
theorem dX2_toBlock_21 : decode cX2_toBlock 21 = .ok (.getfield 31, 3) := by decide +kernel
theorem dX2_toBlock_24 : decode cX2_toBlock 24 = .ok (.iload 4, 2) := by decide +kernel
theorem dX2_toBlock_26 : decode cX2_toBlock 26 = .ok (.aaload, 1) := by decide +kernel
theorem dX2_toBlock_27 : decode cX2_toBlock 27 = .ok (.astore 5, 2) := by decide +kernel
theorem dX2_toBlock_29 : decode cX2_toBlock 29 = .ok (.aload 5, 2) := by decide +kernel
theorem dX2_toBlock_31 : decode cX2_toBlock 31 = .ok (.ifnonnull 22, 3) := by decide +kernel
theorem dX2_toBlock_34 : decode cX2_toBlock 34 = .ok (.aload_n 0, 1) := by decide +kernel
theorem dX2_toBlock_35 : decode cX2_toBlock 35 = .ok (.getfield 31, 3) := by decide +kernel
theorem dX2_toBlock_38 : decode cX2_toBlock 38 = .ok (.iload 4, 2) := by decide +kernel
theorem dX2_toBlock_40 : decode cX2_toBlock 40 = .ok (.new 29, 3) := by decide +kernel
theorem dX2_toBlock_43 : decode cX2_toBlock 43 = .ok (.dup, 1) := by decide +kernel
theorem dX2_toBlock_44 : decode cX2_toBlock 44 = .ok (.lload_n 1, 1) := by decide +kernel
theorem dX2_toBlock_45 : decode cX2_toBlock 45 = .ok (.iload_n 3, 1) := by decide +kernel
theorem dX2_toBlock_46 : decode cX2_toBlock 46 = .ok (.invokespecial 69, 3) := by decide +kernel
theorem dX2_toBlock_49 : decode cX2_toBlock 49 = .ok (.aastore, 1) := by decide +kernel
theorem dX2_toBlock_50 : decode cX2_toBlock 50 = .ok (.goto 10, 3) := by decide +kernel
theorem dX2_toBlock_53 : decode cX2_toBlock 53 = .ok (.aload 5, 2) := by decide +kernel
theorem dX2_toBlock_55 : decode cX2_toBlock 55 = .ok (.lload_n 1, 1) := by decide +kernel
theorem dX2_toBlock_56 : decode cX2_toBlock 56 = .ok (.iload_n 3, 1) := by decide +kernel
theorem dX2_toBlock_57 : decode cX2_toBlock 57 = .ok (.invokevirtual 71, 3) := by decide +kernel
theorem dX2_toBlock_60 : decode cX2_toBlock 60 = .ok (.return_, 1) := by decide +kernel
theorem dX2_blockAt_0 : decode cX2_blockAt 0 = .ok (.iload_n 1, 1) := by decide +kernel
theorem dX2_blockAt_1 : decode cX2_blockAt 1 = .ok (.ifCond .lt 21, 3) := by decide +kernel
theorem dX2_blockAt_4 : decode cX2_blockAt 4 = .ok (.iload_n 1, 1) := by decide +kernel
theorem dX2_blockAt_5 : decode cX2_blockAt 5 = .ok (.aload_n 0, 1) := by decide +kernel
theorem dX2_blockAt_6 : decode cX2_blockAt 6 = .ok (.getfield 31, 3) := by decide +kernel
theorem dX2_blockAt_9 : decode cX2_blockAt 9 = .ok (.arraylength, 1) := by decide +kernel
theorem dX2_blockAt_10 : decode cX2_blockAt 10 = .ok (.if_icmp .ge 12, 3) := by decide +kernel
theorem dX2_blockAt_13 : decode cX2_blockAt 13 = .ok (.aload_n 0, 1) := by decide +kernel
theorem dX2_blockAt_14 : decode cX2_blockAt 14 = .ok (.getfield 31, 3) := by decide +kernel
theorem dX2_blockAt_17 : decode cX2_blockAt 17 = .ok (.iload_n 1, 1) := by decide +kernel
theorem dX2_blockAt_18 : decode cX2_blockAt 18 = .ok (.aaload, 1) := by decide +kernel
theorem dX2_blockAt_19 : decode cX2_blockAt 19 = .ok (.goto 4, 3) := by decide +kernel
theorem dX2_blockAt_22 : decode cX2_blockAt 22 = .ok (.aconst_null, 1) := by decide +kernel
theorem dX2_blockAt_23 : decode cX2_blockAt 23 = .ok (.areturn, 1) := by decide +kernel
theorem dX2_blockCount_0 : decode cX2_blockCount 0 = .ok (.aload_n 0, 1) := by decide +kernel
theorem dX2_blockCount_1 : decode cX2_blockCount 1 = .ok (.getfield 42, 3) := by decide +kernel
theorem dX2_blockCount_4 : decode cX2_blockCount 4 = .ok (.bipush 8, 2) := by decide +kernel
theorem dX2_blockCount_6 : decode cX2_blockCount 6 = .ok (.iadd, 1) := by decide +kernel
theorem dX2_blockCount_7 : decode cX2_blockCount 7 = .ok (.iconst 1, 1) := by decide +kernel
theorem dX2_blockCount_8 : decode cX2_blockCount 8 = .ok (.isub, 1) := by decide +kernel
theorem dX2_blockCount_9 : decode cX2_blockCount 9 = .ok (.bipush 8, 2) := by decide +kernel
theorem dX2_blockCount_11 : decode cX2_blockCount 11 = .ok (.idiv, 1) := by decide +kernel
theorem dX2_blockCount_12 : decode cX2_blockCount 12 = .ok (.ireturn, 1) := by decide +kernel
theorem dX2_blockBits_0 : decode cX2_blockBits 0 = .ok (.lconst 0, 1) := by decide +kernel
theorem dX2_blockBits_1 : decode cX2_blockBits 1 = .ok (.lstore_n 1, 1) := by decide +kernel
theorem dX2_blockBits_2 : decode cX2_blockBits 2 = .ok (.aload_n 0, 1) := by decide +kernel
theorem dX2_blockBits_3 : decode cX2_blockBits 3 = .ok (.getfield 31, 3) := by decide +kernel
theorem dX2_blockBits_6 : decode cX2_blockBits 6 = .ok (.astore_n 3, 1) := by decide +kernel
theorem dX2_blockBits_7 : decode cX2_blockBits 7 = .ok (.aload_n 3, 1) := by decide +kernel
theorem dX2_blockBits_8 : decode cX2_blockBits 8 = .ok (.arraylength, 1) := by decide +kernel
theorem dX2_blockBits_9 : decode cX2_blockBits 9 = .ok (.istore 4, 2) := by decide +kernel
theorem dX2_blockBits_11 : decode cX2_blockBits 11 = .ok (.iconst 0, 1) := by decide +kernel
theorem dX2_blockBits_12 : decode cX2_blockBits 12 = .ok (.istore 5, 2) := by decide +kernel
theorem dX2_blockBits_14 : decode cX2_blockBits 14 = .ok (.iload 5, 2) := by decide +kernel
theorem dX2_blockBits_16 : decode cX2_blockBits 16 = .ok (.iload 4, 2) := by decide +kernel
theorem dX2_blockBits_18 : decode cX2_blockBits 18 = .ok (.if_icmp .ge 29, 3) := by decide +kernel
theorem dX2_blockBits_21 : decode cX2_blockBits 21 = .ok (.aload_n 3, 1) := by decide +kernel
theorem dX2_blockBits_22 : decode cX2_blockBits 22 = .ok (.iload 5, 2) := by decide +kernel
theorem dX2_blockBits_24 : decode cX2_blockBits 24 = .ok (.aaload, 1) := by decide +kernel
theorem dX2_blockBits_25 : decode cX2_blockBits 25 = .ok (.astore 6, 2) := by decide +kernel
theorem dX2_blockBits_27 : decode cX2_blockBits 27 = .ok (.aload 6, 2) := by decide +kernel
theorem dX2_blockBits_29 : decode cX2_blockBits 29 = .ok (.ifnull 12, 3) := by decide +kernel
theorem dX2_blockBits_32 : decode cX2_blockBits 32 = .ok (.lload_n 1, 1) := by decide +kernel
theorem dX2_blockBits_33 : decode cX2_blockBits 33 = .ok (.aload 6, 2) := by decide +kernel
theorem dX2_blockBits_35 : decode cX2_blockBits 35 = .ok (.getfield 74, 3) := by decide +kernel
theorem dX2_blockBits_38 : decode cX2_blockBits 38 = .ok (.i2l, 1) := by decide +kernel
theorem dX2_blockBits_39 : decode cX2_blockBits 39 = .ok (.ladd, 1) := by decide +kernel
theorem dX2_blockBits_40 : decode cX2_blockBits 40 = .ok (.lstore_n 1, 1) := by decide +kernel
theorem dX2_blockBits_41 : decode cX2_blockBits 41 = .ok (.iinc 5 1, 3) := by decide +kernel
theorem dX2_blockBits_44 : decode cX2_blockBits 44 = .ok (.goto (-30), 3) := by decide +kernel
theorem dX2_blockBits_47 : decode cX2_blockBits 47 = .ok (.lload_n 1, 1) := by decide +kernel
theorem dX2_blockBits_48 : decode cX2_blockBits 48 = .ok (.lreturn, 1) := by decide +kernel
theorem dX2_readBlocks_0 : decode cX2_readBlocks 0 = .ok (.aload_n 1, 1) := by decide +kernel
theorem dX2_readBlocks_1 : decode cX2_readBlocks 1 = .ok (.invokevirtual 77, 3) := by decide +kernel
theorem dX2_readBlocks_4 : decode cX2_readBlocks 4 = .ok (.aload_n 0, 1) := by decide +kernel
theorem dX2_readBlocks_5 : decode cX2_readBlocks 5 = .ok (.getfield 31, 3) := by decide +kernel
theorem dX2_readBlocks_8 : decode cX2_readBlocks 8 = .ok (.astore 6, 2) := by decide +kernel
theorem dX2_readBlocks_10 : decode cX2_readBlocks 10 = .ok (.aload 6, 2) := by decide +kernel
theorem dX2_readBlocks_12 : decode cX2_readBlocks 12 = .ok (.arraylength, 1) := by decide +kernel
theorem dX2_readBlocks_13 : decode cX2_readBlocks 13 = .ok (.istore 7, 2) := by decide +kernel
theorem dX2_readBlocks_15 : decode cX2_readBlocks 15 = .ok (.iconst 0, 1) := by decide +kernel
theorem dX2_readBlocks_16 : decode cX2_readBlocks 16 = .ok (.istore 8, 2) := by decide +kernel
theorem dX2_readBlocks_18 : decode cX2_readBlocks 18 = .ok (.iload 8, 2) := by decide +kernel
theorem dX2_readBlocks_20 : decode cX2_readBlocks 20 = .ok (.iload 7, 2) := by decide +kernel
theorem dX2_readBlocks_22 : decode cX2_readBlocks 22 = .ok (.if_icmp .ge 30, 3) := by decide +kernel
theorem dX2_readBlocks_25 : decode cX2_readBlocks 25 = .ok (.aload 6, 2) := by decide +kernel
theorem dX2_readBlocks_27 : decode cX2_readBlocks 27 = .ok (.iload 8, 2) := by decide +kernel
theorem dX2_readBlocks_29 : decode cX2_readBlocks 29 = .ok (.aaload, 1) := by decide +kernel
theorem dX2_readBlocks_30 : decode cX2_readBlocks 30 = .ok (.astore 9, 2) := by decide +kernel
theorem dX2_readBlocks_32 : decode cX2_readBlocks 32 = .ok (.aload 9, 2) := by decide +kernel
theorem dX2_readBlocks_34 : decode cX2_readBlocks 34 = .ok (.ifnull 12, 3) := by decide +kernel
theorem dX2_readBlocks_37 : decode cX2_readBlocks 37 = .ok (.aload 9, 2) := by decide +kernel
theorem dX2_readBlocks_39 : decode cX2_readBlocks 39 = .ok (.aload_n 1, 1) := by decide +kernel
theorem dX2_readBlocks_40 : decode cX2_readBlocks 40 = .ok (.lload_n 2, 1) := by decide +kernel
theorem dX2_readBlocks_41 : decode cX2_readBlocks 41 = .ok (.lload 4, 2) := by decide +kernel
theorem dX2_readBlocks_43 : decode cX2_readBlocks 43 = .ok (.invokevirtual 82, 3) := by decide +kernel
theorem dX2_readBlocks_46 : decode cX2_readBlocks 46 = .ok (.iinc 8 1, 3) := by decide +kernel
theorem dX2_readBlocks_49 : decode cX2_readBlocks 49 = .ok (.goto (-31), 3) := by decide +kernel
theorem dX2_readBlocks_52 : decode cX2_readBlocks 52 = .ok (.return_, 1) := by decide +kernel
theorem dX2_readSamples_0 : decode cX2_readSamples 0 = .ok (.aload_n 1, 1) := by decide +kernel
theorem dX2_readSamples_1 : decode cX2_readSamples 1 = .ok (.invokevirtual 77, 3) := by decide +kernel
theorem dX2_readSamples_4 : decode cX2_readSamples 4 = .ok (.iconst 0, 1) := by decide +kernel
theorem dX2_readSamples_5 : decode cX2_readSamples 5 = .ok (.istore 6, 2) := by decide +kernel
theorem dX2_readSamples_7 : decode cX2_readSamples 7 = .ok (.iload 6, 2) := by decide +kernel
theorem dX2_readSamples_9 : decode cX2_readSamples 9 = .ok (.aload_n 0, 1) := by decide +kernel
theorem dX2_readSamples_10 : decode cX2_readSamples 10 = .ok (.getfield 42, 3) := by decide +kernel
theorem dX2_readSamples_13 : decode cX2_readSamples 13 = .ok (.if_icmp .ge 65, 3) := by decide +kernel
theorem dX2_readSamples_16 : decode cX2_readSamples 16 = .ok (.iload 6, 2) := by decide +kernel
theorem dX2_readSamples_18 : decode cX2_readSamples 18 = .ok (.aload_n 0, 1) := by decide +kernel
theorem dX2_readSamples_19 : decode cX2_readSamples 19 = .ok (.getfield 18, 3) := by decide +kernel
theorem dX2_readSamples_22 : decode cX2_readSamples 22 = .ok (.arraylength, 1) := by decide +kernel
theorem dX2_readSamples_23 : decode cX2_readSamples 23 = .ok (.if_icmp .ge 55, 3) := by decide +kernel
theorem dX2_readSamples_26 : decode cX2_readSamples 26 = .ok (.iload 6, 2) := by decide +kernel
theorem dX2_readSamples_28 : decode cX2_readSamples 28 = .ok (.aload_n 0, 1) := by decide +kernel
theorem dX2_readSamples_29 : decode cX2_readSamples 29 = .ok (.getfield 22, 3) := by decide +kernel
theorem dX2_readSamples_32 : decode cX2_readSamples 32 = .ok (.arraylength, 1) := by decide +kernel
theorem dX2_readSamples_33 : decode cX2_readSamples 33 = .ok (.if_icmp .ge 45, 3) := by decide +kernel
theorem dX2_readSamples_36 : decode cX2_readSamples 36 = .ok (.aload_n 0, 1) := by decide +kernel
theorem dX2_readSamples_37 : decode cX2_readSamples 37 = .ok (.getfield 18, 3) := by decide +kernel
theorem dX2_readSamples_40 : decode cX2_readSamples 40 = .ok (.iload 6, 2) := by decide +kernel
theorem dX2_readSamples_42 : decode cX2_readSamples 42 = .ok (.laload, 1) := by decide +kernel
theorem dX2_readSamples_43 : decode cX2_readSamples 43 = .ok (.lload_n 2, 1) := by decide +kernel
theorem dX2_readSamples_44 : decode cX2_readSamples 44 = .ok (.lcmp, 1) := by decide +kernel
theorem dX2_readSamples_45 : decode cX2_readSamples 45 = .ok (.ifCond .lt 27, 3) := by decide +kernel
theorem dX2_readSamples_48 : decode cX2_readSamples 48 = .ok (.aload_n 0, 1) := by decide +kernel
theorem dX2_readSamples_49 : decode cX2_readSamples 49 = .ok (.getfield 18, 3) := by decide +kernel
theorem dX2_readSamples_52 : decode cX2_readSamples 52 = .ok (.iload 6, 2) := by decide +kernel
theorem dX2_readSamples_54 : decode cX2_readSamples 54 = .ok (.laload, 1) := by decide +kernel
theorem dX2_readSamples_55 : decode cX2_readSamples 55 = .ok (.lload 4, 2) := by decide +kernel
theorem dX2_readSamples_57 : decode cX2_readSamples 57 = .ok (.lcmp, 1) := by decide +kernel
theorem dX2_readSamples_58 : decode cX2_readSamples 58 = .ok (.ifCond .gt 14, 3) := by decide +kernel
theorem dX2_readSamples_61 : decode cX2_readSamples 61 = .ok (.aload_n 1, 1) := by decide +kernel
theorem dX2_readSamples_62 : decode cX2_readSamples 62 = .ok (.aload_n 0, 1) := by decide +kernel
theorem dX2_readSamples_63 : decode cX2_readSamples 63 = .ok (.getfield 22, 3) := by decide +kernel
theorem dX2_readSamples_66 : decode cX2_readSamples 66 = .ok (.iload 6, 2) := by decide +kernel
theorem dX2_readSamples_68 : decode cX2_readSamples 68 = .ok (.iaload, 1) := by decide +kernel
theorem dX2_readSamples_69 : decode cX2_readSamples 69 = .ok (.invokevirtual 86, 3) := by decide +kernel
theorem dX2_readSamples_72 : decode cX2_readSamples 72 = .ok (.iinc 6 1, 3) := by decide +kernel
theorem dX2_readSamples_75 : decode cX2_readSamples 75 = .ok (.goto (-68), 3) := by decide +kernel
theorem dX2_readSamples_78 : decode cX2_readSamples 78 = .ok (.return_, 1) := by decide +kernel
theorem dX2_readRollupsInside_0 : decode cX2_readRollupsInside 0 = .ok (.aload_n 1, 1) := by decide +kernel
theorem dX2_readRollupsInside_1 : decode cX2_readRollupsInside 1 = .ok (.invokevirtual 77, 3) := by decide +kernel
theorem dX2_readRollupsInside_4 : decode cX2_readRollupsInside 4 = .ok (.iconst 0, 1) := by decide +kernel
theorem dX2_readRollupsInside_5 : decode cX2_readRollupsInside 5 = .ok (.istore 6, 2) := by decide +kernel
theorem dX2_readRollupsInside_7 : decode cX2_readRollupsInside 7 = .ok (.iload 6, 2) := by decide +kernel
theorem dX2_readRollupsInside_9 : decode cX2_readRollupsInside 9 = .ok (.aload_n 0, 1) := by decide +kernel
theorem dX2_readRollupsInside_10 : decode cX2_readRollupsInside 10 = .ok (.getfield 42, 3) := by decide +kernel
theorem dX2_readRollupsInside_13 : decode cX2_readRollupsInside 13 = .ok (.if_icmp .ge 73, 3) := by decide +kernel
theorem dX2_readRollupsInside_16 : decode cX2_readRollupsInside 16 = .ok (.iload 6, 2) := by decide +kernel
theorem dX2_readRollupsInside_18 : decode cX2_readRollupsInside 18 = .ok (.aload_n 0, 1) := by decide +kernel
theorem dX2_readRollupsInside_19 : decode cX2_readRollupsInside 19 = .ok (.getfield 18, 3) := by decide +kernel
theorem dX2_readRollupsInside_22 : decode cX2_readRollupsInside 22 = .ok (.arraylength, 1) := by decide +kernel
theorem dX2_readRollupsInside_23 : decode cX2_readRollupsInside 23 = .ok (.if_icmp .ge 63, 3) := by decide +kernel
theorem dX2_readRollupsInside_26 : decode cX2_readRollupsInside 26 = .ok (.iload 6, 2) := by decide +kernel
theorem dX2_readRollupsInside_28 : decode cX2_readRollupsInside 28 = .ok (.aload_n 0, 1) := by decide +kernel
theorem dX2_readRollupsInside_29 : decode cX2_readRollupsInside 29 = .ok (.getfield 22, 3) := by decide +kernel
theorem dX2_readRollupsInside_32 : decode cX2_readRollupsInside 32 = .ok (.arraylength, 1) := by decide +kernel
theorem dX2_readRollupsInside_33 : decode cX2_readRollupsInside 33 = .ok (.if_icmp .ge 53, 3) := by decide +kernel
theorem dX2_readRollupsInside_36 : decode cX2_readRollupsInside 36 = .ok (.aload_n 0, 1) := by decide +kernel
theorem dX2_readRollupsInside_37 : decode cX2_readRollupsInside 37 = .ok (.getfield 18, 3) := by decide +kernel
theorem dX2_readRollupsInside_40 : decode cX2_readRollupsInside 40 = .ok (.iload 6, 2) := by decide +kernel
theorem dX2_readRollupsInside_42 : decode cX2_readRollupsInside 42 = .ok (.laload, 1) := by decide +kernel
theorem dX2_readRollupsInside_43 : decode cX2_readRollupsInside 43 = .ok (.invokestatic 87, 3) := by decide +kernel
theorem dX2_readRollupsInside_46 : decode cX2_readRollupsInside 46 = .ok (.lstore 7, 2) := by decide +kernel
theorem dX2_readRollupsInside_48 : decode cX2_readRollupsInside 48 = .ok (.lload 7, 2) := by decide +kernel
theorem dX2_readRollupsInside_50 : decode cX2_readRollupsInside 50 = .ok (.lload_n 2, 1) := by decide +kernel
theorem dX2_readRollupsInside_51 : decode cX2_readRollupsInside 51 = .ok (.lcmp, 1) := by decide +kernel
theorem dX2_readRollupsInside_52 : decode cX2_readRollupsInside 52 = .ok (.ifCond .lt 28, 3) := by decide +kernel
theorem dX2_readRollupsInside_55 : decode cX2_readRollupsInside 55 = .ok (.lload 7, 2) := by decide +kernel
theorem dX2_readRollupsInside_57 : decode cX2_readRollupsInside 57 = .ok (.ldc2_w 91, 3) := by decide +kernel
theorem dX2_readRollupsInside_60 : decode cX2_readRollupsInside 60 = .ok (.ladd, 1) := by decide +kernel
theorem dX2_readRollupsInside_61 : decode cX2_readRollupsInside 61 = .ok (.lconst 1, 1) := by decide +kernel
theorem dX2_readRollupsInside_62 : decode cX2_readRollupsInside 62 = .ok (.lsub, 1) := by decide +kernel
theorem dX2_readRollupsInside_63 : decode cX2_readRollupsInside 63 = .ok (.lload 4, 2) := by decide +kernel
theorem dX2_readRollupsInside_65 : decode cX2_readRollupsInside 65 = .ok (.lcmp, 1) := by decide +kernel
theorem dX2_readRollupsInside_66 : decode cX2_readRollupsInside 66 = .ok (.ifCond .gt 14, 3) := by decide +kernel
theorem dX2_readRollupsInside_69 : decode cX2_readRollupsInside 69 = .ok (.aload_n 1, 1) := by decide +kernel
theorem dX2_readRollupsInside_70 : decode cX2_readRollupsInside 70 = .ok (.aload_n 0, 1) := by decide +kernel
theorem dX2_readRollupsInside_71 : decode cX2_readRollupsInside 71 = .ok (.getfield 22, 3) := by decide +kernel
theorem dX2_readRollupsInside_74 : decode cX2_readRollupsInside 74 = .ok (.iload 6, 2) := by decide +kernel
theorem dX2_readRollupsInside_76 : decode cX2_readRollupsInside 76 = .ok (.iaload, 1) := by decide +kernel
theorem dX2_readRollupsInside_77 : decode cX2_readRollupsInside 77 = .ok (.invokevirtual 86, 3) := by decide +kernel
theorem dX2_readRollupsInside_80 : decode cX2_readRollupsInside 80 = .ok (.iinc 6 1, 3) := by decide +kernel
theorem dX2_readRollupsInside_83 : decode cX2_readRollupsInside 83 = .ok (.goto (-76), 3) := by decide +kernel
theorem dX2_readRollupsInside_86 : decode cX2_readRollupsInside 86 = .ok (.return_, 1) := by decide +kernel
theorem dX2_readRollupsTouching_0 : decode cX2_readRollupsTouching 0 = .ok (.aload_n 1, 1) := by decide +kernel
theorem dX2_readRollupsTouching_1 : decode cX2_readRollupsTouching 1 = .ok (.invokevirtual 77, 3) := by decide +kernel
theorem dX2_readRollupsTouching_4 : decode cX2_readRollupsTouching 4 = .ok (.iconst 0, 1) := by decide +kernel
theorem dX2_readRollupsTouching_5 : decode cX2_readRollupsTouching 5 = .ok (.istore 6, 2) := by decide +kernel
theorem dX2_readRollupsTouching_7 : decode cX2_readRollupsTouching 7 = .ok (.iload 6, 2) := by decide +kernel
theorem dX2_readRollupsTouching_9 : decode cX2_readRollupsTouching 9 = .ok (.aload_n 0, 1) := by decide +kernel
theorem dX2_readRollupsTouching_10 : decode cX2_readRollupsTouching 10 = .ok (.getfield 42, 3) := by decide +kernel
theorem dX2_readRollupsTouching_13 : decode cX2_readRollupsTouching 13 = .ok (.if_icmp .ge 73, 3) := by decide +kernel
theorem dX2_readRollupsTouching_16 : decode cX2_readRollupsTouching 16 = .ok (.iload 6, 2) := by decide +kernel
theorem dX2_readRollupsTouching_18 : decode cX2_readRollupsTouching 18 = .ok (.aload_n 0, 1) := by decide +kernel
theorem dX2_readRollupsTouching_19 : decode cX2_readRollupsTouching 19 = .ok (.getfield 18, 3) := by decide +kernel
theorem dX2_readRollupsTouching_22 : decode cX2_readRollupsTouching 22 = .ok (.arraylength, 1) := by decide +kernel
theorem dX2_readRollupsTouching_23 : decode cX2_readRollupsTouching 23 = .ok (.if_icmp .ge 63, 3) := by decide +kernel
theorem dX2_readRollupsTouching_26 : decode cX2_readRollupsTouching 26 = .ok (.iload 6, 2) := by decide +kernel
theorem dX2_readRollupsTouching_28 : decode cX2_readRollupsTouching 28 = .ok (.aload_n 0, 1) := by decide +kernel
theorem dX2_readRollupsTouching_29 : decode cX2_readRollupsTouching 29 = .ok (.getfield 22, 3) := by decide +kernel
theorem dX2_readRollupsTouching_32 : decode cX2_readRollupsTouching 32 = .ok (.arraylength, 1) := by decide +kernel
theorem dX2_readRollupsTouching_33 : decode cX2_readRollupsTouching 33 = .ok (.if_icmp .ge 53, 3) := by decide +kernel
theorem dX2_readRollupsTouching_36 : decode cX2_readRollupsTouching 36 = .ok (.aload_n 0, 1) := by decide +kernel
theorem dX2_readRollupsTouching_37 : decode cX2_readRollupsTouching 37 = .ok (.getfield 18, 3) := by decide +kernel
theorem dX2_readRollupsTouching_40 : decode cX2_readRollupsTouching 40 = .ok (.iload 6, 2) := by decide +kernel
theorem dX2_readRollupsTouching_42 : decode cX2_readRollupsTouching 42 = .ok (.laload, 1) := by decide +kernel
theorem dX2_readRollupsTouching_43 : decode cX2_readRollupsTouching 43 = .ok (.invokestatic 87, 3) := by decide +kernel
theorem dX2_readRollupsTouching_46 : decode cX2_readRollupsTouching 46 = .ok (.lstore 7, 2) := by decide +kernel
theorem dX2_readRollupsTouching_48 : decode cX2_readRollupsTouching 48 = .ok (.lload 7, 2) := by decide +kernel
theorem dX2_readRollupsTouching_50 : decode cX2_readRollupsTouching 50 = .ok (.ldc2_w 91, 3) := by decide +kernel
theorem dX2_readRollupsTouching_53 : decode cX2_readRollupsTouching 53 = .ok (.ladd, 1) := by decide +kernel
theorem dX2_readRollupsTouching_54 : decode cX2_readRollupsTouching 54 = .ok (.lconst 1, 1) := by decide +kernel
theorem dX2_readRollupsTouching_55 : decode cX2_readRollupsTouching 55 = .ok (.lsub, 1) := by decide +kernel
theorem dX2_readRollupsTouching_56 : decode cX2_readRollupsTouching 56 = .ok (.lload_n 2, 1) := by decide +kernel
theorem dX2_readRollupsTouching_57 : decode cX2_readRollupsTouching 57 = .ok (.lcmp, 1) := by decide +kernel
theorem dX2_readRollupsTouching_58 : decode cX2_readRollupsTouching 58 = .ok (.ifCond .lt 22, 3) := by decide +kernel
theorem dX2_readRollupsTouching_61 : decode cX2_readRollupsTouching 61 = .ok (.lload 7, 2) := by decide +kernel
theorem dX2_readRollupsTouching_63 : decode cX2_readRollupsTouching 63 = .ok (.lload 4, 2) := by decide +kernel
theorem dX2_readRollupsTouching_65 : decode cX2_readRollupsTouching 65 = .ok (.lcmp, 1) := by decide +kernel
theorem dX2_readRollupsTouching_66 : decode cX2_readRollupsTouching 66 = .ok (.ifCond .gt 14, 3) := by decide +kernel
theorem dX2_readRollupsTouching_69 : decode cX2_readRollupsTouching 69 = .ok (.aload_n 1, 1) := by decide +kernel
theorem dX2_readRollupsTouching_70 : decode cX2_readRollupsTouching 70 = .ok (.aload_n 0, 1) := by decide +kernel
theorem dX2_readRollupsTouching_71 : decode cX2_readRollupsTouching 71 = .ok (.getfield 22, 3) := by decide +kernel
theorem dX2_readRollupsTouching_74 : decode cX2_readRollupsTouching 74 = .ok (.iload 6, 2) := by decide +kernel
theorem dX2_readRollupsTouching_76 : decode cX2_readRollupsTouching 76 = .ok (.iaload, 1) := by decide +kernel
theorem dX2_readRollupsTouching_77 : decode cX2_readRollupsTouching 77 = .ok (.invokevirtual 86, 3) := by decide +kernel
theorem dX2_readRollupsTouching_80 : decode cX2_readRollupsTouching 80 = .ok (.iinc 6 1, 3) := by decide +kernel
theorem dX2_readRollupsTouching_83 : decode cX2_readRollupsTouching 83 = .ok (.goto (-76), 3) := by decide +kernel
theorem dX2_readRollupsTouching_86 : decode cX2_readRollupsTouching 86 = .ok (.return_, 1) := by decide +kernel
theorem dX2_rollupStart_0 : decode cX2_rollupStart 0 = .ok (.lload_n 0, 1) := by decide +kernel
theorem dX2_rollupStart_1 : decode cX2_rollupStart 1 = .ok (.lload_n 0, 1) := by decide +kernel
theorem dX2_rollupStart_2 : decode cX2_rollupStart 2 = .ok (.ldc2_w 91, 3) := by decide +kernel
theorem dX2_rollupStart_5 : decode cX2_rollupStart 5 = .ok (.lrem, 1) := by decide +kernel
theorem dX2_rollupStart_6 : decode cX2_rollupStart 6 = .ok (.lsub, 1) := by decide +kernel
theorem dX2_rollupStart_7 : decode cX2_rollupStart 7 = .ok (.lreturn, 1) := by decide +kernel
theorem dX2_targetOf_0 : decode cX2_targetOf 0 = .ok (.iload_n 1, 1) := by decide +kernel
theorem dX2_targetOf_1 : decode cX2_targetOf 1 = .ok (.aload_n 0, 1) := by decide +kernel
theorem dX2_targetOf_2 : decode cX2_targetOf 2 = .ok (.getfield 42, 3) := by decide +kernel
theorem dX2_targetOf_5 : decode cX2_targetOf 5 = .ok (.imul, 1) := by decide +kernel
theorem dX2_targetOf_6 : decode cX2_targetOf 6 = .ok (.bipush 99, 2) := by decide +kernel
theorem dX2_targetOf_8 : decode cX2_targetOf 8 = .ok (.iadd, 1) := by decide +kernel
theorem dX2_targetOf_9 : decode cX2_targetOf 9 = .ok (.bipush 100, 2) := by decide +kernel
theorem dX2_targetOf_11 : decode cX2_targetOf 11 = .ok (.idiv, 1) := by decide +kernel
theorem dX2_targetOf_12 : decode cX2_targetOf 12 = .ok (.ireturn, 1) := by decide +kernel
theorem dX2_leastReaching_0 : decode cX2_leastReaching 0 = .ok (.iload_n 1, 1) := by decide +kernel
theorem dX2_leastReaching_1 : decode cX2_leastReaching 1 = .ok (.iconst 1, 1) := by decide +kernel
theorem dX2_leastReaching_2 : decode cX2_leastReaching 2 = .ok (.if_icmp .lt 23, 3) := by decide +kernel
theorem dX2_leastReaching_5 : decode cX2_leastReaching 5 = .ok (.iload_n 1, 1) := by decide +kernel
theorem dX2_leastReaching_6 : decode cX2_leastReaching 6 = .ok (.aload_n 0, 1) := by decide +kernel
theorem dX2_leastReaching_7 : decode cX2_leastReaching 7 = .ok (.getfield 26, 3) := by decide +kernel
theorem dX2_leastReaching_10 : decode cX2_leastReaching 10 = .ok (.arraylength, 1) := by decide +kernel
theorem dX2_leastReaching_11 : decode cX2_leastReaching 11 = .ok (.if_icmp .gt 14, 3) := by decide +kernel
theorem dX2_leastReaching_14 : decode cX2_leastReaching 14 = .ok (.aload_n 0, 1) := by decide +kernel
theorem dX2_leastReaching_15 : decode cX2_leastReaching 15 = .ok (.getfield 26, 3) := by decide +kernel
theorem dX2_leastReaching_18 : decode cX2_leastReaching 18 = .ok (.iload_n 1, 1) := by decide +kernel
theorem dX2_leastReaching_19 : decode cX2_leastReaching 19 = .ok (.iconst 1, 1) := by decide +kernel
theorem dX2_leastReaching_20 : decode cX2_leastReaching 20 = .ok (.isub, 1) := by decide +kernel
theorem dX2_leastReaching_21 : decode cX2_leastReaching 21 = .ok (.iaload, 1) := by decide +kernel
theorem dX2_leastReaching_22 : decode cX2_leastReaching 22 = .ok (.goto 4, 3) := by decide +kernel
theorem dX2_leastReaching_25 : decode cX2_leastReaching 25 = .ok (.iconst 0, 1) := by decide +kernel
theorem dX2_leastReaching_26 : decode cX2_leastReaching 26 = .ok (.ireturn, 1) := by decide +kernel
theorem dX2_sketchIsWithin_0 : decode cX2_sketchIsWithin 0 = .ok (.aload_n 0, 1) := by decide +kernel
theorem dX2_sketchIsWithin_1 : decode cX2_sketchIsWithin 1 = .ok (.iload_n 1, 1) := by decide +kernel
theorem dX2_sketchIsWithin_2 : decode cX2_sketchIsWithin 2 = .ok (.invokevirtual 93, 3) := by decide +kernel
theorem dX2_sketchIsWithin_5 : decode cX2_sketchIsWithin 5 = .ok (.istore_n 2, 1) := by decide +kernel
theorem dX2_sketchIsWithin_6 : decode cX2_sketchIsWithin 6 = .ok (.aload_n 0, 1) := by decide +kernel
theorem dX2_sketchIsWithin_7 : decode cX2_sketchIsWithin 7 = .ok (.getfield 38, 3) := by decide +kernel
theorem dX2_sketchIsWithin_10 : decode cX2_sketchIsWithin 10 = .ok (.iload_n 2, 1) := by decide +kernel
theorem dX2_sketchIsWithin_11 : decode cX2_sketchIsWithin 11 = .ok (.invokevirtual 97, 3) := by decide +kernel
theorem dX2_sketchIsWithin_14 : decode cX2_sketchIsWithin 14 = .ok (.istore_n 3, 1) := by decide +kernel
theorem dX2_sketchIsWithin_15 : decode cX2_sketchIsWithin 15 = .ok (.aload_n 0, 1) := by decide +kernel
theorem dX2_sketchIsWithin_16 : decode cX2_sketchIsWithin 16 = .ok (.iload_n 3, 1) := by decide +kernel
theorem dX2_sketchIsWithin_17 : decode cX2_sketchIsWithin 17 = .ok (.invokevirtual 100, 3) := by decide +kernel
theorem dX2_sketchIsWithin_20 : decode cX2_sketchIsWithin 20 = .ok (.iload_n 2, 1) := by decide +kernel
theorem dX2_sketchIsWithin_21 : decode cX2_sketchIsWithin 21 = .ok (.aload_n 0, 1) := by decide +kernel
theorem dX2_sketchIsWithin_22 : decode cX2_sketchIsWithin 22 = .ok (.getfield 38, 3) := by decide +kernel
theorem dX2_sketchIsWithin_25 : decode cX2_sketchIsWithin 25 = .ok (.getfield 103, 3) := by decide +kernel
theorem dX2_sketchIsWithin_28 : decode cX2_sketchIsWithin 28 = .ok (.isub, 1) := by decide +kernel
theorem dX2_sketchIsWithin_29 : decode cX2_sketchIsWithin 29 = .ok (.if_icmp .lt 26, 3) := by decide +kernel
theorem dX2_sketchIsWithin_32 : decode cX2_sketchIsWithin 32 = .ok (.aload_n 0, 1) := by decide +kernel
theorem dX2_sketchIsWithin_33 : decode cX2_sketchIsWithin 33 = .ok (.iload_n 3, 1) := by decide +kernel
theorem dX2_sketchIsWithin_34 : decode cX2_sketchIsWithin 34 = .ok (.iconst 1, 1) := by decide +kernel
theorem dX2_sketchIsWithin_35 : decode cX2_sketchIsWithin 35 = .ok (.isub, 1) := by decide +kernel
theorem dX2_sketchIsWithin_36 : decode cX2_sketchIsWithin 36 = .ok (.invokevirtual 100, 3) := by decide +kernel
theorem dX2_sketchIsWithin_39 : decode cX2_sketchIsWithin 39 = .ok (.iload_n 2, 1) := by decide +kernel
theorem dX2_sketchIsWithin_40 : decode cX2_sketchIsWithin 40 = .ok (.aload_n 0, 1) := by decide +kernel
theorem dX2_sketchIsWithin_41 : decode cX2_sketchIsWithin 41 = .ok (.getfield 38, 3) := by decide +kernel
theorem dX2_sketchIsWithin_44 : decode cX2_sketchIsWithin 44 = .ok (.getfield 103, 3) := by decide +kernel
theorem dX2_sketchIsWithin_47 : decode cX2_sketchIsWithin 47 = .ok (.iadd, 1) := by decide +kernel
theorem dX2_sketchIsWithin_48 : decode cX2_sketchIsWithin 48 = .ok (.if_icmp .ge 7, 3) := by decide +kernel
theorem dX2_sketchIsWithin_51 : decode cX2_sketchIsWithin 51 = .ok (.iconst 1, 1) := by decide +kernel
theorem dX2_sketchIsWithin_52 : decode cX2_sketchIsWithin 52 = .ok (.goto 4, 3) := by decide +kernel
theorem dX2_sketchIsWithin_55 : decode cX2_sketchIsWithin 55 = .ok (.iconst 0, 1) := by decide +kernel
theorem dX2_sketchIsWithin_56 : decode cX2_sketchIsWithin 56 = .ok (.ireturn, 1) := by decide +kernel
theorem dX2_samplesUpTo_0 : decode cX2_samplesUpTo 0 = .ok (.iconst 0, 1) := by decide +kernel
theorem dX2_samplesUpTo_1 : decode cX2_samplesUpTo 1 = .ok (.istore_n 2, 1) := by decide +kernel
theorem dX2_samplesUpTo_2 : decode cX2_samplesUpTo 2 = .ok (.iload_n 2, 1) := by decide +kernel
theorem dX2_samplesUpTo_3 : decode cX2_samplesUpTo 3 = .ok (.aload_n 0, 1) := by decide +kernel
theorem dX2_samplesUpTo_4 : decode cX2_samplesUpTo 4 = .ok (.getfield 42, 3) := by decide +kernel
theorem dX2_samplesUpTo_7 : decode cX2_samplesUpTo 7 = .ok (.if_icmp .ge 28, 3) := by decide +kernel
theorem dX2_samplesUpTo_10 : decode cX2_samplesUpTo 10 = .ok (.iload_n 2, 1) := by decide +kernel
theorem dX2_samplesUpTo_11 : decode cX2_samplesUpTo 11 = .ok (.aload_n 0, 1) := by decide +kernel
theorem dX2_samplesUpTo_12 : decode cX2_samplesUpTo 12 = .ok (.getfield 26, 3) := by decide +kernel
theorem dX2_samplesUpTo_15 : decode cX2_samplesUpTo 15 = .ok (.arraylength, 1) := by decide +kernel
theorem dX2_samplesUpTo_16 : decode cX2_samplesUpTo 16 = .ok (.if_icmp .ge 19, 3) := by decide +kernel
theorem dX2_samplesUpTo_19 : decode cX2_samplesUpTo 19 = .ok (.aload_n 0, 1) := by decide +kernel
theorem dX2_samplesUpTo_20 : decode cX2_samplesUpTo 20 = .ok (.getfield 26, 3) := by decide +kernel
theorem dX2_samplesUpTo_23 : decode cX2_samplesUpTo 23 = .ok (.iload_n 2, 1) := by decide +kernel
theorem dX2_samplesUpTo_24 : decode cX2_samplesUpTo 24 = .ok (.iaload, 1) := by decide +kernel
theorem dX2_samplesUpTo_25 : decode cX2_samplesUpTo 25 = .ok (.iload_n 1, 1) := by decide +kernel
theorem dX2_samplesUpTo_26 : decode cX2_samplesUpTo 26 = .ok (.if_icmp .gt 9, 3) := by decide +kernel
theorem dX2_samplesUpTo_29 : decode cX2_samplesUpTo 29 = .ok (.iinc 2 1, 3) := by decide +kernel
theorem dX2_samplesUpTo_32 : decode cX2_samplesUpTo 32 = .ok (.goto (-30), 3) := by decide +kernel
theorem dX2_samplesUpTo_35 : decode cX2_samplesUpTo 35 = .ok (.iload_n 2, 1) := by decide +kernel
theorem dX2_samplesUpTo_36 : decode cX2_samplesUpTo 36 = .ok (.ireturn, 1) := by decide +kernel
theorem dX2_holdsTogether_0 : decode cX2_holdsTogether 0 = .ok (.aload_n 0, 1) := by decide +kernel
theorem dX2_holdsTogether_1 : decode cX2_holdsTogether 1 = .ok (.invokevirtual 106, 3) := by decide +kernel
theorem dX2_holdsTogether_4 : decode cX2_holdsTogether 4 = .ok (.ifCond .eq 58, 3) := by decide +kernel
theorem dX2_holdsTogether_7 : decode cX2_holdsTogether 7 = .ok (.aload_n 0, 1) := by decide +kernel
theorem dX2_holdsTogether_8 : decode cX2_holdsTogether 8 = .ok (.getfield 38, 3) := by decide +kernel
theorem dX2_holdsTogether_11 : decode cX2_holdsTogether 11 = .ok (.sipush 10000, 3) := by decide +kernel
theorem dX2_holdsTogether_14 : decode cX2_holdsTogether 14 = .ok (.invokevirtual 109, 3) := by decide +kernel
theorem dX2_holdsTogether_17 : decode cX2_holdsTogether 17 = .ok (.aload_n 0, 1) := by decide +kernel
theorem dX2_holdsTogether_18 : decode cX2_holdsTogether 18 = .ok (.getfield 42, 3) := by decide +kernel
theorem dX2_holdsTogether_21 : decode cX2_holdsTogether 21 = .ok (.if_icmp .ne 41, 3) := by decide +kernel
theorem dX2_holdsTogether_24 : decode cX2_holdsTogether 24 = .ok (.aload_n 0, 1) := by decide +kernel
theorem dX2_holdsTogether_25 : decode cX2_holdsTogether 25 = .ok (.getfield 42, 3) := by decide +kernel
theorem dX2_holdsTogether_28 : decode cX2_holdsTogether 28 = .ok (.ifCond .eq 30, 3) := by decide +kernel
theorem dX2_holdsTogether_31 : decode cX2_holdsTogether 31 = .ok (.aload_n 0, 1) := by decide +kernel
theorem dX2_holdsTogether_32 : decode cX2_holdsTogether 32 = .ok (.bipush 10, 2) := by decide +kernel
theorem dX2_holdsTogether_34 : decode cX2_holdsTogether 34 = .ok (.invokevirtual 112, 3) := by decide +kernel
theorem dX2_holdsTogether_37 : decode cX2_holdsTogether 37 = .ok (.ifCond .eq 25, 3) := by decide +kernel
theorem dX2_holdsTogether_40 : decode cX2_holdsTogether 40 = .ok (.aload_n 0, 1) := by decide +kernel
theorem dX2_holdsTogether_41 : decode cX2_holdsTogether 41 = .ok (.bipush 50, 2) := by decide +kernel
theorem dX2_holdsTogether_43 : decode cX2_holdsTogether 43 = .ok (.invokevirtual 112, 3) := by decide +kernel
theorem dX2_holdsTogether_46 : decode cX2_holdsTogether 46 = .ok (.ifCond .eq 16, 3) := by decide +kernel
theorem dX2_holdsTogether_49 : decode cX2_holdsTogether 49 = .ok (.aload_n 0, 1) := by decide +kernel
theorem dX2_holdsTogether_50 : decode cX2_holdsTogether 50 = .ok (.bipush 90, 2) := by decide +kernel
theorem dX2_holdsTogether_52 : decode cX2_holdsTogether 52 = .ok (.invokevirtual 112, 3) := by decide +kernel
theorem dX2_holdsTogether_55 : decode cX2_holdsTogether 55 = .ok (.ifCond .eq 7, 3) := by decide +kernel
theorem dX2_holdsTogether_58 : decode cX2_holdsTogether 58 = .ok (.iconst 1, 1) := by decide +kernel
theorem dX2_holdsTogether_59 : decode cX2_holdsTogether 59 = .ok (.goto 4, 3) := by decide +kernel
theorem dX2_holdsTogether_62 : decode cX2_holdsTogether 62 = .ok (.iconst 0, 1) := by decide +kernel
theorem dX2_holdsTogether_63 : decode cX2_holdsTogether 63 = .ok (.ireturn, 1) := by decide +kernel
theorem dX2_blocksTellWhatCame_0 : decode cX2_blocksTellWhatCame 0 = .ok (.iconst 0, 1) := by decide +kernel
theorem dX2_blocksTellWhatCame_1 : decode cX2_blocksTellWhatCame 1 = .ok (.istore_n 1, 1) := by decide +kernel
theorem dX2_blocksTellWhatCame_2 : decode cX2_blocksTellWhatCame 2 = .ok (.iload_n 1, 1) := by decide +kernel
theorem dX2_blocksTellWhatCame_3 : decode cX2_blocksTellWhatCame 3 = .ok (.aload_n 0, 1) := by decide +kernel
theorem dX2_blocksTellWhatCame_4 : decode cX2_blocksTellWhatCame 4 = .ok (.getfield 42, 3) := by decide +kernel
theorem dX2_blocksTellWhatCame_7 : decode cX2_blocksTellWhatCame 7 = .ok (.if_icmp .ge 76, 3) := by decide +kernel
theorem dX2_blocksTellWhatCame_10 : decode cX2_blocksTellWhatCame 10 = .ok (.iload_n 1, 1) := by decide +kernel
theorem dX2_blocksTellWhatCame_11 : decode cX2_blocksTellWhatCame 11 = .ok (.aload_n 0, 1) := by decide +kernel
theorem dX2_blocksTellWhatCame_12 : decode cX2_blocksTellWhatCame 12 = .ok (.getfield 18, 3) := by decide +kernel
theorem dX2_blocksTellWhatCame_15 : decode cX2_blocksTellWhatCame 15 = .ok (.arraylength, 1) := by decide +kernel
theorem dX2_blocksTellWhatCame_16 : decode cX2_blocksTellWhatCame 16 = .ok (.if_icmp .ge 67, 3) := by decide +kernel
theorem dX2_blocksTellWhatCame_19 : decode cX2_blocksTellWhatCame 19 = .ok (.iload_n 1, 1) := by decide +kernel
theorem dX2_blocksTellWhatCame_20 : decode cX2_blocksTellWhatCame 20 = .ok (.aload_n 0, 1) := by decide +kernel
theorem dX2_blocksTellWhatCame_21 : decode cX2_blocksTellWhatCame 21 = .ok (.getfield 22, 3) := by decide +kernel
theorem dX2_blocksTellWhatCame_24 : decode cX2_blocksTellWhatCame 24 = .ok (.arraylength, 1) := by decide +kernel
theorem dX2_blocksTellWhatCame_25 : decode cX2_blocksTellWhatCame 25 = .ok (.if_icmp .ge 58, 3) := by decide +kernel
theorem dX2_blocksTellWhatCame_28 : decode cX2_blocksTellWhatCame 28 = .ok (.aload_n 0, 1) := by decide +kernel
theorem dX2_blocksTellWhatCame_29 : decode cX2_blocksTellWhatCame 29 = .ok (.iload_n 1, 1) := by decide +kernel
theorem dX2_blocksTellWhatCame_30 : decode cX2_blocksTellWhatCame 30 = .ok (.bipush 8, 2) := by decide +kernel
theorem dX2_blocksTellWhatCame_32 : decode cX2_blocksTellWhatCame 32 = .ok (.idiv, 1) := by decide +kernel
theorem dX2_blocksTellWhatCame_33 : decode cX2_blocksTellWhatCame 33 = .ok (.invokevirtual 116, 3) := by decide +kernel
theorem dX2_blocksTellWhatCame_36 : decode cX2_blocksTellWhatCame 36 = .ok (.astore_n 2, 1) := by decide +kernel
theorem dX2_blocksTellWhatCame_37 : decode cX2_blocksTellWhatCame 37 = .ok (.iload_n 1, 1) := by decide +kernel
theorem dX2_blocksTellWhatCame_38 : decode cX2_blocksTellWhatCame 38 = .ok (.bipush 8, 2) := by decide +kernel
theorem dX2_blocksTellWhatCame_40 : decode cX2_blocksTellWhatCame 40 = .ok (.irem, 1) := by decide +kernel
theorem dX2_blocksTellWhatCame_41 : decode cX2_blocksTellWhatCame 41 = .ok (.istore_n 3, 1) := by decide +kernel
theorem dX2_blocksTellWhatCame_42 : decode cX2_blocksTellWhatCame 42 = .ok (.aload_n 2, 1) := by decide +kernel
theorem dX2_blocksTellWhatCame_43 : decode cX2_blocksTellWhatCame 43 = .ok (.ifnull 32, 3) := by decide +kernel
theorem dX2_blocksTellWhatCame_46 : decode cX2_blocksTellWhatCame 46 = .ok (.aload_n 2, 1) := by decide +kernel
theorem dX2_blocksTellWhatCame_47 : decode cX2_blocksTellWhatCame 47 = .ok (.iload_n 3, 1) := by decide +kernel
theorem dX2_blocksTellWhatCame_48 : decode cX2_blocksTellWhatCame 48 = .ok (.invokevirtual 120, 3) := by decide +kernel
theorem dX2_blocksTellWhatCame_51 : decode cX2_blocksTellWhatCame 51 = .ok (.aload_n 0, 1) := by decide +kernel
theorem dX2_blocksTellWhatCame_52 : decode cX2_blocksTellWhatCame 52 = .ok (.getfield 18, 3) := by decide +kernel
theorem dX2_blocksTellWhatCame_55 : decode cX2_blocksTellWhatCame 55 = .ok (.iload_n 1, 1) := by decide +kernel
theorem dX2_blocksTellWhatCame_56 : decode cX2_blocksTellWhatCame 56 = .ok (.laload, 1) := by decide +kernel
theorem dX2_blocksTellWhatCame_57 : decode cX2_blocksTellWhatCame 57 = .ok (.lcmp, 1) := by decide +kernel
theorem dX2_blocksTellWhatCame_58 : decode cX2_blocksTellWhatCame 58 = .ok (.ifCond .ne 17, 3) := by decide +kernel
theorem dX2_blocksTellWhatCame_61 : decode cX2_blocksTellWhatCame 61 = .ok (.aload_n 2, 1) := by decide +kernel
theorem dX2_blocksTellWhatCame_62 : decode cX2_blocksTellWhatCame 62 = .ok (.iload_n 3, 1) := by decide +kernel
theorem dX2_blocksTellWhatCame_63 : decode cX2_blocksTellWhatCame 63 = .ok (.invokevirtual 124, 3) := by decide +kernel
theorem dX2_blocksTellWhatCame_66 : decode cX2_blocksTellWhatCame 66 = .ok (.aload_n 0, 1) := by decide +kernel
theorem dX2_blocksTellWhatCame_67 : decode cX2_blocksTellWhatCame 67 = .ok (.getfield 22, 3) := by decide +kernel
theorem dX2_blocksTellWhatCame_70 : decode cX2_blocksTellWhatCame 70 = .ok (.iload_n 1, 1) := by decide +kernel
theorem dX2_blocksTellWhatCame_71 : decode cX2_blocksTellWhatCame 71 = .ok (.iaload, 1) := by decide +kernel
theorem dX2_blocksTellWhatCame_72 : decode cX2_blocksTellWhatCame 72 = .ok (.if_icmp .eq 5, 3) := by decide +kernel
theorem dX2_blocksTellWhatCame_75 : decode cX2_blocksTellWhatCame 75 = .ok (.iconst 0, 1) := by decide +kernel
theorem dX2_blocksTellWhatCame_76 : decode cX2_blocksTellWhatCame 76 = .ok (.ireturn, 1) := by decide +kernel
theorem dX2_blocksTellWhatCame_77 : decode cX2_blocksTellWhatCame 77 = .ok (.iinc 1 1, 3) := by decide +kernel
theorem dX2_blocksTellWhatCame_80 : decode cX2_blocksTellWhatCame 80 = .ok (.goto (-78), 3) := by decide +kernel
theorem dX2_blocksTellWhatCame_83 : decode cX2_blocksTellWhatCame 83 = .ok (.iconst 1, 1) := by decide +kernel
theorem dX2_blocksTellWhatCame_84 : decode cX2_blocksTellWhatCame 84 = .ok (.ireturn, 1) := by decide +kernel
