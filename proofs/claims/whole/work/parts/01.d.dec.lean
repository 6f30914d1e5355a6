theorem dX3_init_0 : decode cX3_init 0 = .ok (.aload_n 0, 1) := by decide +kernel
theorem dX3_init_1 : decode cX3_init 1 = .ok (.invokespecial 3, 3) := by decide +kernel
theorem dX3_init_4 : decode cX3_init 4 = .ok (.aload_n 0, 1) := by decide +kernel
theorem dX3_init_5 : decode cX3_init 5 = .ok (.iconst 5, 1) := by decide +kernel
theorem dX3_init_6 : decode cX3_init 6 = .ok (.bipush 8, 2) := by decide +kernel
theorem dX3_init_8 : decode cX3_init 8 = .ok (.multianewarray 9 2, 4) := by decide +kernel
theorem dX3_init_12 : decode cX3_init 12 = .ok (.putfield 11, 3) := by decide +kernel
theorem dX3_init_15 : decode cX3_init 15 = .ok (.aload_n 0, 1) := by decide +kernel
theorem dX3_init_16 : decode cX3_init 16 = .ok (.iconst 5, 1) := by decide +kernel
theorem dX3_init_17 : decode cX3_init 17 = .ok (.newarray .int, 2) := by decide +kernel
theorem dX3_init_19 : decode cX3_init 19 = .ok (.putfield 16, 3) := by decide +kernel
theorem dX3_init_22 : decode cX3_init 22 = .ok (.aload_n 0, 1) := by decide +kernel
theorem dX3_init_23 : decode cX3_init 23 = .ok (.iconst 5, 1) := by decide +kernel
theorem dX3_init_24 : decode cX3_init 24 = .ok (.newarray .int, 2) := by decide +kernel
theorem dX3_init_26 : decode cX3_init 26 = .ok (.putfield 20, 3) := by decide +kernel
theorem dX3_init_29 : decode cX3_init 29 = .ok (.aload_n 0, 1) := by decide +kernel
theorem dX3_init_30 : decode cX3_init 30 = .ok (.iconst 0, 1) := by decide +kernel
theorem dX3_init_31 : decode cX3_init 31 = .ok (.putfield 23, 3) := by decide +kernel
theorem dX3_init_34 : decode cX3_init 34 = .ok (.return_, 1) := by decide +kernel
theorem dX3_take_0 : decode cX3_take 0 = .ok (.aload_n 0, 1) := by decide +kernel
theorem dX3_take_1 : decode cX3_take 1 = .ok (.iconst 0, 1) := by decide +kernel
theorem dX3_take_2 : decode cX3_take 2 = .ok (.iload_n 1, 1) := by decide +kernel
theorem dX3_take_3 : decode cX3_take 3 = .ok (.invokevirtual 27, 3) := by decide +kernel
theorem dX3_take_6 : decode cX3_take 6 = .ok (.iconst 0, 1) := by decide +kernel
theorem dX3_take_7 : decode cX3_take 7 = .ok (.istore_n 2, 1) := by decide +kernel
theorem dX3_take_8 : decode cX3_take 8 = .ok (.iload_n 2, 1) := by decide +kernel
theorem dX3_take_9 : decode cX3_take 9 = .ok (.iconst 4, 1) := by decide +kernel
theorem dX3_take_10 : decode cX3_take 10 = .ok (.if_icmp .ge 25, 3) := by decide +kernel
theorem dX3_take_13 : decode cX3_take 13 = .ok (.aload_n 0, 1) := by decide +kernel
theorem dX3_take_14 : decode cX3_take 14 = .ok (.getfield 16, 3) := by decide +kernel
theorem dX3_take_17 : decode cX3_take 17 = .ok (.iload_n 2, 1) := by decide +kernel
theorem dX3_take_18 : decode cX3_take 18 = .ok (.iaload, 1) := by decide +kernel
theorem dX3_take_19 : decode cX3_take 19 = .ok (.bipush 8, 2) := by decide +kernel
theorem dX3_take_21 : decode cX3_take 21 = .ok (.if_icmp .lt 8, 3) := by decide +kernel
theorem dX3_take_24 : decode cX3_take 24 = .ok (.aload_n 0, 1) := by decide +kernel
theorem dX3_take_25 : decode cX3_take 25 = .ok (.iload_n 2, 1) := by decide +kernel
theorem dX3_take_26 : decode cX3_take 26 = .ok (.invokevirtual 31, 3) := by decide +kernel
theorem dX3_take_29 : decode cX3_take 29 = .ok (.iinc 2 1, 3) := by decide +kernel
theorem dX3_take_32 : decode cX3_take 32 = .ok (.goto (-24), 3) := by decide +kernel
theorem dX3_take_35 : decode cX3_take 35 = .ok (.return_, 1) := by decide +kernel
theorem dX3_put_0 : decode cX3_put 0 = .ok (.iload_n 1, 1) := by decide +kernel
theorem dX3_put_1 : decode cX3_put 1 = .ok (.ifCond .lt 8, 3) := by decide +kernel
theorem dX3_put_4 : decode cX3_put 4 = .ok (.iload_n 1, 1) := by decide +kernel
theorem dX3_put_5 : decode cX3_put 5 = .ok (.iconst 5, 1) := by decide +kernel
theorem dX3_put_6 : decode cX3_put 6 = .ok (.if_icmp .lt 4, 3) := by decide +kernel
theorem dX3_put_9 : decode cX3_put 9 = .ok (.return_, 1) := by decide +kernel
theorem dX3_put_10 : decode cX3_put 10 = .ok (.aload_n 0, 1) := by decide +kernel
theorem dX3_put_11 : decode cX3_put 11 = .ok (.getfield 16, 3) := by decide +kernel
theorem dX3_put_14 : decode cX3_put 14 = .ok (.iload_n 1, 1) := by decide +kernel
theorem dX3_put_15 : decode cX3_put 15 = .ok (.iaload, 1) := by decide +kernel
theorem dX3_put_16 : decode cX3_put 16 = .ok (.istore_n 3, 1) := by decide +kernel
theorem dX3_put_17 : decode cX3_put 17 = .ok (.iload_n 3, 1) := by decide +kernel
theorem dX3_put_18 : decode cX3_put 18 = .ok (.ifCond .lt 27, 3) := by decide +kernel
theorem dX3_put_21 : decode cX3_put 21 = .ok (.iload_n 3, 1) := by decide +kernel
theorem dX3_put_22 : decode cX3_put 22 = .ok (.bipush 8, 2) := by decide +kernel
theorem dX3_put_24 : decode cX3_put 24 = .ok (.if_icmp .ge 21, 3) := by decide +kernel
theorem dX3_put_27 : decode cX3_put 27 = .ok (.aload_n 0, 1) := by decide +kernel
theorem dX3_put_28 : decode cX3_put 28 = .ok (.getfield 11, 3) := by decide +kernel
theorem dX3_put_31 : decode cX3_put 31 = .ok (.iload_n 1, 1) := by decide +kernel
theorem dX3_put_32 : decode cX3_put 32 = .ok (.aaload, 1) := by decide +kernel
theorem dX3_put_33 : decode cX3_put 33 = .ok (.iload_n 3, 1) := by decide +kernel
theorem dX3_put_34 : decode cX3_put 34 = .ok (.iload_n 2, 1) := by decide +kernel
theorem dX3_put_35 : decode cX3_put 35 = .ok (.iastore, 1) := by decide +kernel
theorem dX3_put_36 : decode cX3_put 36 = .ok (.aload_n 0, 1) := by decide +kernel
theorem dX3_put_37 : decode cX3_put 37 = .ok (.getfield 16, 3) := by decide +kernel
theorem dX3_put_40 : decode cX3_put 40 = .ok (.iload_n 1, 1) := by decide +kernel
theorem dX3_put_41 : decode cX3_put 41 = .ok (.iload_n 3, 1) := by decide +kernel
theorem dX3_put_42 : decode cX3_put 42 = .ok (.iconst 1, 1) := by decide +kernel
theorem dX3_put_43 : decode cX3_put 43 = .ok (.iadd, 1) := by decide +kernel
theorem dX3_put_44 : decode cX3_put 44 = .ok (.iastore, 1) := by decide +kernel
theorem dX3_put_45 : decode cX3_put 45 = .ok (.return_, 1) := by decide +kernel
theorem dX3_halve_0 : decode cX3_halve 0 = .ok (.iload_n 1, 1) := by decide +kernel
theorem dX3_halve_1 : decode cX3_halve 1 = .ok (.ifCond .lt 8, 3) := by decide +kernel
theorem dX3_halve_4 : decode cX3_halve 4 = .ok (.iload_n 1, 1) := by decide +kernel
theorem dX3_halve_5 : decode cX3_halve 5 = .ok (.iconst 4, 1) := by decide +kernel
theorem dX3_halve_6 : decode cX3_halve 6 = .ok (.if_icmp .lt 4, 3) := by decide +kernel
theorem dX3_halve_9 : decode cX3_halve 9 = .ok (.return_, 1) := by decide +kernel
theorem dX3_halve_10 : decode cX3_halve 10 = .ok (.aload_n 0, 1) := by decide +kernel
theorem dX3_halve_11 : decode cX3_halve 11 = .ok (.getfield 11, 3) := by decide +kernel
theorem dX3_halve_14 : decode cX3_halve 14 = .ok (.iload_n 1, 1) := by decide +kernel
theorem dX3_halve_15 : decode cX3_halve 15 = .ok (.aaload, 1) := by decide +kernel
theorem dX3_halve_16 : decode cX3_halve 16 = .ok (.astore_n 2, 1) := by decide +kernel
theorem dX3_halve_17 : decode cX3_halve 17 = .ok (.aload_n 2, 1) := by decide +kernel
theorem dX3_halve_18 : decode cX3_halve 18 = .ok (.invokestatic 35, 3) := by decide +kernel
theorem dX3_halve_21 : decode cX3_halve 21 = .ok (.aload_n 0, 1) := by decide +kernel
theorem dX3_halve_22 : decode cX3_halve 22 = .ok (.getfield 20, 3) := by decide +kernel
theorem dX3_halve_25 : decode cX3_halve 25 = .ok (.iload_n 1, 1) := by decide +kernel
theorem dX3_halve_26 : decode cX3_halve 26 = .ok (.iaload, 1) := by decide +kernel
theorem dX3_halve_27 : decode cX3_halve 27 = .ok (.iconst 2, 1) := by decide +kernel
theorem dX3_halve_28 : decode cX3_halve 28 = .ok (.irem, 1) := by decide +kernel
theorem dX3_halve_29 : decode cX3_halve 29 = .ok (.ifCond .ne 7, 3) := by decide +kernel
theorem dX3_halve_32 : decode cX3_halve 32 = .ok (.iconst 1, 1) := by decide +kernel
theorem dX3_halve_33 : decode cX3_halve 33 = .ok (.goto 4, 3) := by decide +kernel
theorem dX3_halve_36 : decode cX3_halve 36 = .ok (.iconst 0, 1) := by decide +kernel
theorem dX3_halve_37 : decode cX3_halve 37 = .ok (.istore_n 3, 1) := by decide +kernel
theorem dX3_halve_38 : decode cX3_halve 38 = .ok (.iload_n 3, 1) := by decide +kernel
theorem dX3_halve_39 : decode cX3_halve 39 = .ok (.aload_n 2, 1) := by decide +kernel
theorem dX3_halve_40 : decode cX3_halve 40 = .ok (.arraylength, 1) := by decide +kernel
theorem dX3_halve_41 : decode cX3_halve 41 = .ok (.if_icmp .ge 19, 3) := by decide +kernel
theorem dX3_halve_44 : decode cX3_halve 44 = .ok (.aload_n 0, 1) := by decide +kernel
theorem dX3_halve_45 : decode cX3_halve 45 = .ok (.iload_n 1, 1) := by decide +kernel
theorem dX3_halve_46 : decode cX3_halve 46 = .ok (.iconst 1, 1) := by decide +kernel
theorem dX3_halve_47 : decode cX3_halve 47 = .ok (.iadd, 1) := by decide +kernel
theorem dX3_halve_48 : decode cX3_halve 48 = .ok (.aload_n 2, 1) := by decide +kernel
theorem dX3_halve_49 : decode cX3_halve 49 = .ok (.iload_n 3, 1) := by decide +kernel
theorem dX3_halve_50 : decode cX3_halve 50 = .ok (.iaload, 1) := by decide +kernel
theorem dX3_halve_51 : decode cX3_halve 51 = .ok (.invokevirtual 27, 3) := by decide +kernel
theorem dX3_halve_54 : decode cX3_halve 54 = .ok (.iinc 3 2, 3) := by decide +kernel
theorem dX3_halve_57 : decode cX3_halve 57 = .ok (.goto (-19), 3) := by decide +kernel
theorem dX3_halve_60 : decode cX3_halve 60 = .ok (.aload_n 0, 1) := by decide +kernel
theorem dX3_halve_61 : decode cX3_halve 61 = .ok (.getfield 16, 3) := by decide +kernel
theorem dX3_halve_64 : decode cX3_halve 64 = .ok (.iload_n 1, 1) := by decide +kernel
theorem dX3_halve_65 : decode cX3_halve 65 = .ok (.iconst 0, 1) := by decide +kernel
theorem dX3_halve_66 : decode cX3_halve 66 = .ok (.iastore, 1) := by decide +kernel
theorem dX3_halve_67 : decode cX3_halve 67 = .ok (.aload_n 0, 1) := by decide +kernel
theorem dX3_halve_68 : decode cX3_halve 68 = .ok (.getfield 20, 3) := by decide +kernel
theorem dX3_halve_71 : decode cX3_halve 71 = .ok (.iload_n 1, 1) := by decide +kernel
theorem dX3_halve_72 : decode cX3_halve 72 = .ok (.dup2, 1) := by decide +kernel
theorem dX3_halve_73 : decode cX3_halve 73 = .ok (.iaload, 1) := by decide +kernel
theorem dX3_halve_74 : decode cX3_halve 74 = .ok (.iconst 1, 1) := by decide +kernel
theorem dX3_halve_75 : decode cX3_halve 75 = .ok (.iadd, 1) := by decide +kernel
theorem dX3_halve_76 : decode cX3_halve 76 = .ok (.iastore, 1) := by decide +kernel
theorem dX3_halve_77 : decode cX3_halve 77 = .ok (.aload_n 0, 1) := by decide +kernel
theorem dX3_halve_78 : decode cX3_halve 78 = .ok (.dup, 1) := by decide +kernel
theorem dX3_halve_79 : decode cX3_halve 79 = .ok (.getfield 23, 3) := by decide +kernel
theorem dX3_halve_82 : decode cX3_halve 82 = .ok (.iconst 1, 1) := by decide +kernel
theorem dX3_halve_83 : decode cX3_halve 83 = .ok (.iload_n 1, 1) := by decide +kernel
theorem dX3_halve_84 : decode cX3_halve 84 = .ok (.ishl, 1) := by decide +kernel
theorem dX3_halve_85 : decode cX3_halve 85 = .ok (.iadd, 1) := by decide +kernel
theorem dX3_halve_86 : decode cX3_halve 86 = .ok (.putfield 23, 3) := by decide +kernel
theorem dX3_halve_89 : decode cX3_halve 89 = .ok (.return_, 1) := by decide +kernel
theorem dX3_sort_0 : decode cX3_sort 0 = .ok (.iconst 1, 1) := by decide +kernel
theorem dX3_sort_1 : decode cX3_sort 1 = .ok (.istore_n 1, 1) := by decide +kernel
theorem dX3_sort_2 : decode cX3_sort 2 = .ok (.iload_n 1, 1) := by decide +kernel
theorem dX3_sort_3 : decode cX3_sort 3 = .ok (.aload_n 0, 1) := by decide +kernel
theorem dX3_sort_4 : decode cX3_sort 4 = .ok (.arraylength, 1) := by decide +kernel
theorem dX3_sort_5 : decode cX3_sort 5 = .ok (.if_icmp .ge 46, 3) := by decide +kernel
theorem dX3_sort_8 : decode cX3_sort 8 = .ok (.aload_n 0, 1) := by decide +kernel
theorem dX3_sort_9 : decode cX3_sort 9 = .ok (.iload_n 1, 1) := by decide +kernel
theorem dX3_sort_10 : decode cX3_sort 10 = .ok (.iaload, 1) := by decide +kernel
theorem dX3_sort_11 : decode cX3_sort 11 = .ok (.istore_n 2, 1) := by decide +kernel
theorem dX3_sort_12 : decode cX3_sort 12 = .ok (.iload_n 1, 1) := by decide +kernel
theorem dX3_sort_13 : decode cX3_sort 13 = .ok (.istore_n 3, 1) := by decide +kernel
theorem dX3_sort_14 : decode cX3_sort 14 = .ok (.iload_n 3, 1) := by decide +kernel
theorem dX3_sort_15 : decode cX3_sort 15 = .ok (.ifCond .le 26, 3) := by decide +kernel
theorem dX3_sort_18 : decode cX3_sort 18 = .ok (.aload_n 0, 1) := by decide +kernel
theorem dX3_sort_19 : decode cX3_sort 19 = .ok (.iload_n 3, 1) := by decide +kernel
theorem dX3_sort_20 : decode cX3_sort 20 = .ok (.iconst 1, 1) := by decide +kernel
theorem dX3_sort_21 : decode cX3_sort 21 = .ok (.isub, 1) := by decide +kernel
theorem dX3_sort_22 : decode cX3_sort 22 = .ok (.iaload, 1) := by decide +kernel
theorem dX3_sort_23 : decode cX3_sort 23 = .ok (.iload_n 2, 1) := by decide +kernel
theorem dX3_sort_24 : decode cX3_sort 24 = .ok (.if_icmp .le 17, 3) := by decide +kernel
theorem dX3_sort_27 : decode cX3_sort 27 = .ok (.aload_n 0, 1) := by decide +kernel
theorem dX3_sort_28 : decode cX3_sort 28 = .ok (.iload_n 3, 1) := by decide +kernel
theorem dX3_sort_29 : decode cX3_sort 29 = .ok (.aload_n 0, 1) := by decide +kernel
theorem dX3_sort_30 : decode cX3_sort 30 = .ok (.iload_n 3, 1) := by decide +kernel
theorem dX3_sort_31 : decode cX3_sort 31 = .ok (.iconst 1, 1) := by decide +kernel
theorem dX3_sort_32 : decode cX3_sort 32 = .ok (.isub, 1) := by decide +kernel
theorem dX3_sort_33 : decode cX3_sort 33 = .ok (.iaload, 1) := by decide +kernel
theorem dX3_sort_34 : decode cX3_sort 34 = .ok (.iastore, 1) := by decide +kernel
theorem dX3_sort_35 : decode cX3_sort 35 = .ok (.iinc 3 (-1), 3) := by decide +kernel
theorem dX3_sort_38 : decode cX3_sort 38 = .ok (.goto (-24), 3) := by decide +kernel
theorem dX3_sort_41 : decode cX3_sort 41 = .ok (.aload_n 0, 1) := by decide +kernel
theorem dX3_sort_42 : decode cX3_sort 42 = .ok (.iload_n 3, 1) := by decide +kernel
theorem dX3_sort_43 : decode cX3_sort 43 = .ok (.iload_n 2, 1) := by decide +kernel
theorem dX3_sort_44 : decode cX3_sort 44 = .ok (.iastore, 1) := by decide +kernel
theorem dX3_sort_45 : decode cX3_sort 45 = .ok (.iinc 1 1, 3) := by decide +kernel
theorem dX3_sort_48 : decode cX3_sort 48 = .ok (.goto (-46), 3) := by decide +kernel
theorem dX3_sort_51 : decode cX3_sort 51 = .ok (.return_, 1) := by decide +kernel
theorem dX3_heldValues_0 : decode cX3_heldValues 0 = .ok (.iconst 0, 1) := by decide +kernel
theorem dX3_heldValues_1 : decode cX3_heldValues 1 = .ok (.istore_n 1, 1) := by decide +kernel
theorem dX3_heldValues_2 : decode cX3_heldValues 2 = .ok (.aload_n 0, 1) := by decide +kernel
theorem dX3_heldValues_3 : decode cX3_heldValues 3 = .ok (.getfield 16, 3) := by decide +kernel
theorem dX3_heldValues_6 : decode cX3_heldValues 6 = .ok (.astore_n 2, 1) := by decide +kernel
theorem dX3_heldValues_7 : decode cX3_heldValues 7 = .ok (.aload_n 2, 1) := by decide +kernel
theorem dX3_heldValues_8 : decode cX3_heldValues 8 = .ok (.arraylength, 1) := by decide +kernel
theorem dX3_heldValues_9 : decode cX3_heldValues 9 = .ok (.istore_n 3, 1) := by decide +kernel
theorem dX3_heldValues_10 : decode cX3_heldValues 10 = .ok (.iconst 0, 1) := by decide +kernel
theorem dX3_heldValues_11 : decode cX3_heldValues 11 = .ok (.istore 4, 2) := by decide +kernel
theorem dX3_heldValues_13 : decode cX3_heldValues 13 = .ok (.iload 4, 2) := by decide +kernel
theorem dX3_heldValues_15 : decode cX3_heldValues 15 = .ok (.iload_n 3, 1) := by decide +kernel
theorem dX3_heldValues_16 : decode cX3_heldValues 16 = .ok (.if_icmp .ge 20, 3) := by decide +kernel
theorem dX3_heldValues_19 : decode cX3_heldValues 19 = .ok (.aload_n 2, 1) := by decide +kernel
theorem dX3_heldValues_20 : decode cX3_heldValues 20 = .ok (.iload 4, 2) := by decide +kernel
theorem dX3_heldValues_22 : decode cX3_heldValues 22 = .ok (.iaload, 1) := by decide +kernel
theorem dX3_heldValues_23 : decode cX3_heldValues 23 = .ok (.istore 5, 2) := by decide +kernel
theorem dX3_heldValues_25 : decode cX3_heldValues 25 = .ok (.iload_n 1, 1) := by decide +kernel
theorem dX3_heldValues_26 : decode cX3_heldValues 26 = .ok (.iload 5, 2) := by decide +kernel
theorem dX3_heldValues_28 : decode cX3_heldValues 28 = .ok (.iadd, 1) := by decide +kernel
theorem dX3_heldValues_29 : decode cX3_heldValues 29 = .ok (.istore_n 1, 1) := by decide +kernel
theorem dX3_heldValues_30 : decode cX3_heldValues 30 = .ok (.iinc 4 1, 3) := by decide +kernel
theorem dX3_heldValues_33 : decode cX3_heldValues 33 = .ok (.goto (-20), 3) := by decide +kernel
theorem dX3_heldValues_36 : decode cX3_heldValues 36 = .ok (.iload_n 1, 1) := by decide +kernel
theorem dX3_heldValues_37 : decode cX3_heldValues 37 = .ok (.ireturn, 1) := by decide +kernel
theorem dX3_weightUpTo_0 : decode cX3_weightUpTo 0 = .ok (.iconst 0, 1) := by decide +kernel
theorem dX3_weightUpTo_1 : decode cX3_weightUpTo 1 = .ok (.istore_n 2, 1) := by decide +kernel
theorem dX3_weightUpTo_2 : decode cX3_weightUpTo 2 = .ok (.iconst 0, 1) := by decide +kernel
theorem dX3_weightUpTo_3 : decode cX3_weightUpTo 3 = .ok (.istore_n 3, 1) := by decide +kernel
theorem dX3_weightUpTo_4 : decode cX3_weightUpTo 4 = .ok (.iload_n 3, 1) := by decide +kernel
theorem dX3_weightUpTo_5 : decode cX3_weightUpTo 5 = .ok (.iconst 5, 1) := by decide +kernel
theorem dX3_weightUpTo_6 : decode cX3_weightUpTo 6 = .ok (.if_icmp .ge 60, 3) := by decide +kernel
theorem dX3_weightUpTo_9 : decode cX3_weightUpTo 9 = .ok (.aload_n 0, 1) := by decide +kernel
theorem dX3_weightUpTo_10 : decode cX3_weightUpTo 10 = .ok (.getfield 11, 3) := by decide +kernel
theorem dX3_weightUpTo_13 : decode cX3_weightUpTo 13 = .ok (.iload_n 3, 1) := by decide +kernel
theorem dX3_weightUpTo_14 : decode cX3_weightUpTo 14 = .ok (.aaload, 1) := by decide +kernel
theorem dX3_weightUpTo_15 : decode cX3_weightUpTo 15 = .ok (.astore 4, 2) := by decide +kernel
theorem dX3_weightUpTo_17 : decode cX3_weightUpTo 17 = .ok (.iconst 0, 1) := by decide +kernel
theorem dX3_weightUpTo_18 : decode cX3_weightUpTo 18 = .ok (.istore 5, 2) := by decide +kernel
theorem dX3_weightUpTo_20 : decode cX3_weightUpTo 20 = .ok (.iload 5, 2) := by decide +kernel
theorem dX3_weightUpTo_22 : decode cX3_weightUpTo 22 = .ok (.aload_n 0, 1) := by decide +kernel
theorem dX3_weightUpTo_23 : decode cX3_weightUpTo 23 = .ok (.getfield 16, 3) := by decide +kernel
theorem dX3_weightUpTo_26 : decode cX3_weightUpTo 26 = .ok (.iload_n 3, 1) := by decide +kernel
theorem dX3_weightUpTo_27 : decode cX3_weightUpTo 27 = .ok (.iaload, 1) := by decide +kernel
theorem dX3_weightUpTo_28 : decode cX3_weightUpTo 28 = .ok (.if_icmp .ge 32, 3) := by decide +kernel
theorem dX3_weightUpTo_31 : decode cX3_weightUpTo 31 = .ok (.iload 5, 2) := by decide +kernel
theorem dX3_weightUpTo_33 : decode cX3_weightUpTo 33 = .ok (.aload 4, 2) := by decide +kernel
theorem dX3_weightUpTo_35 : decode cX3_weightUpTo 35 = .ok (.arraylength, 1) := by decide +kernel
theorem dX3_weightUpTo_36 : decode cX3_weightUpTo 36 = .ok (.if_icmp .ge 24, 3) := by decide +kernel
theorem dX3_weightUpTo_39 : decode cX3_weightUpTo 39 = .ok (.aload 4, 2) := by decide +kernel
theorem dX3_weightUpTo_41 : decode cX3_weightUpTo 41 = .ok (.iload 5, 2) := by decide +kernel
theorem dX3_weightUpTo_43 : decode cX3_weightUpTo 43 = .ok (.iaload, 1) := by decide +kernel
theorem dX3_weightUpTo_44 : decode cX3_weightUpTo 44 = .ok (.iload_n 1, 1) := by decide +kernel
theorem dX3_weightUpTo_45 : decode cX3_weightUpTo 45 = .ok (.if_icmp .gt 9, 3) := by decide +kernel
theorem dX3_weightUpTo_48 : decode cX3_weightUpTo 48 = .ok (.iload_n 2, 1) := by decide +kernel
theorem dX3_weightUpTo_49 : decode cX3_weightUpTo 49 = .ok (.iconst 1, 1) := by decide +kernel
theorem dX3_weightUpTo_50 : decode cX3_weightUpTo 50 = .ok (.iload_n 3, 1) := by decide +kernel
theorem dX3_weightUpTo_51 : decode cX3_weightUpTo 51 = .ok (.ishl, 1) := by decide +kernel
theorem dX3_weightUpTo_52 : decode cX3_weightUpTo 52 = .ok (.iadd, 1) := by decide +kernel
theorem dX3_weightUpTo_53 : decode cX3_weightUpTo 53 = .ok (.istore_n 2, 1) := by decide +kernel
theorem dX3_weightUpTo_54 : decode cX3_weightUpTo 54 = .ok (.iinc 5 1, 3) := by decide +kernel
theorem dX3_weightUpTo_57 : decode cX3_weightUpTo 57 = .ok (.goto (-37), 3) := by decide +kernel
theorem dX3_weightUpTo_60 : decode cX3_weightUpTo 60 = .ok (.iinc 3 1, 3) := by decide +kernel
theorem dX3_weightUpTo_63 : decode cX3_weightUpTo 63 = .ok (.goto (-59), 3) := by decide +kernel
theorem dX3_weightUpTo_66 : decode cX3_weightUpTo 66 = .ok (.iload_n 2, 1) := by decide +kernel
theorem dX3_weightUpTo_67 : decode cX3_weightUpTo 67 = .ok (.ireturn, 1) := by decide +kernel
theorem dX3_leastReaching_0 : decode cX3_leastReaching 0 = .ok (.sipush 10000, 3) := by decide +kernel
theorem dX3_leastReaching_3 : decode cX3_leastReaching 3 = .ok (.istore_n 2, 1) := by decide +kernel
theorem dX3_leastReaching_4 : decode cX3_leastReaching 4 = .ok (.iconst 0, 1) := by decide +kernel
theorem dX3_leastReaching_5 : decode cX3_leastReaching 5 = .ok (.istore_n 3, 1) := by decide +kernel
theorem dX3_leastReaching_6 : decode cX3_leastReaching 6 = .ok (.iload_n 3, 1) := by decide +kernel
theorem dX3_leastReaching_7 : decode cX3_leastReaching 7 = .ok (.iconst 5, 1) := by decide +kernel
theorem dX3_leastReaching_8 : decode cX3_leastReaching 8 = .ok (.if_icmp .ge 73, 3) := by decide +kernel
theorem dX3_leastReaching_11 : decode cX3_leastReaching 11 = .ok (.aload_n 0, 1) := by decide +kernel
theorem dX3_leastReaching_12 : decode cX3_leastReaching 12 = .ok (.getfield 11, 3) := by decide +kernel
theorem dX3_leastReaching_15 : decode cX3_leastReaching 15 = .ok (.iload_n 3, 1) := by decide +kernel
theorem dX3_leastReaching_16 : decode cX3_leastReaching 16 = .ok (.aaload, 1) := by decide +kernel
theorem dX3_leastReaching_17 : decode cX3_leastReaching 17 = .ok (.astore 4, 2) := by decide +kernel
theorem dX3_leastReaching_19 : decode cX3_leastReaching 19 = .ok (.iconst 0, 1) := by decide +kernel
theorem dX3_leastReaching_20 : decode cX3_leastReaching 20 = .ok (.istore 5, 2) := by decide +kernel
theorem dX3_leastReaching_22 : decode cX3_leastReaching 22 = .ok (.iload 5, 2) := by decide +kernel
theorem dX3_leastReaching_24 : decode cX3_leastReaching 24 = .ok (.aload_n 0, 1) := by decide +kernel
theorem dX3_leastReaching_25 : decode cX3_leastReaching 25 = .ok (.getfield 16, 3) := by decide +kernel
theorem dX3_leastReaching_28 : decode cX3_leastReaching 28 = .ok (.iload_n 3, 1) := by decide +kernel
theorem dX3_leastReaching_29 : decode cX3_leastReaching 29 = .ok (.iaload, 1) := by decide +kernel
theorem dX3_leastReaching_30 : decode cX3_leastReaching 30 = .ok (.if_icmp .ge 45, 3) := by decide +kernel
theorem dX3_leastReaching_33 : decode cX3_leastReaching 33 = .ok (.iload 5, 2) := by decide +kernel
theorem dX3_leastReaching_35 : decode cX3_leastReaching 35 = .ok (.aload 4, 2) := by decide +kernel
theorem dX3_leastReaching_37 : decode cX3_leastReaching 37 = .ok (.arraylength, 1) := by decide +kernel
theorem dX3_leastReaching_38 : decode cX3_leastReaching 38 = .ok (.if_icmp .ge 37, 3) := by decide +kernel
theorem dX3_leastReaching_41 : decode cX3_leastReaching 41 = .ok (.aload 4, 2) := by decide +kernel
theorem dX3_leastReaching_43 : decode cX3_leastReaching 43 = .ok (.iload 5, 2) := by decide +kernel
theorem dX3_leastReaching_45 : decode cX3_leastReaching 45 = .ok (.iaload, 1) := by decide +kernel
theorem dX3_leastReaching_46 : decode cX3_leastReaching 46 = .ok (.iload_n 2, 1) := by decide +kernel
theorem dX3_leastReaching_47 : decode cX3_leastReaching 47 = .ok (.if_icmp .ge 22, 3) := by decide +kernel
theorem dX3_leastReaching_50 : decode cX3_leastReaching 50 = .ok (.aload_n 0, 1) := by decide +kernel
theorem dX3_leastReaching_51 : decode cX3_leastReaching 51 = .ok (.aload 4, 2) := by decide +kernel
theorem dX3_leastReaching_53 : decode cX3_leastReaching 53 = .ok (.iload 5, 2) := by decide +kernel
theorem dX3_leastReaching_55 : decode cX3_leastReaching 55 = .ok (.iaload, 1) := by decide +kernel
theorem dX3_leastReaching_56 : decode cX3_leastReaching 56 = .ok (.invokevirtual 39, 3) := by decide +kernel
theorem dX3_leastReaching_59 : decode cX3_leastReaching 59 = .ok (.iload_n 1, 1) := by decide +kernel
theorem dX3_leastReaching_60 : decode cX3_leastReaching 60 = .ok (.if_icmp .lt 9, 3) := by decide +kernel
theorem dX3_leastReaching_63 : decode cX3_leastReaching 63 = .ok (.aload 4, 2) := by decide +kernel
theorem dX3_leastReaching_65 : decode cX3_leastReaching 65 = .ok (.iload 5, 2) := by decide +kernel
theorem dX3_leastReaching_67 : decode cX3_leastReaching 67 = .ok (.iaload, 1) := by decide +kernel
theorem dX3_leastReaching_68 : decode cX3_leastReaching 68 = .ok (.istore_n 2, 1) := by decide +kernel
theorem dX3_leastReaching_69 : decode cX3_leastReaching 69 = .ok (.iinc 5 1, 3) := by decide +kernel
theorem dX3_leastReaching_72 : decode cX3_leastReaching 72 = .ok (.goto (-50), 3) := by decide +kernel
theorem dX3_leastReaching_75 : decode cX3_leastReaching 75 = .ok (.iinc 3 1, 3) := by decide +kernel
theorem dX3_leastReaching_78 : decode cX3_leastReaching 78 = .ok (.goto (-72), 3) := by decide +kernel
theorem dX3_leastReaching_81 : decode cX3_leastReaching 81 = .ok (.iload_n 2, 1) := by decide +kernel
theorem dX3_leastReaching_82 : decode cX3_leastReaching 82 = .ok (.ireturn, 1) := by decide +kernel
theorem dX4_init_0 : decode cX4_init 0 = .ok (.aload_n 0, 1) := by decide +kernel
theorem dX4_init_1 : decode cX4_init 1 = .ok (.invokespecial 3, 3) := by decide +kernel
theorem dX4_init_4 : decode cX4_init 4 = .ok (.return_, 1) := by decide +kernel
theorem dX4_clear_0 : decode cX4_clear 0 = .ok (.aload_n 0, 1) := by decide +kernel
theorem dX4_clear_1 : decode cX4_clear 1 = .ok (.iconst 0, 1) := by decide +kernel
theorem dX4_clear_2 : decode cX4_clear 2 = .ok (.putfield 9, 3) := by decide +kernel
theorem dX4_clear_5 : decode cX4_clear 5 = .ok (.aload_n 0, 1) := by decide +kernel
theorem dX4_clear_6 : decode cX4_clear 6 = .ok (.lconst 0, 1) := by decide +kernel
theorem dX4_clear_7 : decode cX4_clear 7 = .ok (.putfield 15, 3) := by decide +kernel
theorem dX4_clear_10 : decode cX4_clear 10 = .ok (.aload_n 0, 1) := by decide +kernel
theorem dX4_clear_11 : decode cX4_clear 11 = .ok (.sipush (-10000), 3) := by decide +kernel
theorem dX4_clear_14 : decode cX4_clear 14 = .ok (.putfield 19, 3) := by decide +kernel
theorem dX4_clear_17 : decode cX4_clear 17 = .ok (.return_, 1) := by decide +kernel
theorem dX4_take_0 : decode cX4_take 0 = .ok (.aload_n 0, 1) := by decide +kernel
theorem dX4_take_1 : decode cX4_take 1 = .ok (.dup, 1) := by decide +kernel
theorem dX4_take_2 : decode cX4_take 2 = .ok (.getfield 9, 3) := by decide +kernel
theorem dX4_take_5 : decode cX4_take 5 = .ok (.iconst 1, 1) := by decide +kernel
theorem dX4_take_6 : decode cX4_take 6 = .ok (.iadd, 1) := by decide +kernel
theorem dX4_take_7 : decode cX4_take 7 = .ok (.putfield 9, 3) := by decide +kernel
theorem dX4_take_10 : decode cX4_take 10 = .ok (.aload_n 0, 1) := by decide +kernel
theorem dX4_take_11 : decode cX4_take 11 = .ok (.dup, 1) := by decide +kernel
theorem dX4_take_12 : decode cX4_take 12 = .ok (.getfield 15, 3) := by decide +kernel
theorem dX4_take_15 : decode cX4_take 15 = .ok (.iload_n 1, 1) := by decide +kernel
theorem dX4_take_16 : decode cX4_take 16 = .ok (.i2l, 1) := by decide +kernel
theorem dX4_take_17 : decode cX4_take 17 = .ok (.ladd, 1) := by decide +kernel
theorem dX4_take_18 : decode cX4_take 18 = .ok (.putfield 15, 3) := by decide +kernel
theorem dX4_take_21 : decode cX4_take 21 = .ok (.aload_n 0, 1) := by decide +kernel
theorem dX4_take_22 : decode cX4_take 22 = .ok (.aload_n 0, 1) := by decide +kernel
theorem dX4_take_23 : decode cX4_take 23 = .ok (.getfield 19, 3) := by decide +kernel
theorem dX4_take_26 : decode cX4_take 26 = .ok (.iload_n 1, 1) := by decide +kernel
theorem dX4_take_27 : decode cX4_take 27 = .ok (.invokestatic 22, 3) := by decide +kernel
theorem dX4_take_30 : decode cX4_take 30 = .ok (.putfield 19, 3) := by decide +kernel
theorem dX4_take_33 : decode cX4_take 33 = .ok (.return_, 1) := by decide +kernel
theorem dX5_init_0 : decode cX5_init 0 = .ok (.aload_n 0, 1) := by decide +kernel
theorem dX5_init_1 : decode cX5_init 1 = .ok (.invokespecial 1, 3) := by decide +kernel
theorem dX5_init_4 : decode cX5_init 4 = .ok (.aload_n 0, 1) := by decide +kernel
theorem dX5_init_5 : decode cX5_init 5 = .ok (.bipush 10, 2) := by decide +kernel
theorem dX5_init_7 : decode cX5_init 7 = .ok (.anewarray 9, 3) := by decide +kernel
theorem dX5_init_10 : decode cX5_init 10 = .ok (.putfield 11, 3) := by decide +kernel
theorem dX5_init_13 : decode cX5_init 13 = .ok (.aload_n 0, 1) := by decide +kernel
theorem dX5_init_14 : decode cX5_init 14 = .ok (.new 15, 3) := by decide +kernel
theorem dX5_init_17 : decode cX5_init 17 = .ok (.dup, 1) := by decide +kernel
theorem dX5_init_18 : decode cX5_init 18 = .ok (.invokespecial 17, 3) := by decide +kernel
theorem dX5_init_21 : decode cX5_init 21 = .ok (.putfield 18, 3) := by decide +kernel
theorem dX5_init_24 : decode cX5_init 24 = .ok (.aload_n 0, 1) := by decide +kernel
theorem dX5_init_25 : decode cX5_init 25 = .ok (.iconst 0, 1) := by decide +kernel
theorem dX5_init_26 : decode cX5_init 26 = .ok (.putfield 22, 3) := by decide +kernel
theorem dX5_init_29 : decode cX5_init 29 = .ok (.aload_n 0, 1) := by decide +kernel
theorem dX5_init_30 : decode cX5_init 30 = .ok (.lconst 0, 1) := by decide +kernel
theorem dX5_init_31 : decode cX5_init 31 = .ok (.putfield 26, 3) := by decide +kernel
theorem dX5_init_34 : decode cX5_init 34 = .ok (.return_, 1) := by decide +kernel
theorem dX5_open_0 : decode cX5_open 0 = .ok (.iload_n 1, 1) := by decide +kernel
theorem dX5_open_1 : decode cX5_open 1 = .ok (.invokestatic 30, 3) := by decide +kernel
theorem dX5_open_4 : decode cX5_open 4 = .ok (.ifCond .eq 10, 3) := by decide +kernel
theorem dX5_open_7 : decode cX5_open 7 = .ok (.iload_n 2, 1) := by decide +kernel
theorem dX5_open_8 : decode cX5_open 8 = .ok (.invokestatic 30, 3) := by decide +kernel
theorem dX5_open_11 : decode cX5_open 11 = .ok (.ifCond .ne 13, 3) := by decide +kernel
theorem dX5_open_14 : decode cX5_open 14 = .ok (.new 34, 3) := by decide +kernel
theorem dX5_open_17 : decode cX5_open 17 = .ok (.dup, 1) := by decide +kernel
theorem dX5_open_18 : decode cX5_open 18 = .ok (.ldc 36, 2) := by decide +kernel
theorem dX5_open_20 : decode cX5_open 20 = .ok (.invokespecial 38, 3) := by decide +kernel
theorem dX5_open_23 : decode cX5_open 23 = .ok (.athrow, 1) := by decide +kernel
theorem dX5_open_24 : decode cX5_open 24 = .ok (.aload_n 0, 1) := by decide +kernel
theorem dX5_open_25 : decode cX5_open 25 = .ok (.iload_n 1, 1) := by decide +kernel
theorem dX5_open_26 : decode cX5_open 26 = .ok (.iload_n 2, 1) := by decide +kernel
theorem dX5_open_27 : decode cX5_open 27 = .ok (.invokevirtual 41, 3) := by decide +kernel
theorem dX5_open_30 : decode cX5_open 30 = .ok (.ifCond .lt 13, 3) := by decide +kernel
theorem dX5_open_33 : decode cX5_open 33 = .ok (.new 45, 3) := by decide +kernel
theorem dX5_open_36 : decode cX5_open 36 = .ok (.dup, 1) := by decide +kernel
theorem dX5_open_37 : decode cX5_open 37 = .ok (.ldc 47, 2) := by decide +kernel
theorem dX5_open_39 : decode cX5_open 39 = .ok (.invokespecial 49, 3) := by decide +kernel
theorem dX5_open_42 : decode cX5_open 42 = .ok (.athrow, 1) := by decide +kernel
theorem dX5_open_43 : decode cX5_open 43 = .ok (.aload_n 0, 1) := by decide +kernel
theorem dX5_open_44 : decode cX5_open 44 = .ok (.getfield 22, 3) := by decide +kernel
theorem dX5_open_47 : decode cX5_open 47 = .ok (.aload_n 0, 1) := by decide +kernel
theorem dX5_open_48 : decode cX5_open 48 = .ok (.getfield 11, 3) := by decide +kernel
theorem dX5_open_51 : decode cX5_open 51 = .ok (.arraylength, 1) := by decide +kernel
theorem dX5_open_52 : decode cX5_open 52 = .ok (.if_icmp .lt 13, 3) := by decide +kernel
theorem dX5_open_55 : decode cX5_open 55 = .ok (.new 45, 3) := by decide +kernel
theorem dX5_open_58 : decode cX5_open 58 = .ok (.dup, 1) := by decide +kernel
theorem dX5_open_59 : decode cX5_open 59 = .ok (.ldc 50, 2) := by decide +kernel
theorem dX5_open_61 : decode cX5_open 61 = .ok (.invokespecial 49, 3) := by decide +kernel
theorem dX5_open_64 : decode cX5_open 64 = .ok (.athrow, 1) := by decide +kernel
theorem dX5_open_65 : decode cX5_open 65 = .ok (.aload_n 0, 1) := by decide +kernel
theorem dX5_open_66 : decode cX5_open 66 = .ok (.getfield 11, 3) := by decide +kernel
theorem dX5_open_69 : decode cX5_open 69 = .ok (.aload_n 0, 1) := by decide +kernel
theorem dX5_open_70 : decode cX5_open 70 = .ok (.getfield 22, 3) := by decide +kernel
theorem dX5_open_73 : decode cX5_open 73 = .ok (.new 9, 3) := by decide +kernel
theorem dX5_open_76 : decode cX5_open 76 = .ok (.dup, 1) := by decide +kernel
theorem dX5_open_77 : decode cX5_open 77 = .ok (.iload_n 1, 1) := by decide +kernel
theorem dX5_open_78 : decode cX5_open 78 = .ok (.iload_n 2, 1) := by decide +kernel
theorem dX5_open_79 : decode cX5_open 79 = .ok (.invokespecial 52, 3) := by decide +kernel
theorem dX5_open_82 : decode cX5_open 82 = .ok (.aastore, 1) := by decide +kernel
theorem dX5_open_83 : decode cX5_open 83 = .ok (.aload_n 0, 1) := by decide +kernel
theorem dX5_open_84 : decode cX5_open 84 = .ok (.dup, 1) := by decide +kernel
theorem dX5_open_85 : decode cX5_open 85 = .ok (.getfield 22, 3) := by decide +kernel
theorem dX5_open_88 : decode cX5_open 88 = .ok (.iconst 1, 1) := by decide +kernel
theorem dX5_open_89 : decode cX5_open 89 = .ok (.iadd, 1) := by decide +kernel
theorem dX5_open_90 : decode cX5_open 90 = .ok (.putfield 22, 3) := by decide +kernel
theorem dX5_open_93 : decode cX5_open 93 = .ok (.aload_n 0, 1) := by decide +kernel
theorem dX5_open_94 : decode cX5_open 94 = .ok (.getfield 22, 3) := by decide +kernel
theorem dX5_open_97 : decode cX5_open 97 = .ok (.iconst 1, 1) := by decide +kernel
theorem dX5_open_98 : decode cX5_open 98 = .ok (.isub, 1) := by decide +kernel
theorem dX5_open_99 : decode cX5_open 99 = .ok (.ireturn, 1) := by decide +kernel
theorem dX5_pass_0 : decode cX5_pass 0 = .ok (.iload_n 1, 1) := by decide +kernel
theorem dX5_pass_1 : decode cX5_pass 1 = .ok (.iconst 1, 1) := by decide +kernel
theorem dX5_pass_2 : decode cX5_pass 2 = .ok (.if_icmp .lt 10, 3) := by decide +kernel
theorem dX5_pass_5 : decode cX5_pass 5 = .ok (.iload_n 1, 1) := by decide +kernel
theorem dX5_pass_6 : decode cX5_pass 6 = .ok (.sipush 600, 3) := by decide +kernel
theorem dX5_pass_9 : decode cX5_pass 9 = .ok (.if_icmp .le 13, 3) := by decide +kernel
theorem dX5_pass_12 : decode cX5_pass 12 = .ok (.new 34, 3) := by decide +kernel
theorem dX5_pass_15 : decode cX5_pass 15 = .ok (.dup, 1) := by decide +kernel
theorem dX5_pass_16 : decode cX5_pass 16 = .ok (.ldc 55, 2) := by decide +kernel
theorem dX5_pass_18 : decode cX5_pass 18 = .ok (.invokespecial 38, 3) := by decide +kernel
theorem dX5_pass_21 : decode cX5_pass 21 = .ok (.athrow, 1) := by decide +kernel
theorem dX5_pass_22 : decode cX5_pass 22 = .ok (.aload_n 0, 1) := by decide +kernel
theorem dX5_pass_23 : decode cX5_pass 23 = .ok (.dup, 1) := by decide +kernel
theorem dX5_pass_24 : decode cX5_pass 24 = .ok (.getfield 26, 3) := by decide +kernel
theorem dX5_pass_27 : decode cX5_pass 27 = .ok (.iload_n 1, 1) := by decide +kernel
theorem dX5_pass_28 : decode cX5_pass 28 = .ok (.i2l, 1) := by decide +kernel
theorem dX5_pass_29 : decode cX5_pass 29 = .ok (.ladd, 1) := by decide +kernel
theorem dX5_pass_30 : decode cX5_pass 30 = .ok (.putfield 26, 3) := by decide +kernel
theorem dX5_pass_33 : decode cX5_pass 33 = .ok (.aload_n 0, 1) := by decide +kernel
theorem dX5_pass_34 : decode cX5_pass 34 = .ok (.getfield 26, 3) := by decide +kernel
theorem dX5_pass_37 : decode cX5_pass 37 = .ok (.lreturn, 1) := by decide +kernel
theorem dX5_add_0 : decode cX5_add 0 = .ok (.aload_n 0, 1) := by decide +kernel
theorem dX5_add_1 : decode cX5_add 1 = .ok (.iload_n 1, 1) := by decide +kernel
theorem dX5_add_2 : decode cX5_add 2 = .ok (.invokevirtual 57, 3) := by decide +kernel
theorem dX5_add_5 : decode cX5_add 5 = .ok (.astore_n 3, 1) := by decide +kernel
theorem dX5_add_6 : decode cX5_add 6 = .ok (.iload_n 2, 1) := by decide +kernel
theorem dX5_add_7 : decode cX5_add 7 = .ok (.invokestatic 61, 3) := by decide +kernel
theorem dX5_add_10 : decode cX5_add 10 = .ok (.ifCond .ne 13, 3) := by decide +kernel
theorem dX5_add_13 : decode cX5_add 13 = .ok (.new 34, 3) := by decide +kernel
theorem dX5_add_16 : decode cX5_add 16 = .ok (.dup, 1) := by decide +kernel
theorem dX5_add_17 : decode cX5_add 17 = .ok (.ldc 64, 2) := by decide +kernel
theorem dX5_add_19 : decode cX5_add 19 = .ok (.invokespecial 38, 3) := by decide +kernel
theorem dX5_add_22 : decode cX5_add 22 = .ok (.athrow, 1) := by decide +kernel
theorem dX5_add_23 : decode cX5_add 23 = .ok (.aload_n 3, 1) := by decide +kernel
theorem dX5_add_24 : decode cX5_add 24 = .ok (.invokevirtual 66, 3) := by decide +kernel
theorem dX5_add_27 : decode cX5_add 27 = .ok (.ifCond .eq 13, 3) := by decide +kernel
theorem dX5_add_30 : decode cX5_add 30 = .ok (.new 45, 3) := by decide +kernel
theorem dX5_add_33 : decode cX5_add 33 = .ok (.dup, 1) := by decide +kernel
theorem dX5_add_34 : decode cX5_add 34 = .ok (.ldc 70, 2) := by decide +kernel
theorem dX5_add_36 : decode cX5_add 36 = .ok (.invokespecial 49, 3) := by decide +kernel
theorem dX5_add_39 : decode cX5_add 39 = .ok (.athrow, 1) := by decide +kernel
theorem dX5_add_40 : decode cX5_add 40 = .ok (.aload_n 3, 1) := by decide +kernel
theorem dX5_add_41 : decode cX5_add 41 = .ok (.aload_n 0, 1) := by decide +kernel
theorem dX5_add_42 : decode cX5_add 42 = .ok (.getfield 26, 3) := by decide +kernel
theorem dX5_add_45 : decode cX5_add 45 = .ok (.invokevirtual 72, 3) := by decide +kernel
theorem dX5_add_48 : decode cX5_add 48 = .ok (.ifCond .eq 13, 3) := by decide +kernel
theorem dX5_add_51 : decode cX5_add 51 = .ok (.new 45, 3) := by decide +kernel
theorem dX5_add_54 : decode cX5_add 54 = .ok (.dup, 1) := by decide +kernel
theorem dX5_add_55 : decode cX5_add 55 = .ok (.ldc 76, 2) := by decide +kernel
theorem dX5_add_57 : decode cX5_add 57 = .ok (.invokespecial 49, 3) := by decide +kernel
theorem dX5_add_60 : decode cX5_add 60 = .ok (.athrow, 1) := by decide +kernel
theorem dX5_add_61 : decode cX5_add 61 = .ok (.aload_n 3, 1) := by decide +kernel
theorem dX5_add_62 : decode cX5_add 62 = .ok (.aload_n 0, 1) := by decide +kernel
theorem dX5_add_63 : decode cX5_add 63 = .ok (.getfield 26, 3) := by decide +kernel
theorem dX5_add_66 : decode cX5_add 66 = .ok (.iload_n 2, 1) := by decide +kernel
theorem dX5_add_67 : decode cX5_add 67 = .ok (.invokevirtual 78, 3) := by decide +kernel
theorem dX5_add_70 : decode cX5_add 70 = .ok (.aload_n 3, 1) := by decide +kernel
theorem dX5_add_71 : decode cX5_add 71 = .ok (.getfield 82, 3) := by decide +kernel
theorem dX5_add_74 : decode cX5_add 74 = .ok (.ireturn, 1) := by decide +kernel
theorem dX5_time_0 : decode cX5_time 0 = .ok (.aload_n 0, 1) := by decide +kernel
theorem dX5_time_1 : decode cX5_time 1 = .ok (.getfield 26, 3) := by decide +kernel
theorem dX5_time_4 : decode cX5_time 4 = .ok (.lreturn, 1) := by decide +kernel
theorem dX5_seriesCount_0 : decode cX5_seriesCount 0 = .ok (.aload_n 0, 1) := by decide +kernel
theorem dX5_seriesCount_1 : decode cX5_seriesCount 1 = .ok (.getfield 22, 3) := by decide +kernel
theorem dX5_seriesCount_4 : decode cX5_seriesCount 4 = .ok (.ireturn, 1) := by decide +kernel
theorem dX5_find_0 : decode cX5_find 0 = .ok (.aload_n 0, 1) := by decide +kernel
theorem dX5_find_1 : decode cX5_find 1 = .ok (.iload_n 1, 1) := by decide +kernel
theorem dX5_find_2 : decode cX5_find 2 = .ok (.iload_n 2, 1) := by decide +kernel
theorem dX5_find_3 : decode cX5_find 3 = .ok (.invokevirtual 41, 3) := by decide +kernel
theorem dX5_find_6 : decode cX5_find 6 = .ok (.istore_n 3, 1) := by decide +kernel
theorem dX5_find_7 : decode cX5_find 7 = .ok (.iload_n 3, 1) := by decide +kernel
theorem dX5_find_8 : decode cX5_find 8 = .ok (.ifCond .ge 13, 3) := by decide +kernel
theorem dX5_find_11 : decode cX5_find 11 = .ok (.new 85, 3) := by decide +kernel
theorem dX5_find_14 : decode cX5_find 14 = .ok (.dup, 1) := by decide +kernel
theorem dX5_find_15 : decode cX5_find 15 = .ok (.ldc 87, 2) := by decide +kernel
theorem dX5_find_17 : decode cX5_find 17 = .ok (.invokespecial 89, 3) := by decide +kernel
theorem dX5_find_20 : decode cX5_find 20 = .ok (.athrow, 1) := by decide +kernel
theorem dX5_find_21 : decode cX5_find 21 = .ok (.iload_n 3, 1) := by decide +kernel
theorem dX5_find_22 : decode cX5_find 22 = .ok (.ireturn, 1) := by decide +kernel
theorem dX5_nameOf_0 : decode cX5_nameOf 0 = .ok (.aload_n 0, 1) := by decide +kernel
theorem dX5_nameOf_1 : decode cX5_nameOf 1 = .ok (.iload_n 1, 1) := by decide +kernel
theorem dX5_nameOf_2 : decode cX5_nameOf 2 = .ok (.invokevirtual 57, 3) := by decide +kernel
theorem dX5_nameOf_5 : decode cX5_nameOf 5 = .ok (.getfield 90, 3) := by decide +kernel
theorem dX5_nameOf_8 : decode cX5_nameOf 8 = .ok (.ireturn, 1) := by decide +kernel
theorem dX5_hostOf_0 : decode cX5_hostOf 0 = .ok (.aload_n 0, 1) := by decide +kernel
theorem dX5_hostOf_1 : decode cX5_hostOf 1 = .ok (.iload_n 1, 1) := by decide +kernel
theorem dX5_hostOf_2 : decode cX5_hostOf 2 = .ok (.invokevirtual 57, 3) := by decide +kernel
theorem dX5_hostOf_5 : decode cX5_hostOf 5 = .ok (.getfield 93, 3) := by decide +kernel
theorem dX5_hostOf_8 : decode cX5_hostOf 8 = .ok (.ireturn, 1) := by decide +kernel
theorem dX5_samples_0 : decode cX5_samples 0 = .ok (.aload_n 0, 1) := by decide +kernel
theorem dX5_samples_1 : decode cX5_samples 1 = .ok (.iload_n 1, 1) := by decide +kernel
theorem dX5_samples_2 : decode cX5_samples 2 = .ok (.invokevirtual 57, 3) := by decide +kernel
theorem dX5_samples_5 : decode cX5_samples 5 = .ok (.getfield 82, 3) := by decide +kernel
theorem dX5_samples_8 : decode cX5_samples 8 = .ok (.ireturn, 1) := by decide +kernel
theorem dX5_latest_0 : decode cX5_latest 0 = .ok (.aload_n 0, 1) := by decide +kernel
theorem dX5_latest_1 : decode cX5_latest 1 = .ok (.iload_n 1, 1) := by decide +kernel
theorem dX5_latest_2 : decode cX5_latest 2 = .ok (.invokevirtual 57, 3) := by decide +kernel
theorem dX5_latest_5 : decode cX5_latest 5 = .ok (.astore_n 2, 1) := by decide +kernel
theorem dX5_latest_6 : decode cX5_latest 6 = .ok (.aload_n 2, 1) := by decide +kernel
theorem dX5_latest_7 : decode cX5_latest 7 = .ok (.invokestatic 96, 3) := by decide +kernel
theorem dX5_latest_10 : decode cX5_latest 10 = .ok (.aload_n 2, 1) := by decide +kernel
theorem dX5_latest_11 : decode cX5_latest 11 = .ok (.invokevirtual 100, 3) := by decide +kernel
theorem dX5_latest_14 : decode cX5_latest 14 = .ok (.ireturn, 1) := by decide +kernel
theorem dX5_blocks_0 : decode cX5_blocks 0 = .ok (.aload_n 0, 1) := by decide +kernel
theorem dX5_blocks_1 : decode cX5_blocks 1 = .ok (.iload_n 1, 1) := by decide +kernel
theorem dX5_blocks_2 : decode cX5_blocks 2 = .ok (.invokevirtual 57, 3) := by decide +kernel
theorem dX5_blocks_5 : decode cX5_blocks 5 = .ok (.invokevirtual 104, 3) := by decide +kernel
theorem dX5_blocks_8 : decode cX5_blocks 8 = .ok (.ireturn, 1) := by decide +kernel
theorem dX5_bitsOf_0 : decode cX5_bitsOf 0 = .ok (.aload_n 0, 1) := by decide +kernel
theorem dX5_bitsOf_1 : decode cX5_bitsOf 1 = .ok (.iload_n 1, 1) := by decide +kernel
theorem dX5_bitsOf_2 : decode cX5_bitsOf 2 = .ok (.invokevirtual 57, 3) := by decide +kernel
theorem dX5_bitsOf_5 : decode cX5_bitsOf 5 = .ok (.iload_n 2, 1) := by decide +kernel
theorem dX5_bitsOf_6 : decode cX5_bitsOf 6 = .ok (.invokevirtual 107, 3) := by decide +kernel
theorem dX5_bitsOf_9 : decode cX5_bitsOf 9 = .ok (.astore_n 3, 1) := by decide +kernel
theorem dX5_bitsOf_10 : decode cX5_bitsOf 10 = .ok (.aload_n 3, 1) := by decide +kernel
theorem dX5_bitsOf_11 : decode cX5_bitsOf 11 = .ok (.ifnonnull 13, 3) := by decide +kernel
theorem dX5_bitsOf_14 : decode cX5_bitsOf 14 = .ok (.new 111, 3) := by decide +kernel
theorem dX5_bitsOf_17 : decode cX5_bitsOf 17 = .ok (.dup, 1) := by decide +kernel
theorem dX5_bitsOf_18 : decode cX5_bitsOf 18 = .ok (.ldc 113, 2) := by decide +kernel
theorem dX5_bitsOf_20 : decode cX5_bitsOf 20 = .ok (.invokespecial 115, 3) := by decide +kernel
theorem dX5_bitsOf_23 : decode cX5_bitsOf 23 = .ok (.athrow, 1) := by decide +kernel
theorem dX5_bitsOf_24 : decode cX5_bitsOf 24 = .ok (.aload_n 3, 1) := by decide +kernel
theorem dX5_bitsOf_25 : decode cX5_bitsOf 25 = .ok (.getfield 116, 3) := by decide +kernel
theorem dX5_bitsOf_28 : decode cX5_bitsOf 28 = .ok (.ireturn, 1) := by decide +kernel
theorem dX5_timeAt_0 : decode cX5_timeAt 0 = .ok (.aload_n 0, 1) := by decide +kernel
theorem dX5_timeAt_1 : decode cX5_timeAt 1 = .ok (.iload_n 1, 1) := by decide +kernel
theorem dX5_timeAt_2 : decode cX5_timeAt 2 = .ok (.invokevirtual 57, 3) := by decide +kernel
theorem dX5_timeAt_5 : decode cX5_timeAt 5 = .ok (.iload_n 2, 1) := by decide +kernel
theorem dX5_timeAt_6 : decode cX5_timeAt 6 = .ok (.invokestatic 121, 3) := by decide +kernel
theorem dX5_timeAt_9 : decode cX5_timeAt 9 = .ok (.iload_n 2, 1) := by decide +kernel
theorem dX5_timeAt_10 : decode cX5_timeAt 10 = .ok (.bipush 8, 2) := by decide +kernel
theorem dX5_timeAt_12 : decode cX5_timeAt 12 = .ok (.irem, 1) := by decide +kernel
theorem dX5_timeAt_13 : decode cX5_timeAt 13 = .ok (.invokevirtual 125, 3) := by decide +kernel
theorem dX5_timeAt_16 : decode cX5_timeAt 16 = .ok (.lreturn, 1) := by decide +kernel
theorem dX5_valueAt_0 : decode cX5_valueAt 0 = .ok (.aload_n 0, 1) := by decide +kernel
theorem dX5_valueAt_1 : decode cX5_valueAt 1 = .ok (.iload_n 1, 1) := by decide +kernel
theorem dX5_valueAt_2 : decode cX5_valueAt 2 = .ok (.invokevirtual 57, 3) := by decide +kernel
theorem dX5_valueAt_5 : decode cX5_valueAt 5 = .ok (.iload_n 2, 1) := by decide +kernel
theorem dX5_valueAt_6 : decode cX5_valueAt 6 = .ok (.invokestatic 121, 3) := by decide +kernel
theorem dX5_valueAt_9 : decode cX5_valueAt 9 = .ok (.iload_n 2, 1) := by decide +kernel
theorem dX5_valueAt_10 : decode cX5_valueAt 10 = .ok (.bipush 8, 2) := by decide +kernel
theorem dX5_valueAt_12 : decode cX5_valueAt 12 = .ok (.irem, 1) := by decide +kernel
theorem dX5_valueAt_13 : decode cX5_valueAt 13 = .ok (.invokevirtual 129, 3) := by decide +kernel
theorem dX5_valueAt_16 : decode cX5_valueAt 16 = .ok (.ireturn, 1) := by decide +kernel
theorem dX5_allBits_0 : decode cX5_allBits 0 = .ok (.lconst 0, 1) := by decide +kernel
theorem dX5_allBits_1 : decode cX5_allBits 1 = .ok (.lstore_n 1, 1) := by decide +kernel
theorem dX5_allBits_2 : decode cX5_allBits 2 = .ok (.aload_n 0, 1) := by decide +kernel
theorem dX5_allBits_3 : decode cX5_allBits 3 = .ok (.getfield 11, 3) := by decide +kernel
theorem dX5_allBits_6 : decode cX5_allBits 6 = .ok (.astore_n 3, 1) := by decide +kernel
theorem dX5_allBits_7 : decode cX5_allBits 7 = .ok (.aload_n 3, 1) := by decide +kernel
theorem dX5_allBits_8 : decode cX5_allBits 8 = .ok (.arraylength, 1) := by decide +kernel
theorem dX5_allBits_9 : decode cX5_allBits 9 = .ok (.istore 4, 2) := by decide +kernel
theorem dX5_allBits_11 : decode cX5_allBits 11 = .ok (.iconst 0, 1) := by decide +kernel
theorem dX5_allBits_12 : decode cX5_allBits 12 = .ok (.istore 5, 2) := by decide +kernel
theorem dX5_allBits_14 : decode cX5_allBits 14 = .ok (.iload 5, 2) := by decide +kernel
theorem dX5_allBits_16 : decode cX5_allBits 16 = .ok (.iload 4, 2) := by decide +kernel
theorem dX5_allBits_18 : decode cX5_allBits 18 = .ok (.if_icmp .ge 28, 3) := by decide +kernel
theorem dX5_allBits_21 : decode cX5_allBits 21 = .ok (.aload_n 3, 1) := by decide +kernel
theorem dX5_allBits_22 : decode cX5_allBits 22 = .ok (.iload 5, 2) := by decide +kernel
theorem dX5_allBits_24 : decode cX5_allBits 24 = .ok (.aaload, 1) := by decide +kernel
theorem dX5_allBits_25 : decode cX5_allBits 25 = .ok (.astore 6, 2) := by decide +kernel
theorem dX5_allBits_27 : decode cX5_allBits 27 = .ok (.aload 6, 2) := by decide +kernel
theorem dX5_allBits_29 : decode cX5_allBits 29 = .ok (.ifnull 11, 3) := by decide +kernel
theorem dX5_allBits_32 : decode cX5_allBits 32 = .ok (.lload_n 1, 1) := by decide +kernel
theorem dX5_allBits_33 : decode cX5_allBits 33 = .ok (.aload 6, 2) := by decide +kernel
theorem dX5_allBits_35 : decode cX5_allBits 35 = .ok (.invokevirtual 133, 3) := by decide +kernel
theorem dX5_allBits_38 : decode cX5_allBits 38 = .ok (.ladd, 1) := by decide +kernel
theorem dX5_allBits_39 : decode cX5_allBits 39 = .ok (.lstore_n 1, 1) := by decide +kernel
theorem dX5_allBits_40 : decode cX5_allBits 40 = .ok (.iinc 5 1, 3) := by decide +kernel
theorem dX5_allBits_43 : decode cX5_allBits 43 = .ok (.goto (-29), 3) := by decide +kernel
theorem dX5_allBits_46 : decode cX5_allBits 46 = .ok (.lload_n 1, 1) := by decide +kernel
theorem dX5_allBits_47 : decode cX5_allBits 47 = .ok (.lreturn, 1) := by decide +kernel
theorem dX5_count_0 : decode cX5_count 0 = .ok (.aload_n 0, 1) := by decide +kernel
theorem dX5_count_1 : decode cX5_count 1 = .ok (.iload_n 1, 1) := by decide +kernel
theorem dX5_count_2 : decode cX5_count 2 = .ok (.lload_n 2, 1) := by decide +kernel
theorem dX5_count_3 : decode cX5_count 3 = .ok (.lload 4, 2) := by decide +kernel
theorem dX5_count_5 : decode cX5_count 5 = .ok (.invokevirtual 137, 3) := by decide +kernel
theorem dX5_count_8 : decode cX5_count 8 = .ok (.aload_n 0, 1) := by decide +kernel
theorem dX5_count_9 : decode cX5_count 9 = .ok (.getfield 18, 3) := by decide +kernel
theorem dX5_count_12 : decode cX5_count 12 = .ok (.getfield 141, 3) := by decide +kernel
theorem dX5_count_15 : decode cX5_count 15 = .ok (.ireturn, 1) := by decide +kernel
theorem dX5_sum_0 : decode cX5_sum 0 = .ok (.aload_n 0, 1) := by decide +kernel
theorem dX5_sum_1 : decode cX5_sum 1 = .ok (.iload_n 1, 1) := by decide +kernel
theorem dX5_sum_2 : decode cX5_sum 2 = .ok (.lload_n 2, 1) := by decide +kernel
theorem dX5_sum_3 : decode cX5_sum 3 = .ok (.lload 4, 2) := by decide +kernel
theorem dX5_sum_5 : decode cX5_sum 5 = .ok (.invokevirtual 137, 3) := by decide +kernel
theorem dX5_sum_8 : decode cX5_sum 8 = .ok (.aload_n 0, 1) := by decide +kernel
theorem dX5_sum_9 : decode cX5_sum 9 = .ok (.getfield 18, 3) := by decide +kernel
theorem dX5_sum_12 : decode cX5_sum 12 = .ok (.getfield 144, 3) := by decide +kernel
theorem dX5_sum_15 : decode cX5_sum 15 = .ok (.lreturn, 1) := by decide +kernel
theorem dX5_sumByReading_0 : decode cX5_sumByReading 0 = .ok (.aload_n 0, 1) := by decide +kernel
theorem dX5_sumByReading_1 : decode cX5_sumByReading 1 = .ok (.iload_n 1, 1) := by decide +kernel
theorem dX5_sumByReading_2 : decode cX5_sumByReading 2 = .ok (.invokevirtual 57, 3) := by decide +kernel
theorem dX5_sumByReading_5 : decode cX5_sumByReading 5 = .ok (.astore 6, 2) := by decide +kernel
theorem dX5_sumByReading_7 : decode cX5_sumByReading 7 = .ok (.lload_n 2, 1) := by decide +kernel
theorem dX5_sumByReading_8 : decode cX5_sumByReading 8 = .ok (.lload 4, 2) := by decide +kernel
theorem dX5_sumByReading_10 : decode cX5_sumByReading 10 = .ok (.invokestatic 147, 3) := by decide +kernel
theorem dX5_sumByReading_13 : decode cX5_sumByReading 13 = .ok (.aload 6, 2) := by decide +kernel
theorem dX5_sumByReading_15 : decode cX5_sumByReading 15 = .ok (.aload_n 0, 1) := by decide +kernel
theorem dX5_sumByReading_16 : decode cX5_sumByReading 16 = .ok (.getfield 18, 3) := by decide +kernel
theorem dX5_sumByReading_19 : decode cX5_sumByReading 19 = .ok (.lload_n 2, 1) := by decide +kernel
theorem dX5_sumByReading_20 : decode cX5_sumByReading 20 = .ok (.lload 4, 2) := by decide +kernel
theorem dX5_sumByReading_22 : decode cX5_sumByReading 22 = .ok (.invokevirtual 151, 3) := by decide +kernel
theorem dX5_sumByReading_25 : decode cX5_sumByReading 25 = .ok (.aload_n 0, 1) := by decide +kernel
theorem dX5_sumByReading_26 : decode cX5_sumByReading 26 = .ok (.getfield 18, 3) := by decide +kernel
theorem dX5_sumByReading_29 : decode cX5_sumByReading 29 = .ok (.getfield 144, 3) := by decide +kernel
theorem dX5_sumByReading_32 : decode cX5_sumByReading 32 = .ok (.lreturn, 1) := by decide +kernel
theorem dX5_maximum_0 : decode cX5_maximum 0 = .ok (.aload_n 0, 1) := by decide +kernel
theorem dX5_maximum_1 : decode cX5_maximum 1 = .ok (.iload_n 1, 1) := by decide +kernel
theorem dX5_maximum_2 : decode cX5_maximum 2 = .ok (.lload_n 2, 1) := by decide +kernel
theorem dX5_maximum_3 : decode cX5_maximum 3 = .ok (.lload 4, 2) := by decide +kernel
theorem dX5_maximum_5 : decode cX5_maximum 5 = .ok (.invokevirtual 137, 3) := by decide +kernel
theorem dX5_maximum_8 : decode cX5_maximum 8 = .ok (.aload_n 0, 1) := by decide +kernel
theorem dX5_maximum_9 : decode cX5_maximum 9 = .ok (.getfield 18, 3) := by decide +kernel
theorem dX5_maximum_12 : decode cX5_maximum 12 = .ok (.getfield 141, 3) := by decide +kernel
theorem dX5_maximum_15 : decode cX5_maximum 15 = .ok (.ifCond .ne 13, 3) := by decide +kernel
theorem dX5_maximum_18 : decode cX5_maximum 18 = .ok (.new 45, 3) := by decide +kernel
theorem dX5_maximum_21 : decode cX5_maximum 21 = .ok (.dup, 1) := by decide +kernel
theorem dX5_maximum_22 : decode cX5_maximum 22 = .ok (.ldc 155, 2) := by decide +kernel
theorem dX5_maximum_24 : decode cX5_maximum 24 = .ok (.invokespecial 49, 3) := by decide +kernel
theorem dX5_maximum_27 : decode cX5_maximum 27 = .ok (.athrow, 1) := by decide +kernel
theorem dX5_maximum_28 : decode cX5_maximum 28 = .ok (.aload_n 0, 1) := by decide +kernel
theorem dX5_maximum_29 : decode cX5_maximum 29 = .ok (.getfield 18, 3) := by decide +kernel
theorem dX5_maximum_32 : decode cX5_maximum 32 = .ok (.getfield 157, 3) := by decide +kernel
theorem dX5_maximum_35 : decode cX5_maximum 35 = .ok (.ireturn, 1) := by decide +kernel
theorem dX5_mean_0 : decode cX5_mean 0 = .ok (.aload_n 0, 1) := by decide +kernel
theorem dX5_mean_1 : decode cX5_mean 1 = .ok (.iload_n 1, 1) := by decide +kernel
theorem dX5_mean_2 : decode cX5_mean 2 = .ok (.lload_n 2, 1) := by decide +kernel
theorem dX5_mean_3 : decode cX5_mean 3 = .ok (.lload 4, 2) := by decide +kernel
theorem dX5_mean_5 : decode cX5_mean 5 = .ok (.invokevirtual 137, 3) := by decide +kernel
theorem dX5_mean_8 : decode cX5_mean 8 = .ok (.aload_n 0, 1) := by decide +kernel
theorem dX5_mean_9 : decode cX5_mean 9 = .ok (.getfield 18, 3) := by decide +kernel
theorem dX5_mean_12 : decode cX5_mean 12 = .ok (.getfield 141, 3) := by decide +kernel
theorem dX5_mean_15 : decode cX5_mean 15 = .ok (.ifCond .ne 13, 3) := by decide +kernel
theorem dX5_mean_18 : decode cX5_mean 18 = .ok (.new 160, 3) := by decide +kernel
theorem dX5_mean_21 : decode cX5_mean 21 = .ok (.dup, 1) := by decide +kernel
theorem dX5_mean_22 : decode cX5_mean 22 = .ok (.ldc 155, 2) := by decide +kernel
theorem dX5_mean_24 : decode cX5_mean 24 = .ok (.invokespecial 162, 3) := by decide +kernel
theorem dX5_mean_27 : decode cX5_mean 27 = .ok (.athrow, 1) := by decide +kernel
theorem dX5_mean_28 : decode cX5_mean 28 = .ok (.aload_n 0, 1) := by decide +kernel
theorem dX5_mean_29 : decode cX5_mean 29 = .ok (.getfield 18, 3) := by decide +kernel
theorem dX5_mean_32 : decode cX5_mean 32 = .ok (.getfield 144, 3) := by decide +kernel
theorem dX5_mean_35 : decode cX5_mean 35 = .ok (.l2d, 1) := by decide +kernel
theorem dX5_mean_36 : decode cX5_mean 36 = .ok (.aload_n 0, 1) := by decide +kernel
theorem dX5_mean_37 : decode cX5_mean 37 = .ok (.getfield 18, 3) := by decide +kernel
theorem dX5_mean_40 : decode cX5_mean 40 = .ok (.getfield 141, 3) := by decide +kernel
theorem dX5_mean_43 : decode cX5_mean 43 = .ok (.i2d, 1) := by decide +kernel
theorem dX5_mean_44 : decode cX5_mean 44 = .ok (.ddiv, 1) := by decide +kernel
theorem dX5_mean_45 : decode cX5_mean 45 = .ok (.dreturn, 1) := by decide +kernel
theorem dX5_rollupCount_0 : decode cX5_rollupCount 0 = .ok (.aload_n 0, 1) := by decide +kernel
theorem dX5_rollupCount_1 : decode cX5_rollupCount 1 = .ok (.iload_n 1, 1) := by decide +kernel
theorem dX5_rollupCount_2 : decode cX5_rollupCount 2 = .ok (.invokevirtual 57, 3) := by decide +kernel
theorem dX5_rollupCount_5 : decode cX5_rollupCount 5 = .ok (.astore_n 3, 1) := by decide +kernel
theorem dX5_rollupCount_6 : decode cX5_rollupCount 6 = .ok (.iload_n 2, 1) := by decide +kernel
theorem dX5_rollupCount_7 : decode cX5_rollupCount 7 = .ok (.ifCond .ge 13, 3) := by decide +kernel
theorem dX5_rollupCount_10 : decode cX5_rollupCount 10 = .ok (.new 34, 3) := by decide +kernel
theorem dX5_rollupCount_13 : decode cX5_rollupCount 13 = .ok (.dup, 1) := by decide +kernel
theorem dX5_rollupCount_14 : decode cX5_rollupCount 14 = .ok (.ldc 163, 2) := by decide +kernel
theorem dX5_rollupCount_16 : decode cX5_rollupCount 16 = .ok (.invokespecial 38, 3) := by decide +kernel
theorem dX5_rollupCount_19 : decode cX5_rollupCount 19 = .ok (.athrow, 1) := by decide +kernel
theorem dX5_rollupCount_20 : decode cX5_rollupCount 20 = .ok (.iload_n 2, 1) := by decide +kernel
theorem dX5_rollupCount_21 : decode cX5_rollupCount 21 = .ok (.i2l, 1) := by decide +kernel
theorem dX5_rollupCount_22 : decode cX5_rollupCount 22 = .ok (.ldc2_w 165, 3) := by decide +kernel
theorem dX5_rollupCount_25 : decode cX5_rollupCount 25 = .ok (.lmul, 1) := by decide +kernel
theorem dX5_rollupCount_26 : decode cX5_rollupCount 26 = .ok (.lstore 4, 2) := by decide +kernel
theorem dX5_rollupCount_28 : decode cX5_rollupCount 28 = .ok (.aload_n 3, 1) := by decide +kernel
theorem dX5_rollupCount_29 : decode cX5_rollupCount 29 = .ok (.aload_n 0, 1) := by decide +kernel
theorem dX5_rollupCount_30 : decode cX5_rollupCount 30 = .ok (.getfield 18, 3) := by decide +kernel
theorem dX5_rollupCount_33 : decode cX5_rollupCount 33 = .ok (.lload 4, 2) := by decide +kernel
theorem dX5_rollupCount_35 : decode cX5_rollupCount 35 = .ok (.lload 4, 2) := by decide +kernel
theorem dX5_rollupCount_37 : decode cX5_rollupCount 37 = .ok (.ldc2_w 165, 3) := by decide +kernel
theorem dX5_rollupCount_40 : decode cX5_rollupCount 40 = .ok (.ladd, 1) := by decide +kernel
theorem dX5_rollupCount_41 : decode cX5_rollupCount 41 = .ok (.lconst 1, 1) := by decide +kernel
theorem dX5_rollupCount_42 : decode cX5_rollupCount 42 = .ok (.lsub, 1) := by decide +kernel
theorem dX5_rollupCount_43 : decode cX5_rollupCount 43 = .ok (.invokevirtual 151, 3) := by decide +kernel
theorem dX5_rollupCount_46 : decode cX5_rollupCount 46 = .ok (.aload_n 0, 1) := by decide +kernel
theorem dX5_rollupCount_47 : decode cX5_rollupCount 47 = .ok (.getfield 18, 3) := by decide +kernel
theorem dX5_rollupCount_50 : decode cX5_rollupCount 50 = .ok (.getfield 141, 3) := by decide +kernel
theorem dX5_rollupCount_53 : decode cX5_rollupCount 53 = .ok (.ireturn, 1) := by decide +kernel
theorem dX5_countLow_0 : decode cX5_countLow 0 = .ok (.aload_n 0, 1) := by decide +kernel
theorem dX5_countLow_1 : decode cX5_countLow 1 = .ok (.iload_n 1, 1) := by decide +kernel
theorem dX5_countLow_2 : decode cX5_countLow 2 = .ok (.invokevirtual 57, 3) := by decide +kernel
theorem dX5_countLow_5 : decode cX5_countLow 5 = .ok (.astore 6, 2) := by decide +kernel
theorem dX5_countLow_7 : decode cX5_countLow 7 = .ok (.lload_n 2, 1) := by decide +kernel
theorem dX5_countLow_8 : decode cX5_countLow 8 = .ok (.lload 4, 2) := by decide +kernel
theorem dX5_countLow_10 : decode cX5_countLow 10 = .ok (.invokestatic 147, 3) := by decide +kernel
theorem dX5_countLow_13 : decode cX5_countLow 13 = .ok (.aload 6, 2) := by decide +kernel
theorem dX5_countLow_15 : decode cX5_countLow 15 = .ok (.aload_n 0, 1) := by decide +kernel
theorem dX5_countLow_16 : decode cX5_countLow 16 = .ok (.getfield 18, 3) := by decide +kernel
theorem dX5_countLow_19 : decode cX5_countLow 19 = .ok (.lload_n 2, 1) := by decide +kernel
theorem dX5_countLow_20 : decode cX5_countLow 20 = .ok (.lload 4, 2) := by decide +kernel
theorem dX5_countLow_22 : decode cX5_countLow 22 = .ok (.invokevirtual 167, 3) := by decide +kernel
theorem dX5_countLow_25 : decode cX5_countLow 25 = .ok (.aload_n 0, 1) := by decide +kernel
theorem dX5_countLow_26 : decode cX5_countLow 26 = .ok (.getfield 18, 3) := by decide +kernel
theorem dX5_countLow_29 : decode cX5_countLow 29 = .ok (.getfield 141, 3) := by decide +kernel
theorem dX5_countLow_32 : decode cX5_countLow 32 = .ok (.ireturn, 1) := by decide +kernel
theorem dX5_countHigh_0 : decode cX5_countHigh 0 = .ok (.aload_n 0, 1) := by decide +kernel
theorem dX5_countHigh_1 : decode cX5_countHigh 1 = .ok (.iload_n 1, 1) := by decide +kernel
theorem dX5_countHigh_2 : decode cX5_countHigh 2 = .ok (.lload_n 2, 1) := by decide +kernel
theorem dX5_countHigh_3 : decode cX5_countHigh 3 = .ok (.lload 4, 2) := by decide +kernel
theorem dX5_countHigh_5 : decode cX5_countHigh 5 = .ok (.invokevirtual 170, 3) := by decide +kernel
theorem dX5_countHigh_8 : decode cX5_countHigh 8 = .ok (.aload_n 0, 1) := by decide +kernel
theorem dX5_countHigh_9 : decode cX5_countHigh 9 = .ok (.getfield 18, 3) := by decide +kernel
theorem dX5_countHigh_12 : decode cX5_countHigh 12 = .ok (.getfield 141, 3) := by decide +kernel
theorem dX5_countHigh_15 : decode cX5_countHigh 15 = .ok (.ireturn, 1) := by decide +kernel
theorem dX5_maximumHigh_0 : decode cX5_maximumHigh 0 = .ok (.aload_n 0, 1) := by decide +kernel
theorem dX5_maximumHigh_1 : decode cX5_maximumHigh 1 = .ok (.iload_n 1, 1) := by decide +kernel
theorem dX5_maximumHigh_2 : decode cX5_maximumHigh 2 = .ok (.lload_n 2, 1) := by decide +kernel
theorem dX5_maximumHigh_3 : decode cX5_maximumHigh 3 = .ok (.lload 4, 2) := by decide +kernel
theorem dX5_maximumHigh_5 : decode cX5_maximumHigh 5 = .ok (.invokevirtual 170, 3) := by decide +kernel
theorem dX5_maximumHigh_8 : decode cX5_maximumHigh 8 = .ok (.aload_n 0, 1) := by decide +kernel
theorem dX5_maximumHigh_9 : decode cX5_maximumHigh 9 = .ok (.getfield 18, 3) := by decide +kernel
theorem dX5_maximumHigh_12 : decode cX5_maximumHigh 12 = .ok (.getfield 141, 3) := by decide +kernel
theorem dX5_maximumHigh_15 : decode cX5_maximumHigh 15 = .ok (.ifCond .ne 13, 3) := by decide +kernel
theorem dX5_maximumHigh_18 : decode cX5_maximumHigh 18 = .ok (.new 45, 3) := by decide +kernel
theorem dX5_maximumHigh_21 : decode cX5_maximumHigh 21 = .ok (.dup, 1) := by decide +kernel
theorem dX5_maximumHigh_22 : decode cX5_maximumHigh 22 = .ok (.ldc 173, 2) := by decide +kernel
theorem dX5_maximumHigh_24 : decode cX5_maximumHigh 24 = .ok (.invokespecial 49, 3) := by decide +kernel
theorem dX5_maximumHigh_27 : decode cX5_maximumHigh 27 = .ok (.athrow, 1) := by decide +kernel
theorem dX5_maximumHigh_28 : decode cX5_maximumHigh 28 = .ok (.aload_n 0, 1) := by decide +kernel
theorem dX5_maximumHigh_29 : decode cX5_maximumHigh 29 = .ok (.getfield 18, 3) := by decide +kernel
theorem dX5_maximumHigh_32 : decode cX5_maximumHigh 32 = .ok (.getfield 157, 3) := by decide +kernel
theorem dX5_maximumHigh_35 : decode cX5_maximumHigh 35 = .ok (.ireturn, 1) := by decide +kernel
theorem dX5_quantile_0 : decode cX5_quantile 0 = .ok (.aload_n 0, 1) := by decide +kernel
theorem dX5_quantile_1 : decode cX5_quantile 1 = .ok (.iload_n 1, 1) := by decide +kernel
theorem dX5_quantile_2 : decode cX5_quantile 2 = .ok (.iload_n 2, 1) := by decide +kernel
theorem dX5_quantile_3 : decode cX5_quantile 3 = .ok (.invokevirtual 175, 3) := by decide +kernel
theorem dX5_quantile_6 : decode cX5_quantile 6 = .ok (.astore_n 3, 1) := by decide +kernel
theorem dX5_quantile_7 : decode cX5_quantile 7 = .ok (.aload_n 3, 1) := by decide +kernel
theorem dX5_quantile_8 : decode cX5_quantile 8 = .ok (.getfield 179, 3) := by decide +kernel
theorem dX5_quantile_11 : decode cX5_quantile 11 = .ok (.aload_n 3, 1) := by decide +kernel
theorem dX5_quantile_12 : decode cX5_quantile 12 = .ok (.iload_n 2, 1) := by decide +kernel
theorem dX5_quantile_13 : decode cX5_quantile 13 = .ok (.invokevirtual 183, 3) := by decide +kernel
theorem dX5_quantile_16 : decode cX5_quantile 16 = .ok (.invokevirtual 186, 3) := by decide +kernel
theorem dX5_quantile_19 : decode cX5_quantile 19 = .ok (.ireturn, 1) := by decide +kernel
theorem dX5_exactQuantile_0 : decode cX5_exactQuantile 0 = .ok (.aload_n 0, 1) := by decide +kernel
theorem dX5_exactQuantile_1 : decode cX5_exactQuantile 1 = .ok (.iload_n 1, 1) := by decide +kernel
theorem dX5_exactQuantile_2 : decode cX5_exactQuantile 2 = .ok (.iload_n 2, 1) := by decide +kernel
theorem dX5_exactQuantile_3 : decode cX5_exactQuantile 3 = .ok (.invokevirtual 175, 3) := by decide +kernel
theorem dX5_exactQuantile_6 : decode cX5_exactQuantile 6 = .ok (.astore_n 3, 1) := by decide +kernel
theorem dX5_exactQuantile_7 : decode cX5_exactQuantile 7 = .ok (.aload_n 3, 1) := by decide +kernel
theorem dX5_exactQuantile_8 : decode cX5_exactQuantile 8 = .ok (.aload_n 3, 1) := by decide +kernel
theorem dX5_exactQuantile_9 : decode cX5_exactQuantile 9 = .ok (.iload_n 2, 1) := by decide +kernel
theorem dX5_exactQuantile_10 : decode cX5_exactQuantile 10 = .ok (.invokevirtual 183, 3) := by decide +kernel
theorem dX5_exactQuantile_13 : decode cX5_exactQuantile 13 = .ok (.invokevirtual 191, 3) := by decide +kernel
theorem dX5_exactQuantile_16 : decode cX5_exactQuantile 16 = .ok (.ireturn, 1) := by decide +kernel
theorem dX5_bound_0 : decode cX5_bound 0 = .ok (.aload_n 0, 1) := by decide +kernel
theorem dX5_bound_1 : decode cX5_bound 1 = .ok (.iload_n 1, 1) := by decide +kernel
theorem dX5_bound_2 : decode cX5_bound 2 = .ok (.invokevirtual 57, 3) := by decide +kernel
theorem dX5_bound_5 : decode cX5_bound 5 = .ok (.getfield 179, 3) := by decide +kernel
theorem dX5_bound_8 : decode cX5_bound 8 = .ok (.getfield 192, 3) := by decide +kernel
theorem dX5_bound_11 : decode cX5_bound 11 = .ok (.ireturn, 1) := by decide +kernel
theorem dX5_held_0 : decode cX5_held 0 = .ok (.aload_n 0, 1) := by decide +kernel
theorem dX5_held_1 : decode cX5_held 1 = .ok (.iload_n 1, 1) := by decide +kernel
theorem dX5_held_2 : decode cX5_held 2 = .ok (.invokevirtual 57, 3) := by decide +kernel
theorem dX5_held_5 : decode cX5_held 5 = .ok (.getfield 179, 3) := by decide +kernel
theorem dX5_held_8 : decode cX5_held 8 = .ok (.invokevirtual 195, 3) := by decide +kernel
theorem dX5_held_11 : decode cX5_held 11 = .ok (.ireturn, 1) := by decide +kernel
theorem dX5_isWithin_0 : decode cX5_isWithin 0 = .ok (.aload_n 0, 1) := by decide +kernel
theorem dX5_isWithin_1 : decode cX5_isWithin 1 = .ok (.iload_n 1, 1) := by decide +kernel
theorem dX5_isWithin_2 : decode cX5_isWithin 2 = .ok (.iload_n 2, 1) := by decide +kernel
theorem dX5_isWithin_3 : decode cX5_isWithin 3 = .ok (.invokevirtual 175, 3) := by decide +kernel
theorem dX5_isWithin_6 : decode cX5_isWithin 6 = .ok (.iload_n 2, 1) := by decide +kernel
theorem dX5_isWithin_7 : decode cX5_isWithin 7 = .ok (.invokevirtual 198, 3) := by decide +kernel
theorem dX5_isWithin_10 : decode cX5_isWithin 10 = .ok (.ireturn, 1) := by decide +kernel
theorem dX5_setAlert_0 : decode cX5_setAlert 0 = .ok (.aload_n 0, 1) := by decide +kernel
theorem dX5_setAlert_1 : decode cX5_setAlert 1 = .ok (.iload_n 1, 1) := by decide +kernel
theorem dX5_setAlert_2 : decode cX5_setAlert 2 = .ok (.invokevirtual 57, 3) := by decide +kernel
theorem dX5_setAlert_5 : decode cX5_setAlert 5 = .ok (.astore 4, 2) := by decide +kernel
theorem dX5_setAlert_7 : decode cX5_setAlert 7 = .ok (.iload_n 2, 1) := by decide +kernel
theorem dX5_setAlert_8 : decode cX5_setAlert 8 = .ok (.invokestatic 61, 3) := by decide +kernel
theorem dX5_setAlert_11 : decode cX5_setAlert 11 = .ok (.ifCond .ne 13, 3) := by decide +kernel
theorem dX5_setAlert_14 : decode cX5_setAlert 14 = .ok (.new 34, 3) := by decide +kernel
theorem dX5_setAlert_17 : decode cX5_setAlert 17 = .ok (.dup, 1) := by decide +kernel
theorem dX5_setAlert_18 : decode cX5_setAlert 18 = .ok (.ldc 201, 2) := by decide +kernel
theorem dX5_setAlert_20 : decode cX5_setAlert 20 = .ok (.invokespecial 38, 3) := by decide +kernel
theorem dX5_setAlert_23 : decode cX5_setAlert 23 = .ok (.athrow, 1) := by decide +kernel
theorem dX5_setAlert_24 : decode cX5_setAlert 24 = .ok (.iload_n 3, 1) := by decide +kernel
theorem dX5_setAlert_25 : decode cX5_setAlert 25 = .ok (.ifCond .lt 10, 3) := by decide +kernel
theorem dX5_setAlert_28 : decode cX5_setAlert 28 = .ok (.iload_n 3, 1) := by decide +kernel
theorem dX5_setAlert_29 : decode cX5_setAlert 29 = .ok (.sipush 600, 3) := by decide +kernel
theorem dX5_setAlert_32 : decode cX5_setAlert 32 = .ok (.if_icmp .le 13, 3) := by decide +kernel
theorem dX5_setAlert_35 : decode cX5_setAlert 35 = .ok (.new 34, 3) := by decide +kernel
theorem dX5_setAlert_38 : decode cX5_setAlert 38 = .ok (.dup, 1) := by decide +kernel
theorem dX5_setAlert_39 : decode cX5_setAlert 39 = .ok (.ldc 203, 2) := by decide +kernel
theorem dX5_setAlert_41 : decode cX5_setAlert 41 = .ok (.invokespecial 38, 3) := by decide +kernel
theorem dX5_setAlert_44 : decode cX5_setAlert 44 = .ok (.athrow, 1) := by decide +kernel
theorem dX5_setAlert_45 : decode cX5_setAlert 45 = .ok (.new 205, 3) := by decide +kernel
theorem dX5_setAlert_48 : decode cX5_setAlert 48 = .ok (.dup, 1) := by decide +kernel
theorem dX5_setAlert_49 : decode cX5_setAlert 49 = .ok (.iload_n 2, 1) := by decide +kernel
theorem dX5_setAlert_50 : decode cX5_setAlert 50 = .ok (.iload_n 3, 1) := by decide +kernel
theorem dX5_setAlert_51 : decode cX5_setAlert 51 = .ok (.invokespecial 207, 3) := by decide +kernel
theorem dX5_setAlert_54 : decode cX5_setAlert 54 = .ok (.astore 5, 2) := by decide +kernel
theorem dX5_setAlert_56 : decode cX5_setAlert 56 = .ok (.aload 4, 2) := by decide +kernel
theorem dX5_setAlert_58 : decode cX5_setAlert 58 = .ok (.getfield 82, 3) := by decide +kernel
theorem dX5_setAlert_61 : decode cX5_setAlert 61 = .ok (.ifCond .le 17, 3) := by decide +kernel
theorem dX5_setAlert_64 : decode cX5_setAlert 64 = .ok (.aload 5, 2) := by decide +kernel
theorem dX5_setAlert_66 : decode cX5_setAlert 66 = .ok (.aload_n 0, 1) := by decide +kernel
theorem dX5_setAlert_67 : decode cX5_setAlert 67 = .ok (.getfield 26, 3) := by decide +kernel
theorem dX5_setAlert_70 : decode cX5_setAlert 70 = .ok (.aload 4, 2) := by decide +kernel
theorem dX5_setAlert_72 : decode cX5_setAlert 72 = .ok (.invokevirtual 100, 3) := by decide +kernel
theorem dX5_setAlert_75 : decode cX5_setAlert 75 = .ok (.invokevirtual 208, 3) := by decide +kernel
theorem dX5_setAlert_78 : decode cX5_setAlert 78 = .ok (.aload 4, 2) := by decide +kernel
theorem dX5_setAlert_80 : decode cX5_setAlert 80 = .ok (.aload 5, 2) := by decide +kernel
theorem dX5_setAlert_82 : decode cX5_setAlert 82 = .ok (.putfield 211, 3) := by decide +kernel
theorem dX5_setAlert_85 : decode cX5_setAlert 85 = .ok (.aload 5, 2) := by decide +kernel
theorem dX5_setAlert_87 : decode cX5_setAlert 87 = .ok (.aload_n 0, 1) := by decide +kernel
theorem dX5_setAlert_88 : decode cX5_setAlert 88 = .ok (.getfield 26, 3) := by decide +kernel
theorem dX5_setAlert_91 : decode cX5_setAlert 91 = .ok (.invokevirtual 215, 3) := by decide +kernel
theorem dX5_setAlert_94 : decode cX5_setAlert 94 = .ok (.ireturn, 1) := by decide +kernel
theorem dX5_removeAlert_0 : decode cX5_removeAlert 0 = .ok (.aload_n 0, 1) := by decide +kernel
theorem dX5_removeAlert_1 : decode cX5_removeAlert 1 = .ok (.iload_n 1, 1) := by decide +kernel
theorem dX5_removeAlert_2 : decode cX5_removeAlert 2 = .ok (.invokevirtual 57, 3) := by decide +kernel
theorem dX5_removeAlert_5 : decode cX5_removeAlert 5 = .ok (.astore_n 2, 1) := by decide +kernel
theorem dX5_removeAlert_6 : decode cX5_removeAlert 6 = .ok (.aload_n 0, 1) := by decide +kernel
theorem dX5_removeAlert_7 : decode cX5_removeAlert 7 = .ok (.aload_n 2, 1) := by decide +kernel
theorem dX5_removeAlert_8 : decode cX5_removeAlert 8 = .ok (.invokevirtual 219, 3) := by decide +kernel
theorem dX5_removeAlert_11 : decode cX5_removeAlert 11 = .ok (.istore_n 3, 1) := by decide +kernel
theorem dX5_removeAlert_12 : decode cX5_removeAlert 12 = .ok (.aload_n 2, 1) := by decide +kernel
theorem dX5_removeAlert_13 : decode cX5_removeAlert 13 = .ok (.aconst_null, 1) := by decide +kernel
theorem dX5_removeAlert_14 : decode cX5_removeAlert 14 = .ok (.putfield 211, 3) := by decide +kernel
theorem dX5_removeAlert_17 : decode cX5_removeAlert 17 = .ok (.iload_n 3, 1) := by decide +kernel
theorem dX5_removeAlert_18 : decode cX5_removeAlert 18 = .ok (.ireturn, 1) := by decide +kernel
theorem dX5_alertOf_0 : decode cX5_alertOf 0 = .ok (.aload_n 0, 1) := by decide +kernel
theorem dX5_alertOf_1 : decode cX5_alertOf 1 = .ok (.aload_n 0, 1) := by decide +kernel
theorem dX5_alertOf_2 : decode cX5_alertOf 2 = .ok (.iload_n 1, 1) := by decide +kernel
theorem dX5_alertOf_3 : decode cX5_alertOf 3 = .ok (.invokevirtual 57, 3) := by decide +kernel
theorem dX5_alertOf_6 : decode cX5_alertOf 6 = .ok (.invokevirtual 219, 3) := by decide +kernel
theorem dX5_alertOf_9 : decode cX5_alertOf 9 = .ok (.ireturn, 1) := by decide +kernel
theorem dX5_firing_0 : decode cX5_firing 0 = .ok (.aload_n 0, 1) := by decide +kernel
theorem dX5_firing_1 : decode cX5_firing 1 = .ok (.invokevirtual 223, 3) := by decide +kernel
theorem dX5_firing_4 : decode cX5_firing 4 = .ok (.ireturn, 1) := by decide +kernel
theorem dX5_joinCount_0 : decode cX5_joinCount 0 = .ok (.iload_n 1, 1) := by decide +kernel
theorem dX5_joinCount_1 : decode cX5_joinCount 1 = .ok (.iload_n 2, 1) := by decide +kernel
theorem dX5_joinCount_2 : decode cX5_joinCount 2 = .ok (.invokestatic 226, 3) := by decide +kernel
theorem dX5_joinCount_5 : decode cX5_joinCount 5 = .ok (.iconst 0, 1) := by decide +kernel
theorem dX5_joinCount_6 : decode cX5_joinCount 6 = .ok (.istore_n 3, 1) := by decide +kernel
theorem dX5_joinCount_7 : decode cX5_joinCount 7 = .ok (.iconst 0, 1) := by decide +kernel
theorem dX5_joinCount_8 : decode cX5_joinCount 8 = .ok (.istore 4, 2) := by decide +kernel
theorem dX5_joinCount_10 : decode cX5_joinCount 10 = .ok (.iload 4, 2) := by decide +kernel
theorem dX5_joinCount_12 : decode cX5_joinCount 12 = .ok (.bipush 10, 2) := by decide +kernel
theorem dX5_joinCount_14 : decode cX5_joinCount 14 = .ok (.if_icmp .ge 32, 3) := by decide +kernel
theorem dX5_joinCount_17 : decode cX5_joinCount 17 = .ok (.aload_n 0, 1) := by decide +kernel
theorem dX5_joinCount_18 : decode cX5_joinCount 18 = .ok (.iload_n 1, 1) := by decide +kernel
theorem dX5_joinCount_19 : decode cX5_joinCount 19 = .ok (.iload 4, 2) := by decide +kernel
theorem dX5_joinCount_21 : decode cX5_joinCount 21 = .ok (.invokevirtual 229, 3) := by decide +kernel
theorem dX5_joinCount_24 : decode cX5_joinCount 24 = .ok (.ifnull 16, 3) := by decide +kernel
theorem dX5_joinCount_27 : decode cX5_joinCount 27 = .ok (.aload_n 0, 1) := by decide +kernel
theorem dX5_joinCount_28 : decode cX5_joinCount 28 = .ok (.iload_n 2, 1) := by decide +kernel
theorem dX5_joinCount_29 : decode cX5_joinCount 29 = .ok (.iload 4, 2) := by decide +kernel
theorem dX5_joinCount_31 : decode cX5_joinCount 31 = .ok (.invokevirtual 229, 3) := by decide +kernel
theorem dX5_joinCount_34 : decode cX5_joinCount 34 = .ok (.ifnull 6, 3) := by decide +kernel
theorem dX5_joinCount_37 : decode cX5_joinCount 37 = .ok (.iinc 3 1, 3) := by decide +kernel
theorem dX5_joinCount_40 : decode cX5_joinCount 40 = .ok (.iinc 4 1, 3) := by decide +kernel
theorem dX5_joinCount_43 : decode cX5_joinCount 43 = .ok (.goto (-33), 3) := by decide +kernel
theorem dX5_joinCount_46 : decode cX5_joinCount 46 = .ok (.iload_n 3, 1) := by decide +kernel
theorem dX5_joinCount_47 : decode cX5_joinCount 47 = .ok (.ireturn, 1) := by decide +kernel
theorem dX5_joinSum_0 : decode cX5_joinSum 0 = .ok (.iload_n 1, 1) := by decide +kernel
theorem dX5_joinSum_1 : decode cX5_joinSum 1 = .ok (.iload_n 2, 1) := by decide +kernel
theorem dX5_joinSum_2 : decode cX5_joinSum 2 = .ok (.invokestatic 226, 3) := by decide +kernel
theorem dX5_joinSum_5 : decode cX5_joinSum 5 = .ok (.lconst 0, 1) := by decide +kernel
theorem dX5_joinSum_6 : decode cX5_joinSum 6 = .ok (.lstore_n 3, 1) := by decide +kernel
theorem dX5_joinSum_7 : decode cX5_joinSum 7 = .ok (.iconst 0, 1) := by decide +kernel
theorem dX5_joinSum_8 : decode cX5_joinSum 8 = .ok (.istore 5, 2) := by decide +kernel
theorem dX5_joinSum_10 : decode cX5_joinSum 10 = .ok (.iload 5, 2) := by decide +kernel
theorem dX5_joinSum_12 : decode cX5_joinSum 12 = .ok (.bipush 10, 2) := by decide +kernel
theorem dX5_joinSum_14 : decode cX5_joinSum 14 = .ok (.if_icmp .ge 53, 3) := by decide +kernel
theorem dX5_joinSum_17 : decode cX5_joinSum 17 = .ok (.aload_n 0, 1) := by decide +kernel
theorem dX5_joinSum_18 : decode cX5_joinSum 18 = .ok (.iload_n 1, 1) := by decide +kernel
theorem dX5_joinSum_19 : decode cX5_joinSum 19 = .ok (.iload 5, 2) := by decide +kernel
theorem dX5_joinSum_21 : decode cX5_joinSum 21 = .ok (.invokevirtual 229, 3) := by decide +kernel
theorem dX5_joinSum_24 : decode cX5_joinSum 24 = .ok (.astore 6, 2) := by decide +kernel
theorem dX5_joinSum_26 : decode cX5_joinSum 26 = .ok (.aload_n 0, 1) := by decide +kernel
theorem dX5_joinSum_27 : decode cX5_joinSum 27 = .ok (.iload_n 2, 1) := by decide +kernel
theorem dX5_joinSum_28 : decode cX5_joinSum 28 = .ok (.iload 5, 2) := by decide +kernel
theorem dX5_joinSum_30 : decode cX5_joinSum 30 = .ok (.invokevirtual 229, 3) := by decide +kernel
theorem dX5_joinSum_33 : decode cX5_joinSum 33 = .ok (.astore 7, 2) := by decide +kernel
theorem dX5_joinSum_35 : decode cX5_joinSum 35 = .ok (.aload 6, 2) := by decide +kernel
theorem dX5_joinSum_37 : decode cX5_joinSum 37 = .ok (.ifnull 24, 3) := by decide +kernel
theorem dX5_joinSum_40 : decode cX5_joinSum 40 = .ok (.aload 7, 2) := by decide +kernel
theorem dX5_joinSum_42 : decode cX5_joinSum 42 = .ok (.ifnull 19, 3) := by decide +kernel
theorem dX5_joinSum_45 : decode cX5_joinSum 45 = .ok (.lload_n 3, 1) := by decide +kernel
theorem dX5_joinSum_46 : decode cX5_joinSum 46 = .ok (.aload 6, 2) := by decide +kernel
theorem dX5_joinSum_48 : decode cX5_joinSum 48 = .ok (.invokevirtual 100, 3) := by decide +kernel
theorem dX5_joinSum_51 : decode cX5_joinSum 51 = .ok (.i2l, 1) := by decide +kernel
theorem dX5_joinSum_52 : decode cX5_joinSum 52 = .ok (.aload 7, 2) := by decide +kernel
theorem dX5_joinSum_54 : decode cX5_joinSum 54 = .ok (.invokevirtual 100, 3) := by decide +kernel
theorem dX5_joinSum_57 : decode cX5_joinSum 57 = .ok (.i2l, 1) := by decide +kernel
theorem dX5_joinSum_58 : decode cX5_joinSum 58 = .ok (.lmul, 1) := by decide +kernel
theorem dX5_joinSum_59 : decode cX5_joinSum 59 = .ok (.ladd, 1) := by decide +kernel
theorem dX5_joinSum_60 : decode cX5_joinSum 60 = .ok (.lstore_n 3, 1) := by decide +kernel
theorem dX5_joinSum_61 : decode cX5_joinSum 61 = .ok (.iinc 5 1, 3) := by decide +kernel
theorem dX5_joinSum_64 : decode cX5_joinSum 64 = .ok (.goto (-54), 3) := by decide +kernel
theorem dX5_joinSum_67 : decode cX5_joinSum 67 = .ok (.lload_n 3, 1) := by decide +kernel
theorem dX5_joinSum_68 : decode cX5_joinSum 68 = .ok (.lreturn, 1) := by decide +kernel
theorem dX5_firingShare_0 : decode cX5_firingShare 0 = .ok (.aload_n 0, 1) := by decide +kernel
theorem dX5_firingShare_1 : decode cX5_firingShare 1 = .ok (.getfield 22, 3) := by decide +kernel
theorem dX5_firingShare_4 : decode cX5_firingShare 4 = .ok (.ifCond .ne 13, 3) := by decide +kernel
theorem dX5_firingShare_7 : decode cX5_firingShare 7 = .ok (.new 160, 3) := by decide +kernel
theorem dX5_firingShare_10 : decode cX5_firingShare 10 = .ok (.dup, 1) := by decide +kernel
theorem dX5_firingShare_11 : decode cX5_firingShare 11 = .ok (.ldc 232, 2) := by decide +kernel
theorem dX5_firingShare_13 : decode cX5_firingShare 13 = .ok (.invokespecial 162, 3) := by decide +kernel
theorem dX5_firingShare_16 : decode cX5_firingShare 16 = .ok (.athrow, 1) := by decide +kernel
theorem dX5_firingShare_17 : decode cX5_firingShare 17 = .ok (.aload_n 0, 1) := by decide +kernel
theorem dX5_firingShare_18 : decode cX5_firingShare 18 = .ok (.invokevirtual 223, 3) := by decide +kernel
theorem dX5_firingShare_21 : decode cX5_firingShare 21 = .ok (.i2f, 1) := by decide +kernel
theorem dX5_firingShare_22 : decode cX5_firingShare 22 = .ok (.aload_n 0, 1) := by decide +kernel
theorem dX5_firingShare_23 : decode cX5_firingShare 23 = .ok (.getfield 22, 3) := by decide +kernel
theorem dX5_firingShare_26 : decode cX5_firingShare 26 = .ok (.i2f, 1) := by decide +kernel
theorem dX5_firingShare_27 : decode cX5_firingShare 27 = .ok (.fdiv, 1) := by decide +kernel
theorem dX5_firingShare_28 : decode cX5_firingShare 28 = .ok (.freturn, 1) := by decide +kernel
theorem dX5_isConsistent_0 : decode cX5_isConsistent 0 = .ok (.aload_n 0, 1) := by decide +kernel
theorem dX5_isConsistent_1 : decode cX5_isConsistent 1 = .ok (.getfield 11, 3) := by decide +kernel
theorem dX5_isConsistent_4 : decode cX5_isConsistent 4 = .ok (.astore_n 1, 1) := by decide +kernel
theorem dX5_isConsistent_5 : decode cX5_isConsistent 5 = .ok (.aload_n 1, 1) := by decide +kernel
theorem dX5_isConsistent_6 : decode cX5_isConsistent 6 = .ok (.arraylength, 1) := by decide +kernel
theorem dX5_isConsistent_7 : decode cX5_isConsistent 7 = .ok (.istore_n 2, 1) := by decide +kernel
theorem dX5_isConsistent_8 : decode cX5_isConsistent 8 = .ok (.iconst 0, 1) := by decide +kernel
theorem dX5_isConsistent_9 : decode cX5_isConsistent 9 = .ok (.istore_n 3, 1) := by decide +kernel
theorem dX5_isConsistent_10 : decode cX5_isConsistent 10 = .ok (.iload_n 3, 1) := by decide +kernel
theorem dX5_isConsistent_11 : decode cX5_isConsistent 11 = .ok (.iload_n 2, 1) := by decide +kernel
theorem dX5_isConsistent_12 : decode cX5_isConsistent 12 = .ok (.if_icmp .ge 29, 3) := by decide +kernel
theorem dX5_isConsistent_15 : decode cX5_isConsistent 15 = .ok (.aload_n 1, 1) := by decide +kernel
theorem dX5_isConsistent_16 : decode cX5_isConsistent 16 = .ok (.iload_n 3, 1) := by decide +kernel
theorem dX5_isConsistent_17 : decode cX5_isConsistent 17 = .ok (.aaload, 1) := by decide +kernel
theorem dX5_isConsistent_18 : decode cX5_isConsistent 18 = .ok (.astore 4, 2) := by decide +kernel
theorem dX5_isConsistent_20 : decode cX5_isConsistent 20 = .ok (.aload 4, 2) := by decide +kernel
theorem dX5_isConsistent_22 : decode cX5_isConsistent 22 = .ok (.ifnull 13, 3) := by decide +kernel
theorem dX5_isConsistent_25 : decode cX5_isConsistent 25 = .ok (.aload 4, 2) := by decide +kernel
theorem dX5_isConsistent_27 : decode cX5_isConsistent 27 = .ok (.invokevirtual 234, 3) := by decide +kernel
theorem dX5_isConsistent_30 : decode cX5_isConsistent 30 = .ok (.ifCond .ne 5, 3) := by decide +kernel
theorem dX5_isConsistent_33 : decode cX5_isConsistent 33 = .ok (.iconst 0, 1) := by decide +kernel
theorem dX5_isConsistent_34 : decode cX5_isConsistent 34 = .ok (.ireturn, 1) := by decide +kernel
theorem dX5_isConsistent_35 : decode cX5_isConsistent 35 = .ok (.iinc 3 1, 3) := by decide +kernel
theorem dX5_isConsistent_38 : decode cX5_isConsistent 38 = .ok (.goto (-28), 3) := by decide +kernel
theorem dX5_isConsistent_41 : decode cX5_isConsistent 41 = .ok (.iconst 1, 1) := by decide +kernel
theorem dX5_isConsistent_42 : decode cX5_isConsistent 42 = .ok (.ireturn, 1) := by decide +kernel
theorem dX5_isLabel_0 : decode cX5_isLabel 0 = .ok (.iload_n 0, 1) := by decide +kernel
theorem dX5_isLabel_1 : decode cX5_isLabel 1 = .ok (.ifCond .lt 13, 3) := by decide +kernel
theorem dX5_isLabel_4 : decode cX5_isLabel 4 = .ok (.iload_n 0, 1) := by decide +kernel
theorem dX5_isLabel_5 : decode cX5_isLabel 5 = .ok (.bipush 10, 2) := by decide +kernel
theorem dX5_isLabel_7 : decode cX5_isLabel 7 = .ok (.if_icmp .ge 7, 3) := by decide +kernel
theorem dX5_isLabel_10 : decode cX5_isLabel 10 = .ok (.iconst 1, 1) := by decide +kernel
theorem dX5_isLabel_11 : decode cX5_isLabel 11 = .ok (.goto 4, 3) := by decide +kernel
theorem dX5_isLabel_14 : decode cX5_isLabel 14 = .ok (.iconst 0, 1) := by decide +kernel
theorem dX5_isLabel_15 : decode cX5_isLabel 15 = .ok (.ireturn, 1) := by decide +kernel
theorem dX5_isValue_0 : decode cX5_isValue 0 = .ok (.iload_n 0, 1) := by decide +kernel
theorem dX5_isValue_1 : decode cX5_isValue 1 = .ok (.sipush (-10000), 3) := by decide +kernel
theorem dX5_isValue_4 : decode cX5_isValue 4 = .ok (.if_icmp .lt 14, 3) := by decide +kernel
theorem dX5_isValue_7 : decode cX5_isValue 7 = .ok (.iload_n 0, 1) := by decide +kernel
theorem dX5_isValue_8 : decode cX5_isValue 8 = .ok (.sipush 10000, 3) := by decide +kernel
theorem dX5_isValue_11 : decode cX5_isValue 11 = .ok (.if_icmp .gt 7, 3) := by decide +kernel
theorem dX5_isValue_14 : decode cX5_isValue 14 = .ok (.iconst 1, 1) := by decide +kernel
theorem dX5_isValue_15 : decode cX5_isValue 15 = .ok (.goto 4, 3) := by decide +kernel
theorem dX5_isValue_18 : decode cX5_isValue 18 = .ok (.iconst 0, 1) := by decide +kernel
theorem dX5_isValue_19 : decode cX5_isValue 19 = .ok (.ireturn, 1) := by decide +kernel
theorem dX5_refuseBadNames_0 : decode cX5_refuseBadNames 0 = .ok (.iload_n 0, 1) := by decide +kernel
theorem dX5_refuseBadNames_1 : decode cX5_refuseBadNames 1 = .ok (.invokestatic 30, 3) := by decide +kernel
theorem dX5_refuseBadNames_4 : decode cX5_refuseBadNames 4 = .ok (.ifCond .eq 10, 3) := by decide +kernel
theorem dX5_refuseBadNames_7 : decode cX5_refuseBadNames 7 = .ok (.iload_n 1, 1) := by decide +kernel
theorem dX5_refuseBadNames_8 : decode cX5_refuseBadNames 8 = .ok (.invokestatic 30, 3) := by decide +kernel
theorem dX5_refuseBadNames_11 : decode cX5_refuseBadNames 11 = .ok (.ifCond .ne 13, 3) := by decide +kernel
theorem dX5_refuseBadNames_14 : decode cX5_refuseBadNames 14 = .ok (.new 34, 3) := by decide +kernel
theorem dX5_refuseBadNames_17 : decode cX5_refuseBadNames 17 = .ok (.dup, 1) := by decide +kernel
theorem dX5_refuseBadNames_18 : decode cX5_refuseBadNames 18 = .ok (.ldc 237, 2) := by decide +kernel
theorem dX5_refuseBadNames_20 : decode cX5_refuseBadNames 20 = .ok (.invokespecial 38, 3) := by decide +kernel
theorem dX5_refuseBadNames_23 : decode cX5_refuseBadNames 23 = .ok (.athrow, 1) := by decide +kernel
theorem dX5_refuseBadNames_24 : decode cX5_refuseBadNames 24 = .ok (.return_, 1) := by decide +kernel
theorem dX5_refuseBadRange_0 : decode cX5_refuseBadRange 0 = .ok (.lload_n 0, 1) := by decide +kernel
theorem dX5_refuseBadRange_1 : decode cX5_refuseBadRange 1 = .ok (.lconst 0, 1) := by decide +kernel
theorem dX5_refuseBadRange_2 : decode cX5_refuseBadRange 2 = .ok (.lcmp, 1) := by decide +kernel
theorem dX5_refuseBadRange_3 : decode cX5_refuseBadRange 3 = .ok (.ifCond .lt 9, 3) := by decide +kernel
theorem dX5_refuseBadRange_6 : decode cX5_refuseBadRange 6 = .ok (.lload_n 0, 1) := by decide +kernel
theorem dX5_refuseBadRange_7 : decode cX5_refuseBadRange 7 = .ok (.lload_n 2, 1) := by decide +kernel
theorem dX5_refuseBadRange_8 : decode cX5_refuseBadRange 8 = .ok (.lcmp, 1) := by decide +kernel
theorem dX5_refuseBadRange_9 : decode cX5_refuseBadRange 9 = .ok (.ifCond .le 13, 3) := by decide +kernel
theorem dX5_refuseBadRange_12 : decode cX5_refuseBadRange 12 = .ok (.new 34, 3) := by decide +kernel
theorem dX5_refuseBadRange_15 : decode cX5_refuseBadRange 15 = .ok (.dup, 1) := by decide +kernel
theorem dX5_refuseBadRange_16 : decode cX5_refuseBadRange 16 = .ok (.ldc 239, 2) := by decide +kernel
theorem dX5_refuseBadRange_18 : decode cX5_refuseBadRange 18 = .ok (.invokespecial 38, 3) := by decide +kernel
theorem dX5_refuseBadRange_21 : decode cX5_refuseBadRange 21 = .ok (.athrow, 1) := by decide +kernel
theorem dX5_refuseBadRange_22 : decode cX5_refuseBadRange 22 = .ok (.return_, 1) := by decide +kernel
theorem dX5_refuseEmpty_0 : decode cX5_refuseEmpty 0 = .ok (.aload_n 0, 1) := by decide +kernel
theorem dX5_refuseEmpty_1 : decode cX5_refuseEmpty 1 = .ok (.getfield 82, 3) := by decide +kernel
theorem dX5_refuseEmpty_4 : decode cX5_refuseEmpty 4 = .ok (.ifCond .ne 13, 3) := by decide +kernel
theorem dX5_refuseEmpty_7 : decode cX5_refuseEmpty 7 = .ok (.new 45, 3) := by decide +kernel
theorem dX5_refuseEmpty_10 : decode cX5_refuseEmpty 10 = .ok (.dup, 1) := by decide +kernel
theorem dX5_refuseEmpty_11 : decode cX5_refuseEmpty 11 = .ok (.ldc 241, 2) := by decide +kernel
theorem dX5_refuseEmpty_13 : decode cX5_refuseEmpty 13 = .ok (.invokespecial 49, 3) := by decide +kernel
theorem dX5_refuseEmpty_16 : decode cX5_refuseEmpty 16 = .ok (.athrow, 1) := by decide +kernel
theorem dX5_refuseEmpty_17 : decode cX5_refuseEmpty 17 = .ok (.return_, 1) := by decide +kernel
theorem dX5_rowOf_0 : decode cX5_rowOf 0 = .ok (.iload_n 1, 1) := by decide +kernel
theorem dX5_rowOf_1 : decode cX5_rowOf 1 = .ok (.ifCond .lt 21, 3) := by decide +kernel
theorem dX5_rowOf_4 : decode cX5_rowOf 4 = .ok (.iload_n 1, 1) := by decide +kernel
theorem dX5_rowOf_5 : decode cX5_rowOf 5 = .ok (.aload_n 0, 1) := by decide +kernel
theorem dX5_rowOf_6 : decode cX5_rowOf 6 = .ok (.getfield 11, 3) := by decide +kernel
theorem dX5_rowOf_9 : decode cX5_rowOf 9 = .ok (.arraylength, 1) := by decide +kernel
theorem dX5_rowOf_10 : decode cX5_rowOf 10 = .ok (.if_icmp .ge 12, 3) := by decide +kernel
theorem dX5_rowOf_13 : decode cX5_rowOf 13 = .ok (.aload_n 0, 1) := by decide +kernel
theorem dX5_rowOf_14 : decode cX5_rowOf 14 = .ok (.getfield 11, 3) := by decide +kernel
theorem dX5_rowOf_17 : decode cX5_rowOf 17 = .ok (.iload_n 1, 1) := by decide +kernel
theorem dX5_rowOf_18 : decode cX5_rowOf 18 = .ok (.aaload, 1) := by decide +kernel
theorem dX5_rowOf_19 : decode cX5_rowOf 19 = .ok (.goto 4, 3) := by decide +kernel
theorem dX5_rowOf_22 : decode cX5_rowOf 22 = .ok (.aconst_null, 1) := by decide +kernel
theorem dX5_rowOf_23 : decode cX5_rowOf 23 = .ok (.astore_n 2, 1) := by decide +kernel
theorem dX5_rowOf_24 : decode cX5_rowOf 24 = .ok (.aload_n 2, 1) := by decide +kernel
theorem dX5_rowOf_25 : decode cX5_rowOf 25 = .ok (.ifnonnull 13, 3) := by decide +kernel
theorem dX5_rowOf_28 : decode cX5_rowOf 28 = .ok (.new 85, 3) := by decide +kernel
theorem dX5_rowOf_31 : decode cX5_rowOf 31 = .ok (.dup, 1) := by decide +kernel
theorem dX5_rowOf_32 : decode cX5_rowOf 32 = .ok (.ldc 243, 2) := by decide +kernel
theorem dX5_rowOf_34 : decode cX5_rowOf 34 = .ok (.invokespecial 89, 3) := by decide +kernel
theorem dX5_rowOf_37 : decode cX5_rowOf 37 = .ok (.athrow, 1) := by decide +kernel
theorem dX5_rowOf_38 : decode cX5_rowOf 38 = .ok (.aload_n 2, 1) := by decide +kernel
theorem dX5_rowOf_39 : decode cX5_rowOf 39 = .ok (.areturn, 1) := by decide +kernel
theorem dX5_rowForQuantile_0 : decode cX5_rowForQuantile 0 = .ok (.aload_n 0, 1) := by decide +kernel
theorem dX5_rowForQuantile_1 : decode cX5_rowForQuantile 1 = .ok (.iload_n 1, 1) := by decide +kernel
theorem dX5_rowForQuantile_2 : decode cX5_rowForQuantile 2 = .ok (.invokevirtual 57, 3) := by decide +kernel
theorem dX5_rowForQuantile_5 : decode cX5_rowForQuantile 5 = .ok (.astore_n 3, 1) := by decide +kernel
theorem dX5_rowForQuantile_6 : decode cX5_rowForQuantile 6 = .ok (.iload_n 2, 1) := by decide +kernel
theorem dX5_rowForQuantile_7 : decode cX5_rowForQuantile 7 = .ok (.iconst 1, 1) := by decide +kernel
theorem dX5_rowForQuantile_8 : decode cX5_rowForQuantile 8 = .ok (.if_icmp .lt 9, 3) := by decide +kernel
theorem dX5_rowForQuantile_11 : decode cX5_rowForQuantile 11 = .ok (.iload_n 2, 1) := by decide +kernel
theorem dX5_rowForQuantile_12 : decode cX5_rowForQuantile 12 = .ok (.bipush 100, 2) := by decide +kernel
theorem dX5_rowForQuantile_14 : decode cX5_rowForQuantile 14 = .ok (.if_icmp .le 13, 3) := by decide +kernel
theorem dX5_rowForQuantile_17 : decode cX5_rowForQuantile 17 = .ok (.new 34, 3) := by decide +kernel
theorem dX5_rowForQuantile_20 : decode cX5_rowForQuantile 20 = .ok (.dup, 1) := by decide +kernel
theorem dX5_rowForQuantile_21 : decode cX5_rowForQuantile 21 = .ok (.ldc 245, 2) := by decide +kernel
theorem dX5_rowForQuantile_23 : decode cX5_rowForQuantile 23 = .ok (.invokespecial 38, 3) := by decide +kernel
theorem dX5_rowForQuantile_26 : decode cX5_rowForQuantile 26 = .ok (.athrow, 1) := by decide +kernel
theorem dX5_rowForQuantile_27 : decode cX5_rowForQuantile 27 = .ok (.aload_n 3, 1) := by decide +kernel
theorem dX5_rowForQuantile_28 : decode cX5_rowForQuantile 28 = .ok (.invokestatic 96, 3) := by decide +kernel
theorem dX5_rowForQuantile_31 : decode cX5_rowForQuantile 31 = .ok (.aload_n 3, 1) := by decide +kernel
theorem dX5_rowForQuantile_32 : decode cX5_rowForQuantile 32 = .ok (.areturn, 1) := by decide +kernel
theorem dX5_numberWith_0 : decode cX5_numberWith 0 = .ok (.iconst 0, 1) := by decide +kernel
theorem dX5_numberWith_1 : decode cX5_numberWith 1 = .ok (.istore_n 3, 1) := by decide +kernel
theorem dX5_numberWith_2 : decode cX5_numberWith 2 = .ok (.iload_n 3, 1) := by decide +kernel
theorem dX5_numberWith_3 : decode cX5_numberWith 3 = .ok (.aload_n 0, 1) := by decide +kernel
theorem dX5_numberWith_4 : decode cX5_numberWith 4 = .ok (.getfield 11, 3) := by decide +kernel
theorem dX5_numberWith_7 : decode cX5_numberWith 7 = .ok (.arraylength, 1) := by decide +kernel
theorem dX5_numberWith_8 : decode cX5_numberWith 8 = .ok (.if_icmp .ge 42, 3) := by decide +kernel
theorem dX5_numberWith_11 : decode cX5_numberWith 11 = .ok (.aload_n 0, 1) := by decide +kernel
theorem dX5_numberWith_12 : decode cX5_numberWith 12 = .ok (.getfield 11, 3) := by decide +kernel
theorem dX5_numberWith_15 : decode cX5_numberWith 15 = .ok (.iload_n 3, 1) := by decide +kernel
theorem dX5_numberWith_16 : decode cX5_numberWith 16 = .ok (.aaload, 1) := by decide +kernel
theorem dX5_numberWith_17 : decode cX5_numberWith 17 = .ok (.astore 4, 2) := by decide +kernel
theorem dX5_numberWith_19 : decode cX5_numberWith 19 = .ok (.aload 4, 2) := by decide +kernel
theorem dX5_numberWith_21 : decode cX5_numberWith 21 = .ok (.ifnull 23, 3) := by decide +kernel
theorem dX5_numberWith_24 : decode cX5_numberWith 24 = .ok (.aload 4, 2) := by decide +kernel
theorem dX5_numberWith_26 : decode cX5_numberWith 26 = .ok (.getfield 90, 3) := by decide +kernel
theorem dX5_numberWith_29 : decode cX5_numberWith 29 = .ok (.iload_n 1, 1) := by decide +kernel
theorem dX5_numberWith_30 : decode cX5_numberWith 30 = .ok (.if_icmp .ne 14, 3) := by decide +kernel
theorem dX5_numberWith_33 : decode cX5_numberWith 33 = .ok (.aload 4, 2) := by decide +kernel
theorem dX5_numberWith_35 : decode cX5_numberWith 35 = .ok (.getfield 93, 3) := by decide +kernel
theorem dX5_numberWith_38 : decode cX5_numberWith 38 = .ok (.iload_n 2, 1) := by decide +kernel
theorem dX5_numberWith_39 : decode cX5_numberWith 39 = .ok (.if_icmp .ne 5, 3) := by decide +kernel
theorem dX5_numberWith_42 : decode cX5_numberWith 42 = .ok (.iload_n 3, 1) := by decide +kernel
theorem dX5_numberWith_43 : decode cX5_numberWith 43 = .ok (.ireturn, 1) := by decide +kernel
theorem dX5_numberWith_44 : decode cX5_numberWith 44 = .ok (.iinc 3 1, 3) := by decide +kernel
theorem dX5_numberWith_47 : decode cX5_numberWith 47 = .ok (.goto (-45), 3) := by decide +kernel
theorem dX5_numberWith_50 : decode cX5_numberWith 50 = .ok (.iconst (-1), 1) := by decide +kernel
theorem dX5_numberWith_51 : decode cX5_numberWith 51 = .ok (.ireturn, 1) := by decide +kernel
theorem dX5_rowWithSamples_0 : decode cX5_rowWithSamples 0 = .ok (.aload_n 0, 1) := by decide +kernel
theorem dX5_rowWithSamples_1 : decode cX5_rowWithSamples 1 = .ok (.iload_n 1, 1) := by decide +kernel
theorem dX5_rowWithSamples_2 : decode cX5_rowWithSamples 2 = .ok (.iload_n 2, 1) := by decide +kernel
theorem dX5_rowWithSamples_3 : decode cX5_rowWithSamples 3 = .ok (.invokevirtual 41, 3) := by decide +kernel
theorem dX5_rowWithSamples_6 : decode cX5_rowWithSamples 6 = .ok (.istore_n 3, 1) := by decide +kernel
theorem dX5_rowWithSamples_7 : decode cX5_rowWithSamples 7 = .ok (.iload_n 3, 1) := by decide +kernel
theorem dX5_rowWithSamples_8 : decode cX5_rowWithSamples 8 = .ok (.ifCond .lt 21, 3) := by decide +kernel
theorem dX5_rowWithSamples_11 : decode cX5_rowWithSamples 11 = .ok (.iload_n 3, 1) := by decide +kernel
theorem dX5_rowWithSamples_12 : decode cX5_rowWithSamples 12 = .ok (.aload_n 0, 1) := by decide +kernel
theorem dX5_rowWithSamples_13 : decode cX5_rowWithSamples 13 = .ok (.getfield 11, 3) := by decide +kernel
theorem dX5_rowWithSamples_16 : decode cX5_rowWithSamples 16 = .ok (.arraylength, 1) := by decide +kernel
theorem dX5_rowWithSamples_17 : decode cX5_rowWithSamples 17 = .ok (.if_icmp .ge 12, 3) := by decide +kernel
theorem dX5_rowWithSamples_20 : decode cX5_rowWithSamples 20 = .ok (.aload_n 0, 1) := by decide +kernel
theorem dX5_rowWithSamples_21 : decode cX5_rowWithSamples 21 = .ok (.getfield 11, 3) := by decide +kernel
theorem dX5_rowWithSamples_24 : decode cX5_rowWithSamples 24 = .ok (.iload_n 3, 1) := by decide +kernel
theorem dX5_rowWithSamples_25 : decode cX5_rowWithSamples 25 = .ok (.aaload, 1) := by decide +kernel
theorem dX5_rowWithSamples_26 : decode cX5_rowWithSamples 26 = .ok (.goto 4, 3) := by decide +kernel
theorem dX5_rowWithSamples_29 : decode cX5_rowWithSamples 29 = .ok (.aconst_null, 1) := by decide +kernel
theorem dX5_rowWithSamples_30 : decode cX5_rowWithSamples 30 = .ok (.astore 4, 2) := by decide +kernel
theorem dX5_rowWithSamples_32 : decode cX5_rowWithSamples 32 = .ok (.aload 4, 2) := by decide +kernel
theorem dX5_rowWithSamples_34 : decode cX5_rowWithSamples 34 = .ok (.ifnull 16, 3) := by decide +kernel
theorem dX5_rowWithSamples_37 : decode cX5_rowWithSamples 37 = .ok (.aload 4, 2) := by decide +kernel
theorem dX5_rowWithSamples_39 : decode cX5_rowWithSamples 39 = .ok (.getfield 82, 3) := by decide +kernel
theorem dX5_rowWithSamples_42 : decode cX5_rowWithSamples 42 = .ok (.ifCond .le 8, 3) := by decide +kernel
theorem dX5_rowWithSamples_45 : decode cX5_rowWithSamples 45 = .ok (.aload 4, 2) := by decide +kernel
theorem dX5_rowWithSamples_47 : decode cX5_rowWithSamples 47 = .ok (.goto 4, 3) := by decide +kernel
theorem dX5_rowWithSamples_50 : decode cX5_rowWithSamples 50 = .ok (.aconst_null, 1) := by decide +kernel
theorem dX5_rowWithSamples_51 : decode cX5_rowWithSamples 51 = .ok (.areturn, 1) := by decide +kernel
theorem dX5_blockOfSample_0 : decode cX5_blockOfSample 0 = .ok (.iload_n 1, 1) := by decide +kernel
theorem dX5_blockOfSample_1 : decode cX5_blockOfSample 1 = .ok (.ifCond .lt 22, 3) := by decide +kernel
theorem dX5_blockOfSample_4 : decode cX5_blockOfSample 4 = .ok (.iload_n 1, 1) := by decide +kernel
theorem dX5_blockOfSample_5 : decode cX5_blockOfSample 5 = .ok (.aload_n 0, 1) := by decide +kernel
theorem dX5_blockOfSample_6 : decode cX5_blockOfSample 6 = .ok (.getfield 82, 3) := by decide +kernel
theorem dX5_blockOfSample_9 : decode cX5_blockOfSample 9 = .ok (.if_icmp .ge 14, 3) := by decide +kernel
theorem dX5_blockOfSample_12 : decode cX5_blockOfSample 12 = .ok (.aload_n 0, 1) := by decide +kernel
theorem dX5_blockOfSample_13 : decode cX5_blockOfSample 13 = .ok (.iload_n 1, 1) := by decide +kernel
theorem dX5_blockOfSample_14 : decode cX5_blockOfSample 14 = .ok (.bipush 8, 2) := by decide +kernel
theorem dX5_blockOfSample_16 : decode cX5_blockOfSample 16 = .ok (.idiv, 1) := by decide +kernel
theorem dX5_blockOfSample_17 : decode cX5_blockOfSample 17 = .ok (.invokevirtual 107, 3) := by decide +kernel
theorem dX5_blockOfSample_20 : decode cX5_blockOfSample 20 = .ok (.goto 4, 3) := by decide +kernel
theorem dX5_blockOfSample_23 : decode cX5_blockOfSample 23 = .ok (.aconst_null, 1) := by decide +kernel
theorem dX5_blockOfSample_24 : decode cX5_blockOfSample 24 = .ok (.astore_n 2, 1) := by decide +kernel
theorem dX5_blockOfSample_25 : decode cX5_blockOfSample 25 = .ok (.aload_n 2, 1) := by decide +kernel
theorem dX5_blockOfSample_26 : decode cX5_blockOfSample 26 = .ok (.ifnonnull 13, 3) := by decide +kernel
theorem dX5_blockOfSample_29 : decode cX5_blockOfSample 29 = .ok (.new 111, 3) := by decide +kernel
theorem dX5_blockOfSample_32 : decode cX5_blockOfSample 32 = .ok (.dup, 1) := by decide +kernel
theorem dX5_blockOfSample_33 : decode cX5_blockOfSample 33 = .ok (.ldc 247, 2) := by decide +kernel
theorem dX5_blockOfSample_35 : decode cX5_blockOfSample 35 = .ok (.invokespecial 115, 3) := by decide +kernel
theorem dX5_blockOfSample_38 : decode cX5_blockOfSample 38 = .ok (.athrow, 1) := by decide +kernel
theorem dX5_blockOfSample_39 : decode cX5_blockOfSample 39 = .ok (.aload_n 2, 1) := by decide +kernel
theorem dX5_blockOfSample_40 : decode cX5_blockOfSample 40 = .ok (.areturn, 1) := by decide +kernel
theorem dX5_readBlocks_0 : decode cX5_readBlocks 0 = .ok (.aload_n 0, 1) := by decide +kernel
theorem dX5_readBlocks_1 : decode cX5_readBlocks 1 = .ok (.iload_n 1, 1) := by decide +kernel
theorem dX5_readBlocks_2 : decode cX5_readBlocks 2 = .ok (.invokevirtual 57, 3) := by decide +kernel
