theorem dX5_readBlocks_5 : decode cX5_readBlocks 5 = .ok (.astore 6, 2) := by decide +kernel
theorem dX5_readBlocks_7 : decode cX5_readBlocks 7 = .ok (.lload_n 2, 1) := by decide +kernel
theorem dX5_readBlocks_8 : decode cX5_readBlocks 8 = .ok (.lload 4, 2) := by decide +kernel
theorem dX5_readBlocks_10 : decode cX5_readBlocks 10 = .ok (.invokestatic 147, 3) := by decide +kernel
theorem dX5_readBlocks_13 : decode cX5_readBlocks 13 = .ok (.aload 6, 2) := by decide +kernel
theorem dX5_readBlocks_15 : decode cX5_readBlocks 15 = .ok (.aload_n 0, 1) := by decide +kernel
theorem dX5_readBlocks_16 : decode cX5_readBlocks 16 = .ok (.getfield 18, 3) := by decide +kernel
theorem dX5_readBlocks_19 : decode cX5_readBlocks 19 = .ok (.lload_n 2, 1) := by decide +kernel
theorem dX5_readBlocks_20 : decode cX5_readBlocks 20 = .ok (.lload 4, 2) := by decide +kernel
theorem dX5_readBlocks_22 : decode cX5_readBlocks 22 = .ok (.invokevirtual 249, 3) := by decide +kernel
theorem dX5_readBlocks_25 : decode cX5_readBlocks 25 = .ok (.return_, 1) := by decide +kernel
theorem dX5_readTouchingRollups_0 : decode cX5_readTouchingRollups 0 = .ok (.aload_n 0, 1) := by decide +kernel
theorem dX5_readTouchingRollups_1 : decode cX5_readTouchingRollups 1 = .ok (.iload_n 1, 1) := by decide +kernel
theorem dX5_readTouchingRollups_2 : decode cX5_readTouchingRollups 2 = .ok (.invokevirtual 57, 3) := by decide +kernel
theorem dX5_readTouchingRollups_5 : decode cX5_readTouchingRollups 5 = .ok (.astore 6, 2) := by decide +kernel
theorem dX5_readTouchingRollups_7 : decode cX5_readTouchingRollups 7 = .ok (.lload_n 2, 1) := by decide +kernel
theorem dX5_readTouchingRollups_8 : decode cX5_readTouchingRollups 8 = .ok (.lload 4, 2) := by decide +kernel
theorem dX5_readTouchingRollups_10 : decode cX5_readTouchingRollups 10 = .ok (.invokestatic 147, 3) := by decide +kernel
theorem dX5_readTouchingRollups_13 : decode cX5_readTouchingRollups 13 = .ok (.aload 6, 2) := by decide +kernel
theorem dX5_readTouchingRollups_15 : decode cX5_readTouchingRollups 15 = .ok (.aload_n 0, 1) := by decide +kernel
theorem dX5_readTouchingRollups_16 : decode cX5_readTouchingRollups 16 = .ok (.getfield 18, 3) := by decide +kernel
theorem dX5_readTouchingRollups_19 : decode cX5_readTouchingRollups 19 = .ok (.lload_n 2, 1) := by decide +kernel
theorem dX5_readTouchingRollups_20 : decode cX5_readTouchingRollups 20 = .ok (.lload 4, 2) := by decide +kernel
theorem dX5_readTouchingRollups_22 : decode cX5_readTouchingRollups 22 = .ok (.invokevirtual 251, 3) := by decide +kernel
theorem dX5_readTouchingRollups_25 : decode cX5_readTouchingRollups 25 = .ok (.return_, 1) := by decide +kernel
theorem dX5_stateOfAlert_0 : decode cX5_stateOfAlert 0 = .ok (.aload_n 1, 1) := by decide +kernel
theorem dX5_stateOfAlert_1 : decode cX5_stateOfAlert 1 = .ok (.getfield 211, 3) := by decide +kernel
theorem dX5_stateOfAlert_4 : decode cX5_stateOfAlert 4 = .ok (.astore_n 2, 1) := by decide +kernel
theorem dX5_stateOfAlert_5 : decode cX5_stateOfAlert 5 = .ok (.aload_n 2, 1) := by decide +kernel
theorem dX5_stateOfAlert_6 : decode cX5_stateOfAlert 6 = .ok (.ifnonnull 13, 3) := by decide +kernel
theorem dX5_stateOfAlert_9 : decode cX5_stateOfAlert 9 = .ok (.new 45, 3) := by decide +kernel
theorem dX5_stateOfAlert_12 : decode cX5_stateOfAlert 12 = .ok (.dup, 1) := by decide +kernel
theorem dX5_stateOfAlert_13 : decode cX5_stateOfAlert 13 = .ok (.ldc 254, 2) := by decide +kernel
theorem dX5_stateOfAlert_15 : decode cX5_stateOfAlert 15 = .ok (.invokespecial 49, 3) := by decide +kernel
theorem dX5_stateOfAlert_18 : decode cX5_stateOfAlert 18 = .ok (.athrow, 1) := by decide +kernel
theorem dX5_stateOfAlert_19 : decode cX5_stateOfAlert 19 = .ok (.aload_n 2, 1) := by decide +kernel
theorem dX5_stateOfAlert_20 : decode cX5_stateOfAlert 20 = .ok (.aload_n 0, 1) := by decide +kernel
theorem dX5_stateOfAlert_21 : decode cX5_stateOfAlert 21 = .ok (.getfield 26, 3) := by decide +kernel
theorem dX5_stateOfAlert_24 : decode cX5_stateOfAlert 24 = .ok (.invokevirtual 215, 3) := by decide +kernel
theorem dX5_stateOfAlert_27 : decode cX5_stateOfAlert 27 = .ok (.ireturn, 1) := by decide +kernel
theorem dX5_firingAlerts_0 : decode cX5_firingAlerts 0 = .ok (.iconst 0, 1) := by decide +kernel
theorem dX5_firingAlerts_1 : decode cX5_firingAlerts 1 = .ok (.istore_n 1, 1) := by decide +kernel
theorem dX5_firingAlerts_2 : decode cX5_firingAlerts 2 = .ok (.aload_n 0, 1) := by decide +kernel
theorem dX5_firingAlerts_3 : decode cX5_firingAlerts 3 = .ok (.getfield 11, 3) := by decide +kernel
theorem dX5_firingAlerts_6 : decode cX5_firingAlerts 6 = .ok (.astore_n 2, 1) := by decide +kernel
theorem dX5_firingAlerts_7 : decode cX5_firingAlerts 7 = .ok (.aload_n 2, 1) := by decide +kernel
theorem dX5_firingAlerts_8 : decode cX5_firingAlerts 8 = .ok (.arraylength, 1) := by decide +kernel
theorem dX5_firingAlerts_9 : decode cX5_firingAlerts 9 = .ok (.istore_n 3, 1) := by decide +kernel
theorem dX5_firingAlerts_10 : decode cX5_firingAlerts 10 = .ok (.iconst 0, 1) := by decide +kernel
theorem dX5_firingAlerts_11 : decode cX5_firingAlerts 11 = .ok (.istore 4, 2) := by decide +kernel
theorem dX5_firingAlerts_13 : decode cX5_firingAlerts 13 = .ok (.iload 4, 2) := by decide +kernel
theorem dX5_firingAlerts_15 : decode cX5_firingAlerts 15 = .ok (.iload_n 3, 1) := by decide +kernel
theorem dX5_firingAlerts_16 : decode cX5_firingAlerts 16 = .ok (.if_icmp .ge 48, 3) := by decide +kernel
theorem dX5_firingAlerts_19 : decode cX5_firingAlerts 19 = .ok (.aload_n 2, 1) := by decide +kernel
theorem dX5_firingAlerts_20 : decode cX5_firingAlerts 20 = .ok (.iload 4, 2) := by decide +kernel
theorem dX5_firingAlerts_22 : decode cX5_firingAlerts 22 = .ok (.aaload, 1) := by decide +kernel
theorem dX5_firingAlerts_23 : decode cX5_firingAlerts 23 = .ok (.astore 5, 2) := by decide +kernel
theorem dX5_firingAlerts_25 : decode cX5_firingAlerts 25 = .ok (.aload 5, 2) := by decide +kernel
theorem dX5_firingAlerts_27 : decode cX5_firingAlerts 27 = .ok (.ifnull 31, 3) := by decide +kernel
theorem dX5_firingAlerts_30 : decode cX5_firingAlerts 30 = .ok (.aload 5, 2) := by decide +kernel
theorem dX5_firingAlerts_32 : decode cX5_firingAlerts 32 = .ok (.getfield 211, 3) := by decide +kernel
theorem dX5_firingAlerts_35 : decode cX5_firingAlerts 35 = .ok (.ifnull 23, 3) := by decide +kernel
theorem dX5_firingAlerts_38 : decode cX5_firingAlerts 38 = .ok (.aload 5, 2) := by decide +kernel
theorem dX5_firingAlerts_40 : decode cX5_firingAlerts 40 = .ok (.getfield 211, 3) := by decide +kernel
theorem dX5_firingAlerts_43 : decode cX5_firingAlerts 43 = .ok (.aload_n 0, 1) := by decide +kernel
theorem dX5_firingAlerts_44 : decode cX5_firingAlerts 44 = .ok (.getfield 26, 3) := by decide +kernel
theorem dX5_firingAlerts_47 : decode cX5_firingAlerts 47 = .ok (.invokevirtual 215, 3) := by decide +kernel
theorem dX5_firingAlerts_50 : decode cX5_firingAlerts 50 = .ok (.bipush 102, 2) := by decide +kernel
theorem dX5_firingAlerts_52 : decode cX5_firingAlerts 52 = .ok (.if_icmp .ne 6, 3) := by decide +kernel
theorem dX5_firingAlerts_55 : decode cX5_firingAlerts 55 = .ok (.iinc 1 1, 3) := by decide +kernel
theorem dX5_firingAlerts_58 : decode cX5_firingAlerts 58 = .ok (.iinc 4 1, 3) := by decide +kernel
theorem dX5_firingAlerts_61 : decode cX5_firingAlerts 61 = .ok (.goto (-48), 3) := by decide +kernel
theorem dX5_firingAlerts_64 : decode cX5_firingAlerts 64 = .ok (.iload_n 1, 1) := by decide +kernel
theorem dX5_firingAlerts_65 : decode cX5_firingAlerts 65 = .ok (.ireturn, 1) := by decide +kernel
theorem dX6_init_0 : decode cX6_init 0 = .ok (.aload_n 0, 1) := by decide +kernel
theorem dX6_init_1 : decode cX6_init 1 = .ok (.invokespecial 1, 3) := by decide +kernel
theorem dX6_init_4 : decode cX6_init 4 = .ok (.aload_n 0, 1) := by decide +kernel
theorem dX6_init_5 : decode cX6_init 5 = .ok (.bipush 10, 2) := by decide +kernel
theorem dX6_init_7 : decode cX6_init 7 = .ok (.newarray .int, 2) := by decide +kernel
theorem dX6_init_9 : decode cX6_init 9 = .ok (.putfield 7, 3) := by decide +kernel
theorem dX6_init_12 : decode cX6_init 12 = .ok (.aload_n 0, 1) := by decide +kernel
theorem dX6_init_13 : decode cX6_init 13 = .ok (.bipush 10, 2) := by decide +kernel
theorem dX6_init_15 : decode cX6_init 15 = .ok (.newarray .int, 2) := by decide +kernel
theorem dX6_init_17 : decode cX6_init 17 = .ok (.putfield 13, 3) := by decide +kernel
theorem dX6_init_20 : decode cX6_init 20 = .ok (.aload_n 0, 1) := by decide +kernel
theorem dX6_init_21 : decode cX6_init 21 = .ok (.bipush 10, 2) := by decide +kernel
theorem dX6_init_23 : decode cX6_init 23 = .ok (.newarray .int, 2) := by decide +kernel
theorem dX6_init_25 : decode cX6_init 25 = .ok (.putfield 16, 3) := by decide +kernel
theorem dX6_init_28 : decode cX6_init 28 = .ok (.aload_n 0, 1) := by decide +kernel
theorem dX6_init_29 : decode cX6_init 29 = .ok (.sipush 1200, 3) := by decide +kernel
theorem dX6_init_32 : decode cX6_init 32 = .ok (.newarray .int, 2) := by decide +kernel
theorem dX6_init_34 : decode cX6_init 34 = .ok (.putfield 19, 3) := by decide +kernel
theorem dX6_init_37 : decode cX6_init 37 = .ok (.aload_n 0, 1) := by decide +kernel
theorem dX6_init_38 : decode cX6_init 38 = .ok (.bipush 10, 2) := by decide +kernel
theorem dX6_init_40 : decode cX6_init 40 = .ok (.newarray .int, 2) := by decide +kernel
theorem dX6_init_42 : decode cX6_init 42 = .ok (.putfield 22, 3) := by decide +kernel
theorem dX6_init_45 : decode cX6_init 45 = .ok (.aload_n 0, 1) := by decide +kernel
theorem dX6_init_46 : decode cX6_init 46 = .ok (.sipush 1200, 3) := by decide +kernel
theorem dX6_init_49 : decode cX6_init 49 = .ok (.newarray .long, 2) := by decide +kernel
theorem dX6_init_51 : decode cX6_init 51 = .ok (.putfield 25, 3) := by decide +kernel
theorem dX6_init_54 : decode cX6_init 54 = .ok (.aload_n 0, 1) := by decide +kernel
theorem dX6_init_55 : decode cX6_init 55 = .ok (.sipush 480, 3) := by decide +kernel
theorem dX6_init_58 : decode cX6_init 58 = .ok (.newarray .int, 2) := by decide +kernel
theorem dX6_init_60 : decode cX6_init 60 = .ok (.putfield 29, 3) := by decide +kernel
theorem dX6_init_63 : decode cX6_init 63 = .ok (.aload_n 0, 1) := by decide +kernel
theorem dX6_init_64 : decode cX6_init 64 = .ok (.bipush 60, 2) := by decide +kernel
theorem dX6_init_66 : decode cX6_init 66 = .ok (.newarray .int, 2) := by decide +kernel
theorem dX6_init_68 : decode cX6_init 68 = .ok (.putfield 32, 3) := by decide +kernel
theorem dX6_init_71 : decode cX6_init 71 = .ok (.aload_n 0, 1) := by decide +kernel
theorem dX6_init_72 : decode cX6_init 72 = .ok (.bipush 60, 2) := by decide +kernel
theorem dX6_init_74 : decode cX6_init 74 = .ok (.newarray .int, 2) := by decide +kernel
theorem dX6_init_76 : decode cX6_init 76 = .ok (.putfield 35, 3) := by decide +kernel
theorem dX6_init_79 : decode cX6_init 79 = .ok (.aload_n 0, 1) := by decide +kernel
theorem dX6_init_80 : decode cX6_init 80 = .ok (.bipush 10, 2) := by decide +kernel
theorem dX6_init_82 : decode cX6_init 82 = .ok (.newarray .int, 2) := by decide +kernel
theorem dX6_init_84 : decode cX6_init 84 = .ok (.putfield 38, 3) := by decide +kernel
theorem dX6_init_87 : decode cX6_init 87 = .ok (.aload_n 0, 1) := by decide +kernel
theorem dX6_init_88 : decode cX6_init 88 = .ok (.bipush 10, 2) := by decide +kernel
theorem dX6_init_90 : decode cX6_init 90 = .ok (.newarray .int, 2) := by decide +kernel
theorem dX6_init_92 : decode cX6_init 92 = .ok (.putfield 41, 3) := by decide +kernel
theorem dX6_init_95 : decode cX6_init 95 = .ok (.aload_n 0, 1) := by decide +kernel
theorem dX6_init_96 : decode cX6_init 96 = .ok (.bipush 10, 2) := by decide +kernel
theorem dX6_init_98 : decode cX6_init 98 = .ok (.newarray .int, 2) := by decide +kernel
theorem dX6_init_100 : decode cX6_init 100 = .ok (.putfield 44, 3) := by decide +kernel
theorem dX6_init_103 : decode cX6_init 103 = .ok (.aload_n 0, 1) := by decide +kernel
theorem dX6_init_104 : decode cX6_init 104 = .ok (.bipush 10, 2) := by decide +kernel
theorem dX6_init_106 : decode cX6_init 106 = .ok (.newarray .int, 2) := by decide +kernel
theorem dX6_init_108 : decode cX6_init 108 = .ok (.putfield 47, 3) := by decide +kernel
theorem dX6_init_111 : decode cX6_init 111 = .ok (.aload_n 0, 1) := by decide +kernel
theorem dX6_init_112 : decode cX6_init 112 = .ok (.bipush 10, 2) := by decide +kernel
theorem dX6_init_114 : decode cX6_init 114 = .ok (.newarray .long, 2) := by decide +kernel
theorem dX6_init_116 : decode cX6_init 116 = .ok (.putfield 50, 3) := by decide +kernel
theorem dX6_init_119 : decode cX6_init 119 = .ok (.return_, 1) := by decide +kernel
theorem dX6_thrown_0 : decode cX6_thrown 0 = .ok (.aload_n 0, 1) := by decide +kernel
theorem dX6_thrown_1 : decode cX6_thrown 1 = .ok (.getfield 53, 3) := by decide +kernel
theorem dX6_thrown_4 : decode cX6_thrown 4 = .ok (.ireturn, 1) := by decide +kernel
theorem dX6_fail_0 : decode cX6_fail 0 = .ok (.aload_n 0, 1) := by decide +kernel
theorem dX6_fail_1 : decode cX6_fail 1 = .ok (.iload_n 1, 1) := by decide +kernel
theorem dX6_fail_2 : decode cX6_fail 2 = .ok (.putfield 53, 3) := by decide +kernel
theorem dX6_fail_5 : decode cX6_fail 5 = .ok (.iconst 0, 1) := by decide +kernel
theorem dX6_fail_6 : decode cX6_fail 6 = .ok (.ireturn, 1) := by decide +kernel
theorem dX6_isIn_0 : decode cX6_isIn 0 = .ok (.iload_n 0, 1) := by decide +kernel
theorem dX6_isIn_1 : decode cX6_isIn 1 = .ok (.iload_n 1, 1) := by decide +kernel
theorem dX6_isIn_2 : decode cX6_isIn 2 = .ok (.if_icmp .lt 12, 3) := by decide +kernel
theorem dX6_isIn_5 : decode cX6_isIn 5 = .ok (.iload_n 0, 1) := by decide +kernel
theorem dX6_isIn_6 : decode cX6_isIn 6 = .ok (.iload_n 2, 1) := by decide +kernel
theorem dX6_isIn_7 : decode cX6_isIn 7 = .ok (.if_icmp .gt 7, 3) := by decide +kernel
theorem dX6_isIn_10 : decode cX6_isIn 10 = .ok (.iconst 1, 1) := by decide +kernel
theorem dX6_isIn_11 : decode cX6_isIn 11 = .ok (.goto 4, 3) := by decide +kernel
theorem dX6_isIn_14 : decode cX6_isIn 14 = .ok (.iconst 0, 1) := by decide +kernel
theorem dX6_isIn_15 : decode cX6_isIn 15 = .ok (.ireturn, 1) := by decide +kernel
theorem dX6_looks_0 : decode cX6_looks 0 = .ok (.aload_n 0, 1) := by decide +kernel
theorem dX6_looks_1 : decode cX6_looks 1 = .ok (.iload_n 1, 1) := by decide +kernel
theorem dX6_looks_2 : decode cX6_looks 2 = .ok (.iconst 0, 1) := by decide +kernel
theorem dX6_looks_3 : decode cX6_looks 3 = .ok (.aload_n 0, 1) := by decide +kernel
theorem dX6_looks_4 : decode cX6_looks 4 = .ok (.getfield 57, 3) := by decide +kernel
theorem dX6_looks_7 : decode cX6_looks 7 = .ok (.iconst 1, 1) := by decide +kernel
theorem dX6_looks_8 : decode cX6_looks 8 = .ok (.isub, 1) := by decide +kernel
theorem dX6_looks_9 : decode cX6_looks 9 = .ok (.invokestatic 60, 3) := by decide +kernel
theorem dX6_looks_12 : decode cX6_looks 12 = .ok (.ifCond .eq 7, 3) := by decide +kernel
theorem dX6_looks_15 : decode cX6_looks 15 = .ok (.iconst 0, 1) := by decide +kernel
theorem dX6_looks_16 : decode cX6_looks 16 = .ok (.goto 4, 3) := by decide +kernel
theorem dX6_looks_19 : decode cX6_looks 19 = .ok (.iconst 1, 1) := by decide +kernel
theorem dX6_looks_20 : decode cX6_looks 20 = .ok (.putfield 53, 3) := by decide +kernel
theorem dX6_looks_23 : decode cX6_looks 23 = .ok (.aload_n 0, 1) := by decide +kernel
theorem dX6_looks_24 : decode cX6_looks 24 = .ok (.getfield 53, 3) := by decide +kernel
theorem dX6_looks_27 : decode cX6_looks 27 = .ok (.ifCond .ne 7, 3) := by decide +kernel
theorem dX6_looks_30 : decode cX6_looks 30 = .ok (.iconst 1, 1) := by decide +kernel
theorem dX6_looks_31 : decode cX6_looks 31 = .ok (.goto 4, 3) := by decide +kernel
theorem dX6_looks_34 : decode cX6_looks 34 = .ok (.iconst 0, 1) := by decide +kernel
theorem dX6_looks_35 : decode cX6_looks 35 = .ok (.ireturn, 1) := by decide +kernel
theorem dX6_search_0 : decode cX6_search 0 = .ok (.iconst 0, 1) := by decide +kernel
theorem dX6_search_1 : decode cX6_search 1 = .ok (.istore_n 3, 1) := by decide +kernel
theorem dX6_search_2 : decode cX6_search 2 = .ok (.iload_n 3, 1) := by decide +kernel
theorem dX6_search_3 : decode cX6_search 3 = .ok (.aload_n 0, 1) := by decide +kernel
theorem dX6_search_4 : decode cX6_search 4 = .ok (.getfield 57, 3) := by decide +kernel
theorem dX6_search_7 : decode cX6_search 7 = .ok (.if_icmp .ge 31, 3) := by decide +kernel
theorem dX6_search_10 : decode cX6_search 10 = .ok (.aload_n 0, 1) := by decide +kernel
theorem dX6_search_11 : decode cX6_search 11 = .ok (.getfield 7, 3) := by decide +kernel
theorem dX6_search_14 : decode cX6_search 14 = .ok (.iload_n 3, 1) := by decide +kernel
theorem dX6_search_15 : decode cX6_search 15 = .ok (.iaload, 1) := by decide +kernel
theorem dX6_search_16 : decode cX6_search 16 = .ok (.iload_n 1, 1) := by decide +kernel
theorem dX6_search_17 : decode cX6_search 17 = .ok (.if_icmp .ne 15, 3) := by decide +kernel
theorem dX6_search_20 : decode cX6_search 20 = .ok (.aload_n 0, 1) := by decide +kernel
theorem dX6_search_21 : decode cX6_search 21 = .ok (.getfield 13, 3) := by decide +kernel
theorem dX6_search_24 : decode cX6_search 24 = .ok (.iload_n 3, 1) := by decide +kernel
theorem dX6_search_25 : decode cX6_search 25 = .ok (.iaload, 1) := by decide +kernel
theorem dX6_search_26 : decode cX6_search 26 = .ok (.iload_n 2, 1) := by decide +kernel
theorem dX6_search_27 : decode cX6_search 27 = .ok (.if_icmp .ne 5, 3) := by decide +kernel
theorem dX6_search_30 : decode cX6_search 30 = .ok (.iload_n 3, 1) := by decide +kernel
theorem dX6_search_31 : decode cX6_search 31 = .ok (.ireturn, 1) := by decide +kernel
theorem dX6_search_32 : decode cX6_search 32 = .ok (.iinc 3 1, 3) := by decide +kernel
theorem dX6_search_35 : decode cX6_search 35 = .ok (.goto (-33), 3) := by decide +kernel
theorem dX6_search_38 : decode cX6_search 38 = .ok (.iconst (-1), 1) := by decide +kernel
theorem dX6_search_39 : decode cX6_search 39 = .ok (.ireturn, 1) := by decide +kernel
theorem dX6_value_0 : decode cX6_value 0 = .ok (.aload_n 0, 1) := by decide +kernel
theorem dX6_value_1 : decode cX6_value 1 = .ok (.getfield 19, 3) := by decide +kernel
theorem dX6_value_4 : decode cX6_value 4 = .ok (.bipush 120, 2) := by decide +kernel
theorem dX6_value_6 : decode cX6_value 6 = .ok (.iload_n 1, 1) := by decide +kernel
theorem dX6_value_7 : decode cX6_value 7 = .ok (.imul, 1) := by decide +kernel
theorem dX6_value_8 : decode cX6_value 8 = .ok (.iload_n 2, 1) := by decide +kernel
theorem dX6_value_9 : decode cX6_value 9 = .ok (.iadd, 1) := by decide +kernel
theorem dX6_value_10 : decode cX6_value 10 = .ok (.iaload, 1) := by decide +kernel
theorem dX6_value_11 : decode cX6_value 11 = .ok (.ireturn, 1) := by decide +kernel
theorem dX6_time_0 : decode cX6_time 0 = .ok (.aload_n 0, 1) := by decide +kernel
theorem dX6_time_1 : decode cX6_time 1 = .ok (.getfield 25, 3) := by decide +kernel
theorem dX6_time_4 : decode cX6_time 4 = .ok (.bipush 120, 2) := by decide +kernel
theorem dX6_time_6 : decode cX6_time 6 = .ok (.iload_n 1, 1) := by decide +kernel
theorem dX6_time_7 : decode cX6_time 7 = .ok (.imul, 1) := by decide +kernel
theorem dX6_time_8 : decode cX6_time 8 = .ok (.iload_n 2, 1) := by decide +kernel
theorem dX6_time_9 : decode cX6_time 9 = .ok (.iadd, 1) := by decide +kernel
theorem dX6_time_10 : decode cX6_time 10 = .ok (.laload, 1) := by decide +kernel
theorem dX6_time_11 : decode cX6_time 11 = .ok (.lreturn, 1) := by decide +kernel
theorem dX6_last_0 : decode cX6_last 0 = .ok (.aload_n 0, 1) := by decide +kernel
theorem dX6_last_1 : decode cX6_last 1 = .ok (.iload_n 1, 1) := by decide +kernel
theorem dX6_last_2 : decode cX6_last 2 = .ok (.aload_n 0, 1) := by decide +kernel
theorem dX6_last_3 : decode cX6_last 3 = .ok (.getfield 16, 3) := by decide +kernel
theorem dX6_last_6 : decode cX6_last 6 = .ok (.iload_n 1, 1) := by decide +kernel
theorem dX6_last_7 : decode cX6_last 7 = .ok (.iaload, 1) := by decide +kernel
theorem dX6_last_8 : decode cX6_last 8 = .ok (.iconst 1, 1) := by decide +kernel
theorem dX6_last_9 : decode cX6_last 9 = .ok (.isub, 1) := by decide +kernel
theorem dX6_last_10 : decode cX6_last 10 = .ok (.invokevirtual 64, 3) := by decide +kernel
theorem dX6_last_13 : decode cX6_last 13 = .ok (.ireturn, 1) := by decide +kernel
theorem dX6_open_0 : decode cX6_open 0 = .ok (.iload_n 1, 1) := by decide +kernel
theorem dX6_open_1 : decode cX6_open 1 = .ok (.iconst 0, 1) := by decide +kernel
theorem dX6_open_2 : decode cX6_open 2 = .ok (.bipush 9, 2) := by decide +kernel
theorem dX6_open_4 : decode cX6_open 4 = .ok (.invokestatic 60, 3) := by decide +kernel
theorem dX6_open_7 : decode cX6_open 7 = .ok (.ifCond .eq 13, 3) := by decide +kernel
theorem dX6_open_10 : decode cX6_open 10 = .ok (.iload_n 2, 1) := by decide +kernel
theorem dX6_open_11 : decode cX6_open 11 = .ok (.iconst 0, 1) := by decide +kernel
theorem dX6_open_12 : decode cX6_open 12 = .ok (.bipush 9, 2) := by decide +kernel
theorem dX6_open_14 : decode cX6_open 14 = .ok (.invokestatic 60, 3) := by decide +kernel
theorem dX6_open_17 : decode cX6_open 17 = .ok (.ifCond .ne 9, 3) := by decide +kernel
theorem dX6_open_20 : decode cX6_open 20 = .ok (.aload_n 0, 1) := by decide +kernel
theorem dX6_open_21 : decode cX6_open 21 = .ok (.iconst 1, 1) := by decide +kernel
theorem dX6_open_22 : decode cX6_open 22 = .ok (.invokevirtual 68, 3) := by decide +kernel
theorem dX6_open_25 : decode cX6_open 25 = .ok (.ireturn, 1) := by decide +kernel
theorem dX6_open_26 : decode cX6_open 26 = .ok (.aload_n 0, 1) := by decide +kernel
theorem dX6_open_27 : decode cX6_open 27 = .ok (.iload_n 1, 1) := by decide +kernel
theorem dX6_open_28 : decode cX6_open 28 = .ok (.iload_n 2, 1) := by decide +kernel
theorem dX6_open_29 : decode cX6_open 29 = .ok (.invokevirtual 72, 3) := by decide +kernel
theorem dX6_open_32 : decode cX6_open 32 = .ok (.ifCond .ge 12, 3) := by decide +kernel
theorem dX6_open_35 : decode cX6_open 35 = .ok (.aload_n 0, 1) := by decide +kernel
theorem dX6_open_36 : decode cX6_open 36 = .ok (.getfield 57, 3) := by decide +kernel
theorem dX6_open_39 : decode cX6_open 39 = .ok (.bipush 10, 2) := by decide +kernel
theorem dX6_open_41 : decode cX6_open 41 = .ok (.if_icmp .ne 9, 3) := by decide +kernel
theorem dX6_open_44 : decode cX6_open 44 = .ok (.aload_n 0, 1) := by decide +kernel
theorem dX6_open_45 : decode cX6_open 45 = .ok (.iconst 2, 1) := by decide +kernel
theorem dX6_open_46 : decode cX6_open 46 = .ok (.invokevirtual 68, 3) := by decide +kernel
theorem dX6_open_49 : decode cX6_open 49 = .ok (.ireturn, 1) := by decide +kernel
theorem dX6_open_50 : decode cX6_open 50 = .ok (.aload_n 0, 1) := by decide +kernel
theorem dX6_open_51 : decode cX6_open 51 = .ok (.iconst 0, 1) := by decide +kernel
theorem dX6_open_52 : decode cX6_open 52 = .ok (.putfield 53, 3) := by decide +kernel
theorem dX6_open_55 : decode cX6_open 55 = .ok (.aload_n 0, 1) := by decide +kernel
theorem dX6_open_56 : decode cX6_open 56 = .ok (.getfield 7, 3) := by decide +kernel
theorem dX6_open_59 : decode cX6_open 59 = .ok (.aload_n 0, 1) := by decide +kernel
theorem dX6_open_60 : decode cX6_open 60 = .ok (.getfield 57, 3) := by decide +kernel
theorem dX6_open_63 : decode cX6_open 63 = .ok (.iload_n 1, 1) := by decide +kernel
theorem dX6_open_64 : decode cX6_open 64 = .ok (.iastore, 1) := by decide +kernel
theorem dX6_open_65 : decode cX6_open 65 = .ok (.aload_n 0, 1) := by decide +kernel
theorem dX6_open_66 : decode cX6_open 66 = .ok (.getfield 13, 3) := by decide +kernel
theorem dX6_open_69 : decode cX6_open 69 = .ok (.aload_n 0, 1) := by decide +kernel
theorem dX6_open_70 : decode cX6_open 70 = .ok (.getfield 57, 3) := by decide +kernel
theorem dX6_open_73 : decode cX6_open 73 = .ok (.iload_n 2, 1) := by decide +kernel
theorem dX6_open_74 : decode cX6_open 74 = .ok (.iastore, 1) := by decide +kernel
theorem dX6_open_75 : decode cX6_open 75 = .ok (.aload_n 0, 1) := by decide +kernel
theorem dX6_open_76 : decode cX6_open 76 = .ok (.dup, 1) := by decide +kernel
theorem dX6_open_77 : decode cX6_open 77 = .ok (.getfield 57, 3) := by decide +kernel
theorem dX6_open_80 : decode cX6_open 80 = .ok (.iconst 1, 1) := by decide +kernel
theorem dX6_open_81 : decode cX6_open 81 = .ok (.iadd, 1) := by decide +kernel
theorem dX6_open_82 : decode cX6_open 82 = .ok (.putfield 57, 3) := by decide +kernel
theorem dX6_open_85 : decode cX6_open 85 = .ok (.aload_n 0, 1) := by decide +kernel
theorem dX6_open_86 : decode cX6_open 86 = .ok (.getfield 57, 3) := by decide +kernel
theorem dX6_open_89 : decode cX6_open 89 = .ok (.iconst 1, 1) := by decide +kernel
theorem dX6_open_90 : decode cX6_open 90 = .ok (.isub, 1) := by decide +kernel
theorem dX6_open_91 : decode cX6_open 91 = .ok (.ireturn, 1) := by decide +kernel
theorem dX6_pass_0 : decode cX6_pass 0 = .ok (.iload_n 1, 1) := by decide +kernel
theorem dX6_pass_1 : decode cX6_pass 1 = .ok (.iconst 1, 1) := by decide +kernel
theorem dX6_pass_2 : decode cX6_pass 2 = .ok (.sipush 600, 3) := by decide +kernel
theorem dX6_pass_5 : decode cX6_pass 5 = .ok (.invokestatic 60, 3) := by decide +kernel
theorem dX6_pass_8 : decode cX6_pass 8 = .ok (.ifCond .ne 10, 3) := by decide +kernel
theorem dX6_pass_11 : decode cX6_pass 11 = .ok (.aload_n 0, 1) := by decide +kernel
theorem dX6_pass_12 : decode cX6_pass 12 = .ok (.iconst 1, 1) := by decide +kernel
theorem dX6_pass_13 : decode cX6_pass 13 = .ok (.invokevirtual 68, 3) := by decide +kernel
theorem dX6_pass_16 : decode cX6_pass 16 = .ok (.i2l, 1) := by decide +kernel
theorem dX6_pass_17 : decode cX6_pass 17 = .ok (.lreturn, 1) := by decide +kernel
theorem dX6_pass_18 : decode cX6_pass 18 = .ok (.aload_n 0, 1) := by decide +kernel
theorem dX6_pass_19 : decode cX6_pass 19 = .ok (.iconst 0, 1) := by decide +kernel
theorem dX6_pass_20 : decode cX6_pass 20 = .ok (.putfield 53, 3) := by decide +kernel
theorem dX6_pass_23 : decode cX6_pass 23 = .ok (.aload_n 0, 1) := by decide +kernel
theorem dX6_pass_24 : decode cX6_pass 24 = .ok (.dup, 1) := by decide +kernel
theorem dX6_pass_25 : decode cX6_pass 25 = .ok (.getfield 75, 3) := by decide +kernel
theorem dX6_pass_28 : decode cX6_pass 28 = .ok (.iload_n 1, 1) := by decide +kernel
theorem dX6_pass_29 : decode cX6_pass 29 = .ok (.i2l, 1) := by decide +kernel
theorem dX6_pass_30 : decode cX6_pass 30 = .ok (.ladd, 1) := by decide +kernel
theorem dX6_pass_31 : decode cX6_pass 31 = .ok (.putfield 75, 3) := by decide +kernel
theorem dX6_pass_34 : decode cX6_pass 34 = .ok (.aload_n 0, 1) := by decide +kernel
theorem dX6_pass_35 : decode cX6_pass 35 = .ok (.getfield 75, 3) := by decide +kernel
theorem dX6_pass_38 : decode cX6_pass 38 = .ok (.lreturn, 1) := by decide +kernel
theorem dX6_holds_0 : decode cX6_holds 0 = .ok (.bipush 6, 2) := by decide +kernel
theorem dX6_holds_2 : decode cX6_holds 2 = .ok (.iload_n 1, 1) := by decide +kernel
theorem dX6_holds_3 : decode cX6_holds 3 = .ok (.imul, 1) := by decide +kernel
theorem dX6_holds_4 : decode cX6_holds 4 = .ok (.iload_n 2, 1) := by decide +kernel
theorem dX6_holds_5 : decode cX6_holds 5 = .ok (.iadd, 1) := by decide +kernel
theorem dX6_holds_6 : decode cX6_holds 6 = .ok (.istore 4, 2) := by decide +kernel
theorem dX6_holds_8 : decode cX6_holds 8 = .ok (.aload_n 0, 1) := by decide +kernel
theorem dX6_holds_9 : decode cX6_holds 9 = .ok (.getfield 29, 3) := by decide +kernel
theorem dX6_holds_12 : decode cX6_holds 12 = .ok (.bipush 8, 2) := by decide +kernel
theorem dX6_holds_14 : decode cX6_holds 14 = .ok (.iload 4, 2) := by decide +kernel
theorem dX6_holds_16 : decode cX6_holds 16 = .ok (.imul, 1) := by decide +kernel
theorem dX6_holds_17 : decode cX6_holds 17 = .ok (.aload_n 0, 1) := by decide +kernel
theorem dX6_holds_18 : decode cX6_holds 18 = .ok (.getfield 32, 3) := by decide +kernel
theorem dX6_holds_21 : decode cX6_holds 21 = .ok (.iload 4, 2) := by decide +kernel
theorem dX6_holds_23 : decode cX6_holds 23 = .ok (.iaload, 1) := by decide +kernel
theorem dX6_holds_24 : decode cX6_holds 24 = .ok (.iadd, 1) := by decide +kernel
theorem dX6_holds_25 : decode cX6_holds 25 = .ok (.iload_n 3, 1) := by decide +kernel
theorem dX6_holds_26 : decode cX6_holds 26 = .ok (.iastore, 1) := by decide +kernel
theorem dX6_holds_27 : decode cX6_holds 27 = .ok (.aload_n 0, 1) := by decide +kernel
theorem dX6_holds_28 : decode cX6_holds 28 = .ok (.getfield 32, 3) := by decide +kernel
theorem dX6_holds_31 : decode cX6_holds 31 = .ok (.iload 4, 2) := by decide +kernel
theorem dX6_holds_33 : decode cX6_holds 33 = .ok (.dup2, 1) := by decide +kernel
theorem dX6_holds_34 : decode cX6_holds 34 = .ok (.iaload, 1) := by decide +kernel
theorem dX6_holds_35 : decode cX6_holds 35 = .ok (.iconst 1, 1) := by decide +kernel
theorem dX6_holds_36 : decode cX6_holds 36 = .ok (.iadd, 1) := by decide +kernel
theorem dX6_holds_37 : decode cX6_holds 37 = .ok (.iastore, 1) := by decide +kernel
theorem dX6_holds_38 : decode cX6_holds 38 = .ok (.return_, 1) := by decide +kernel
theorem dX6_halves_0 : decode cX6_halves 0 = .ok (.bipush 6, 2) := by decide +kernel
theorem dX6_halves_2 : decode cX6_halves 2 = .ok (.iload_n 1, 1) := by decide +kernel
theorem dX6_halves_3 : decode cX6_halves 3 = .ok (.imul, 1) := by decide +kernel
theorem dX6_halves_4 : decode cX6_halves 4 = .ok (.iload_n 2, 1) := by decide +kernel
theorem dX6_halves_5 : decode cX6_halves 5 = .ok (.iadd, 1) := by decide +kernel
theorem dX6_halves_6 : decode cX6_halves 6 = .ok (.istore_n 3, 1) := by decide +kernel
theorem dX6_halves_7 : decode cX6_halves 7 = .ok (.iconst 1, 1) := by decide +kernel
theorem dX6_halves_8 : decode cX6_halves 8 = .ok (.istore 4, 2) := by decide +kernel
theorem dX6_halves_10 : decode cX6_halves 10 = .ok (.iload 4, 2) := by decide +kernel
theorem dX6_halves_12 : decode cX6_halves 12 = .ok (.bipush 8, 2) := by decide +kernel
theorem dX6_halves_14 : decode cX6_halves 14 = .ok (.if_icmp .ge 97, 3) := by decide +kernel
theorem dX6_halves_17 : decode cX6_halves 17 = .ok (.aload_n 0, 1) := by decide +kernel
theorem dX6_halves_18 : decode cX6_halves 18 = .ok (.getfield 29, 3) := by decide +kernel
theorem dX6_halves_21 : decode cX6_halves 21 = .ok (.bipush 8, 2) := by decide +kernel
theorem dX6_halves_23 : decode cX6_halves 23 = .ok (.iload_n 3, 1) := by decide +kernel
theorem dX6_halves_24 : decode cX6_halves 24 = .ok (.imul, 1) := by decide +kernel
theorem dX6_halves_25 : decode cX6_halves 25 = .ok (.iload 4, 2) := by decide +kernel
theorem dX6_halves_27 : decode cX6_halves 27 = .ok (.iadd, 1) := by decide +kernel
theorem dX6_halves_28 : decode cX6_halves 28 = .ok (.iaload, 1) := by decide +kernel
theorem dX6_halves_29 : decode cX6_halves 29 = .ok (.istore 5, 2) := by decide +kernel
theorem dX6_halves_31 : decode cX6_halves 31 = .ok (.iload 4, 2) := by decide +kernel
theorem dX6_halves_33 : decode cX6_halves 33 = .ok (.istore 6, 2) := by decide +kernel
theorem dX6_halves_35 : decode cX6_halves 35 = .ok (.iload 6, 2) := by decide +kernel
theorem dX6_halves_37 : decode cX6_halves 37 = .ok (.ifCond .le 54, 3) := by decide +kernel
theorem dX6_halves_40 : decode cX6_halves 40 = .ok (.aload_n 0, 1) := by decide +kernel
theorem dX6_halves_41 : decode cX6_halves 41 = .ok (.getfield 29, 3) := by decide +kernel
theorem dX6_halves_44 : decode cX6_halves 44 = .ok (.bipush 8, 2) := by decide +kernel
theorem dX6_halves_46 : decode cX6_halves 46 = .ok (.iload_n 3, 1) := by decide +kernel
theorem dX6_halves_47 : decode cX6_halves 47 = .ok (.imul, 1) := by decide +kernel
theorem dX6_halves_48 : decode cX6_halves 48 = .ok (.iload 6, 2) := by decide +kernel
theorem dX6_halves_50 : decode cX6_halves 50 = .ok (.iadd, 1) := by decide +kernel
theorem dX6_halves_51 : decode cX6_halves 51 = .ok (.iconst 1, 1) := by decide +kernel
theorem dX6_halves_52 : decode cX6_halves 52 = .ok (.isub, 1) := by decide +kernel
theorem dX6_halves_53 : decode cX6_halves 53 = .ok (.iaload, 1) := by decide +kernel
theorem dX6_halves_54 : decode cX6_halves 54 = .ok (.iload 5, 2) := by decide +kernel
theorem dX6_halves_56 : decode cX6_halves 56 = .ok (.if_icmp .le 35, 3) := by decide +kernel
theorem dX6_halves_59 : decode cX6_halves 59 = .ok (.aload_n 0, 1) := by decide +kernel
theorem dX6_halves_60 : decode cX6_halves 60 = .ok (.getfield 29, 3) := by decide +kernel
theorem dX6_halves_63 : decode cX6_halves 63 = .ok (.bipush 8, 2) := by decide +kernel
theorem dX6_halves_65 : decode cX6_halves 65 = .ok (.iload_n 3, 1) := by decide +kernel
theorem dX6_halves_66 : decode cX6_halves 66 = .ok (.imul, 1) := by decide +kernel
theorem dX6_halves_67 : decode cX6_halves 67 = .ok (.iload 6, 2) := by decide +kernel
theorem dX6_halves_69 : decode cX6_halves 69 = .ok (.iadd, 1) := by decide +kernel
theorem dX6_halves_70 : decode cX6_halves 70 = .ok (.aload_n 0, 1) := by decide +kernel
theorem dX6_halves_71 : decode cX6_halves 71 = .ok (.getfield 29, 3) := by decide +kernel
theorem dX6_halves_74 : decode cX6_halves 74 = .ok (.bipush 8, 2) := by decide +kernel
theorem dX6_halves_76 : decode cX6_halves 76 = .ok (.iload_n 3, 1) := by decide +kernel
theorem dX6_halves_77 : decode cX6_halves 77 = .ok (.imul, 1) := by decide +kernel
theorem dX6_halves_78 : decode cX6_halves 78 = .ok (.iload 6, 2) := by decide +kernel
theorem dX6_halves_80 : decode cX6_halves 80 = .ok (.iadd, 1) := by decide +kernel
theorem dX6_halves_81 : decode cX6_halves 81 = .ok (.iconst 1, 1) := by decide +kernel
theorem dX6_halves_82 : decode cX6_halves 82 = .ok (.isub, 1) := by decide +kernel
theorem dX6_halves_83 : decode cX6_halves 83 = .ok (.iaload, 1) := by decide +kernel
theorem dX6_halves_84 : decode cX6_halves 84 = .ok (.iastore, 1) := by decide +kernel
theorem dX6_halves_85 : decode cX6_halves 85 = .ok (.iinc 6 (-1), 3) := by decide +kernel
theorem dX6_halves_88 : decode cX6_halves 88 = .ok (.goto (-53), 3) := by decide +kernel
theorem dX6_halves_91 : decode cX6_halves 91 = .ok (.aload_n 0, 1) := by decide +kernel
theorem dX6_halves_92 : decode cX6_halves 92 = .ok (.getfield 29, 3) := by decide +kernel
theorem dX6_halves_95 : decode cX6_halves 95 = .ok (.bipush 8, 2) := by decide +kernel
theorem dX6_halves_97 : decode cX6_halves 97 = .ok (.iload_n 3, 1) := by decide +kernel
theorem dX6_halves_98 : decode cX6_halves 98 = .ok (.imul, 1) := by decide +kernel
theorem dX6_halves_99 : decode cX6_halves 99 = .ok (.iload 6, 2) := by decide +kernel
theorem dX6_halves_101 : decode cX6_halves 101 = .ok (.iadd, 1) := by decide +kernel
theorem dX6_halves_102 : decode cX6_halves 102 = .ok (.iload 5, 2) := by decide +kernel
theorem dX6_halves_104 : decode cX6_halves 104 = .ok (.iastore, 1) := by decide +kernel
theorem dX6_halves_105 : decode cX6_halves 105 = .ok (.iinc 4 1, 3) := by decide +kernel
theorem dX6_halves_108 : decode cX6_halves 108 = .ok (.goto (-98), 3) := by decide +kernel
theorem dX6_halves_111 : decode cX6_halves 111 = .ok (.aload_n 0, 1) := by decide +kernel
theorem dX6_halves_112 : decode cX6_halves 112 = .ok (.getfield 35, 3) := by decide +kernel
theorem dX6_halves_115 : decode cX6_halves 115 = .ok (.iload_n 3, 1) := by decide +kernel
theorem dX6_halves_116 : decode cX6_halves 116 = .ok (.iaload, 1) := by decide +kernel
theorem dX6_halves_117 : decode cX6_halves 117 = .ok (.iconst 2, 1) := by decide +kernel
theorem dX6_halves_118 : decode cX6_halves 118 = .ok (.irem, 1) := by decide +kernel
theorem dX6_halves_119 : decode cX6_halves 119 = .ok (.ifCond .ne 7, 3) := by decide +kernel
theorem dX6_halves_122 : decode cX6_halves 122 = .ok (.iconst 1, 1) := by decide +kernel
theorem dX6_halves_123 : decode cX6_halves 123 = .ok (.goto 4, 3) := by decide +kernel
theorem dX6_halves_126 : decode cX6_halves 126 = .ok (.iconst 0, 1) := by decide +kernel
theorem dX6_halves_127 : decode cX6_halves 127 = .ok (.istore 4, 2) := by decide +kernel
theorem dX6_halves_129 : decode cX6_halves 129 = .ok (.iload 4, 2) := by decide +kernel
theorem dX6_halves_131 : decode cX6_halves 131 = .ok (.bipush 8, 2) := by decide +kernel
theorem dX6_halves_133 : decode cX6_halves 133 = .ok (.if_icmp .ge 29, 3) := by decide +kernel
theorem dX6_halves_136 : decode cX6_halves 136 = .ok (.aload_n 0, 1) := by decide +kernel
theorem dX6_halves_137 : decode cX6_halves 137 = .ok (.iload_n 1, 1) := by decide +kernel
theorem dX6_halves_138 : decode cX6_halves 138 = .ok (.iload_n 2, 1) := by decide +kernel
theorem dX6_halves_139 : decode cX6_halves 139 = .ok (.iconst 1, 1) := by decide +kernel
theorem dX6_halves_140 : decode cX6_halves 140 = .ok (.iadd, 1) := by decide +kernel
theorem dX6_halves_141 : decode cX6_halves 141 = .ok (.aload_n 0, 1) := by decide +kernel
theorem dX6_halves_142 : decode cX6_halves 142 = .ok (.getfield 29, 3) := by decide +kernel
theorem dX6_halves_145 : decode cX6_halves 145 = .ok (.bipush 8, 2) := by decide +kernel
theorem dX6_halves_147 : decode cX6_halves 147 = .ok (.iload_n 3, 1) := by decide +kernel
theorem dX6_halves_148 : decode cX6_halves 148 = .ok (.imul, 1) := by decide +kernel
theorem dX6_halves_149 : decode cX6_halves 149 = .ok (.iload 4, 2) := by decide +kernel
theorem dX6_halves_151 : decode cX6_halves 151 = .ok (.iadd, 1) := by decide +kernel
theorem dX6_halves_152 : decode cX6_halves 152 = .ok (.iaload, 1) := by decide +kernel
theorem dX6_halves_153 : decode cX6_halves 153 = .ok (.invokevirtual 79, 3) := by decide +kernel
theorem dX6_halves_156 : decode cX6_halves 156 = .ok (.iinc 4 2, 3) := by decide +kernel
theorem dX6_halves_159 : decode cX6_halves 159 = .ok (.goto (-30), 3) := by decide +kernel
theorem dX6_halves_162 : decode cX6_halves 162 = .ok (.aload_n 0, 1) := by decide +kernel
theorem dX6_halves_163 : decode cX6_halves 163 = .ok (.getfield 32, 3) := by decide +kernel
theorem dX6_halves_166 : decode cX6_halves 166 = .ok (.iload_n 3, 1) := by decide +kernel
theorem dX6_halves_167 : decode cX6_halves 167 = .ok (.iconst 0, 1) := by decide +kernel
theorem dX6_halves_168 : decode cX6_halves 168 = .ok (.iastore, 1) := by decide +kernel
theorem dX6_halves_169 : decode cX6_halves 169 = .ok (.aload_n 0, 1) := by decide +kernel
theorem dX6_halves_170 : decode cX6_halves 170 = .ok (.getfield 35, 3) := by decide +kernel
theorem dX6_halves_173 : decode cX6_halves 173 = .ok (.iload_n 3, 1) := by decide +kernel
theorem dX6_halves_174 : decode cX6_halves 174 = .ok (.dup2, 1) := by decide +kernel
theorem dX6_halves_175 : decode cX6_halves 175 = .ok (.iaload, 1) := by decide +kernel
theorem dX6_halves_176 : decode cX6_halves 176 = .ok (.iconst 1, 1) := by decide +kernel
theorem dX6_halves_177 : decode cX6_halves 177 = .ok (.iadd, 1) := by decide +kernel
theorem dX6_halves_178 : decode cX6_halves 178 = .ok (.iastore, 1) := by decide +kernel
theorem dX6_halves_179 : decode cX6_halves 179 = .ok (.aload_n 0, 1) := by decide +kernel
theorem dX6_halves_180 : decode cX6_halves 180 = .ok (.getfield 22, 3) := by decide +kernel
theorem dX6_halves_183 : decode cX6_halves 183 = .ok (.iload_n 1, 1) := by decide +kernel
theorem dX6_halves_184 : decode cX6_halves 184 = .ok (.dup2, 1) := by decide +kernel
theorem dX6_halves_185 : decode cX6_halves 185 = .ok (.iaload, 1) := by decide +kernel
theorem dX6_halves_186 : decode cX6_halves 186 = .ok (.iconst 1, 1) := by decide +kernel
theorem dX6_halves_187 : decode cX6_halves 187 = .ok (.iload_n 2, 1) := by decide +kernel
theorem dX6_halves_188 : decode cX6_halves 188 = .ok (.ishl, 1) := by decide +kernel
theorem dX6_halves_189 : decode cX6_halves 189 = .ok (.iadd, 1) := by decide +kernel
theorem dX6_halves_190 : decode cX6_halves 190 = .ok (.iastore, 1) := by decide +kernel
theorem dX6_halves_191 : decode cX6_halves 191 = .ok (.return_, 1) := by decide +kernel
theorem dX6_add_0 : decode cX6_add 0 = .ok (.aload_n 0, 1) := by decide +kernel
theorem dX6_add_1 : decode cX6_add 1 = .ok (.iload_n 1, 1) := by decide +kernel
theorem dX6_add_2 : decode cX6_add 2 = .ok (.invokevirtual 83, 3) := by decide +kernel
theorem dX6_add_5 : decode cX6_add 5 = .ok (.ifCond .ne 5, 3) := by decide +kernel
theorem dX6_add_8 : decode cX6_add 8 = .ok (.iconst 0, 1) := by decide +kernel
theorem dX6_add_9 : decode cX6_add 9 = .ok (.ireturn, 1) := by decide +kernel
theorem dX6_add_10 : decode cX6_add 10 = .ok (.iload_n 2, 1) := by decide +kernel
theorem dX6_add_11 : decode cX6_add 11 = .ok (.sipush (-10000), 3) := by decide +kernel
theorem dX6_add_14 : decode cX6_add 14 = .ok (.sipush 10000, 3) := by decide +kernel
theorem dX6_add_17 : decode cX6_add 17 = .ok (.invokestatic 60, 3) := by decide +kernel
theorem dX6_add_20 : decode cX6_add 20 = .ok (.ifCond .ne 9, 3) := by decide +kernel
theorem dX6_add_23 : decode cX6_add 23 = .ok (.aload_n 0, 1) := by decide +kernel
theorem dX6_add_24 : decode cX6_add 24 = .ok (.iconst 2, 1) := by decide +kernel
theorem dX6_add_25 : decode cX6_add 25 = .ok (.invokevirtual 68, 3) := by decide +kernel
theorem dX6_add_28 : decode cX6_add 28 = .ok (.ireturn, 1) := by decide +kernel
theorem dX6_add_29 : decode cX6_add 29 = .ok (.aload_n 0, 1) := by decide +kernel
theorem dX6_add_30 : decode cX6_add 30 = .ok (.getfield 16, 3) := by decide +kernel
theorem dX6_add_33 : decode cX6_add 33 = .ok (.iload_n 1, 1) := by decide +kernel
theorem dX6_add_34 : decode cX6_add 34 = .ok (.iaload, 1) := by decide +kernel
theorem dX6_add_35 : decode cX6_add 35 = .ok (.bipush 120, 2) := by decide +kernel
theorem dX6_add_37 : decode cX6_add 37 = .ok (.if_icmp .eq 33, 3) := by decide +kernel
theorem dX6_add_40 : decode cX6_add 40 = .ok (.aload_n 0, 1) := by decide +kernel
theorem dX6_add_41 : decode cX6_add 41 = .ok (.getfield 16, 3) := by decide +kernel
theorem dX6_add_44 : decode cX6_add 44 = .ok (.iload_n 1, 1) := by decide +kernel
theorem dX6_add_45 : decode cX6_add 45 = .ok (.iaload, 1) := by decide +kernel
theorem dX6_add_46 : decode cX6_add 46 = .ok (.ifCond .le 30, 3) := by decide +kernel
theorem dX6_add_49 : decode cX6_add 49 = .ok (.aload_n 0, 1) := by decide +kernel
theorem dX6_add_50 : decode cX6_add 50 = .ok (.iload_n 1, 1) := by decide +kernel
theorem dX6_add_51 : decode cX6_add 51 = .ok (.aload_n 0, 1) := by decide +kernel
theorem dX6_add_52 : decode cX6_add 52 = .ok (.getfield 16, 3) := by decide +kernel
theorem dX6_add_55 : decode cX6_add 55 = .ok (.iload_n 1, 1) := by decide +kernel
theorem dX6_add_56 : decode cX6_add 56 = .ok (.iaload, 1) := by decide +kernel
theorem dX6_add_57 : decode cX6_add 57 = .ok (.iconst 1, 1) := by decide +kernel
theorem dX6_add_58 : decode cX6_add 58 = .ok (.isub, 1) := by decide +kernel
theorem dX6_add_59 : decode cX6_add 59 = .ok (.invokevirtual 87, 3) := by decide +kernel
theorem dX6_add_62 : decode cX6_add 62 = .ok (.aload_n 0, 1) := by decide +kernel
theorem dX6_add_63 : decode cX6_add 63 = .ok (.getfield 75, 3) := by decide +kernel
theorem dX6_add_66 : decode cX6_add 66 = .ok (.lcmp, 1) := by decide +kernel
theorem dX6_add_67 : decode cX6_add 67 = .ok (.ifCond .ne 9, 3) := by decide +kernel
theorem dX6_add_70 : decode cX6_add 70 = .ok (.aload_n 0, 1) := by decide +kernel
theorem dX6_add_71 : decode cX6_add 71 = .ok (.iconst 3, 1) := by decide +kernel
theorem dX6_add_72 : decode cX6_add 72 = .ok (.invokevirtual 68, 3) := by decide +kernel
theorem dX6_add_75 : decode cX6_add 75 = .ok (.ireturn, 1) := by decide +kernel
theorem dX6_add_76 : decode cX6_add 76 = .ok (.aload_n 0, 1) := by decide +kernel
theorem dX6_add_77 : decode cX6_add 77 = .ok (.getfield 25, 3) := by decide +kernel
theorem dX6_add_80 : decode cX6_add 80 = .ok (.bipush 120, 2) := by decide +kernel
theorem dX6_add_82 : decode cX6_add 82 = .ok (.iload_n 1, 1) := by decide +kernel
theorem dX6_add_83 : decode cX6_add 83 = .ok (.imul, 1) := by decide +kernel
theorem dX6_add_84 : decode cX6_add 84 = .ok (.aload_n 0, 1) := by decide +kernel
theorem dX6_add_85 : decode cX6_add 85 = .ok (.getfield 16, 3) := by decide +kernel
theorem dX6_add_88 : decode cX6_add 88 = .ok (.iload_n 1, 1) := by decide +kernel
theorem dX6_add_89 : decode cX6_add 89 = .ok (.iaload, 1) := by decide +kernel
theorem dX6_add_90 : decode cX6_add 90 = .ok (.iadd, 1) := by decide +kernel
theorem dX6_add_91 : decode cX6_add 91 = .ok (.aload_n 0, 1) := by decide +kernel
theorem dX6_add_92 : decode cX6_add 92 = .ok (.getfield 75, 3) := by decide +kernel
theorem dX6_add_95 : decode cX6_add 95 = .ok (.lastore, 1) := by decide +kernel
theorem dX6_add_96 : decode cX6_add 96 = .ok (.aload_n 0, 1) := by decide +kernel
theorem dX6_add_97 : decode cX6_add 97 = .ok (.getfield 19, 3) := by decide +kernel
theorem dX6_add_100 : decode cX6_add 100 = .ok (.bipush 120, 2) := by decide +kernel
theorem dX6_add_102 : decode cX6_add 102 = .ok (.iload_n 1, 1) := by decide +kernel
theorem dX6_add_103 : decode cX6_add 103 = .ok (.imul, 1) := by decide +kernel
theorem dX6_add_104 : decode cX6_add 104 = .ok (.aload_n 0, 1) := by decide +kernel
theorem dX6_add_105 : decode cX6_add 105 = .ok (.getfield 16, 3) := by decide +kernel
theorem dX6_add_108 : decode cX6_add 108 = .ok (.iload_n 1, 1) := by decide +kernel
theorem dX6_add_109 : decode cX6_add 109 = .ok (.iaload, 1) := by decide +kernel
theorem dX6_add_110 : decode cX6_add 110 = .ok (.iadd, 1) := by decide +kernel
theorem dX6_add_111 : decode cX6_add 111 = .ok (.iload_n 2, 1) := by decide +kernel
theorem dX6_add_112 : decode cX6_add 112 = .ok (.iastore, 1) := by decide +kernel
theorem dX6_add_113 : decode cX6_add 113 = .ok (.aload_n 0, 1) := by decide +kernel
theorem dX6_add_114 : decode cX6_add 114 = .ok (.getfield 16, 3) := by decide +kernel
theorem dX6_add_117 : decode cX6_add 117 = .ok (.iload_n 1, 1) := by decide +kernel
theorem dX6_add_118 : decode cX6_add 118 = .ok (.dup2, 1) := by decide +kernel
theorem dX6_add_119 : decode cX6_add 119 = .ok (.iaload, 1) := by decide +kernel
theorem dX6_add_120 : decode cX6_add 120 = .ok (.iconst 1, 1) := by decide +kernel
theorem dX6_add_121 : decode cX6_add 121 = .ok (.iadd, 1) := by decide +kernel
theorem dX6_add_122 : decode cX6_add 122 = .ok (.iastore, 1) := by decide +kernel
theorem dX6_add_123 : decode cX6_add 123 = .ok (.aload_n 0, 1) := by decide +kernel
theorem dX6_add_124 : decode cX6_add 124 = .ok (.iload_n 1, 1) := by decide +kernel
theorem dX6_add_125 : decode cX6_add 125 = .ok (.iconst 0, 1) := by decide +kernel
theorem dX6_add_126 : decode cX6_add 126 = .ok (.iload_n 2, 1) := by decide +kernel
theorem dX6_add_127 : decode cX6_add 127 = .ok (.invokevirtual 79, 3) := by decide +kernel
theorem dX6_add_130 : decode cX6_add 130 = .ok (.iconst 0, 1) := by decide +kernel
theorem dX6_add_131 : decode cX6_add 131 = .ok (.istore_n 3, 1) := by decide +kernel
theorem dX6_add_132 : decode cX6_add 132 = .ok (.iload_n 3, 1) := by decide +kernel
theorem dX6_add_133 : decode cX6_add 133 = .ok (.bipush 6, 2) := by decide +kernel
theorem dX6_add_135 : decode cX6_add 135 = .ok (.if_icmp .ge 31, 3) := by decide +kernel
theorem dX6_add_138 : decode cX6_add 138 = .ok (.aload_n 0, 1) := by decide +kernel
theorem dX6_add_139 : decode cX6_add 139 = .ok (.getfield 32, 3) := by decide +kernel
theorem dX6_add_142 : decode cX6_add 142 = .ok (.bipush 6, 2) := by decide +kernel
theorem dX6_add_144 : decode cX6_add 144 = .ok (.iload_n 1, 1) := by decide +kernel
theorem dX6_add_145 : decode cX6_add 145 = .ok (.imul, 1) := by decide +kernel
theorem dX6_add_146 : decode cX6_add 146 = .ok (.iload_n 3, 1) := by decide +kernel
theorem dX6_add_147 : decode cX6_add 147 = .ok (.iadd, 1) := by decide +kernel
theorem dX6_add_148 : decode cX6_add 148 = .ok (.iaload, 1) := by decide +kernel
theorem dX6_add_149 : decode cX6_add 149 = .ok (.bipush 8, 2) := by decide +kernel
theorem dX6_add_151 : decode cX6_add 151 = .ok (.if_icmp .ne 9, 3) := by decide +kernel
theorem dX6_add_154 : decode cX6_add 154 = .ok (.aload_n 0, 1) := by decide +kernel
theorem dX6_add_155 : decode cX6_add 155 = .ok (.iload_n 1, 1) := by decide +kernel
theorem dX6_add_156 : decode cX6_add 156 = .ok (.iload_n 3, 1) := by decide +kernel
theorem dX6_add_157 : decode cX6_add 157 = .ok (.invokevirtual 91, 3) := by decide +kernel
theorem dX6_add_160 : decode cX6_add 160 = .ok (.iinc 3 1, 3) := by decide +kernel
theorem dX6_add_163 : decode cX6_add 163 = .ok (.goto (-31), 3) := by decide +kernel
theorem dX6_add_166 : decode cX6_add 166 = .ok (.aload_n 0, 1) := by decide +kernel
theorem dX6_add_167 : decode cX6_add 167 = .ok (.getfield 38, 3) := by decide +kernel
theorem dX6_add_170 : decode cX6_add 170 = .ok (.iload_n 1, 1) := by decide +kernel
theorem dX6_add_171 : decode cX6_add 171 = .ok (.iaload, 1) := by decide +kernel
theorem dX6_add_172 : decode cX6_add 172 = .ok (.iconst 1, 1) := by decide +kernel
theorem dX6_add_173 : decode cX6_add 173 = .ok (.if_icmp .ne 17, 3) := by decide +kernel
theorem dX6_add_176 : decode cX6_add 176 = .ok (.iload_n 2, 1) := by decide +kernel
theorem dX6_add_177 : decode cX6_add 177 = .ok (.aload_n 0, 1) := by decide +kernel
theorem dX6_add_178 : decode cX6_add 178 = .ok (.getfield 41, 3) := by decide +kernel
theorem dX6_add_181 : decode cX6_add 181 = .ok (.iload_n 1, 1) := by decide +kernel
theorem dX6_add_182 : decode cX6_add 182 = .ok (.iaload, 1) := by decide +kernel
theorem dX6_add_183 : decode cX6_add 183 = .ok (.if_icmp .le 7, 3) := by decide +kernel
theorem dX6_add_186 : decode cX6_add 186 = .ok (.iconst 1, 1) := by decide +kernel
theorem dX6_add_187 : decode cX6_add 187 = .ok (.goto 4, 3) := by decide +kernel
theorem dX6_add_190 : decode cX6_add 190 = .ok (.iconst 0, 1) := by decide +kernel
theorem dX6_add_191 : decode cX6_add 191 = .ok (.istore_n 3, 1) := by decide +kernel
theorem dX6_add_192 : decode cX6_add 192 = .ok (.iload_n 3, 1) := by decide +kernel
theorem dX6_add_193 : decode cX6_add 193 = .ok (.ifCond .eq 22, 3) := by decide +kernel
theorem dX6_add_196 : decode cX6_add 196 = .ok (.aload_n 0, 1) := by decide +kernel
theorem dX6_add_197 : decode cX6_add 197 = .ok (.getfield 47, 3) := by decide +kernel
theorem dX6_add_200 : decode cX6_add 200 = .ok (.iload_n 1, 1) := by decide +kernel
theorem dX6_add_201 : decode cX6_add 201 = .ok (.iaload, 1) := by decide +kernel
theorem dX6_add_202 : decode cX6_add 202 = .ok (.ifCond .ne 13, 3) := by decide +kernel
theorem dX6_add_205 : decode cX6_add 205 = .ok (.aload_n 0, 1) := by decide +kernel
theorem dX6_add_206 : decode cX6_add 206 = .ok (.getfield 50, 3) := by decide +kernel
theorem dX6_add_209 : decode cX6_add 209 = .ok (.iload_n 1, 1) := by decide +kernel
theorem dX6_add_210 : decode cX6_add 210 = .ok (.aload_n 0, 1) := by decide +kernel
theorem dX6_add_211 : decode cX6_add 211 = .ok (.getfield 75, 3) := by decide +kernel
theorem dX6_add_214 : decode cX6_add 214 = .ok (.lastore, 1) := by decide +kernel
theorem dX6_add_215 : decode cX6_add 215 = .ok (.aload_n 0, 1) := by decide +kernel
theorem dX6_add_216 : decode cX6_add 216 = .ok (.getfield 47, 3) := by decide +kernel
theorem dX6_add_219 : decode cX6_add 219 = .ok (.iload_n 1, 1) := by decide +kernel
theorem dX6_add_220 : decode cX6_add 220 = .ok (.iload_n 3, 1) := by decide +kernel
theorem dX6_add_221 : decode cX6_add 221 = .ok (.ifCond .eq 7, 3) := by decide +kernel
theorem dX6_add_224 : decode cX6_add 224 = .ok (.iconst 1, 1) := by decide +kernel
theorem dX6_add_225 : decode cX6_add 225 = .ok (.goto 4, 3) := by decide +kernel
theorem dX6_add_228 : decode cX6_add 228 = .ok (.iconst 0, 1) := by decide +kernel
theorem dX6_add_229 : decode cX6_add 229 = .ok (.iastore, 1) := by decide +kernel
theorem dX6_add_230 : decode cX6_add 230 = .ok (.aload_n 0, 1) := by decide +kernel
theorem dX6_add_231 : decode cX6_add 231 = .ok (.getfield 16, 3) := by decide +kernel
theorem dX6_add_234 : decode cX6_add 234 = .ok (.iload_n 1, 1) := by decide +kernel
theorem dX6_add_235 : decode cX6_add 235 = .ok (.iaload, 1) := by decide +kernel
theorem dX6_add_236 : decode cX6_add 236 = .ok (.ireturn, 1) := by decide +kernel
theorem dX6_time__0 : decode cX6_time_ 0 = .ok (.aload_n 0, 1) := by decide +kernel
theorem dX6_time__1 : decode cX6_time_ 1 = .ok (.iconst 0, 1) := by decide +kernel
theorem dX6_time__2 : decode cX6_time_ 2 = .ok (.putfield 53, 3) := by decide +kernel
theorem dX6_time__5 : decode cX6_time_ 5 = .ok (.aload_n 0, 1) := by decide +kernel
theorem dX6_time__6 : decode cX6_time_ 6 = .ok (.getfield 75, 3) := by decide +kernel
theorem dX6_time__9 : decode cX6_time_ 9 = .ok (.lreturn, 1) := by decide +kernel
theorem dX6_seriesCount_0 : decode cX6_seriesCount 0 = .ok (.aload_n 0, 1) := by decide +kernel
theorem dX6_seriesCount_1 : decode cX6_seriesCount 1 = .ok (.iconst 0, 1) := by decide +kernel
theorem dX6_seriesCount_2 : decode cX6_seriesCount 2 = .ok (.putfield 53, 3) := by decide +kernel
theorem dX6_seriesCount_5 : decode cX6_seriesCount 5 = .ok (.aload_n 0, 1) := by decide +kernel
theorem dX6_seriesCount_6 : decode cX6_seriesCount 6 = .ok (.getfield 57, 3) := by decide +kernel
theorem dX6_seriesCount_9 : decode cX6_seriesCount 9 = .ok (.ireturn, 1) := by decide +kernel
theorem dX6_find_0 : decode cX6_find 0 = .ok (.aload_n 0, 1) := by decide +kernel
theorem dX6_find_1 : decode cX6_find 1 = .ok (.iload_n 1, 1) := by decide +kernel
theorem dX6_find_2 : decode cX6_find 2 = .ok (.iload_n 2, 1) := by decide +kernel
theorem dX6_find_3 : decode cX6_find 3 = .ok (.invokevirtual 72, 3) := by decide +kernel
theorem dX6_find_6 : decode cX6_find 6 = .ok (.istore_n 3, 1) := by decide +kernel
theorem dX6_find_7 : decode cX6_find 7 = .ok (.aload_n 0, 1) := by decide +kernel
theorem dX6_find_8 : decode cX6_find 8 = .ok (.iload_n 3, 1) := by decide +kernel
theorem dX6_find_9 : decode cX6_find 9 = .ok (.ifCond .ge 7, 3) := by decide +kernel
theorem dX6_find_12 : decode cX6_find 12 = .ok (.iconst 1, 1) := by decide +kernel
theorem dX6_find_13 : decode cX6_find 13 = .ok (.goto 4, 3) := by decide +kernel
theorem dX6_find_16 : decode cX6_find 16 = .ok (.iconst 0, 1) := by decide +kernel
theorem dX6_find_17 : decode cX6_find 17 = .ok (.putfield 53, 3) := by decide +kernel
theorem dX6_find_20 : decode cX6_find 20 = .ok (.iload_n 3, 1) := by decide +kernel
theorem dX6_find_21 : decode cX6_find 21 = .ok (.ifCond .ge 7, 3) := by decide +kernel
theorem dX6_find_24 : decode cX6_find 24 = .ok (.iconst 0, 1) := by decide +kernel
theorem dX6_find_25 : decode cX6_find 25 = .ok (.goto 4, 3) := by decide +kernel
theorem dX6_find_28 : decode cX6_find 28 = .ok (.iload_n 3, 1) := by decide +kernel
theorem dX6_find_29 : decode cX6_find 29 = .ok (.ireturn, 1) := by decide +kernel
theorem dX6_nameOf_0 : decode cX6_nameOf 0 = .ok (.aload_n 0, 1) := by decide +kernel
theorem dX6_nameOf_1 : decode cX6_nameOf 1 = .ok (.iload_n 1, 1) := by decide +kernel
theorem dX6_nameOf_2 : decode cX6_nameOf 2 = .ok (.invokevirtual 83, 3) := by decide +kernel
theorem dX6_nameOf_5 : decode cX6_nameOf 5 = .ok (.ifCond .eq 12, 3) := by decide +kernel
theorem dX6_nameOf_8 : decode cX6_nameOf 8 = .ok (.aload_n 0, 1) := by decide +kernel
theorem dX6_nameOf_9 : decode cX6_nameOf 9 = .ok (.getfield 7, 3) := by decide +kernel
theorem dX6_nameOf_12 : decode cX6_nameOf 12 = .ok (.iload_n 1, 1) := by decide +kernel
theorem dX6_nameOf_13 : decode cX6_nameOf 13 = .ok (.iaload, 1) := by decide +kernel
theorem dX6_nameOf_14 : decode cX6_nameOf 14 = .ok (.goto 4, 3) := by decide +kernel
theorem dX6_nameOf_17 : decode cX6_nameOf 17 = .ok (.iconst 0, 1) := by decide +kernel
theorem dX6_nameOf_18 : decode cX6_nameOf 18 = .ok (.ireturn, 1) := by decide +kernel
theorem dX6_hostOf_0 : decode cX6_hostOf 0 = .ok (.aload_n 0, 1) := by decide +kernel
theorem dX6_hostOf_1 : decode cX6_hostOf 1 = .ok (.iload_n 1, 1) := by decide +kernel
theorem dX6_hostOf_2 : decode cX6_hostOf 2 = .ok (.invokevirtual 83, 3) := by decide +kernel
theorem dX6_hostOf_5 : decode cX6_hostOf 5 = .ok (.ifCond .eq 12, 3) := by decide +kernel
theorem dX6_hostOf_8 : decode cX6_hostOf 8 = .ok (.aload_n 0, 1) := by decide +kernel
theorem dX6_hostOf_9 : decode cX6_hostOf 9 = .ok (.getfield 13, 3) := by decide +kernel
theorem dX6_hostOf_12 : decode cX6_hostOf 12 = .ok (.iload_n 1, 1) := by decide +kernel
theorem dX6_hostOf_13 : decode cX6_hostOf 13 = .ok (.iaload, 1) := by decide +kernel
theorem dX6_hostOf_14 : decode cX6_hostOf 14 = .ok (.goto 4, 3) := by decide +kernel
theorem dX6_hostOf_17 : decode cX6_hostOf 17 = .ok (.iconst 0, 1) := by decide +kernel
theorem dX6_hostOf_18 : decode cX6_hostOf 18 = .ok (.ireturn, 1) := by decide +kernel
theorem dX6_samples_0 : decode cX6_samples 0 = .ok (.aload_n 0, 1) := by decide +kernel
theorem dX6_samples_1 : decode cX6_samples 1 = .ok (.iload_n 1, 1) := by decide +kernel
theorem dX6_samples_2 : decode cX6_samples 2 = .ok (.invokevirtual 83, 3) := by decide +kernel
theorem dX6_samples_5 : decode cX6_samples 5 = .ok (.ifCond .eq 12, 3) := by decide +kernel
theorem dX6_samples_8 : decode cX6_samples 8 = .ok (.aload_n 0, 1) := by decide +kernel
theorem dX6_samples_9 : decode cX6_samples 9 = .ok (.getfield 16, 3) := by decide +kernel
theorem dX6_samples_12 : decode cX6_samples 12 = .ok (.iload_n 1, 1) := by decide +kernel
theorem dX6_samples_13 : decode cX6_samples 13 = .ok (.iaload, 1) := by decide +kernel
theorem dX6_samples_14 : decode cX6_samples 14 = .ok (.goto 4, 3) := by decide +kernel
theorem dX6_samples_17 : decode cX6_samples 17 = .ok (.iconst 0, 1) := by decide +kernel
theorem dX6_samples_18 : decode cX6_samples 18 = .ok (.ireturn, 1) := by decide +kernel
theorem dX6_latest_0 : decode cX6_latest 0 = .ok (.aload_n 0, 1) := by decide +kernel
theorem dX6_latest_1 : decode cX6_latest 1 = .ok (.iload_n 1, 1) := by decide +kernel
theorem dX6_latest_2 : decode cX6_latest 2 = .ok (.invokevirtual 83, 3) := by decide +kernel
theorem dX6_latest_5 : decode cX6_latest 5 = .ok (.ifCond .ne 5, 3) := by decide +kernel
theorem dX6_latest_8 : decode cX6_latest 8 = .ok (.iconst 0, 1) := by decide +kernel
theorem dX6_latest_9 : decode cX6_latest 9 = .ok (.ireturn, 1) := by decide +kernel
theorem dX6_latest_10 : decode cX6_latest 10 = .ok (.aload_n 0, 1) := by decide +kernel
theorem dX6_latest_11 : decode cX6_latest 11 = .ok (.aload_n 0, 1) := by decide +kernel
theorem dX6_latest_12 : decode cX6_latest 12 = .ok (.getfield 16, 3) := by decide +kernel
theorem dX6_latest_15 : decode cX6_latest 15 = .ok (.iload_n 1, 1) := by decide +kernel
theorem dX6_latest_16 : decode cX6_latest 16 = .ok (.iaload, 1) := by decide +kernel
theorem dX6_latest_17 : decode cX6_latest 17 = .ok (.ifCond .ne 7, 3) := by decide +kernel
theorem dX6_latest_20 : decode cX6_latest 20 = .ok (.iconst 2, 1) := by decide +kernel
theorem dX6_latest_21 : decode cX6_latest 21 = .ok (.goto 4, 3) := by decide +kernel
theorem dX6_latest_24 : decode cX6_latest 24 = .ok (.iconst 0, 1) := by decide +kernel
theorem dX6_latest_25 : decode cX6_latest 25 = .ok (.putfield 53, 3) := by decide +kernel
theorem dX6_latest_28 : decode cX6_latest 28 = .ok (.aload_n 0, 1) := by decide +kernel
theorem dX6_latest_29 : decode cX6_latest 29 = .ok (.getfield 53, 3) := by decide +kernel
theorem dX6_latest_32 : decode cX6_latest 32 = .ok (.ifCond .ne 11, 3) := by decide +kernel
theorem dX6_latest_35 : decode cX6_latest 35 = .ok (.aload_n 0, 1) := by decide +kernel
theorem dX6_latest_36 : decode cX6_latest 36 = .ok (.iload_n 1, 1) := by decide +kernel
theorem dX6_latest_37 : decode cX6_latest 37 = .ok (.invokevirtual 95, 3) := by decide +kernel
theorem dX6_latest_40 : decode cX6_latest 40 = .ok (.goto 4, 3) := by decide +kernel
theorem dX6_latest_43 : decode cX6_latest 43 = .ok (.iconst 0, 1) := by decide +kernel
theorem dX6_latest_44 : decode cX6_latest 44 = .ok (.ireturn, 1) := by decide +kernel
theorem dX6_many_0 : decode cX6_many 0 = .ok (.aload_n 0, 1) := by decide +kernel
theorem dX6_many_1 : decode cX6_many 1 = .ok (.getfield 16, 3) := by decide +kernel
theorem dX6_many_4 : decode cX6_many 4 = .ok (.iload_n 1, 1) := by decide +kernel
theorem dX6_many_5 : decode cX6_many 5 = .ok (.iaload, 1) := by decide +kernel
theorem dX6_many_6 : decode cX6_many 6 = .ok (.bipush 8, 2) := by decide +kernel
theorem dX6_many_8 : decode cX6_many 8 = .ok (.iadd, 1) := by decide +kernel
theorem dX6_many_9 : decode cX6_many 9 = .ok (.iconst 1, 1) := by decide +kernel
theorem dX6_many_10 : decode cX6_many 10 = .ok (.isub, 1) := by decide +kernel
theorem dX6_many_11 : decode cX6_many 11 = .ok (.bipush 8, 2) := by decide +kernel
theorem dX6_many_13 : decode cX6_many 13 = .ok (.idiv, 1) := by decide +kernel
theorem dX6_many_14 : decode cX6_many 14 = .ok (.ireturn, 1) := by decide +kernel
theorem dX6_blocks_0 : decode cX6_blocks 0 = .ok (.aload_n 0, 1) := by decide +kernel
theorem dX6_blocks_1 : decode cX6_blocks 1 = .ok (.iload_n 1, 1) := by decide +kernel
theorem dX6_blocks_2 : decode cX6_blocks 2 = .ok (.invokevirtual 83, 3) := by decide +kernel
theorem dX6_blocks_5 : decode cX6_blocks 5 = .ok (.ifCond .eq 11, 3) := by decide +kernel
theorem dX6_blocks_8 : decode cX6_blocks 8 = .ok (.aload_n 0, 1) := by decide +kernel
theorem dX6_blocks_9 : decode cX6_blocks 9 = .ok (.iload_n 1, 1) := by decide +kernel
theorem dX6_blocks_10 : decode cX6_blocks 10 = .ok (.invokevirtual 98, 3) := by decide +kernel
theorem dX6_blocks_13 : decode cX6_blocks 13 = .ok (.goto 4, 3) := by decide +kernel
theorem dX6_blocks_16 : decode cX6_blocks 16 = .ok (.iconst 0, 1) := by decide +kernel
theorem dX6_blocks_17 : decode cX6_blocks 17 = .ok (.ireturn, 1) := by decide +kernel
theorem dX6_bits_0 : decode cX6_bits 0 = .ok (.bipush 64, 2) := by decide +kernel
theorem dX6_bits_2 : decode cX6_bits 2 = .ok (.istore_n 3, 1) := by decide +kernel
theorem dX6_bits_3 : decode cX6_bits 3 = .ok (.bipush 8, 2) := by decide +kernel
theorem dX6_bits_5 : decode cX6_bits 5 = .ok (.iload_n 2, 1) := by decide +kernel
theorem dX6_bits_6 : decode cX6_bits 6 = .ok (.imul, 1) := by decide +kernel
theorem dX6_bits_7 : decode cX6_bits 7 = .ok (.iconst 1, 1) := by decide +kernel
theorem dX6_bits_8 : decode cX6_bits 8 = .ok (.iadd, 1) := by decide +kernel
theorem dX6_bits_9 : decode cX6_bits 9 = .ok (.istore 4, 2) := by decide +kernel
theorem dX6_bits_11 : decode cX6_bits 11 = .ok (.iload 4, 2) := by decide +kernel
theorem dX6_bits_13 : decode cX6_bits 13 = .ok (.aload_n 0, 1) := by decide +kernel
theorem dX6_bits_14 : decode cX6_bits 14 = .ok (.getfield 16, 3) := by decide +kernel
theorem dX6_bits_17 : decode cX6_bits 17 = .ok (.iload_n 1, 1) := by decide +kernel
theorem dX6_bits_18 : decode cX6_bits 18 = .ok (.iaload, 1) := by decide +kernel
theorem dX6_bits_19 : decode cX6_bits 19 = .ok (.if_icmp .ge 164, 3) := by decide +kernel
theorem dX6_bits_22 : decode cX6_bits 22 = .ok (.iload 4, 2) := by decide +kernel
theorem dX6_bits_24 : decode cX6_bits 24 = .ok (.bipush 8, 2) := by decide +kernel
theorem dX6_bits_26 : decode cX6_bits 26 = .ok (.iload_n 2, 1) := by decide +kernel
theorem dX6_bits_27 : decode cX6_bits 27 = .ok (.imul, 1) := by decide +kernel
theorem dX6_bits_28 : decode cX6_bits 28 = .ok (.bipush 8, 2) := by decide +kernel
theorem dX6_bits_30 : decode cX6_bits 30 = .ok (.iadd, 1) := by decide +kernel
theorem dX6_bits_31 : decode cX6_bits 31 = .ok (.if_icmp .ge 152, 3) := by decide +kernel
theorem dX6_bits_34 : decode cX6_bits 34 = .ok (.aload_n 0, 1) := by decide +kernel
theorem dX6_bits_35 : decode cX6_bits 35 = .ok (.iload_n 1, 1) := by decide +kernel
theorem dX6_bits_36 : decode cX6_bits 36 = .ok (.iload 4, 2) := by decide +kernel
theorem dX6_bits_38 : decode cX6_bits 38 = .ok (.invokevirtual 87, 3) := by decide +kernel
theorem dX6_bits_41 : decode cX6_bits 41 = .ok (.aload_n 0, 1) := by decide +kernel
theorem dX6_bits_42 : decode cX6_bits 42 = .ok (.iload_n 1, 1) := by decide +kernel
theorem dX6_bits_43 : decode cX6_bits 43 = .ok (.iload 4, 2) := by decide +kernel
theorem dX6_bits_45 : decode cX6_bits 45 = .ok (.iconst 1, 1) := by decide +kernel
theorem dX6_bits_46 : decode cX6_bits 46 = .ok (.isub, 1) := by decide +kernel
theorem dX6_bits_47 : decode cX6_bits 47 = .ok (.invokevirtual 87, 3) := by decide +kernel
theorem dX6_bits_50 : decode cX6_bits 50 = .ok (.lsub, 1) := by decide +kernel
theorem dX6_bits_51 : decode cX6_bits 51 = .ok (.lstore 5, 2) := by decide +kernel
theorem dX6_bits_53 : decode cX6_bits 53 = .ok (.iload 4, 2) := by decide +kernel
theorem dX6_bits_55 : decode cX6_bits 55 = .ok (.bipush 8, 2) := by decide +kernel
theorem dX6_bits_57 : decode cX6_bits 57 = .ok (.iload_n 2, 1) := by decide +kernel
theorem dX6_bits_58 : decode cX6_bits 58 = .ok (.imul, 1) := by decide +kernel
theorem dX6_bits_59 : decode cX6_bits 59 = .ok (.iconst 1, 1) := by decide +kernel
theorem dX6_bits_60 : decode cX6_bits 60 = .ok (.iadd, 1) := by decide +kernel
theorem dX6_bits_61 : decode cX6_bits 61 = .ok (.if_icmp .le 27, 3) := by decide +kernel
theorem dX6_bits_64 : decode cX6_bits 64 = .ok (.lload 5, 2) := by decide +kernel
theorem dX6_bits_66 : decode cX6_bits 66 = .ok (.aload_n 0, 1) := by decide +kernel
theorem dX6_bits_67 : decode cX6_bits 67 = .ok (.iload_n 1, 1) := by decide +kernel
theorem dX6_bits_68 : decode cX6_bits 68 = .ok (.iload 4, 2) := by decide +kernel
theorem dX6_bits_70 : decode cX6_bits 70 = .ok (.iconst 1, 1) := by decide +kernel
theorem dX6_bits_71 : decode cX6_bits 71 = .ok (.isub, 1) := by decide +kernel
theorem dX6_bits_72 : decode cX6_bits 72 = .ok (.invokevirtual 87, 3) := by decide +kernel
theorem dX6_bits_75 : decode cX6_bits 75 = .ok (.aload_n 0, 1) := by decide +kernel
theorem dX6_bits_76 : decode cX6_bits 76 = .ok (.iload_n 1, 1) := by decide +kernel
theorem dX6_bits_77 : decode cX6_bits 77 = .ok (.iload 4, 2) := by decide +kernel
theorem dX6_bits_79 : decode cX6_bits 79 = .ok (.iconst 2, 1) := by decide +kernel
theorem dX6_bits_80 : decode cX6_bits 80 = .ok (.isub, 1) := by decide +kernel
theorem dX6_bits_81 : decode cX6_bits 81 = .ok (.invokevirtual 87, 3) := by decide +kernel
theorem dX6_bits_84 : decode cX6_bits 84 = .ok (.lsub, 1) := by decide +kernel
theorem dX6_bits_85 : decode cX6_bits 85 = .ok (.lsub, 1) := by decide +kernel
theorem dX6_bits_86 : decode cX6_bits 86 = .ok (.lstore 5, 2) := by decide +kernel
theorem dX6_bits_88 : decode cX6_bits 88 = .ok (.aload_n 0, 1) := by decide +kernel
theorem dX6_bits_89 : decode cX6_bits 89 = .ok (.iload_n 1, 1) := by decide +kernel
theorem dX6_bits_90 : decode cX6_bits 90 = .ok (.iload 4, 2) := by decide +kernel
theorem dX6_bits_92 : decode cX6_bits 92 = .ok (.invokevirtual 64, 3) := by decide +kernel
theorem dX6_bits_95 : decode cX6_bits 95 = .ok (.aload_n 0, 1) := by decide +kernel
theorem dX6_bits_96 : decode cX6_bits 96 = .ok (.iload_n 1, 1) := by decide +kernel
theorem dX6_bits_97 : decode cX6_bits 97 = .ok (.iload 4, 2) := by decide +kernel
theorem dX6_bits_99 : decode cX6_bits 99 = .ok (.iconst 1, 1) := by decide +kernel
theorem dX6_bits_100 : decode cX6_bits 100 = .ok (.isub, 1) := by decide +kernel
theorem dX6_bits_101 : decode cX6_bits 101 = .ok (.invokevirtual 64, 3) := by decide +kernel
theorem dX6_bits_104 : decode cX6_bits 104 = .ok (.isub, 1) := by decide +kernel
theorem dX6_bits_105 : decode cX6_bits 105 = .ok (.istore 7, 2) := by decide +kernel
theorem dX6_bits_107 : decode cX6_bits 107 = .ok (.iload_n 3, 1) := by decide +kernel
theorem dX6_bits_108 : decode cX6_bits 108 = .ok (.lload 5, 2) := by decide +kernel
theorem dX6_bits_110 : decode cX6_bits 110 = .ok (.lconst 0, 1) := by decide +kernel
theorem dX6_bits_111 : decode cX6_bits 111 = .ok (.lcmp, 1) := by decide +kernel
theorem dX6_bits_112 : decode cX6_bits 112 = .ok (.ifCond .ne 7, 3) := by decide +kernel
theorem dX6_bits_115 : decode cX6_bits 115 = .ok (.iconst 1, 1) := by decide +kernel
theorem dX6_bits_116 : decode cX6_bits 116 = .ok (.goto 28, 3) := by decide +kernel
theorem dX6_bits_119 : decode cX6_bits 119 = .ok (.lload 5, 2) := by decide +kernel
theorem dX6_bits_121 : decode cX6_bits 121 = .ok (.ldc2_w 100, 3) := by decide +kernel
theorem dX6_bits_124 : decode cX6_bits 124 = .ok (.lcmp, 1) := by decide +kernel
theorem dX6_bits_125 : decode cX6_bits 125 = .ok (.ifCond .lt 17, 3) := by decide +kernel
theorem dX6_bits_128 : decode cX6_bits 128 = .ok (.lload 5, 2) := by decide +kernel
theorem dX6_bits_130 : decode cX6_bits 130 = .ok (.ldc2_w 102, 3) := by decide +kernel
theorem dX6_bits_133 : decode cX6_bits 133 = .ok (.lcmp, 1) := by decide +kernel
theorem dX6_bits_134 : decode cX6_bits 134 = .ok (.ifCond .gt 8, 3) := by decide +kernel
theorem dX6_bits_137 : decode cX6_bits 137 = .ok (.bipush 6, 2) := by decide +kernel
theorem dX6_bits_139 : decode cX6_bits 139 = .ok (.goto 5, 3) := by decide +kernel
theorem dX6_bits_142 : decode cX6_bits 142 = .ok (.bipush 15, 2) := by decide +kernel
theorem dX6_bits_144 : decode cX6_bits 144 = .ok (.iadd, 1) := by decide +kernel
theorem dX6_bits_145 : decode cX6_bits 145 = .ok (.istore_n 3, 1) := by decide +kernel
theorem dX6_bits_146 : decode cX6_bits 146 = .ok (.iload_n 3, 1) := by decide +kernel
theorem dX6_bits_147 : decode cX6_bits 147 = .ok (.iload 7, 2) := by decide +kernel
theorem dX6_bits_149 : decode cX6_bits 149 = .ok (.ifCond .ne 7, 3) := by decide +kernel
theorem dX6_bits_152 : decode cX6_bits 152 = .ok (.iconst 1, 1) := by decide +kernel
theorem dX6_bits_153 : decode cX6_bits 153 = .ok (.goto 22, 3) := by decide +kernel
theorem dX6_bits_156 : decode cX6_bits 156 = .ok (.iload 7, 2) := by decide +kernel
theorem dX6_bits_158 : decode cX6_bits 158 = .ok (.bipush (-31), 2) := by decide +kernel
theorem dX6_bits_160 : decode cX6_bits 160 = .ok (.bipush 32, 2) := by decide +kernel
theorem dX6_bits_162 : decode cX6_bits 162 = .ok (.invokestatic 60, 3) := by decide +kernel
theorem dX6_bits_165 : decode cX6_bits 165 = .ok (.ifCond .eq 8, 3) := by decide +kernel
theorem dX6_bits_168 : decode cX6_bits 168 = .ok (.bipush 8, 2) := by decide +kernel
theorem dX6_bits_170 : decode cX6_bits 170 = .ok (.goto 5, 3) := by decide +kernel
theorem dX6_bits_173 : decode cX6_bits 173 = .ok (.bipush 18, 2) := by decide +kernel
theorem dX6_bits_175 : decode cX6_bits 175 = .ok (.iadd, 1) := by decide +kernel
theorem dX6_bits_176 : decode cX6_bits 176 = .ok (.istore_n 3, 1) := by decide +kernel
theorem dX6_bits_177 : decode cX6_bits 177 = .ok (.iinc 4 1, 3) := by decide +kernel
theorem dX6_bits_180 : decode cX6_bits 180 = .ok (.goto (-169), 3) := by decide +kernel
theorem dX6_bits_183 : decode cX6_bits 183 = .ok (.iload_n 3, 1) := by decide +kernel
theorem dX6_bits_184 : decode cX6_bits 184 = .ok (.ireturn, 1) := by decide +kernel
theorem dX6_bitsOf_0 : decode cX6_bitsOf 0 = .ok (.aload_n 0, 1) := by decide +kernel
theorem dX6_bitsOf_1 : decode cX6_bitsOf 1 = .ok (.iload_n 1, 1) := by decide +kernel
theorem dX6_bitsOf_2 : decode cX6_bitsOf 2 = .ok (.invokevirtual 83, 3) := by decide +kernel
theorem dX6_bitsOf_5 : decode cX6_bitsOf 5 = .ok (.ifCond .ne 5, 3) := by decide +kernel
theorem dX6_bitsOf_8 : decode cX6_bitsOf 8 = .ok (.iconst 0, 1) := by decide +kernel
theorem dX6_bitsOf_9 : decode cX6_bitsOf 9 = .ok (.ireturn, 1) := by decide +kernel
theorem dX6_bitsOf_10 : decode cX6_bitsOf 10 = .ok (.aload_n 0, 1) := by decide +kernel
theorem dX6_bitsOf_11 : decode cX6_bitsOf 11 = .ok (.iload_n 2, 1) := by decide +kernel
theorem dX6_bitsOf_12 : decode cX6_bitsOf 12 = .ok (.iconst 0, 1) := by decide +kernel
theorem dX6_bitsOf_13 : decode cX6_bitsOf 13 = .ok (.aload_n 0, 1) := by decide +kernel
theorem dX6_bitsOf_14 : decode cX6_bitsOf 14 = .ok (.iload_n 1, 1) := by decide +kernel
theorem dX6_bitsOf_15 : decode cX6_bitsOf 15 = .ok (.invokevirtual 98, 3) := by decide +kernel
theorem dX6_bitsOf_18 : decode cX6_bitsOf 18 = .ok (.iconst 1, 1) := by decide +kernel
theorem dX6_bitsOf_19 : decode cX6_bitsOf 19 = .ok (.isub, 1) := by decide +kernel
theorem dX6_bitsOf_20 : decode cX6_bitsOf 20 = .ok (.invokestatic 60, 3) := by decide +kernel
theorem dX6_bitsOf_23 : decode cX6_bitsOf 23 = .ok (.ifCond .eq 7, 3) := by decide +kernel
theorem dX6_bitsOf_26 : decode cX6_bitsOf 26 = .ok (.iconst 0, 1) := by decide +kernel
theorem dX6_bitsOf_27 : decode cX6_bitsOf 27 = .ok (.goto 4, 3) := by decide +kernel
theorem dX6_bitsOf_30 : decode cX6_bitsOf 30 = .ok (.iconst 2, 1) := by decide +kernel
theorem dX6_bitsOf_31 : decode cX6_bitsOf 31 = .ok (.putfield 53, 3) := by decide +kernel
theorem dX6_bitsOf_34 : decode cX6_bitsOf 34 = .ok (.aload_n 0, 1) := by decide +kernel
theorem dX6_bitsOf_35 : decode cX6_bitsOf 35 = .ok (.getfield 53, 3) := by decide +kernel
theorem dX6_bitsOf_38 : decode cX6_bitsOf 38 = .ok (.ifCond .ne 12, 3) := by decide +kernel
theorem dX6_bitsOf_41 : decode cX6_bitsOf 41 = .ok (.aload_n 0, 1) := by decide +kernel
theorem dX6_bitsOf_42 : decode cX6_bitsOf 42 = .ok (.iload_n 1, 1) := by decide +kernel
theorem dX6_bitsOf_43 : decode cX6_bitsOf 43 = .ok (.iload_n 2, 1) := by decide +kernel
theorem dX6_bitsOf_44 : decode cX6_bitsOf 44 = .ok (.invokevirtual 104, 3) := by decide +kernel
theorem dX6_bitsOf_47 : decode cX6_bitsOf 47 = .ok (.goto 4, 3) := by decide +kernel
theorem dX6_bitsOf_50 : decode cX6_bitsOf 50 = .ok (.iconst 0, 1) := by decide +kernel
theorem dX6_bitsOf_51 : decode cX6_bitsOf 51 = .ok (.ireturn, 1) := by decide +kernel
theorem dX6_isSample_0 : decode cX6_isSample 0 = .ok (.aload_n 0, 1) := by decide +kernel
theorem dX6_isSample_1 : decode cX6_isSample 1 = .ok (.iload_n 1, 1) := by decide +kernel
theorem dX6_isSample_2 : decode cX6_isSample 2 = .ok (.invokevirtual 83, 3) := by decide +kernel
theorem dX6_isSample_5 : decode cX6_isSample 5 = .ok (.ifCond .eq 24, 3) := by decide +kernel
theorem dX6_isSample_8 : decode cX6_isSample 8 = .ok (.iload_n 2, 1) := by decide +kernel
theorem dX6_isSample_9 : decode cX6_isSample 9 = .ok (.iconst 0, 1) := by decide +kernel
theorem dX6_isSample_10 : decode cX6_isSample 10 = .ok (.aload_n 0, 1) := by decide +kernel
theorem dX6_isSample_11 : decode cX6_isSample 11 = .ok (.getfield 16, 3) := by decide +kernel
theorem dX6_isSample_14 : decode cX6_isSample 14 = .ok (.iload_n 1, 1) := by decide +kernel
theorem dX6_isSample_15 : decode cX6_isSample 15 = .ok (.iaload, 1) := by decide +kernel
theorem dX6_isSample_16 : decode cX6_isSample 16 = .ok (.iconst 1, 1) := by decide +kernel
theorem dX6_isSample_17 : decode cX6_isSample 17 = .ok (.isub, 1) := by decide +kernel
theorem dX6_isSample_18 : decode cX6_isSample 18 = .ok (.invokestatic 60, 3) := by decide +kernel
theorem dX6_isSample_21 : decode cX6_isSample 21 = .ok (.ifCond .ne 8, 3) := by decide +kernel
theorem dX6_isSample_24 : decode cX6_isSample 24 = .ok (.aload_n 0, 1) := by decide +kernel
theorem dX6_isSample_25 : decode cX6_isSample 25 = .ok (.iconst 2, 1) := by decide +kernel
theorem dX6_isSample_26 : decode cX6_isSample 26 = .ok (.putfield 53, 3) := by decide +kernel
theorem dX6_isSample_29 : decode cX6_isSample 29 = .ok (.aload_n 0, 1) := by decide +kernel
theorem dX6_isSample_30 : decode cX6_isSample 30 = .ok (.getfield 53, 3) := by decide +kernel
theorem dX6_isSample_33 : decode cX6_isSample 33 = .ok (.ifCond .ne 7, 3) := by decide +kernel
theorem dX6_isSample_36 : decode cX6_isSample 36 = .ok (.iconst 1, 1) := by decide +kernel
theorem dX6_isSample_37 : decode cX6_isSample 37 = .ok (.goto 4, 3) := by decide +kernel
theorem dX6_isSample_40 : decode cX6_isSample 40 = .ok (.iconst 0, 1) := by decide +kernel
theorem dX6_isSample_41 : decode cX6_isSample 41 = .ok (.ireturn, 1) := by decide +kernel
theorem dX6_timeAt_0 : decode cX6_timeAt 0 = .ok (.aload_n 0, 1) := by decide +kernel
theorem dX6_timeAt_1 : decode cX6_timeAt 1 = .ok (.iload_n 1, 1) := by decide +kernel
theorem dX6_timeAt_2 : decode cX6_timeAt 2 = .ok (.iload_n 2, 1) := by decide +kernel
theorem dX6_timeAt_3 : decode cX6_timeAt 3 = .ok (.invokevirtual 107, 3) := by decide +kernel
theorem dX6_timeAt_6 : decode cX6_timeAt 6 = .ok (.ifCond .eq 12, 3) := by decide +kernel
theorem dX6_timeAt_9 : decode cX6_timeAt 9 = .ok (.aload_n 0, 1) := by decide +kernel
theorem dX6_timeAt_10 : decode cX6_timeAt 10 = .ok (.iload_n 1, 1) := by decide +kernel
theorem dX6_timeAt_11 : decode cX6_timeAt 11 = .ok (.iload_n 2, 1) := by decide +kernel
theorem dX6_timeAt_12 : decode cX6_timeAt 12 = .ok (.invokevirtual 87, 3) := by decide +kernel
theorem dX6_timeAt_15 : decode cX6_timeAt 15 = .ok (.goto 4, 3) := by decide +kernel
theorem dX6_timeAt_18 : decode cX6_timeAt 18 = .ok (.lconst 0, 1) := by decide +kernel
theorem dX6_timeAt_19 : decode cX6_timeAt 19 = .ok (.lreturn, 1) := by decide +kernel
theorem dX6_valueAt_0 : decode cX6_valueAt 0 = .ok (.aload_n 0, 1) := by decide +kernel
theorem dX6_valueAt_1 : decode cX6_valueAt 1 = .ok (.iload_n 1, 1) := by decide +kernel
theorem dX6_valueAt_2 : decode cX6_valueAt 2 = .ok (.iload_n 2, 1) := by decide +kernel
theorem dX6_valueAt_3 : decode cX6_valueAt 3 = .ok (.invokevirtual 107, 3) := by decide +kernel
theorem dX6_valueAt_6 : decode cX6_valueAt 6 = .ok (.ifCond .eq 12, 3) := by decide +kernel
theorem dX6_valueAt_9 : decode cX6_valueAt 9 = .ok (.aload_n 0, 1) := by decide +kernel
theorem dX6_valueAt_10 : decode cX6_valueAt 10 = .ok (.iload_n 1, 1) := by decide +kernel
theorem dX6_valueAt_11 : decode cX6_valueAt 11 = .ok (.iload_n 2, 1) := by decide +kernel
theorem dX6_valueAt_12 : decode cX6_valueAt 12 = .ok (.invokevirtual 64, 3) := by decide +kernel
theorem dX6_valueAt_15 : decode cX6_valueAt 15 = .ok (.goto 4, 3) := by decide +kernel
theorem dX6_valueAt_18 : decode cX6_valueAt 18 = .ok (.iconst 0, 1) := by decide +kernel
theorem dX6_valueAt_19 : decode cX6_valueAt 19 = .ok (.ireturn, 1) := by decide +kernel
theorem dX6_allBits_0 : decode cX6_allBits 0 = .ok (.aload_n 0, 1) := by decide +kernel
theorem dX6_allBits_1 : decode cX6_allBits 1 = .ok (.iconst 0, 1) := by decide +kernel
theorem dX6_allBits_2 : decode cX6_allBits 2 = .ok (.putfield 53, 3) := by decide +kernel
theorem dX6_allBits_5 : decode cX6_allBits 5 = .ok (.lconst 0, 1) := by decide +kernel
theorem dX6_allBits_6 : decode cX6_allBits 6 = .ok (.lstore_n 1, 1) := by decide +kernel
theorem dX6_allBits_7 : decode cX6_allBits 7 = .ok (.iconst 0, 1) := by decide +kernel
theorem dX6_allBits_8 : decode cX6_allBits 8 = .ok (.istore_n 3, 1) := by decide +kernel
theorem dX6_allBits_9 : decode cX6_allBits 9 = .ok (.iload_n 3, 1) := by decide +kernel
theorem dX6_allBits_10 : decode cX6_allBits 10 = .ok (.aload_n 0, 1) := by decide +kernel
theorem dX6_allBits_11 : decode cX6_allBits 11 = .ok (.getfield 57, 3) := by decide +kernel
theorem dX6_allBits_14 : decode cX6_allBits 14 = .ok (.if_icmp .ge 39, 3) := by decide +kernel
theorem dX6_allBits_17 : decode cX6_allBits 17 = .ok (.iconst 0, 1) := by decide +kernel
theorem dX6_allBits_18 : decode cX6_allBits 18 = .ok (.istore 4, 2) := by decide +kernel
theorem dX6_allBits_20 : decode cX6_allBits 20 = .ok (.iload 4, 2) := by decide +kernel
theorem dX6_allBits_22 : decode cX6_allBits 22 = .ok (.aload_n 0, 1) := by decide +kernel
theorem dX6_allBits_23 : decode cX6_allBits 23 = .ok (.iload_n 3, 1) := by decide +kernel
theorem dX6_allBits_24 : decode cX6_allBits 24 = .ok (.invokevirtual 98, 3) := by decide +kernel
theorem dX6_allBits_27 : decode cX6_allBits 27 = .ok (.if_icmp .ge 20, 3) := by decide +kernel
theorem dX6_allBits_30 : decode cX6_allBits 30 = .ok (.lload_n 1, 1) := by decide +kernel
theorem dX6_allBits_31 : decode cX6_allBits 31 = .ok (.aload_n 0, 1) := by decide +kernel
theorem dX6_allBits_32 : decode cX6_allBits 32 = .ok (.iload_n 3, 1) := by decide +kernel
theorem dX6_allBits_33 : decode cX6_allBits 33 = .ok (.iload 4, 2) := by decide +kernel
theorem dX6_allBits_35 : decode cX6_allBits 35 = .ok (.invokevirtual 104, 3) := by decide +kernel
theorem dX6_allBits_38 : decode cX6_allBits 38 = .ok (.i2l, 1) := by decide +kernel
theorem dX6_allBits_39 : decode cX6_allBits 39 = .ok (.ladd, 1) := by decide +kernel
theorem dX6_allBits_40 : decode cX6_allBits 40 = .ok (.lstore_n 1, 1) := by decide +kernel
theorem dX6_allBits_41 : decode cX6_allBits 41 = .ok (.iinc 4 1, 3) := by decide +kernel
theorem dX6_allBits_44 : decode cX6_allBits 44 = .ok (.goto (-24), 3) := by decide +kernel
theorem dX6_allBits_47 : decode cX6_allBits 47 = .ok (.iinc 3 1, 3) := by decide +kernel
theorem dX6_allBits_50 : decode cX6_allBits 50 = .ok (.goto (-41), 3) := by decide +kernel
theorem dX6_allBits_53 : decode cX6_allBits 53 = .ok (.lload_n 1, 1) := by decide +kernel
theorem dX6_allBits_54 : decode cX6_allBits 54 = .ok (.lreturn, 1) := by decide +kernel
theorem dX6_isRange_0 : decode cX6_isRange 0 = .ok (.aload_n 0, 1) := by decide +kernel
theorem dX6_isRange_1 : decode cX6_isRange 1 = .ok (.iload_n 1, 1) := by decide +kernel
theorem dX6_isRange_2 : decode cX6_isRange 2 = .ok (.invokevirtual 83, 3) := by decide +kernel
theorem dX6_isRange_5 : decode cX6_isRange 5 = .ok (.ifCond .eq 21, 3) := by decide +kernel
theorem dX6_isRange_8 : decode cX6_isRange 8 = .ok (.lload_n 2, 1) := by decide +kernel
theorem dX6_isRange_9 : decode cX6_isRange 9 = .ok (.lconst 0, 1) := by decide +kernel
theorem dX6_isRange_10 : decode cX6_isRange 10 = .ok (.lcmp, 1) := by decide +kernel
theorem dX6_isRange_11 : decode cX6_isRange 11 = .ok (.ifCond .lt 10, 3) := by decide +kernel
theorem dX6_isRange_14 : decode cX6_isRange 14 = .ok (.lload_n 2, 1) := by decide +kernel
theorem dX6_isRange_15 : decode cX6_isRange 15 = .ok (.lload 4, 2) := by decide +kernel
theorem dX6_isRange_17 : decode cX6_isRange 17 = .ok (.lcmp, 1) := by decide +kernel
theorem dX6_isRange_18 : decode cX6_isRange 18 = .ok (.ifCond .le 8, 3) := by decide +kernel
theorem dX6_isRange_21 : decode cX6_isRange 21 = .ok (.aload_n 0, 1) := by decide +kernel
theorem dX6_isRange_22 : decode cX6_isRange 22 = .ok (.iconst 2, 1) := by decide +kernel
theorem dX6_isRange_23 : decode cX6_isRange 23 = .ok (.putfield 53, 3) := by decide +kernel
theorem dX6_isRange_26 : decode cX6_isRange 26 = .ok (.aload_n 0, 1) := by decide +kernel
theorem dX6_isRange_27 : decode cX6_isRange 27 = .ok (.getfield 53, 3) := by decide +kernel
theorem dX6_isRange_30 : decode cX6_isRange 30 = .ok (.ifCond .ne 7, 3) := by decide +kernel
theorem dX6_isRange_33 : decode cX6_isRange 33 = .ok (.iconst 1, 1) := by decide +kernel
theorem dX6_isRange_34 : decode cX6_isRange 34 = .ok (.goto 4, 3) := by decide +kernel
theorem dX6_isRange_37 : decode cX6_isRange 37 = .ok (.iconst 0, 1) := by decide +kernel
theorem dX6_isRange_38 : decode cX6_isRange 38 = .ok (.ireturn, 1) := by decide +kernel
theorem dX6_isInside_0 : decode cX6_isInside 0 = .ok (.aload_n 0, 1) := by decide +kernel
theorem dX6_isInside_1 : decode cX6_isInside 1 = .ok (.iload_n 1, 1) := by decide +kernel
theorem dX6_isInside_2 : decode cX6_isInside 2 = .ok (.iload_n 2, 1) := by decide +kernel
theorem dX6_isInside_3 : decode cX6_isInside 3 = .ok (.invokevirtual 87, 3) := by decide +kernel
theorem dX6_isInside_6 : decode cX6_isInside 6 = .ok (.lload_n 3, 1) := by decide +kernel
theorem dX6_isInside_7 : decode cX6_isInside 7 = .ok (.lcmp, 1) := by decide +kernel
theorem dX6_isInside_8 : decode cX6_isInside 8 = .ok (.ifCond .lt 19, 3) := by decide +kernel
theorem dX6_isInside_11 : decode cX6_isInside 11 = .ok (.aload_n 0, 1) := by decide +kernel
theorem dX6_isInside_12 : decode cX6_isInside 12 = .ok (.iload_n 1, 1) := by decide +kernel
theorem dX6_isInside_13 : decode cX6_isInside 13 = .ok (.iload_n 2, 1) := by decide +kernel
theorem dX6_isInside_14 : decode cX6_isInside 14 = .ok (.invokevirtual 87, 3) := by decide +kernel
theorem dX6_isInside_17 : decode cX6_isInside 17 = .ok (.lload 5, 2) := by decide +kernel
theorem dX6_isInside_19 : decode cX6_isInside 19 = .ok (.lcmp, 1) := by decide +kernel
theorem dX6_isInside_20 : decode cX6_isInside 20 = .ok (.ifCond .gt 7, 3) := by decide +kernel
theorem dX6_isInside_23 : decode cX6_isInside 23 = .ok (.iconst 1, 1) := by decide +kernel
theorem dX6_isInside_24 : decode cX6_isInside 24 = .ok (.goto 4, 3) := by decide +kernel
theorem dX6_isInside_27 : decode cX6_isInside 27 = .ok (.iconst 0, 1) := by decide +kernel
theorem dX6_isInside_28 : decode cX6_isInside 28 = .ok (.ireturn, 1) := by decide +kernel
theorem dX6_counted_0 : decode cX6_counted 0 = .ok (.iconst 0, 1) := by decide +kernel
theorem dX6_counted_1 : decode cX6_counted 1 = .ok (.istore 6, 2) := by decide +kernel
theorem dX6_counted_3 : decode cX6_counted 3 = .ok (.iconst 0, 1) := by decide +kernel
theorem dX6_counted_4 : decode cX6_counted 4 = .ok (.istore 7, 2) := by decide +kernel
theorem dX6_counted_6 : decode cX6_counted 6 = .ok (.iload 7, 2) := by decide +kernel
theorem dX6_counted_8 : decode cX6_counted 8 = .ok (.aload_n 0, 1) := by decide +kernel
theorem dX6_counted_9 : decode cX6_counted 9 = .ok (.getfield 16, 3) := by decide +kernel
theorem dX6_counted_12 : decode cX6_counted 12 = .ok (.iload_n 1, 1) := by decide +kernel
theorem dX6_counted_13 : decode cX6_counted 13 = .ok (.iaload, 1) := by decide +kernel
theorem dX6_counted_14 : decode cX6_counted 14 = .ok (.if_icmp .ge 32, 3) := by decide +kernel
theorem dX6_counted_17 : decode cX6_counted 17 = .ok (.iload 6, 2) := by decide +kernel
theorem dX6_counted_19 : decode cX6_counted 19 = .ok (.aload_n 0, 1) := by decide +kernel
theorem dX6_counted_20 : decode cX6_counted 20 = .ok (.iload_n 1, 1) := by decide +kernel
theorem dX6_counted_21 : decode cX6_counted 21 = .ok (.iload 7, 2) := by decide +kernel
theorem dX6_counted_23 : decode cX6_counted 23 = .ok (.lload_n 2, 1) := by decide +kernel
theorem dX6_counted_24 : decode cX6_counted 24 = .ok (.lload 4, 2) := by decide +kernel
theorem dX6_counted_26 : decode cX6_counted 26 = .ok (.invokevirtual 111, 3) := by decide +kernel
theorem dX6_counted_29 : decode cX6_counted 29 = .ok (.ifCond .eq 7, 3) := by decide +kernel
theorem dX6_counted_32 : decode cX6_counted 32 = .ok (.iconst 1, 1) := by decide +kernel
theorem dX6_counted_33 : decode cX6_counted 33 = .ok (.goto 4, 3) := by decide +kernel
theorem dX6_counted_36 : decode cX6_counted 36 = .ok (.iconst 0, 1) := by decide +kernel
theorem dX6_counted_37 : decode cX6_counted 37 = .ok (.iadd, 1) := by decide +kernel
theorem dX6_counted_38 : decode cX6_counted 38 = .ok (.istore 6, 2) := by decide +kernel
theorem dX6_counted_40 : decode cX6_counted 40 = .ok (.iinc 7 1, 3) := by decide +kernel
theorem dX6_counted_43 : decode cX6_counted 43 = .ok (.goto (-37), 3) := by decide +kernel
theorem dX6_counted_46 : decode cX6_counted 46 = .ok (.iload 6, 2) := by decide +kernel
theorem dX6_counted_48 : decode cX6_counted 48 = .ok (.ireturn, 1) := by decide +kernel
theorem dX6_summed_0 : decode cX6_summed 0 = .ok (.lconst 0, 1) := by decide +kernel
theorem dX6_summed_1 : decode cX6_summed 1 = .ok (.lstore 6, 2) := by decide +kernel
theorem dX6_summed_3 : decode cX6_summed 3 = .ok (.iconst 0, 1) := by decide +kernel
theorem dX6_summed_4 : decode cX6_summed 4 = .ok (.istore 8, 2) := by decide +kernel
theorem dX6_summed_6 : decode cX6_summed 6 = .ok (.iload 8, 2) := by decide +kernel
theorem dX6_summed_8 : decode cX6_summed 8 = .ok (.aload_n 0, 1) := by decide +kernel
theorem dX6_summed_9 : decode cX6_summed 9 = .ok (.getfield 16, 3) := by decide +kernel
theorem dX6_summed_12 : decode cX6_summed 12 = .ok (.iload_n 1, 1) := by decide +kernel
theorem dX6_summed_13 : decode cX6_summed 13 = .ok (.iaload, 1) := by decide +kernel
theorem dX6_summed_14 : decode cX6_summed 14 = .ok (.if_icmp .ge 39, 3) := by decide +kernel
theorem dX6_summed_17 : decode cX6_summed 17 = .ok (.lload 6, 2) := by decide +kernel
theorem dX6_summed_19 : decode cX6_summed 19 = .ok (.aload_n 0, 1) := by decide +kernel
theorem dX6_summed_20 : decode cX6_summed 20 = .ok (.iload_n 1, 1) := by decide +kernel
theorem dX6_summed_21 : decode cX6_summed 21 = .ok (.iload 8, 2) := by decide +kernel
theorem dX6_summed_23 : decode cX6_summed 23 = .ok (.lload_n 2, 1) := by decide +kernel
theorem dX6_summed_24 : decode cX6_summed 24 = .ok (.lload 4, 2) := by decide +kernel
theorem dX6_summed_26 : decode cX6_summed 26 = .ok (.invokevirtual 111, 3) := by decide +kernel
theorem dX6_summed_29 : decode cX6_summed 29 = .ok (.ifCond .eq 14, 3) := by decide +kernel
theorem dX6_summed_32 : decode cX6_summed 32 = .ok (.aload_n 0, 1) := by decide +kernel
theorem dX6_summed_33 : decode cX6_summed 33 = .ok (.iload_n 1, 1) := by decide +kernel
theorem dX6_summed_34 : decode cX6_summed 34 = .ok (.iload 8, 2) := by decide +kernel
theorem dX6_summed_36 : decode cX6_summed 36 = .ok (.invokevirtual 64, 3) := by decide +kernel
theorem dX6_summed_39 : decode cX6_summed 39 = .ok (.i2l, 1) := by decide +kernel
theorem dX6_summed_40 : decode cX6_summed 40 = .ok (.goto 4, 3) := by decide +kernel
theorem dX6_summed_43 : decode cX6_summed 43 = .ok (.lconst 0, 1) := by decide +kernel
theorem dX6_summed_44 : decode cX6_summed 44 = .ok (.ladd, 1) := by decide +kernel
theorem dX6_summed_45 : decode cX6_summed 45 = .ok (.lstore 6, 2) := by decide +kernel
theorem dX6_summed_47 : decode cX6_summed 47 = .ok (.iinc 8 1, 3) := by decide +kernel
theorem dX6_summed_50 : decode cX6_summed 50 = .ok (.goto (-44), 3) := by decide +kernel
theorem dX6_summed_53 : decode cX6_summed 53 = .ok (.lload 6, 2) := by decide +kernel
theorem dX6_summed_55 : decode cX6_summed 55 = .ok (.lreturn, 1) := by decide +kernel
theorem dX6_count_0 : decode cX6_count 0 = .ok (.aload_n 0, 1) := by decide +kernel
theorem dX6_count_1 : decode cX6_count 1 = .ok (.iload_n 1, 1) := by decide +kernel
theorem dX6_count_2 : decode cX6_count 2 = .ok (.lload_n 2, 1) := by decide +kernel
theorem dX6_count_3 : decode cX6_count 3 = .ok (.lload 4, 2) := by decide +kernel
theorem dX6_count_5 : decode cX6_count 5 = .ok (.invokevirtual 115, 3) := by decide +kernel
theorem dX6_count_8 : decode cX6_count 8 = .ok (.ifCond .eq 14, 3) := by decide +kernel
theorem dX6_count_11 : decode cX6_count 11 = .ok (.aload_n 0, 1) := by decide +kernel
theorem dX6_count_12 : decode cX6_count 12 = .ok (.iload_n 1, 1) := by decide +kernel
theorem dX6_count_13 : decode cX6_count 13 = .ok (.lload_n 2, 1) := by decide +kernel
theorem dX6_count_14 : decode cX6_count 14 = .ok (.lload 4, 2) := by decide +kernel
theorem dX6_count_16 : decode cX6_count 16 = .ok (.invokevirtual 119, 3) := by decide +kernel
theorem dX6_count_19 : decode cX6_count 19 = .ok (.goto 4, 3) := by decide +kernel
theorem dX6_count_22 : decode cX6_count 22 = .ok (.iconst 0, 1) := by decide +kernel
theorem dX6_count_23 : decode cX6_count 23 = .ok (.ireturn, 1) := by decide +kernel
theorem dX6_sum_0 : decode cX6_sum 0 = .ok (.aload_n 0, 1) := by decide +kernel
theorem dX6_sum_1 : decode cX6_sum 1 = .ok (.iload_n 1, 1) := by decide +kernel
theorem dX6_sum_2 : decode cX6_sum 2 = .ok (.lload_n 2, 1) := by decide +kernel
theorem dX6_sum_3 : decode cX6_sum 3 = .ok (.lload 4, 2) := by decide +kernel
theorem dX6_sum_5 : decode cX6_sum 5 = .ok (.invokevirtual 115, 3) := by decide +kernel
theorem dX6_sum_8 : decode cX6_sum 8 = .ok (.ifCond .eq 14, 3) := by decide +kernel
theorem dX6_sum_11 : decode cX6_sum 11 = .ok (.aload_n 0, 1) := by decide +kernel
theorem dX6_sum_12 : decode cX6_sum 12 = .ok (.iload_n 1, 1) := by decide +kernel
theorem dX6_sum_13 : decode cX6_sum 13 = .ok (.lload_n 2, 1) := by decide +kernel
theorem dX6_sum_14 : decode cX6_sum 14 = .ok (.lload 4, 2) := by decide +kernel
theorem dX6_sum_16 : decode cX6_sum 16 = .ok (.invokevirtual 123, 3) := by decide +kernel
theorem dX6_sum_19 : decode cX6_sum 19 = .ok (.goto 4, 3) := by decide +kernel
theorem dX6_sum_22 : decode cX6_sum 22 = .ok (.lconst 0, 1) := by decide +kernel
theorem dX6_sum_23 : decode cX6_sum 23 = .ok (.lreturn, 1) := by decide +kernel
theorem dX6_sumByReading_0 : decode cX6_sumByReading 0 = .ok (.aload_n 0, 1) := by decide +kernel
theorem dX6_sumByReading_1 : decode cX6_sumByReading 1 = .ok (.iload_n 1, 1) := by decide +kernel
theorem dX6_sumByReading_2 : decode cX6_sumByReading 2 = .ok (.lload_n 2, 1) := by decide +kernel
theorem dX6_sumByReading_3 : decode cX6_sumByReading 3 = .ok (.lload 4, 2) := by decide +kernel
theorem dX6_sumByReading_5 : decode cX6_sumByReading 5 = .ok (.invokevirtual 127, 3) := by decide +kernel
theorem dX6_sumByReading_8 : decode cX6_sumByReading 8 = .ok (.lreturn, 1) := by decide +kernel
theorem dX6_maximum_0 : decode cX6_maximum 0 = .ok (.aload_n 0, 1) := by decide +kernel
theorem dX6_maximum_1 : decode cX6_maximum 1 = .ok (.iload_n 1, 1) := by decide +kernel
theorem dX6_maximum_2 : decode cX6_maximum 2 = .ok (.lload_n 2, 1) := by decide +kernel
theorem dX6_maximum_3 : decode cX6_maximum 3 = .ok (.lload 4, 2) := by decide +kernel
theorem dX6_maximum_5 : decode cX6_maximum 5 = .ok (.invokevirtual 115, 3) := by decide +kernel
theorem dX6_maximum_8 : decode cX6_maximum 8 = .ok (.ifCond .ne 5, 3) := by decide +kernel
theorem dX6_maximum_11 : decode cX6_maximum 11 = .ok (.iconst 0, 1) := by decide +kernel
theorem dX6_maximum_12 : decode cX6_maximum 12 = .ok (.ireturn, 1) := by decide +kernel
theorem dX6_maximum_13 : decode cX6_maximum 13 = .ok (.sipush (-20000), 3) := by decide +kernel
theorem dX6_maximum_16 : decode cX6_maximum 16 = .ok (.istore 6, 2) := by decide +kernel
theorem dX6_maximum_18 : decode cX6_maximum 18 = .ok (.iconst 0, 1) := by decide +kernel
theorem dX6_maximum_19 : decode cX6_maximum 19 = .ok (.istore 7, 2) := by decide +kernel
theorem dX6_maximum_21 : decode cX6_maximum 21 = .ok (.iload 7, 2) := by decide +kernel
theorem dX6_maximum_23 : decode cX6_maximum 23 = .ok (.aload_n 0, 1) := by decide +kernel
theorem dX6_maximum_24 : decode cX6_maximum 24 = .ok (.getfield 16, 3) := by decide +kernel
theorem dX6_maximum_27 : decode cX6_maximum 27 = .ok (.iload_n 1, 1) := by decide +kernel
theorem dX6_maximum_28 : decode cX6_maximum 28 = .ok (.iaload, 1) := by decide +kernel
theorem dX6_maximum_29 : decode cX6_maximum 29 = .ok (.if_icmp .ge 43, 3) := by decide +kernel
theorem dX6_maximum_32 : decode cX6_maximum 32 = .ok (.aload_n 0, 1) := by decide +kernel
theorem dX6_maximum_33 : decode cX6_maximum 33 = .ok (.iload_n 1, 1) := by decide +kernel
theorem dX6_maximum_34 : decode cX6_maximum 34 = .ok (.iload 7, 2) := by decide +kernel
theorem dX6_maximum_36 : decode cX6_maximum 36 = .ok (.lload_n 2, 1) := by decide +kernel
theorem dX6_maximum_37 : decode cX6_maximum 37 = .ok (.lload 4, 2) := by decide +kernel
theorem dX6_maximum_39 : decode cX6_maximum 39 = .ok (.invokevirtual 111, 3) := by decide +kernel
theorem dX6_maximum_42 : decode cX6_maximum 42 = .ok (.ifCond .eq 24, 3) := by decide +kernel
theorem dX6_maximum_45 : decode cX6_maximum 45 = .ok (.aload_n 0, 1) := by decide +kernel
theorem dX6_maximum_46 : decode cX6_maximum 46 = .ok (.iload_n 1, 1) := by decide +kernel
theorem dX6_maximum_47 : decode cX6_maximum 47 = .ok (.iload 7, 2) := by decide +kernel
theorem dX6_maximum_49 : decode cX6_maximum 49 = .ok (.invokevirtual 64, 3) := by decide +kernel
theorem dX6_maximum_52 : decode cX6_maximum 52 = .ok (.iload 6, 2) := by decide +kernel
theorem dX6_maximum_54 : decode cX6_maximum 54 = .ok (.if_icmp .le 12, 3) := by decide +kernel
theorem dX6_maximum_57 : decode cX6_maximum 57 = .ok (.aload_n 0, 1) := by decide +kernel
theorem dX6_maximum_58 : decode cX6_maximum 58 = .ok (.iload_n 1, 1) := by decide +kernel
theorem dX6_maximum_59 : decode cX6_maximum 59 = .ok (.iload 7, 2) := by decide +kernel
theorem dX6_maximum_61 : decode cX6_maximum 61 = .ok (.invokevirtual 64, 3) := by decide +kernel
theorem dX6_maximum_64 : decode cX6_maximum 64 = .ok (.istore 6, 2) := by decide +kernel
theorem dX6_maximum_66 : decode cX6_maximum 66 = .ok (.iinc 7 1, 3) := by decide +kernel
theorem dX6_maximum_69 : decode cX6_maximum 69 = .ok (.goto (-48), 3) := by decide +kernel
theorem dX6_maximum_72 : decode cX6_maximum 72 = .ok (.aload_n 0, 1) := by decide +kernel
theorem dX6_maximum_73 : decode cX6_maximum 73 = .ok (.iload 6, 2) := by decide +kernel
theorem dX6_maximum_75 : decode cX6_maximum 75 = .ok (.sipush (-20000), 3) := by decide +kernel
theorem dX6_maximum_78 : decode cX6_maximum 78 = .ok (.if_icmp .ne 7, 3) := by decide +kernel
theorem dX6_maximum_81 : decode cX6_maximum 81 = .ok (.iconst 3, 1) := by decide +kernel
theorem dX6_maximum_82 : decode cX6_maximum 82 = .ok (.goto 4, 3) := by decide +kernel
theorem dX6_maximum_85 : decode cX6_maximum 85 = .ok (.iconst 0, 1) := by decide +kernel
theorem dX6_maximum_86 : decode cX6_maximum 86 = .ok (.putfield 53, 3) := by decide +kernel
theorem dX6_maximum_89 : decode cX6_maximum 89 = .ok (.aload_n 0, 1) := by decide +kernel
theorem dX6_maximum_90 : decode cX6_maximum 90 = .ok (.getfield 53, 3) := by decide +kernel
theorem dX6_maximum_93 : decode cX6_maximum 93 = .ok (.ifCond .ne 8, 3) := by decide +kernel
theorem dX6_maximum_96 : decode cX6_maximum 96 = .ok (.iload 6, 2) := by decide +kernel
