section
-- ===== PART A: goes FIRST, ahead of the names: the tables' words, and 'selects' of the private methods out of them =====
/-- a private method of a class that the tables say can be made, by its rows of tables_1 -/
def lw_okq (q : MethodName × Nat) : Prop := (q.1.cls ≠ "java/lang/invoke/MethodHandle" ∧ q.1.cls ≠ "java/lang/invoke/VarHandle") ∧ Cond.instantiable q.1.cls q.2 ∈ tables_1 ∧ Cond.privateMethod q.1 ∈ tables_1 ∧ Cond.instanceMethod q.1 ∈ tables_1
theorem lw_p0 : lw_okq (⟨"GaugeHall$Series", "blockBits", "()J"⟩, 9) := ⟨⟨by decide +kernel, by decide +kernel⟩, List.mem_of_getElem? (i := 76) (by decide +kernel), List.mem_of_getElem? (i := 74) (by decide +kernel), List.mem_of_getElem? (i := 75) (by decide +kernel)⟩
theorem lw_p1 : lw_okq (⟨"GaugeHall", "firingAlerts", "()I"⟩, 4) := ⟨⟨by decide +kernel, by decide +kernel⟩, List.mem_of_getElem? (i := 20) (by decide +kernel), List.mem_of_getElem? (i := 83) (by decide +kernel), List.mem_of_getElem? (i := 84) (by decide +kernel)⟩
theorem lw_p2 : lw_okq (⟨"GaugeHall$Alert", "stateAt", "(J)C"⟩, 4) := ⟨⟨by decide +kernel, by decide +kernel⟩, List.mem_of_getElem? (i := 89) (by decide +kernel), List.mem_of_getElem? (i := 87) (by decide +kernel), List.mem_of_getElem? (i := 88) (by decide +kernel)⟩
theorem lw_p3 : lw_okq (⟨"GaugeHall$Series", "holdsTogether", "()Z"⟩, 9) := ⟨⟨by decide +kernel, by decide +kernel⟩, List.mem_of_getElem? (i := 76) (by decide +kernel), List.mem_of_getElem? (i := 96) (by decide +kernel), List.mem_of_getElem? (i := 97) (by decide +kernel)⟩
theorem lw_p4 : lw_okq (⟨"GaugeHall$Series", "blocksTellWhatCame", "()Z"⟩, 9) := ⟨⟨by decide +kernel, by decide +kernel⟩, List.mem_of_getElem? (i := 76) (by decide +kernel), List.mem_of_getElem? (i := 100) (by decide +kernel), List.mem_of_getElem? (i := 101) (by decide +kernel)⟩
theorem lw_p5 : lw_okq (⟨"GaugeHall$Series", "blockAt", "(I)LGaugeHall$Block;"⟩, 9) := ⟨⟨by decide +kernel, by decide +kernel⟩, List.mem_of_getElem? (i := 76) (by decide +kernel), List.mem_of_getElem? (i := 104) (by decide +kernel), List.mem_of_getElem? (i := 105) (by decide +kernel)⟩
theorem lw_p6 : lw_okq (⟨"GaugeHall$Block", "timeOfSample", "(I)J"⟩, 9) := ⟨⟨by decide +kernel, by decide +kernel⟩, List.mem_of_getElem? (i := 110) (by decide +kernel), List.mem_of_getElem? (i := 108) (by decide +kernel), List.mem_of_getElem? (i := 109) (by decide +kernel)⟩
theorem lw_p7 : lw_okq (⟨"GaugeHall$Block", "valueOfSample", "(I)I"⟩, 9) := ⟨⟨by decide +kernel, by decide +kernel⟩, List.mem_of_getElem? (i := 110) (by decide +kernel), List.mem_of_getElem? (i := 113) (by decide +kernel), List.mem_of_getElem? (i := 114) (by decide +kernel)⟩
theorem lw_p8 : lw_okq (⟨"GaugeHall$Sketch", "weightUpTo", "(I)I"⟩, 4) := ⟨⟨by decide +kernel, by decide +kernel⟩, List.mem_of_getElem? (i := 119) (by decide +kernel), List.mem_of_getElem? (i := 117) (by decide +kernel), List.mem_of_getElem? (i := 118) (by decide +kernel)⟩
theorem lw_p9 : lw_okq (⟨"GaugeHall$Series", "sketchIsWithin", "(I)Z"⟩, 9) := ⟨⟨by decide +kernel, by decide +kernel⟩, List.mem_of_getElem? (i := 76) (by decide +kernel), List.mem_of_getElem? (i := 122) (by decide +kernel), List.mem_of_getElem? (i := 123) (by decide +kernel)⟩
theorem lw_p10 : lw_okq (⟨"GaugeHall$Series", "targetOf", "(I)I"⟩, 9) := ⟨⟨by decide +kernel, by decide +kernel⟩, List.mem_of_getElem? (i := 76) (by decide +kernel), List.mem_of_getElem? (i := 126) (by decide +kernel), List.mem_of_getElem? (i := 127) (by decide +kernel)⟩
theorem lw_p11 : lw_okq (⟨"GaugeHall$Sketch", "leastReaching", "(I)I"⟩, 4) := ⟨⟨by decide +kernel, by decide +kernel⟩, List.mem_of_getElem? (i := 119) (by decide +kernel), List.mem_of_getElem? (i := 130) (by decide +kernel), List.mem_of_getElem? (i := 131) (by decide +kernel)⟩
theorem lw_p12 : lw_okq (⟨"GaugeHall$Series", "samplesUpTo", "(I)I"⟩, 9) := ⟨⟨by decide +kernel, by decide +kernel⟩, List.mem_of_getElem? (i := 76) (by decide +kernel), List.mem_of_getElem? (i := 135) (by decide +kernel), List.mem_of_getElem? (i := 136) (by decide +kernel)⟩
theorem lw_p13 : lw_okq (⟨"java/lang/Throwable", "fillInStackTrace", "(I)Ljava/lang/Throwable;"⟩, 6) := ⟨⟨by decide +kernel, by decide +kernel⟩, List.mem_of_getElem? (i := 192) (by decide +kernel), List.mem_of_getElem? (i := 190) (by decide +kernel), List.mem_of_getElem? (i := 191) (by decide +kernel)⟩
theorem lw_p14 : lw_okq (⟨"GaugeHall", "numberWith", "(II)I"⟩, 4) := ⟨⟨by decide +kernel, by decide +kernel⟩, List.mem_of_getElem? (i := 20) (by decide +kernel), List.mem_of_getElem? (i := 222) (by decide +kernel), List.mem_of_getElem? (i := 223) (by decide +kernel)⟩
theorem lw_p15 : lw_okq (⟨"GaugeHall", "rowOf", "(I)LGaugeHall$Series;"⟩, 4) := ⟨⟨by decide +kernel, by decide +kernel⟩, List.mem_of_getElem? (i := 20) (by decide +kernel), List.mem_of_getElem? (i := 322) (by decide +kernel), List.mem_of_getElem? (i := 323) (by decide +kernel)⟩
def lw_privs_1 : List (MethodName × Nat) := [(⟨"GaugeHall$Series", "blockBits", "()J"⟩, 9), (⟨"GaugeHall", "firingAlerts", "()I"⟩, 4), (⟨"GaugeHall$Alert", "stateAt", "(J)C"⟩, 4), (⟨"GaugeHall$Series", "holdsTogether", "()Z"⟩, 9), (⟨"GaugeHall$Series", "blocksTellWhatCame", "()Z"⟩, 9), (⟨"GaugeHall$Series", "blockAt", "(I)LGaugeHall$Block;"⟩, 9), (⟨"GaugeHall$Block", "timeOfSample", "(I)J"⟩, 9), (⟨"GaugeHall$Block", "valueOfSample", "(I)I"⟩, 9), (⟨"GaugeHall$Sketch", "weightUpTo", "(I)I"⟩, 4), (⟨"GaugeHall$Series", "sketchIsWithin", "(I)Z"⟩, 9), (⟨"GaugeHall$Series", "targetOf", "(I)I"⟩, 9), (⟨"GaugeHall$Sketch", "leastReaching", "(I)I"⟩, 4), (⟨"GaugeHall$Series", "samplesUpTo", "(I)I"⟩, 9), (⟨"java/lang/Throwable", "fillInStackTrace", "(I)Ljava/lang/Throwable;"⟩, 6), (⟨"GaugeHall", "numberWith", "(II)I"⟩, 4), (⟨"GaugeHall", "rowOf", "(I)LGaugeHall$Series;"⟩, 4)]
theorem lw_r1 : ∀ q ∈ lw_privs_1, lw_okq q := List.forall_mem_cons.mpr ⟨lw_p0, List.forall_mem_cons.mpr ⟨lw_p1, List.forall_mem_cons.mpr ⟨lw_p2, List.forall_mem_cons.mpr ⟨lw_p3, List.forall_mem_cons.mpr ⟨lw_p4, List.forall_mem_cons.mpr ⟨lw_p5, List.forall_mem_cons.mpr ⟨lw_p6, List.forall_mem_cons.mpr ⟨lw_p7, List.forall_mem_cons.mpr ⟨lw_p8, List.forall_mem_cons.mpr ⟨lw_p9, List.forall_mem_cons.mpr ⟨lw_p10, List.forall_mem_cons.mpr ⟨lw_p11, List.forall_mem_cons.mpr ⟨lw_p12, List.forall_mem_cons.mpr ⟨lw_p13, List.forall_mem_cons.mpr ⟨lw_p14, List.forall_mem_cons.mpr ⟨lw_p15, fun _ h => absurd h List.not_mem_nil⟩⟩⟩⟩⟩⟩⟩⟩⟩⟩⟩⟩⟩⟩⟩⟩
theorem lw_p16 : lw_okq (⟨"GaugeHall$Series", "isFull", "()Z"⟩, 9) := ⟨⟨by decide +kernel, by decide +kernel⟩, List.mem_of_getElem? (i := 76) (by decide +kernel), List.mem_of_getElem? (i := 346) (by decide +kernel), List.mem_of_getElem? (i := 347) (by decide +kernel)⟩
theorem lw_p17 : lw_okq (⟨"GaugeHall$Series", "hasSampleAt", "(J)Z"⟩, 9) := ⟨⟨by decide +kernel, by decide +kernel⟩, List.mem_of_getElem? (i := 76) (by decide +kernel), List.mem_of_getElem? (i := 351) (by decide +kernel), List.mem_of_getElem? (i := 352) (by decide +kernel)⟩
theorem lw_p18 : lw_okq (⟨"GaugeHall$Series", "take", "(JI)V"⟩, 9) := ⟨⟨by decide +kernel, by decide +kernel⟩, List.mem_of_getElem? (i := 76) (by decide +kernel), List.mem_of_getElem? (i := 356) (by decide +kernel), List.mem_of_getElem? (i := 357) (by decide +kernel)⟩
theorem lw_p19 : lw_okq (⟨"GaugeHall$Series", "sortIn", "(I)V"⟩, 9) := ⟨⟨by decide +kernel, by decide +kernel⟩, List.mem_of_getElem? (i := 76) (by decide +kernel), List.mem_of_getElem? (i := 361) (by decide +kernel), List.mem_of_getElem? (i := 362) (by decide +kernel)⟩
theorem lw_p20 : lw_okq (⟨"GaugeHall$Series", "toBlock", "(JI)V"⟩, 9) := ⟨⟨by decide +kernel, by decide +kernel⟩, List.mem_of_getElem? (i := 76) (by decide +kernel), List.mem_of_getElem? (i := 365) (by decide +kernel), List.mem_of_getElem? (i := 366) (by decide +kernel)⟩
theorem lw_p21 : lw_okq (⟨"GaugeHall$Block", "append", "(JI)V"⟩, 9) := ⟨⟨by decide +kernel, by decide +kernel⟩, List.mem_of_getElem? (i := 110) (by decide +kernel), List.mem_of_getElem? (i := 403) (by decide +kernel), List.mem_of_getElem? (i := 404) (by decide +kernel)⟩
theorem lw_p22 : lw_okq (⟨"GaugeHall$Sketch", "take", "(I)V"⟩, 4) := ⟨⟨by decide +kernel, by decide +kernel⟩, List.mem_of_getElem? (i := 119) (by decide +kernel), List.mem_of_getElem? (i := 415) (by decide +kernel), List.mem_of_getElem? (i := 416) (by decide +kernel)⟩
theorem lw_p23 : lw_okq (⟨"GaugeHall$Sketch", "put", "(II)V"⟩, 4) := ⟨⟨by decide +kernel, by decide +kernel⟩, List.mem_of_getElem? (i := 119) (by decide +kernel), List.mem_of_getElem? (i := 419) (by decide +kernel), List.mem_of_getElem? (i := 420) (by decide +kernel)⟩
theorem lw_p24 : lw_okq (⟨"GaugeHall$Sketch", "halve", "(I)V"⟩, 4) := ⟨⟨by decide +kernel, by decide +kernel⟩, List.mem_of_getElem? (i := 119) (by decide +kernel), List.mem_of_getElem? (i := 423) (by decide +kernel), List.mem_of_getElem? (i := 424) (by decide +kernel)⟩
theorem lw_p25 : lw_okq (⟨"GaugeHall$Alert", "see", "(JI)V"⟩, 4) := ⟨⟨by decide +kernel, by decide +kernel⟩, List.mem_of_getElem? (i := 89) (by decide +kernel), List.mem_of_getElem? (i := 430) (by decide +kernel), List.mem_of_getElem? (i := 431) (by decide +kernel)⟩
theorem lw_p26 : lw_okq (⟨"GaugeHall$Series", "newestValue", "()I"⟩, 9) := ⟨⟨by decide +kernel, by decide +kernel⟩, List.mem_of_getElem? (i := 76) (by decide +kernel), List.mem_of_getElem? (i := 474) (by decide +kernel), List.mem_of_getElem? (i := 475) (by decide +kernel)⟩
theorem lw_p27 : lw_okq (⟨"GaugeHall$Series", "blockCount", "()I"⟩, 9) := ⟨⟨by decide +kernel, by decide +kernel⟩, List.mem_of_getElem? (i := 76) (by decide +kernel), List.mem_of_getElem? (i := 485) (by decide +kernel), List.mem_of_getElem? (i := 486) (by decide +kernel)⟩
theorem lw_p28 : lw_okq (⟨"GaugeHall", "readBlocks", "(IJJ)V"⟩, 4) := ⟨⟨by decide +kernel, by decide +kernel⟩, List.mem_of_getElem? (i := 20) (by decide +kernel), List.mem_of_getElem? (i := 561) (by decide +kernel), List.mem_of_getElem? (i := 562) (by decide +kernel)⟩
theorem lw_p29 : lw_okq (⟨"GaugeHall$Series", "readBlocks", "(LGaugeHall$Totals;JJ)V"⟩, 9) := ⟨⟨by decide +kernel, by decide +kernel⟩, List.mem_of_getElem? (i := 76) (by decide +kernel), List.mem_of_getElem? (i := 569) (by decide +kernel), List.mem_of_getElem? (i := 570) (by decide +kernel)⟩
theorem lw_p30 : lw_okq (⟨"GaugeHall$Totals", "clear", "()V"⟩, 3) := ⟨⟨by decide +kernel, by decide +kernel⟩, List.mem_of_getElem? (i := 30) (by decide +kernel), List.mem_of_getElem? (i := 573) (by decide +kernel), List.mem_of_getElem? (i := 574) (by decide +kernel)⟩
theorem lw_p31 : lw_okq (⟨"GaugeHall$Block", "read", "(LGaugeHall$Totals;JJ)V"⟩, 9) := ⟨⟨by decide +kernel, by decide +kernel⟩, List.mem_of_getElem? (i := 110) (by decide +kernel), List.mem_of_getElem? (i := 577) (by decide +kernel), List.mem_of_getElem? (i := 578) (by decide +kernel)⟩
def lw_privs_2 : List (MethodName × Nat) := [(⟨"GaugeHall$Series", "isFull", "()Z"⟩, 9), (⟨"GaugeHall$Series", "hasSampleAt", "(J)Z"⟩, 9), (⟨"GaugeHall$Series", "take", "(JI)V"⟩, 9), (⟨"GaugeHall$Series", "sortIn", "(I)V"⟩, 9), (⟨"GaugeHall$Series", "toBlock", "(JI)V"⟩, 9), (⟨"GaugeHall$Block", "append", "(JI)V"⟩, 9), (⟨"GaugeHall$Sketch", "take", "(I)V"⟩, 4), (⟨"GaugeHall$Sketch", "put", "(II)V"⟩, 4), (⟨"GaugeHall$Sketch", "halve", "(I)V"⟩, 4), (⟨"GaugeHall$Alert", "see", "(JI)V"⟩, 4), (⟨"GaugeHall$Series", "newestValue", "()I"⟩, 9), (⟨"GaugeHall$Series", "blockCount", "()I"⟩, 9), (⟨"GaugeHall", "readBlocks", "(IJJ)V"⟩, 4), (⟨"GaugeHall$Series", "readBlocks", "(LGaugeHall$Totals;JJ)V"⟩, 9), (⟨"GaugeHall$Totals", "clear", "()V"⟩, 3), (⟨"GaugeHall$Block", "read", "(LGaugeHall$Totals;JJ)V"⟩, 9)]
theorem lw_r2 : ∀ q ∈ lw_privs_2, lw_okq q := List.forall_mem_cons.mpr ⟨lw_p16, List.forall_mem_cons.mpr ⟨lw_p17, List.forall_mem_cons.mpr ⟨lw_p18, List.forall_mem_cons.mpr ⟨lw_p19, List.forall_mem_cons.mpr ⟨lw_p20, List.forall_mem_cons.mpr ⟨lw_p21, List.forall_mem_cons.mpr ⟨lw_p22, List.forall_mem_cons.mpr ⟨lw_p23, List.forall_mem_cons.mpr ⟨lw_p24, List.forall_mem_cons.mpr ⟨lw_p25, List.forall_mem_cons.mpr ⟨lw_p26, List.forall_mem_cons.mpr ⟨lw_p27, List.forall_mem_cons.mpr ⟨lw_p28, List.forall_mem_cons.mpr ⟨lw_p29, List.forall_mem_cons.mpr ⟨lw_p30, List.forall_mem_cons.mpr ⟨lw_p31, fun _ h => absurd h List.not_mem_nil⟩⟩⟩⟩⟩⟩⟩⟩⟩⟩⟩⟩⟩⟩⟩⟩
theorem lw_p32 : lw_okq (⟨"GaugeHall$Totals", "take", "(I)V"⟩, 3) := ⟨⟨by decide +kernel, by decide +kernel⟩, List.mem_of_getElem? (i := 30) (by decide +kernel), List.mem_of_getElem? (i := 581) (by decide +kernel), List.mem_of_getElem? (i := 582) (by decide +kernel)⟩
theorem lw_p33 : lw_okq (⟨"GaugeHall$Series", "readSamples", "(LGaugeHall$Totals;JJ)V"⟩, 9) := ⟨⟨by decide +kernel, by decide +kernel⟩, List.mem_of_getElem? (i := 76) (by decide +kernel), List.mem_of_getElem? (i := 602) (by decide +kernel), List.mem_of_getElem? (i := 603) (by decide +kernel)⟩
theorem lw_p34 : lw_okq (⟨"GaugeHall$Series", "readRollupsInside", "(LGaugeHall$Totals;JJ)V"⟩, 9) := ⟨⟨by decide +kernel, by decide +kernel⟩, List.mem_of_getElem? (i := 76) (by decide +kernel), List.mem_of_getElem? (i := 654) (by decide +kernel), List.mem_of_getElem? (i := 655) (by decide +kernel)⟩
theorem lw_p35 : lw_okq (⟨"GaugeHall", "readTouchingRollups", "(IJJ)V"⟩, 4) := ⟨⟨by decide +kernel, by decide +kernel⟩, List.mem_of_getElem? (i := 20) (by decide +kernel), List.mem_of_getElem? (i := 669) (by decide +kernel), List.mem_of_getElem? (i := 670) (by decide +kernel)⟩
theorem lw_p36 : lw_okq (⟨"GaugeHall$Series", "readRollupsTouching", "(LGaugeHall$Totals;JJ)V"⟩, 9) := ⟨⟨by decide +kernel, by decide +kernel⟩, List.mem_of_getElem? (i := 76) (by decide +kernel), List.mem_of_getElem? (i := 673) (by decide +kernel), List.mem_of_getElem? (i := 674) (by decide +kernel)⟩
theorem lw_p37 : lw_okq (⟨"GaugeHall", "rowForQuantile", "(II)LGaugeHall$Series;"⟩, 4) := ⟨⟨by decide +kernel, by decide +kernel⟩, List.mem_of_getElem? (i := 20) (by decide +kernel), List.mem_of_getElem? (i := 692) (by decide +kernel), List.mem_of_getElem? (i := 693) (by decide +kernel)⟩
theorem lw_p38 : lw_okq (⟨"GaugeHall$Series", "leastReaching", "(I)I"⟩, 9) := ⟨⟨by decide +kernel, by decide +kernel⟩, List.mem_of_getElem? (i := 76) (by decide +kernel), List.mem_of_getElem? (i := 706) (by decide +kernel), List.mem_of_getElem? (i := 707) (by decide +kernel)⟩
theorem lw_p39 : lw_okq (⟨"GaugeHall$Sketch", "heldValues", "()I"⟩, 4) := ⟨⟨by decide +kernel, by decide +kernel⟩, List.mem_of_getElem? (i := 119) (by decide +kernel), List.mem_of_getElem? (i := 724) (by decide +kernel), List.mem_of_getElem? (i := 725) (by decide +kernel)⟩
theorem lw_p40 : lw_okq (⟨"GaugeHall", "stateOfAlert", "(LGaugeHall$Series;)C"⟩, 4) := ⟨⟨by decide +kernel, by decide +kernel⟩, List.mem_of_getElem? (i := 20) (by decide +kernel), List.mem_of_getElem? (i := 771) (by decide +kernel), List.mem_of_getElem? (i := 772) (by decide +kernel)⟩
theorem lw_p41 : lw_okq (⟨"GaugeHall", "rowWithSamples", "(II)LGaugeHall$Series;"⟩, 4) := ⟨⟨by decide +kernel, by decide +kernel⟩, List.mem_of_getElem? (i := 20) (by decide +kernel), List.mem_of_getElem? (i := 794) (by decide +kernel), List.mem_of_getElem? (i := 795) (by decide +kernel)⟩
theorem lw_p42 : lw_okq (⟨"GaugeHallModel", "fail", "(I)I"⟩, 17) := ⟨⟨by decide +kernel, by decide +kernel⟩, List.mem_of_getElem? (i := 813) (by decide +kernel), List.mem_of_getElem? (i := 882) (by decide +kernel), List.mem_of_getElem? (i := 883) (by decide +kernel)⟩
theorem lw_p43 : lw_okq (⟨"GaugeHallModel", "search", "(II)I"⟩, 17) := ⟨⟨by decide +kernel, by decide +kernel⟩, List.mem_of_getElem? (i := 813) (by decide +kernel), List.mem_of_getElem? (i := 886) (by decide +kernel), List.mem_of_getElem? (i := 887) (by decide +kernel)⟩
theorem lw_p44 : lw_okq (⟨"GaugeHallModel", "looks", "(I)Z"⟩, 17) := ⟨⟨by decide +kernel, by decide +kernel⟩, List.mem_of_getElem? (i := 813) (by decide +kernel), List.mem_of_getElem? (i := 898) (by decide +kernel), List.mem_of_getElem? (i := 899) (by decide +kernel)⟩
theorem lw_p45 : lw_okq (⟨"GaugeHallModel", "time", "(II)J"⟩, 17) := ⟨⟨by decide +kernel, by decide +kernel⟩, List.mem_of_getElem? (i := 813) (by decide +kernel), List.mem_of_getElem? (i := 902) (by decide +kernel), List.mem_of_getElem? (i := 903) (by decide +kernel)⟩
theorem lw_p46 : lw_okq (⟨"GaugeHallModel", "holds", "(III)V"⟩, 17) := ⟨⟨by decide +kernel, by decide +kernel⟩, List.mem_of_getElem? (i := 813) (by decide +kernel), List.mem_of_getElem? (i := 906) (by decide +kernel), List.mem_of_getElem? (i := 907) (by decide +kernel)⟩
theorem lw_p47 : lw_okq (⟨"GaugeHallModel", "halves", "(II)V"⟩, 17) := ⟨⟨by decide +kernel, by decide +kernel⟩, List.mem_of_getElem? (i := 813) (by decide +kernel), List.mem_of_getElem? (i := 910) (by decide +kernel), List.mem_of_getElem? (i := 911) (by decide +kernel)⟩
def lw_privs_3 : List (MethodName × Nat) := [(⟨"GaugeHall$Totals", "take", "(I)V"⟩, 3), (⟨"GaugeHall$Series", "readSamples", "(LGaugeHall$Totals;JJ)V"⟩, 9), (⟨"GaugeHall$Series", "readRollupsInside", "(LGaugeHall$Totals;JJ)V"⟩, 9), (⟨"GaugeHall", "readTouchingRollups", "(IJJ)V"⟩, 4), (⟨"GaugeHall$Series", "readRollupsTouching", "(LGaugeHall$Totals;JJ)V"⟩, 9), (⟨"GaugeHall", "rowForQuantile", "(II)LGaugeHall$Series;"⟩, 4), (⟨"GaugeHall$Series", "leastReaching", "(I)I"⟩, 9), (⟨"GaugeHall$Sketch", "heldValues", "()I"⟩, 4), (⟨"GaugeHall", "stateOfAlert", "(LGaugeHall$Series;)C"⟩, 4), (⟨"GaugeHall", "rowWithSamples", "(II)LGaugeHall$Series;"⟩, 4), (⟨"GaugeHallModel", "fail", "(I)I"⟩, 17), (⟨"GaugeHallModel", "search", "(II)I"⟩, 17), (⟨"GaugeHallModel", "looks", "(I)Z"⟩, 17), (⟨"GaugeHallModel", "time", "(II)J"⟩, 17), (⟨"GaugeHallModel", "holds", "(III)V"⟩, 17), (⟨"GaugeHallModel", "halves", "(II)V"⟩, 17)]
theorem lw_r3 : ∀ q ∈ lw_privs_3, lw_okq q := List.forall_mem_cons.mpr ⟨lw_p32, List.forall_mem_cons.mpr ⟨lw_p33, List.forall_mem_cons.mpr ⟨lw_p34, List.forall_mem_cons.mpr ⟨lw_p35, List.forall_mem_cons.mpr ⟨lw_p36, List.forall_mem_cons.mpr ⟨lw_p37, List.forall_mem_cons.mpr ⟨lw_p38, List.forall_mem_cons.mpr ⟨lw_p39, List.forall_mem_cons.mpr ⟨lw_p40, List.forall_mem_cons.mpr ⟨lw_p41, List.forall_mem_cons.mpr ⟨lw_p42, List.forall_mem_cons.mpr ⟨lw_p43, List.forall_mem_cons.mpr ⟨lw_p44, List.forall_mem_cons.mpr ⟨lw_p45, List.forall_mem_cons.mpr ⟨lw_p46, List.forall_mem_cons.mpr ⟨lw_p47, fun _ h => absurd h List.not_mem_nil⟩⟩⟩⟩⟩⟩⟩⟩⟩⟩⟩⟩⟩⟩⟩⟩
theorem lw_p48 : lw_okq (⟨"GaugeHallModel", "last", "(I)I"⟩, 17) := ⟨⟨by decide +kernel, by decide +kernel⟩, List.mem_of_getElem? (i := 813) (by decide +kernel), List.mem_of_getElem? (i := 942) (by decide +kernel), List.mem_of_getElem? (i := 943) (by decide +kernel)⟩
theorem lw_p49 : lw_okq (⟨"GaugeHallModel", "value", "(II)I"⟩, 17) := ⟨⟨by decide +kernel, by decide +kernel⟩, List.mem_of_getElem? (i := 813) (by decide +kernel), List.mem_of_getElem? (i := 946) (by decide +kernel), List.mem_of_getElem? (i := 947) (by decide +kernel)⟩
theorem lw_p50 : lw_okq (⟨"GaugeHallModel", "many", "(I)I"⟩, 17) := ⟨⟨by decide +kernel, by decide +kernel⟩, List.mem_of_getElem? (i := 813) (by decide +kernel), List.mem_of_getElem? (i := 954) (by decide +kernel), List.mem_of_getElem? (i := 955) (by decide +kernel)⟩
theorem lw_p51 : lw_okq (⟨"GaugeHallModel", "bits", "(II)I"⟩, 17) := ⟨⟨by decide +kernel, by decide +kernel⟩, List.mem_of_getElem? (i := 813) (by decide +kernel), List.mem_of_getElem? (i := 962) (by decide +kernel), List.mem_of_getElem? (i := 963) (by decide +kernel)⟩
theorem lw_p52 : lw_okq (⟨"GaugeHallModel", "isSample", "(II)Z"⟩, 17) := ⟨⟨by decide +kernel, by decide +kernel⟩, List.mem_of_getElem? (i := 813) (by decide +kernel), List.mem_of_getElem? (i := 972) (by decide +kernel), List.mem_of_getElem? (i := 973) (by decide +kernel)⟩
theorem lw_p53 : lw_okq (⟨"GaugeHallModel", "isRange", "(IJJ)Z"⟩, 17) := ⟨⟨by decide +kernel, by decide +kernel⟩, List.mem_of_getElem? (i := 813) (by decide +kernel), List.mem_of_getElem? (i := 988) (by decide +kernel), List.mem_of_getElem? (i := 989) (by decide +kernel)⟩
theorem lw_p54 : lw_okq (⟨"GaugeHallModel", "counted", "(IJJ)I"⟩, 17) := ⟨⟨by decide +kernel, by decide +kernel⟩, List.mem_of_getElem? (i := 813) (by decide +kernel), List.mem_of_getElem? (i := 992) (by decide +kernel), List.mem_of_getElem? (i := 993) (by decide +kernel)⟩
theorem lw_p55 : lw_okq (⟨"GaugeHallModel", "isInside", "(IIJJ)Z"⟩, 17) := ⟨⟨by decide +kernel, by decide +kernel⟩, List.mem_of_getElem? (i := 813) (by decide +kernel), List.mem_of_getElem? (i := 996) (by decide +kernel), List.mem_of_getElem? (i := 997) (by decide +kernel)⟩
theorem lw_p56 : lw_okq (⟨"GaugeHallModel", "summed", "(IJJ)J"⟩, 17) := ⟨⟨by decide +kernel, by decide +kernel⟩, List.mem_of_getElem? (i := 813) (by decide +kernel), List.mem_of_getElem? (i := 1004) (by decide +kernel), List.mem_of_getElem? (i := 1005) (by decide +kernel)⟩
theorem lw_p57 : lw_okq (⟨"GaugeHallModel", "begin", "(II)J"⟩, 17) := ⟨⟨by decide +kernel, by decide +kernel⟩, List.mem_of_getElem? (i := 813) (by decide +kernel), List.mem_of_getElem? (i := 1025) (by decide +kernel), List.mem_of_getElem? (i := 1026) (by decide +kernel)⟩
theorem lw_p58 : lw_okq (⟨"GaugeHallModel", "isTouched", "(IIJJ)Z"⟩, 17) := ⟨⟨by decide +kernel, by decide +kernel⟩, List.mem_of_getElem? (i := 813) (by decide +kernel), List.mem_of_getElem? (i := 1039) (by decide +kernel), List.mem_of_getElem? (i := 1040) (by decide +kernel)⟩
theorem lw_p59 : lw_okq (⟨"GaugeHallModel", "isPart", "(II)Z"⟩, 17) := ⟨⟨by decide +kernel, by decide +kernel⟩, List.mem_of_getElem? (i := 813) (by decide +kernel), List.mem_of_getElem? (i := 1051) (by decide +kernel), List.mem_of_getElem? (i := 1052) (by decide +kernel)⟩
theorem lw_p60 : lw_okq (⟨"GaugeHallModel", "sketched", "(II)I"⟩, 17) := ⟨⟨by decide +kernel, by decide +kernel⟩, List.mem_of_getElem? (i := 813) (by decide +kernel), List.mem_of_getElem? (i := 1055) (by decide +kernel), List.mem_of_getElem? (i := 1056) (by decide +kernel)⟩
theorem lw_p61 : lw_okq (⟨"GaugeHallModel", "standing", "(II)I"⟩, 17) := ⟨⟨by decide +kernel, by decide +kernel⟩, List.mem_of_getElem? (i := 813) (by decide +kernel), List.mem_of_getElem? (i := 1059) (by decide +kernel), List.mem_of_getElem? (i := 1060) (by decide +kernel)⟩
theorem lw_p62 : lw_okq (⟨"GaugeHallModel", "target", "(II)I"⟩, 17) := ⟨⟨by decide +kernel, by decide +kernel⟩, List.mem_of_getElem? (i := 813) (by decide +kernel), List.mem_of_getElem? (i := 1063) (by decide +kernel), List.mem_of_getElem? (i := 1064) (by decide +kernel)⟩
theorem lw_p63 : lw_okq (⟨"GaugeHallModel", "upTo", "(II)I"⟩, 17) := ⟨⟨by decide +kernel, by decide +kernel⟩, List.mem_of_getElem? (i := 813) (by decide +kernel), List.mem_of_getElem? (i := 1071) (by decide +kernel), List.mem_of_getElem? (i := 1072) (by decide +kernel)⟩
def lw_privs_4 : List (MethodName × Nat) := [(⟨"GaugeHallModel", "last", "(I)I"⟩, 17), (⟨"GaugeHallModel", "value", "(II)I"⟩, 17), (⟨"GaugeHallModel", "many", "(I)I"⟩, 17), (⟨"GaugeHallModel", "bits", "(II)I"⟩, 17), (⟨"GaugeHallModel", "isSample", "(II)Z"⟩, 17), (⟨"GaugeHallModel", "isRange", "(IJJ)Z"⟩, 17), (⟨"GaugeHallModel", "counted", "(IJJ)I"⟩, 17), (⟨"GaugeHallModel", "isInside", "(IIJJ)Z"⟩, 17), (⟨"GaugeHallModel", "summed", "(IJJ)J"⟩, 17), (⟨"GaugeHallModel", "begin", "(II)J"⟩, 17), (⟨"GaugeHallModel", "isTouched", "(IIJJ)Z"⟩, 17), (⟨"GaugeHallModel", "isPart", "(II)Z"⟩, 17), (⟨"GaugeHallModel", "sketched", "(II)I"⟩, 17), (⟨"GaugeHallModel", "standing", "(II)I"⟩, 17), (⟨"GaugeHallModel", "target", "(II)I"⟩, 17), (⟨"GaugeHallModel", "upTo", "(II)I"⟩, 17)]
theorem lw_r4 : ∀ q ∈ lw_privs_4, lw_okq q := List.forall_mem_cons.mpr ⟨lw_p48, List.forall_mem_cons.mpr ⟨lw_p49, List.forall_mem_cons.mpr ⟨lw_p50, List.forall_mem_cons.mpr ⟨lw_p51, List.forall_mem_cons.mpr ⟨lw_p52, List.forall_mem_cons.mpr ⟨lw_p53, List.forall_mem_cons.mpr ⟨lw_p54, List.forall_mem_cons.mpr ⟨lw_p55, List.forall_mem_cons.mpr ⟨lw_p56, List.forall_mem_cons.mpr ⟨lw_p57, List.forall_mem_cons.mpr ⟨lw_p58, List.forall_mem_cons.mpr ⟨lw_p59, List.forall_mem_cons.mpr ⟨lw_p60, List.forall_mem_cons.mpr ⟨lw_p61, List.forall_mem_cons.mpr ⟨lw_p62, List.forall_mem_cons.mpr ⟨lw_p63, fun _ h => absurd h List.not_mem_nil⟩⟩⟩⟩⟩⟩⟩⟩⟩⟩⟩⟩⟩⟩⟩⟩
theorem lw_p64 : lw_okq (⟨"GaugeHallModel", "state", "(I)C"⟩, 17) := ⟨⟨by decide +kernel, by decide +kernel⟩, List.mem_of_getElem? (i := 813) (by decide +kernel), List.mem_of_getElem? (i := 1091) (by decide +kernel), List.mem_of_getElem? (i := 1092) (by decide +kernel)⟩
theorem lw_p65 : lw_okq (⟨"GaugeHallModel", "isSet", "(I)Z"⟩, 17) := ⟨⟨by decide +kernel, by decide +kernel⟩, List.mem_of_getElem? (i := 813) (by decide +kernel), List.mem_of_getElem? (i := 1099) (by decide +kernel), List.mem_of_getElem? (i := 1100) (by decide +kernel)⟩
theorem lw_p66 : lw_okq (⟨"GaugeHallModel", "areNames", "(II)Z"⟩, 17) := ⟨⟨by decide +kernel, by decide +kernel⟩, List.mem_of_getElem? (i := 813) (by decide +kernel), List.mem_of_getElem? (i := 1115) (by decide +kernel), List.mem_of_getElem? (i := 1116) (by decide +kernel)⟩
theorem lw_p67 : lw_okq (⟨"GaugeHallModel", "joined", "(IIZ)J"⟩, 17) := ⟨⟨by decide +kernel, by decide +kernel⟩, List.mem_of_getElem? (i := 813) (by decide +kernel), List.mem_of_getElem? (i := 1119) (by decide +kernel), List.mem_of_getElem? (i := 1120) (by decide +kernel)⟩
def lw_privs_5 : List (MethodName × Nat) := [(⟨"GaugeHallModel", "state", "(I)C"⟩, 17), (⟨"GaugeHallModel", "isSet", "(I)Z"⟩, 17), (⟨"GaugeHallModel", "areNames", "(II)Z"⟩, 17), (⟨"GaugeHallModel", "joined", "(IIZ)J"⟩, 17)]
theorem lw_r5 : ∀ q ∈ lw_privs_5, lw_okq q := List.forall_mem_cons.mpr ⟨lw_p64, List.forall_mem_cons.mpr ⟨lw_p65, List.forall_mem_cons.mpr ⟨lw_p66, List.forall_mem_cons.mpr ⟨lw_p67, fun _ h => absurd h List.not_mem_nil⟩⟩⟩⟩
def lw_privs : List (MethodName × Nat) := lw_privs_1 ++ (lw_privs_2 ++ (lw_privs_3 ++ (lw_privs_4 ++ (lw_privs_5))))
def lw_tbl : List Cond := k2_sels lw_privs ++ tables_1
theorem lw_privs_ok : ∀ q ∈ lw_privs, lw_okq q := by
  show ∀ q ∈ lw_privs_1 ++ (lw_privs_2 ++ (lw_privs_3 ++ (lw_privs_4 ++ (lw_privs_5)))), lw_okq q
  exact List.forall_mem_append.mpr ⟨lw_r1, List.forall_mem_append.mpr ⟨lw_r2, List.forall_mem_append.mpr ⟨lw_r3, List.forall_mem_append.mpr ⟨lw_r4, lw_r5⟩⟩⟩⟩
/-- the streams that the claim lets the run draw from -/
abbrev lw_cs : List Choice := [Jvm.Choice.named "NaN.bits"]
theorem lw_bits : nanBits ∈ lw_cs := by first | decide | exact List.mem_cons_self | simp [lw_cs, nanBits]
-- ===== end of PART A; then your names; then what follows =====
end
section
/-- the tables' word that an array class over arrays of t stands (the names' row va_mna asks for it; the kit of this claim lacks it) -/
def va_AOA (t : FieldType) (U : State) : Prop := (Cond.arrayOver (.array t)).before #[] U = true
theorem va_AOA.of {t : FieldType} {A : Array Value} {U : State} (h : (Cond.arrayOver (.array t)).before A U = true) : va_AOA t U := h
theorem va_AOA.use {t : FieldType} {A : Array Value} {U : State} (h : va_AOA t U) : (Cond.arrayOver (.array t)).before A U = true := h
end
section
/-! ===== BEGIN words of one list among another's, by their places ===== -/
theorem goodIn_r {big : List Cond} (ws : List Cond) (ps : List Nat) (hp : ws = ps.filterMap (fun i => big[i]?)) (h : ws.all goodWord = true) : GoodIn big ws := by
  intro w hw
  have h1 := List.all_eq_true.mp h w hw
  rw [hp] at hw
  obtain ⟨i, -, hi⟩ := List.mem_filterMap.mp hw
  have hm : w ∈ big := by first | exact List.mem_of_getElem? hi | exact List.getElem?_mem hi
  exact ⟨hm, good_of_word h1⟩
theorem goodIn_app {big a b : List Cond} (ha : GoodIn big a) (hb : GoodIn big b) : GoodIn big (a ++ b) := fun w h => (List.mem_append.mp h).elim (ha w) (hb w)
theorem goodIn_ca {big a b : List Cond} {c : Cond} (ha : GoodIn big (c :: a)) (hb : GoodIn big b) : GoodIn big (c :: (a ++ b)) := fun w h => (List.mem_cons.mp h).elim (fun e => ha w (List.mem_cons.mpr (Or.inl e))) (fun h => (List.mem_append.mp h).elim (fun h => ha w (List.mem_cons.mpr (Or.inr h))) (hb w))
theorem goodIn_sub {big ws : List Cond} (hm : ∀ w ∈ ws, w ∈ big) (h : ws.all goodWord = true) : GoodIn big ws := fun w hw => ⟨hm w hw, good_of_word (List.all_eq_true.mp h w hw)⟩
/-! ===== END ===== -/

/-! ===== BEGIN new T[n][m]: the outer array a place, the inner ones among the pooled ===== -/
/-- f, but v at every address of l -/
def vr_up {α : Type} (f : Nat → α) (l : List Nat) (v : α) : Nat → α := fun a => if a ∈ l then v else f a
theorem vr_up_in {α : Type} {f : Nat → α} {l : List Nat} {v : α} {a : Nat} (h : a ∈ l) : vr_up f l v a = v := if_pos h
theorem vr_up_ne {α : Type} {f : Nat → α} {l : List Nat} {v : α} {a : Nat} (h : a ∉ l) : vr_up f l v a = f a := if_neg h
theorem vr_rows {L l : List Nat} {f : Nat → va_E} {e : va_E} (h : ∀ a, a ∈ l → a ∉ L) : va_pl L f ++ l.map (fun a => (a, e)) = va_pl (L ++ l) (vr_up f l e) := by
  unfold va_pl
  rw [List.map_append]
  congr 1
  · apply List.map_congr_left
    intro a ha
    rw [vr_up_ne (fun q => h a q ha)]
  · apply List.map_congr_left
    intro a ha
    rw [vr_up_in ha]
theorem vr_lay {X rows : va_W} {x : Nat × va_E} {pl : va_W} {D : va_G} {cl : List vw_C} {H : Heap} (hP : va_P D cl (((X ++ pl) ++ [x]) ++ rows) H) : va_P D cl ((X ++ [x]) ++ (pl ++ rows)) H := by
  rw [List.append_assoc (X ++ pl)] at hP
  have h := va_P.swap hP
  rw [← List.append_assoc X] at h
  have h2 := va_P.swap h
  rw [List.append_assoc (X ++ [x])] at h2
  exact h2
theorem vr_layD {X rows : va_W} {x : Nat × va_E} {pl : va_W} {A : Nat → Prop} (hD : va_D A (((X ++ pl) ++ [x]) ++ rows)) : va_D A ((X ++ [x]) ++ (pl ++ rows)) := by
  rw [List.append_assoc (X ++ pl)] at hD
  have h := va_D.swap hD
  rw [← List.append_assoc X] at h
  have h2 := va_D.swap h
  rw [List.append_assoc (X ++ [x])] at h2
  exact h2
theorem vr_outer (c : ClassId) (N h0 : Nat) : ∀ i : Nat, Jvm.Free.Multi.outerC c N h0 i = arrV c N (fun j => va_rf (if j < i then some (h0 + 1 + j) else none))
  | 0 => by
    show ({ cls := c, slots := Array.replicate N .null, vm := .none } : Cell) = _
    rw [arrV_new]
    refine congrArg (arrV c N) (funext fun j => ?_)
    simp [va_rf]
  | i + 1 => by
    show (Jvm.Free.Multi.outerC c N h0 i).setSlot i (.ref (h0 + 1 + i)) = _
    rw [vr_outer c N h0 i, arrV_store]
    refine congrArg (arrV c N) (funext fun j => ?_)
    by_cases e : j = i
    · subst e
      simp [updV, va_rf]
    · by_cases h : j < i
      · simp [updV, e, h, Nat.lt_succ_of_lt h]
      · simp [updV, e, h, show ¬ j < i + 1 by omega]
section VGM
variable {p : Program} {l : Launch} {e : Env} {R : Room} {s : State} {m : MethodId} {args : Array Value} {below : List Frame} {meth : Method} {c : Code} {H : Heap} {locs : List Loc} {cells slots : Nat} {Q : State → Prop}
variable {cc : ByteArray} {pc : Nat} {ls : Array Slot} {rest : List Value} {D : va_G} {cl : List vw_C} {A : Nat → Prop} {a : Nat} {tys : List (ClassId × FieldType)} {ws : va_W} {H0 : Heap}
theorem va_mna {X : va_W} {L : List Nat} {f : Nat → va_E} {cc : ByteArray} (hexec : p.tables.exec = Jvm.exec) (hb : c.code = cc) {own : String} {index : Nat} {ty : FieldType} {cy : ClassId} (hown : s.vm.findClass own = some m.cls) (hclink : (Cond.classLink own index ("[" ++ (FieldType.array ty).toString)).before args s = true) (hover : va_AOA ty s) (harr : (Cond.arrayClass ty).before args s = true) (hcy : s.vm.findClass (FieldType.array ty).toString = some cy)
    (hK : va_K D cl tys s) (hP : va_P D cl (X ++ va_pl L f) H) (hD : va_D A (X ++ va_pl L f)) (hS : va_S A H0 H locs) (hA : ∀ q, H0.size ≤ q → A q) {n k : Int32} {N' K' : Nat} {z : vp_A} (hn : ¬ n < 0) (hk : ¬ k < 0) (hN : n.toNatClampNeg = N') (hM : k.toNatClampNeg = K')
    (hb1 : N' * 4 ≤ 536870912) (hb2 : K' * componentBytes ty ≤ 536870912) (hb3 : K' ≤ 536870912) (hdf : fits ty (defaultValue ty) = true) (hdd : (defaultValue ty).isDefault = true) (hcells : cells + (1 + N') ≤ R.cells) (hslots : slots + (N' + N' * K') ≤ R.slots) (hz : ∀ c : ClassId, Jvm.Free.Multi.innerC c K' (defaultValue ty) = vp_cell c z) (hdg : decode cc pc = .ok (.multianewarray index 2, 4))
    (kk : ∀ (q : Nat) (r : Nat → Nat) (cA : ClassId) (H1 : Heap), (∀ i j : Nat, i < N' → j < N' → r i = r j → i = j) → (∀ i : Nat, i < N' → r i ∉ L) → va_K D cl (tys ++ [(cA, .array ty)]) s →
      va_P D cl ((X ++ [(q, .inl (cA, N', .inr (.inr (.inr (.inr (fun i => if i < N' then some (r i) else none))))))]) ++ va_pl (L ++ (List.range N').map r) (vr_up f ((List.range N').map r) (.inl (cy, z)))) H1 → va_D A ((X ++ [(q, .inl (cA, N', .inr (.inr (.inr (.inr (fun i => if i < N' then some (r i) else none))))))]) ++ va_pl (L ++ (List.range N').map r) (vr_up f ((List.range N').map r) (.inl (cy, z)))) → va_S A H0 H1 locs →
      W p l e R s m args below meth c H1 locs (cells + 1 + N') (slots + N' + N' * K') Q (F0 m (pc + 4) ls (.ref q :: rest))) : W p l e R s m args below meth c H locs cells slots Q (F0 m pc ls (.int k :: .int n :: rest)) := by
  subst hN
  subst hM
  intro T hT Xs
  obtain ⟨vm₁, cA, comp, -, fA, fC, hO, -, X', step⟩ := Xs.multianewarray2F hexec hown hclink (va_AOA.use hover) harr (g := F0 m pc ls (.int k :: .int n :: rest)) rfl (by rw [hb]; exact hdg) rfl hn hk hb1 hb2 hb3 hdf hdd hcells hslots
  have ec : some cy = some comp := hcy.symm.trans fC
  cases ec
  generalize hF : Jvm.Free.Multi.fill (T.setVm vm₁) cA cy n.toNatClampNeg k.toNatClampNeg (defaultValue ty) n.toNatClampNeg = F at X' step
  have hTh : (T.setVm vm₁).heap = H := hT
  obtain ⟨f1, f2, -, -⟩ := Jvm.Free.Multi.fill_facts (T.setVm vm₁) cA cy n.toNatClampNeg k.toNatClampNeg (defaultValue ty) n.toNatClampNeg
  rw [hF, hTh] at f1 f2
  have hold : ∀ x : Nat, x < H.size → F.heap[x]? = H[x]? := fun x hx => by
    have := Jvm.Free.Multi.fill_old (T.setVm vm₁) cA cy n.toNatClampNeg k.toNatClampNeg (defaultValue ty) (a := x) (by rw [hTh]; exact hx) n.toNatClampNeg
    rw [hF, hTh] at this
    exact this
  have hrow : ∀ j : Nat, j < n.toNatClampNeg → F.heap[H.size + 1 + j]? = some (vp_cell cy z) := fun j hj => by
    have := Jvm.Free.Multi.fill_inner (T.setVm vm₁) cA cy n.toNatClampNeg k.toNatClampNeg (defaultValue ty) n.toNatClampNeg j hj
    rw [hF, hTh, hz] at this
    exact this
  have hout : Jvm.Free.Multi.outerC cA n.toNatClampNeg H.size n.toNatClampNeg = vp_cell cA (n.toNatClampNeg, .inr (.inr (.inr (.inr (fun i => if i < n.toNatClampNeg then some (H.size + 1 + i) else none))))) := by
    rw [vp_cell_q]
    exact vr_outer cA n.toNatClampNeg H.size n.toNatClampNeg
  rw [hout] at f2
  have hlt : ∀ a, a ∈ L → a < H.size := fun a ha => by
    obtain ⟨k9, hk9⟩ := va_pl_get (X := X) (f := f) ha
    exact (hP k9 _ hk9).lt
  have hnl : ∀ i : Nat, i < n.toNatClampNeg → H.size + 1 + i ∉ L := fun i _ h => by
    have := hlt _ h
    omega
  have hnm : ∀ a, a ∈ (List.range n.toNatClampNeg).map (fun i => H.size + 1 + i) → a ∉ L := fun a ha h => by
    obtain ⟨i, -, rfl⟩ := List.mem_map.mp ha
    have := hlt _ h
    omega
  have hP0 : va_P D cl (X ++ va_pl L f) F.heap := hP.kept (fun k9 x hx => hold x.1 ((hP k9 x hx).lt))
  have hP1 : va_P D cl ((X ++ va_pl L f) ++ [(H.size, .inl (cA, n.toNatClampNeg, .inr (.inr (.inr (.inr (fun i => if i < n.toNatClampNeg then some (H.size + 1 + i) else none))))))]) F.heap := hP0.app (fun k9 x hx => by
    have h0 : k9 < 1 := (List.getElem?_eq_some_iff.mp hx).1
    rw [show k9 = 0 by omega] at hx
    cases hx
    exact f2)
  have hP2 : va_P D cl (((X ++ va_pl L f) ++ [(H.size, .inl (cA, n.toNatClampNeg, .inr (.inr (.inr (.inr (fun i => if i < n.toNatClampNeg then some (H.size + 1 + i) else none))))))]) ++ ((List.range n.toNatClampNeg).map (fun i => H.size + 1 + i)).map (fun a => (a, .inl (cy, z)))) F.heap := hP1.app (fun k9 x hx => by
    obtain ⟨a, ha, rfl⟩ := List.mem_map.mp (List.mem_of_getElem? hx)
    obtain ⟨i, hi, rfl⟩ := List.mem_map.mp ha
    exact hrow i (List.mem_range.mp hi))
  have hD2 : va_D A (((X ++ va_pl L f) ++ [(H.size, .inl (cA, n.toNatClampNeg, .inr (.inr (.inr (.inr (fun i => if i < n.toNatClampNeg then some (H.size + 1 + i) else none))))))]) ++ ((List.range n.toNatClampNeg).map (fun i => H.size + 1 + i)).map (fun a => (a, .inl (cy, z)))) := by
    have hD1 := hD.push (e := .inl (cA, n.toNatClampNeg, .inr (.inr (.inr (.inr (fun i => if i < n.toNatClampNeg then some (H.size + 1 + i) else none)))))) hP rfl (hA _ hS.1)
    generalize hW1 : (X ++ va_pl L f) ++ [(H.size, .inl (cA, n.toNatClampNeg, .inr (.inr (.inr (.inr (fun i => if i < n.toNatClampNeg then some (H.size + 1 + i) else none))))))] = W1 at hD1 hP1 ⊢
    have hle : ∀ (k9 : Nat) (x : Nat × va_E), W1[k9]? = some x → x.1 ≤ H.size := fun k9 x hx => by
      rw [← hW1] at hx
      by_cases hl : k9 < (X ++ va_pl L f).length
      · rw [List.getElem?_append_left hl] at hx
        exact Nat.le_of_lt ((hP k9 x hx).lt)
      · rw [List.getElem?_append_right (by omega)] at hx
        have h0 : k9 - (X ++ va_pl L f).length < 1 := (List.getElem?_eq_some_iff.mp hx).1
        rw [show k9 - (X ++ va_pl L f).length = 0 by omega] at hx
        cases hx
        exact Nat.le_refl _
    have hr : ∀ (k9 : Nat) (x : Nat × va_E), (((List.range n.toNatClampNeg).map (fun i => H.size + 1 + i)).map (fun a => ((a, .inl (cy, z)) : Nat × va_E)))[k9]? = some x → x.1 = H.size + 1 + k9 := fun k9 x hx => by
      rw [List.getElem?_map, List.getElem?_map] at hx
      by_cases h9 : k9 < n.toNatClampNeg
      · rw [List.getElem?_range h9] at hx
        cases hx
        rfl
      · have hn0 : (List.range n.toNatClampNeg)[k9]? = none := List.getElem?_eq_none (by rw [List.length_range]; omega)
        rw [hn0] at hx
        cases hx
    refine ⟨fun i j x y hi hj hxy => ?_, fun k9 x hx => ?_⟩
    · by_cases h1 : i < W1.length <;> by_cases h2 : j < W1.length
      · rw [List.getElem?_append_left h1] at hi
        rw [List.getElem?_append_left h2] at hj
        exact hD1.1 i j x y hi hj hxy
      · rw [List.getElem?_append_left h1] at hi
        rw [List.getElem?_append_right (by omega)] at hj
        have := hle _ _ hi
        have := hr _ _ hj
        omega
      · rw [List.getElem?_append_right (by omega)] at hi
        rw [List.getElem?_append_left h2] at hj
        have := hle _ _ hj
        have := hr _ _ hi
        omega
      · rw [List.getElem?_append_right (by omega)] at hi hj
        have := hr _ _ hi
        have := hr _ _ hj
        omega
    · by_cases h1 : k9 < W1.length
      · rw [List.getElem?_append_left h1] at hx
        exact hD1.2 k9 x hx
      · rw [List.getElem?_append_right (by omega)] at hx
        have := hr _ _ hx
        exact hA _ (by have := hS.1; omega)
  have hAr : ArrOfT s cA (.array ty) := fun N9 z9 => by
    obtain ⟨-, k9, hk9, cm9, hkk9⟩ := (hO 0 0 0).1
    exact ⟨(fun q hq => by cases hq), k9, hk9, cm9, hkk9⟩
  have hK2 : va_K D cl (tys ++ [(cA, .array ty)]) s := ⟨hK.1, fun k9 x hx => by
    by_cases hl : k9 < tys.length
    · rw [List.getElem?_append_left hl] at hx
      exact hK.2 k9 x hx
    · rw [List.getElem?_append_right (by omega)] at hx
      have h0 : k9 - tys.length < 1 := (List.getElem?_eq_some_iff.mp hx).1
      rw [show k9 - tys.length = 0 by omega] at hx
      cases hx
      exact ⟨hAr, fA⟩⟩
  obtain ⟨t, a1, b1⟩ := kk H.size (fun i => H.size + 1 + i) cA F.heap (fun i j _ _ h => by have h9 : H.size + 1 + i = H.size + 1 + j := h; omega) hnl hK2 (by rw [← vr_rows hnm]; exact vr_lay hP2) (by rw [← vr_rows hnm]; exact vr_layD hD2) ⟨by rw [f1]; have := hS.1; omega, fun x h1 h2 => (hold x (Nat.lt_of_lt_of_le h1 hS.1)).trans (hS.2.1 x h1 h2), hS.2.2⟩ F rfl X'
  refine ⟨t, step t ?_, b1⟩
  have e : T.heap.size = H.size := by rw [hT]
  rw [e]
  exact a1
end VGM
/-! ===== END ===== -/

/-! ===== BEGIN exceptions that leave a method, and their catching by the caller (launches without stack traces) ===== -/
section VXA
/-! The laws vx_back, vx_callV, vx_callS, vx_callSW, vx_throw0, vx_throwS follow proofs of the library, with one case more: JvmDerived/Free/Laws.lean (Back.of_free), Shelf42/LK1.lean (callV, callS), Shelf/KitTraced.lean (throwNew0V, throwNewS). -/
/-- where a method has thrown q: the class by its name, the cell, what was written, the world -/
def vx_T (XC : String → State → State → Prop) (st : State) (q : Addr) (t : State) (mc ms : Nat) (free : Addr → Prop) : Prop :=
  ∃ (E : String) (ce : Cell) (L : List Loc), XC E st t ∧ t.heap[q]? = some ce ∧ ce.vm = .none ∧ st.vm.findClass E = some ce.cls ∧ st.WarmedH t.vm ∧ st.sameButNew ({ t with vm := st.vm } : State) L mc ms ∧ ∀ z ∈ L, free z.base
def vx_Q (Qc : Array Value → State → Outcome → State → Prop) (XC : String → State → State → Prop) (mc ms : Nat) (free : Addr → Prop) : Array Value → State → Outcome → State → Prop := fun a st o t =>
  (Qc a st o t ∧ ∃ L, FrameEnd st o t L mc ms ∧ ∀ q ∈ L, free q.base) ∨ ∃ q, o = .threw q ∧ vx_T XC st q t mc ms free
/-- a callee that returns or throws -/
def vx_Met (l : Launch) (y : MethodName) (ws : List Cond) (rm : Room) (Pc : Array Value → State → Prop) (Qc : Array Value → State → Outcome → State → Prop) (XC : String → State → State → Prop) (mc ms : Nat) (free : Addr → Prop) : Prop :=
  MetFree l y (headSpec ws rm) Pc (fun _ _ _ _ _ => True) (vx_Q Qc XC mc ms free)
def vx_Post (XC : String → State → State → Prop) (mc ms : Nat) (free : Addr → Prop) : Pt → Array Value → Addr → Pt → Prop := fun A a q B =>
  ∃ (g : JFrame) (mk : MethodId) (t : State) (L : List Loc) (E : String) (ce : Cell), B.U.heap = t.heap ∧ B.U.vm = t.vm ∧ XC E (A.U.calling g mk a) t ∧ t.heap[q]? = some ce ∧ ce.vm = .none ∧ A.U.vm.findClass E = some ce.cls ∧ B.locs = A.locs ++ L ∧ (∀ z ∈ L, free z.base) ∧ B.cells = A.cells + mc ∧ B.slots = A.slots + ms
def vx_Back (l : Launch) (R : Room) (p : Program) (e : Env) (below : List Frame) (s : State) (sargs : Array Value) (y : MethodName) (len W9 : Nat)
    (Pre : Pt → Array Value → Prop) (Post : Pt → Array Value → Option Value → Pt → Prop) (PostX : Pt → Array Value → Addr → Pt → Prop) : Prop :=
  ∀ (m : MethodId) (meth : Method) (c : Code) (A : Pt) (g : JFrame) (ig : Instr) (mk : MethodId) (a : Array Value),
    Stand p l e R s m sargs below meth c A.U A.locs A.cells A.slots → g.method = m → g.locals.size = c.maxLocals → decode c.code g.pc = .ok (ig, len) →
    2 * g.monitorRoom + (g.stack.map fun v => v.category).sum ≤ W9 → A.U.methodNamed? y = some mk → Pre A a →
    (∃ (v : Option Value) (B : Pt), Stand p l e R s m sargs below meth c B.U B.locs B.cells B.slots ∧ Post A a v B ∧
      Steps p.tables e below (doInvoke e (A.U.setTop g) [] mk a).1 (B.U.setTop { g with pc := g.pc + len, stack := v.toList ++ g.stack })) ∨
    (∃ (q : Addr) (B : Pt), Stand p l e R s m sargs below meth c B.U B.locs B.cells B.slots ∧ PostX A a q B ∧
      Steps p.tables e below (doInvoke e (A.U.setTop g) [] mk a).1 ((B.U.setTop g).pushFrame (.throwing q)))
section Payer
variable {l : Launch} {R : Room} {p : Program} {e : Env} {below : List Frame} {s : State} {sargs : Array Value} {y : MethodName} {len W9 : Nat}
theorem vx_back {ws : List Cond} {rm : Room} {Pc : Array Value → State → Prop} {Qc : Array Value → State → Outcome → State → Prop} {XC : String → State → State → Prop} {mc ms : Nat} {free : Addr → Prop} {bytes : ByteArray} {maxL : Nat} {ret : Option FieldType}
    (hM : vx_Met l y ws rm Pc Qc XC mc ms free) (hblind : FrameBlind Pc) (hrc : rm.cells = mc) (hrs : rm.slots = ms)
    (hframes : rm.frames + 1 ≤ R.frames) (hlocals : W9 + (maxL + 11) + rm.locals ≤ R.locals)
    (hws : ∀ w ∈ ws, ∀ a' U, s.WarmedH U.vm → w.before a' U = true) (hcode : Cond.code y bytes maxL ret ∈ ws) (hinit : ∀ a' U, s.WarmedH U.vm → (Cond.initialized y.cls).before a' U = true) :
    vx_Back l R p e below s sargs y len W9 (PreOf R mc ms Pc) (PostOf Qc mc ms free) (vx_Post XC mc ms free) := by
  intro m meth c A g ig mk a X hg hsize hdg hW hn hp
  have h1 : (headSpec ws rm).pre.before a A.U = true := atoms_intro fun w hw => hws w hw _ _ X.warmed
  have h2 : (Cond.code y bytes maxL ret).before a A.U = true := hws _ hcode _ _ X.warmed
  have h3 : (Cond.initialized y.cls).before a A.U = true := hinit _ _ X.warmed
  have h4 : A.cells + (headSpec ws rm).room.cells ≤ R.cells := by rw [show (headSpec ws rm).room.cells = mc from hrc]; exact hp.1
  have h5 : A.slots + (headSpec ws rm).room.slots ≤ R.slots := by rw [show (headSpec ws rm).room.slots = ms from hrs]; exact hp.2.1
  have hPc : Pc a (A.U.calling g mk a) := hblind _ _ _ _ hp.2.2
  obtain ⟨U, Ls, c0, s0⟩ := A
  dsimp only [Pt.U, Pt.locs, Pt.cells, Pt.slots] at h1 h2 h3 h4 h5 X hn hPc ⊢
  obtain ⟨methY, cY, hmY, hcY, -, hlY, -, -, -, -⟩ := Cond.code_spec hn h2
  obtain ⟨kY, hkY, -⟩ := className_of_methodNamed hn
  have hinitY : kY.init = .initialized := Cond.initialized_spec (findClass_of_methodNamed hn) hkY h3
  have h : At U g.method c below := by rw [hg]; exact X.here
  have hlocals9 : W9 + (maxL + 11) + (headSpec ws rm).room.locals ≤ R.locals := hlocals
  have happ : (headSpec ws rm).appliesLoose y e.platform (U.calling g mk a) = true :=
    Spec.appliesLoose_calling (g := g) h hdg hn hkY hinitY
      (X.room_calling (g := g) (R' := (headSpec ws rm).room) hsize hmY hcY hframes (by rw [hlY]; omega) h4 h5) h1
  obtain ⟨mid, hmid⟩ := h.above
  have hfr : (U.setTop g).frames = (.java g :: mid) ++ below := by rw [State.frames_setTop' g h.top, hmid]; rfl
  obtain ⟨o, s₂, hsteps, -, hend, hq⟩ := Steps.callFree hM p X.admits X.cas X.clock (acts := []) hfr happ hPc trivial
  have hq' : vx_Q Qc XC mc ms free a (U.calling g mk a) o s₂ := hq
  rw [State.frames_setTop' g h.top] at hend
  obtain ⟨g₀, hg0⟩ := Option.isSome_iff_exists.mp h.top
  obtain ⟨r, hr⟩ := State.topJava?_eq_some.mp hg0
  have hr' : (({ U with heap := s₂.heap, slotsUsed := s₂.slotsUsed } : State).setVm s₂.vm).frames = .java g₀ :: r := hr
  rcases hq' with ⟨hqc, L, hfe, hL⟩ | ⟨q, rfl, E, ce, L, hx, hce, hcv, hcl, hW₂, hsm, hL⟩
  · obtain ⟨⟨v, rfl⟩, hW₂, e2, q2, q3, q4, q5, q6⟩ := id hfe
    have e3 : s₂ = ({ (U.calling g mk a).setFrames s₂.frames with heap := s₂.heap, slotsUsed := s₂.slotsUsed } : State).setVm s₂.vm := by
      have : s₂ = ({ s₂ with vm := (U.calling g mk a).vm } : State).setVm s₂.vm := rfl
      rw [e2] at this
      exact this
    obtain ⟨c₂, i₂, len₂, hc₂, hd₂, hf₂⟩ := hend
    have hW' : U.WarmedH s₂.vm := hW₂
    have hcc : c₂ = c := by
      have h1 : s₂.code? g.method = U.code? g.method := by
        rw [State.code?_eq, State.code?_eq, hW'.alike.method?]
      exact Option.some.inj (hc₂.symm.trans (h1.trans h.code))
    subst hcc
    have hlen : len₂ = len := by rw [hdg] at hd₂; cases hd₂; rfl
    subst hlen
    have hs₂ : s₂ = (({ U with heap := s₂.heap, slotsUsed := s₂.slotsUsed } : State).setVm s₂.vm).setTop { g with pc := g.pc + len₂, stack := v.toList ++ g.stack } := by
      refine e3.trans ?_
      rw [hf₂, State.calling_eq h.top, State.setFrames_setFrames, State.setTop_of_frames _ hr', hr]
      rfl
    have hsame : U.sameButNew ({ U with heap := s₂.heap, slotsUsed := s₂.slotsUsed } : State) L mc ms := by
      refine ⟨?_, q2, q3, q4, q5, q6⟩
      obtain ⟨t, ht, -⟩ := State.frames_cons hr
      show ({ U with heap := s₂.heap, slotsUsed := s₂.slotsUsed } : State) = { U.setFrames U.frames with heap := s₂.heap, slotsUsed := s₂.slotsUsed }
      rw [State.setFrames_self ht]
    subst hg
    refine Or.inl ⟨v, ⟨(({ U with heap := s₂.heap, slotsUsed := s₂.slotsUsed } : State).setVm s₂.vm), Ls ++ L, c0 + mc, s0 + ms⟩,
      ⟨X.admits, X.cas, X.clock, X.frames, X.room, X.hears, X.method, X.code, (X.here.setHeapUsed s₂.heap s₂.slotsUsed).setVm hW'.alike, X.tail, State.WarmedH.trans X.warmed hW', X.limits, X.bytes, X.same.trans (hsame.setVm s.vm)⟩,
      ⟨g, mk, s₂, L, rfl, rfl, hqc, rfl, hL, rfl, rfl⟩, ?_⟩
    show Steps p.tables e below _ ((({ U with heap := s₂.heap, slotsUsed := s₂.slotsUsed } : State).setVm s₂.vm).setTop { g with pc := g.pc + len₂, stack := v.toList ++ g.stack })
    rw [← hs₂]
    exact hsteps
  · obtain ⟨e2, q2, q3, q4, q5, q6⟩ := id hsm
    have e3 : s₂ = ({ (U.calling g mk a).setFrames s₂.frames with heap := s₂.heap, slotsUsed := s₂.slotsUsed } : State).setVm s₂.vm := by
      have : s₂ = ({ s₂ with vm := (U.calling g mk a).vm } : State).setVm s₂.vm := rfl
      rw [e2] at this
      exact this
    have hf₂ : s₂.frames = .throwing q :: .java g :: U.frames.tail := hend
    have hW' : U.WarmedH s₂.vm := hW₂
    have hs₂ : s₂ = ((({ U with heap := s₂.heap, slotsUsed := s₂.slotsUsed } : State).setVm s₂.vm).setTop g).pushFrame (.throwing q) := by
      refine e3.trans ?_
      rw [hf₂, State.calling_eq h.top, State.setFrames_setFrames, State.pushFrame, State.frames_setTop _ hr', State.setTop_of_frames _ hr', State.setFrames_setFrames, hr]
      rfl
    have hsame : U.sameButNew ({ U with heap := s₂.heap, slotsUsed := s₂.slotsUsed } : State) L mc ms := by
      refine ⟨?_, q2, q3, q4, q5, q6⟩
      obtain ⟨t, ht, -⟩ := State.frames_cons hr
      show ({ U with heap := s₂.heap, slotsUsed := s₂.slotsUsed } : State) = { U.setFrames U.frames with heap := s₂.heap, slotsUsed := s₂.slotsUsed }
      rw [State.setFrames_self ht]
    subst hg
    refine Or.inr ⟨q, ⟨(({ U with heap := s₂.heap, slotsUsed := s₂.slotsUsed } : State).setVm s₂.vm), Ls ++ L, c0 + mc, s0 + ms⟩,
      ⟨X.admits, X.cas, X.clock, X.frames, X.room, X.hears, X.method, X.code, (X.here.setHeapUsed s₂.heap s₂.slotsUsed).setVm hW'.alike, X.tail, State.WarmedH.trans X.warmed hW', X.limits, X.bytes, X.same.trans (hsame.setVm s.vm)⟩,
      ⟨g, mk, s₂, L, E, ce, rfl, rfl, hx, hce, hcv, hcl, rfl, hL, rfl, rfl⟩, ?_⟩
    show Steps p.tables e below _ (((({ U with heap := s₂.heap, slotsUsed := s₂.slotsUsed } : State).setVm s₂.vm).setTop g).pushFrame (.throwing q))
    rw [← hs₂]
    exact hsteps
end Payer
section Calls
variable {p : Program} {l : Launch} {e : Env} {R : Room} {s : State} {m : MethodId} {args : Array Value} {below : List Frame} {meth : Method} {c : Code} {T : State} {locs : List Loc} {cells slots : Nat}
theorem vx_callV (X : Stand p l e R s m args below meth c T locs cells slots) (hexec : p.tables.exec = Jvm.exec) {own C : String} {index : Nat} {y : MethodName} {bytes : ByteArray} {maxL : Nat} {ret : Option FieldType}
    (hown : s.vm.findClass own = some m.cls) (hlink : (Cond.methodLink own index y).before args s = true) (hinst : (Cond.instanceMethod y).before args s = true) (hsel : (Cond.selects C y y).before args s = true)
    (hcode : (Cond.code y bytes maxL ret).before args s = true) (hy : y.cls ≠ "java/lang/invoke/MethodHandle" ∧ y.cls ≠ "java/lang/invoke/VarHandle")
    {W9 : Nat} {Pre : Pt → Array Value → Prop} {Post : Pt → Array Value → Option Value → Pt → Prop} {PostX : Pt → Array Value → Addr → Pt → Prop} (hK : vx_Back l R p e below s args y 3 W9 Pre Post PostX)
    {b : Addr} {cellB : Cell} (hcell : T.heap[b]? = some cellB) (hobj : cellB.vm.isStatics = false) (hcls : s.vm.findClass C = some cellB.cls)
    {g : JFrame} (hg : g.method = m) (hsize : g.locals.size = c.maxLocals) {argsL rest : List Value} (hlen : ∀ sig, parseMethodDescriptor y.desc = some sig → argsL.length = sig.parameters.length)
    (hstack : g.stack = argsL.reverse ++ .ref b :: rest) (hW : 2 * g.monitorRoom + (rest.map fun v => v.category).sum ≤ W9) (hdg : decode c.code g.pc = .ok (.invokevirtual index, 3))
    (hpre : ∀ vm₁, s.WarmedH vm₁ → Pre ⟨T.setVm vm₁, locs, cells, slots⟩ (Value.ref b :: argsL).toArray) :
    (∃ (v : Option Value) (vm₁ : Vm) (B : Pt), s.WarmedH vm₁ ∧ Stand p l e R s m args below meth c B.U B.locs B.cells B.slots ∧ Post ⟨T.setVm vm₁, locs, cells, slots⟩ (Value.ref b :: argsL).toArray v B ∧
      ∀ target, Steps p.tables e below (B.U.setTop { g with pc := g.pc + 3, stack := v.toList ++ rest }) target → Steps p.tables e below (T.setTop g) target) ∨
    (∃ (q : Addr) (vm₁ : Vm) (B : Pt), s.WarmedH vm₁ ∧ Stand p l e R s m args below meth c B.U B.locs B.cells B.slots ∧ PostX ⟨T.setVm vm₁, locs, cells, slots⟩ (Value.ref b :: argsL).toArray q B ∧
      Steps p.tables e below (T.setTop g) ((B.U.setTop { g with stack := rest }).pushFrame (.throwing q))) := by
  obtain ⟨mk, methM, hnamed, hmethM, hstM, habM⟩ := Cond.instanceMethod_spec hinst
  obtain ⟨methM', cM, hmethM', -, -, -, -, -, -, hsigM⟩ := Cond.code_spec hnamed hcode
  cases hmethM.symm.trans hmethM'
  obtain ⟨c2, r2, m2, q1, q2, q3, q4, kP, hkP, hkPi⟩ := Cond.selects_spec hsel
  cases hcls.symm.trans q1
  cases (State.methodFound?_of_named hnamed hy).symm.trans q2
  cases hnamed.symm.trans q3
  have hselP : selectMethod e.platform s.vm cellB.cls mk = .method mk := by rw [Launch.admits_selectMethod X.admits]; exact q4
  obtain ⟨vm₁, X₁, hstep₁⟩ := X.invokevirtual hexec hown hlink hnamed hmethM hstM hkP hkPi hy (a := b) (cell := cellB) hcell
    (fun z h => by rw [h] at hobj; cases hobj) hselP hmethM habM hkP hkPi (g := g) hg (argsL := argsL) (rest := rest) (hlen _ hsigM) hstack hdg
  rcases hK m meth c ⟨T.setVm vm₁, locs, cells, slots⟩ { g with stack := rest } (.invokevirtual index) mk (Value.ref b :: argsL).toArray X₁ hg hsize hdg hW (X₁.named hnamed) (hpre vm₁ X₁.warmed) with ⟨v, B, X', hpost, hsteps⟩ | ⟨q, B, X', hpost, hsteps⟩
  · exact Or.inl ⟨v, vm₁, B, X₁.warmed, X', hpost, fun target h => hstep₁ _ fun acts => by rw [doInvoke_state]; exact hsteps.trans h⟩
  · exact Or.inr ⟨q, vm₁, B, X₁.warmed, X', hpost, hstep₁ _ fun acts => by rw [doInvoke_state]; exact hsteps⟩
theorem vx_callS (X : Stand p l e R s m args below meth c T locs cells slots) (hexec : p.tables.exec = Jvm.exec) {own : String} {index : Nat} {y : MethodName} {bytes : ByteArray} {maxL : Nat} {ret : Option FieldType}
    (hown : s.vm.findClass own = some m.cls) (hlink : (Cond.methodLink own index y).before args s = true) (hstat : (Cond.static y).before args s = true) (hinit : (Cond.initialized y.cls).before args s = true)
    (hcode : (Cond.code y bytes maxL ret).before args s = true) (hy : y.cls ≠ "java/lang/invoke/MethodHandle" ∧ y.cls ≠ "java/lang/invoke/VarHandle")
    {W9 : Nat} {Pre : Pt → Array Value → Prop} {Post : Pt → Array Value → Option Value → Pt → Prop} {PostX : Pt → Array Value → Addr → Pt → Prop} (hK : vx_Back l R p e below s args y 3 W9 Pre Post PostX)
    {g : JFrame} (hg : g.method = m) (hsize : g.locals.size = c.maxLocals) {argsL rest : List Value} (hlen : ∀ sig, parseMethodDescriptor y.desc = some sig → argsL.length = sig.parameters.length)
    (hstack : g.stack = argsL.reverse ++ rest) (hW : 2 * g.monitorRoom + (rest.map fun v => v.category).sum ≤ W9) (hdg : decode c.code g.pc = .ok (.invokestatic index, 3))
    (hpre : ∀ vm₁, s.WarmedH vm₁ → Pre ⟨T.setVm vm₁, locs, cells, slots⟩ argsL.toArray) :
    (∃ (v : Option Value) (vm₁ : Vm) (B : Pt), s.WarmedH vm₁ ∧ Stand p l e R s m args below meth c B.U B.locs B.cells B.slots ∧ Post ⟨T.setVm vm₁, locs, cells, slots⟩ argsL.toArray v B ∧
      ∀ target, Steps p.tables e below (B.U.setTop { g with pc := g.pc + 3, stack := v.toList ++ rest }) target → Steps p.tables e below (T.setTop g) target) ∨
    (∃ (q : Addr) (vm₁ : Vm) (B : Pt), s.WarmedH vm₁ ∧ Stand p l e R s m args below meth c B.U B.locs B.cells B.slots ∧ PostX ⟨T.setVm vm₁, locs, cells, slots⟩ argsL.toArray q B ∧
      Steps p.tables e below (T.setTop g) ((B.U.setTop { g with stack := rest }).pushFrame (.throwing q))) := by
  obtain ⟨mk, hnamed⟩ := Cond.code_named hcode
  obtain ⟨methM, cM, hmethM, -, -, -, -, -, -, hsigM⟩ := Cond.code_spec hnamed hcode
  have hstatic : methM.isStatic = true := Cond.static_spec hnamed hmethM hstat
  obtain ⟨kP, hkP, -⟩ := className_of_methodNamed hnamed
  have hinitP : kP.init = .initialized := Cond.initialized_spec (findClass_of_methodNamed hnamed) hkP hinit
  obtain ⟨vm₁, X₁, hstep₁⟩ := X.invokestatic hexec hown hlink hnamed hmethM hstatic hkP hinitP hy (g := g) hg (argsL := argsL) (rest := rest) (hlen _ hsigM) hstack hdg
  rcases hK m meth c ⟨T.setVm vm₁, locs, cells, slots⟩ { g with stack := rest } (.invokestatic index) mk argsL.toArray X₁ hg hsize hdg hW (X₁.named hnamed) (hpre vm₁ X₁.warmed) with ⟨v, B, X', hpost, hsteps⟩ | ⟨q, B, X', hpost, hsteps⟩
  · exact Or.inl ⟨v, vm₁, B, X₁.warmed, X', hpost, fun target h => hstep₁ _ fun acts => by rw [doInvoke_state]; exact hsteps.trans h⟩
  · exact Or.inr ⟨q, vm₁, B, X₁.warmed, X', hpost, hstep₁ _ fun acts => by rw [doInvoke_state]; exact hsteps⟩
end Calls
theorem vx_cls {s : State} {T : State} {vm₁ : Vm} {E : String} {k : ClassId} (hW : s.WarmedH vm₁) (h : (T.setVm vm₁).vm.findClass E = some k) : s.vm.findClass E = some k := by
  have h1 : vm₁.findClass E = some k := h
  rw [hW.alike.findClass] at h1
  exact h1
/-- the method's frame g, with q thrown over it -/
def vx_W (p : Program) (l : Launch) (e : Env) (R : Room) (s : State) (m : MethodId) (args : Array Value) (below : List Frame) (meth : Method) (c : Code) (H : Heap) (locs : List Loc) (cells slots : Nat) (Q : State → Prop) (g : JFrame) (q : Addr) : Prop :=
  ∀ T : State, T.heap = H → Stand p l e R s m args below meth c T locs cells slots → ∃ t, Steps p.tables e below ((T.setTop g).pushFrame (.throwing q)) t ∧ Q t
def vx_Run (p : Program) (l : Launch) (e : Env) (R : Room) (s : State) (m : MethodId) (args : Array Value) (below : List Frame) (meth : Method) (c : Code) (H : Heap) (locs : List Loc) (cells slots mc ms : Nat) (g : JFrame) (rest : List Value) (Qa : State → Outcome → State → Prop) (XC : String → State → State → Prop) (free : Addr → Prop) : Prop :=
  ∀ T : State, T.heap = H → Stand p l e R s m args below meth c T locs cells slots →
    (∃ (v : Option Value) (st₀ t T' : State) (L : List Loc), st₀.heap = H ∧ Stand p l e R s m args below meth c T' (locs ++ L) (cells + mc) (slots + ms) ∧ (∀ q ∈ L, free q.base) ∧ T'.heap = t.heap ∧ T'.vm = t.vm ∧ Qa st₀ (.returned v) t ∧
      Goes p e below T g T' { g with pc := g.pc + 3, stack := v.toList ++ rest }) ∨
    (∃ (q : Addr) (st₀ t T' : State) (L : List Loc) (E : String) (ce : Cell), st₀.heap = H ∧ Stand p l e R s m args below meth c T' (locs ++ L) (cells + mc) (slots + ms) ∧ (∀ z ∈ L, free z.base) ∧ T'.heap = t.heap ∧ T'.vm = t.vm ∧ XC E st₀ t ∧ t.heap[q]? = some ce ∧ ce.vm = .none ∧ s.vm.findClass E = some ce.cls ∧
      Steps p.tables e below (T.setTop g) ((T'.setTop { g with stack := rest }).pushFrame (.throwing q)))
def vx_X {S : Type} (px : S → Prop) (B : String → S → State → Prop) (A : Nat → Prop) : String → State → State → Prop := fun E st t => ∃ u : S, px u ∧ B E u t ∧ va_F A st t
section Runs
variable {p : Program} {l : Launch} {e : Env} {R : Room} {s : State} {m : MethodId} {args : Array Value} {below : List Frame} {meth : Method} {c : Code} {H : Heap} {locs : List Loc} {cells slots : Nat}
variable {y : MethodName} {bytes cc : ByteArray} {maxL nL mc ms n index : Nat} {ret : Option FieldType} {ws : List Cond} {rm : Room} {Pc : Array Value → State → Prop} {Qc : Array Value → State → Outcome → State → Prop} {XC : String → State → State → Prop} {free : Addr → Prop} {Ts : List Cond} {own C : String} {b : Addr} {As rest : List Value} {g : JFrame}
theorem vx_callBack (cb : CallB R s args own index y bytes maxL ret ws rm mc ms n) (hM : vx_Met l y ws rm Pc Qc XC mc ms free) (hbl : FrameBlind Pc) : vx_Back l R p e below s args y 3 8 (PreOf R mc ms Pc) (PostOf Qc mc ms free) (vx_Post XC mc ms free) := by
  obtain ⟨hrc, hrs, hfr, hlo, hws, hcw, -, hini, -⟩ := cb
  exact vx_back (bytes := bytes) (maxL := maxL) (ret := ret) hM hbl hrc hrs hfr hlo hws hcw (fun a' U hW => word_at hW (Or.inl (by first | rfl | simp [Cond.onTables, Cond.keeps, Cond.steady])) hini)
theorem vx_runV (S : CallFix p m c cc nL s args Ts own) (hM : vx_Met l y ws rm Pc Qc XC mc ms free) (cw : CallW R s args own C index y bytes maxL ret ws rm mc ms n) (hp : PreV s H C b Pc As)
    (hg : g.method = m) (hn : As.length = n) (hsize : g.locals.size = nL) (hstack : g.stack = As.reverse ++ .ref b :: rest) (hW : 2 * g.monitorRoom + (rest.map fun v => v.category).sum ≤ 8) (hdg : decode cc g.pc = .ok (.invokevirtual index, 3)) (hf : cells + mc ≤ R.cells ∧ slots + ms ≤ R.slots) :
    vx_Run p l e R s m args below meth c H locs cells slots mc ms g rest (Qc (Value.ref b :: As).toArray) XC free := by
  have hK : vx_Back l R p e below s args y 3 8 (PreOf R mc ms Pc) (PostOf Qc mc ms free) (vx_Post XC mc ms free) := vx_callBack cw.1 hM hp.1
  obtain ⟨⟨-, -, -, -, -, -, hcode, -, hy, hlen, hl⟩, hin, hse⟩ := cw
  obtain ⟨hx, hb, hml, ho, -⟩ := S
  obtain ⟨-, ⟨cellB, hcB, hoB, hclB⟩, hPc⟩ := hp
  intro T hT X
  rcases vx_callV X hx (C := C) (bytes := bytes) (maxL := maxL) (ret := ret) ho hl hin hse hcode hy hK (by rw [hT]; exact hcB) hoB hclB hg (hsize.trans hml.symm) (argsL := As) (rest := rest) (fun sig h => hn.trans (hlen sig h)) hstack hW (by rw [hb]; exact hdg)
    (fun vm₁ hW₁ => ⟨hf.1, hf.2, hPc (T.setVm vm₁) hT hW₁⟩) with ⟨v, vm₁, ⟨U', l2, c2, s2⟩, hW₁, X', ⟨g', mk, t, L, e1, e2, hq, h1, hL, h2, h3⟩, st⟩ | ⟨q, vm₁, ⟨U', l2, c2, s2⟩, hW₁, X', ⟨g', mk, t, L, E, ce, e1, e2, hq, hce, hcv, hcl, h1, hL, h2, h3⟩, st⟩
  · dsimp only [Pt.U, Pt.locs, Pt.cells, Pt.slots] at X' e1 e2 h1 h2 h3 st
    subst h1; subst h2; subst h3
    exact Or.inl ⟨v, (T.setVm vm₁).calling g' mk (Value.ref b :: As).toArray, t, U', L, hT, X', hL, e1, e2, hq, st⟩
  · dsimp only [Pt.U, Pt.locs, Pt.cells, Pt.slots] at X' e1 e2 h1 h2 h3 st hcl
    subst h1; subst h2; subst h3
    exact Or.inr ⟨q, (T.setVm vm₁).calling g' mk (Value.ref b :: As).toArray, t, U', L, E, ce, hT, X', hL, e1, e2, hq, hce, hcv, vx_cls hW₁ hcl, st⟩
theorem vx_runS (S : CallFix p m c cc nL s args Ts own) (hM : vx_Met l y ws rm Pc Qc XC mc ms free) (cw : CallB R s args own index y bytes maxL ret ws rm mc ms n ∧ (Cond.static y).before args s = true) (hp : PreS s H Pc As)
    (hg : g.method = m) (hn : As.length = n) (hsize : g.locals.size = nL) (hstack : g.stack = As.reverse ++ rest) (hW : 2 * g.monitorRoom + (rest.map fun v => v.category).sum ≤ 8) (hdg : decode cc g.pc = .ok (.invokestatic index, 3)) (hf : cells + mc ≤ R.cells ∧ slots + ms ≤ R.slots) :
    vx_Run p l e R s m args below meth c H locs cells slots mc ms g rest (Qc As.toArray) XC free := by
  have hK : vx_Back l R p e below s args y 3 8 (PreOf R mc ms Pc) (PostOf Qc mc ms free) (vx_Post XC mc ms free) := vx_callBack cw.1 hM hp.1
  obtain ⟨⟨-, -, -, -, -, -, hcode, hini, hy, hlen, hl⟩, hstt⟩ := cw
  obtain ⟨hx, hb, hml, ho, -⟩ := S
  intro T hT X
  rcases vx_callS X hx (bytes := bytes) (maxL := maxL) (ret := ret) ho hl hstt hini hcode hy hK hg (hsize.trans hml.symm) (argsL := As) (rest := rest) (fun sig h => hn.trans (hlen sig h)) hstack hW (by rw [hb]; exact hdg)
    (fun vm₁ hW₁ => ⟨hf.1, hf.2, hp.2 (T.setVm vm₁) hT hW₁⟩) with ⟨v, vm₁, ⟨U', l2, c2, s2⟩, hW₁, X', ⟨g', mk, t, L, e1, e2, hq, h1, hL, h2, h3⟩, st⟩ | ⟨q, vm₁, ⟨U', l2, c2, s2⟩, hW₁, X', ⟨g', mk, t, L, E, ce, e1, e2, hq, hce, hcv, hcl, h1, hL, h2, h3⟩, st⟩
  · dsimp only [Pt.U, Pt.locs, Pt.cells, Pt.slots] at X' e1 e2 h1 h2 h3 st
    subst h1; subst h2; subst h3
    exact Or.inl ⟨v, (T.setVm vm₁).calling g' mk As.toArray, t, U', L, hT, X', hL, e1, e2, hq, st⟩
  · dsimp only [Pt.U, Pt.locs, Pt.cells, Pt.slots] at X' e1 e2 h1 h2 h3 st hcl
    subst h1; subst h2; subst h3
    exact Or.inr ⟨q, (T.setVm vm₁).calling g' mk As.toArray, t, U', L, E, ce, hT, X', hL, e1, e2, hq, hce, hcv, vx_cls hW₁ hcl, st⟩
end Runs
section Rows
variable {p : Program} {l : Launch} {e : Env} {R : Room} {s : State} {m : MethodId} {args : Array Value} {below : List Frame} {meth : Method} {c : Code} {H : Heap} {locs : List Loc} {cells slots : Nat} {Q : State → Prop}
variable {mc ms : Nat} {free : Addr → Prop} {A0 A1 : Nat → Prop} {H0 : Heap} {a : Array Value} {pc : Nat} {ls : Array Slot} {st0 rest : List Value}
theorem vx_keep {st₀ t T' : State} {L : List Loc} (h0 : st₀.heap = H) (e1 : T'.heap = t.heap) (hS : va_S A0 H0 H locs) (hA : ∀ q, q < H.size → A1 q → A0 q) (hf : ∀ q, free q → A0 q) (hL : ∀ q ∈ L, free q.base) (hF : va_F A1 st₀ t) :
    H.size ≤ T'.heap.size ∧ (∀ q : Nat, q < H.size → ¬ A1 q → T'.heap[q]? = H[q]?) ∧ va_S A0 H0 T'.heap (locs ++ L) := by
  obtain ⟨hz, hk⟩ := hF
  rw [h0] at hz hk
  exact ⟨by rw [e1]; exact hz, fun q h1 h2 => by rw [e1]; exact hk q h1 h2,
    ⟨Nat.le_trans hS.1 (by rw [e1]; exact hz), fun q h1 h2 => by rw [e1, hk q (Nat.lt_of_lt_of_le h1 hS.1) (fun z => h2 (hA q (Nat.lt_of_lt_of_le h1 hS.1) z))]; exact hS.2.1 q h1 h2, fun q hq => by
      rcases List.mem_append.mp hq with h | h
      · exact hS.2.2 q h
      · exact hf _ (hL q h)⟩⟩
theorem vx_calli {S SX : Type} {post : Int32 → S → Prop} {px : SX → Prop} {B : S → State → Prop} {BX : String → SX → State → Prop} {AX : Nat → Prop} (hr : vx_Run p l e R s m args below meth c H locs cells slots mc ms (F0 m pc ls st0) rest (va_Qi post B A1 a) (vx_X px BX AX) free) (hS : va_S A0 H0 H locs) (hA : ∀ q, q < H.size → A1 q → A0 q) (hf : ∀ q, free q → A0 q) (hAX : ∀ q, q < H.size → AX q → A0 q)
    (kx : ∀ (E : String) (ce : Cell) (q9 : Addr) (u : SX) (t : State) (H1 : Heap) (locs1 : List Loc), t.heap = H1 → s.vm.Alike t.vm → px u → BX E u t → H.size ≤ H1.size → (∀ q : Nat, q < H.size → ¬ AX q → H1[q]? = H[q]?) → va_S A0 H0 H1 locs1 → H1[q9]? = some ce → ce.vm = .none → s.vm.findClass E = some ce.cls → vx_W p l e R s m args below meth c H1 locs1 (cells + mc) (slots + ms) Q (F0 m pc ls rest) q9)
    (kk : ∀ (r : Int32) (u : S) (t : State) (H1 : Heap) (locs1 : List Loc), t.heap = H1 → s.vm.Alike t.vm → post r u → B u t → H.size ≤ H1.size → (∀ q : Nat, q < H.size → ¬ A1 q → H1[q]? = H[q]?) → va_S A0 H0 H1 locs1 → W p l e R s m args below meth c H1 locs1 (cells + mc) (slots + ms) Q (F0 m (pc + 3) ls (.int r :: rest))) : W p l e R s m args below meth c H locs cells slots Q (F0 m pc ls st0) := by
  intro T hT X
  rcases hr T hT X with ⟨v, st₀, t, T', L, h0, X', hL, e1, e2, ⟨⟨r, u, hv, hp, hb⟩, hF⟩, st⟩ | ⟨q, st₀, t, T', L, E, ce, h0, X', hL, e1, e2, ⟨u, hp, hb, hF⟩, hce, hcv, hcl, st⟩
  · cases hv
    obtain ⟨k1, k2, k3⟩ := vx_keep h0 e1 hS hA hf hL hF
    obtain ⟨t2, a1, b1⟩ := kk r u t T'.heap (locs ++ L) e1.symm (by rw [← e2]; exact X'.warmed.alike) hp hb k1 k2 k3 T' rfl X'
    exact ⟨t2, st t2 a1, b1⟩
  · obtain ⟨k1, k2, k3⟩ := vx_keep h0 e1 hS hAX hf hL hF
    obtain ⟨t2, a1, b1⟩ := kx E ce q u t T'.heap (locs ++ L) e1.symm (by rw [← e2]; exact X'.warmed.alike) hp hb k1 k2 k3 (by rw [e1]; exact hce) hcv hcl T' rfl X'
    exact ⟨t2, st.trans a1, b1⟩
theorem vx_calll {S SX : Type} {post : Int64 → S → Prop} {px : SX → Prop} {B : S → State → Prop} {BX : String → SX → State → Prop} {AX : Nat → Prop} (hr : vx_Run p l e R s m args below meth c H locs cells slots mc ms (F0 m pc ls st0) rest (va_Ql post B A1 a) (vx_X px BX AX) free) (hS : va_S A0 H0 H locs) (hA : ∀ q, q < H.size → A1 q → A0 q) (hf : ∀ q, free q → A0 q) (hAX : ∀ q, q < H.size → AX q → A0 q)
    (kx : ∀ (E : String) (ce : Cell) (q9 : Addr) (u : SX) (t : State) (H1 : Heap) (locs1 : List Loc), t.heap = H1 → s.vm.Alike t.vm → px u → BX E u t → H.size ≤ H1.size → (∀ q : Nat, q < H.size → ¬ AX q → H1[q]? = H[q]?) → va_S A0 H0 H1 locs1 → H1[q9]? = some ce → ce.vm = .none → s.vm.findClass E = some ce.cls → vx_W p l e R s m args below meth c H1 locs1 (cells + mc) (slots + ms) Q (F0 m pc ls rest) q9)
    (kk : ∀ (r : Int64) (u : S) (t : State) (H1 : Heap) (locs1 : List Loc), t.heap = H1 → s.vm.Alike t.vm → post r u → B u t → H.size ≤ H1.size → (∀ q : Nat, q < H.size → ¬ A1 q → H1[q]? = H[q]?) → va_S A0 H0 H1 locs1 → W p l e R s m args below meth c H1 locs1 (cells + mc) (slots + ms) Q (F0 m (pc + 3) ls (.long r :: rest))) : W p l e R s m args below meth c H locs cells slots Q (F0 m pc ls st0) := by
  intro T hT X
  rcases hr T hT X with ⟨v, st₀, t, T', L, h0, X', hL, e1, e2, ⟨⟨r, u, hv, hp, hb⟩, hF⟩, st⟩ | ⟨q, st₀, t, T', L, E, ce, h0, X', hL, e1, e2, ⟨u, hp, hb, hF⟩, hce, hcv, hcl, st⟩
  · cases hv
    obtain ⟨k1, k2, k3⟩ := vx_keep h0 e1 hS hA hf hL hF
    obtain ⟨t2, a1, b1⟩ := kk r u t T'.heap (locs ++ L) e1.symm (by rw [← e2]; exact X'.warmed.alike) hp hb k1 k2 k3 T' rfl X'
    exact ⟨t2, st t2 a1, b1⟩
  · obtain ⟨k1, k2, k3⟩ := vx_keep h0 e1 hS hAX hf hL hF
    obtain ⟨t2, a1, b1⟩ := kx E ce q u t T'.heap (locs ++ L) e1.symm (by rw [← e2]; exact X'.warmed.alike) hp hb k1 k2 k3 (by rw [e1]; exact hce) hcv hcl T' rfl X'
    exact ⟨t2, st.trans a1, b1⟩
theorem vx_callf {S SX : Type} {post : UInt32 → S → Prop} {px : SX → Prop} {B : S → State → Prop} {BX : String → SX → State → Prop} {AX : Nat → Prop} (hr : vx_Run p l e R s m args below meth c H locs cells slots mc ms (F0 m pc ls st0) rest (va_Qf post B A1 a) (vx_X px BX AX) free) (hS : va_S A0 H0 H locs) (hA : ∀ q, q < H.size → A1 q → A0 q) (hf : ∀ q, free q → A0 q) (hAX : ∀ q, q < H.size → AX q → A0 q)
    (kx : ∀ (E : String) (ce : Cell) (q9 : Addr) (u : SX) (t : State) (H1 : Heap) (locs1 : List Loc), t.heap = H1 → s.vm.Alike t.vm → px u → BX E u t → H.size ≤ H1.size → (∀ q : Nat, q < H.size → ¬ AX q → H1[q]? = H[q]?) → va_S A0 H0 H1 locs1 → H1[q9]? = some ce → ce.vm = .none → s.vm.findClass E = some ce.cls → vx_W p l e R s m args below meth c H1 locs1 (cells + mc) (slots + ms) Q (F0 m pc ls rest) q9)
    (kk : ∀ (r : UInt32) (u : S) (t : State) (H1 : Heap) (locs1 : List Loc), t.heap = H1 → s.vm.Alike t.vm → post r u → B u t → H.size ≤ H1.size → (∀ q : Nat, q < H.size → ¬ A1 q → H1[q]? = H[q]?) → va_S A0 H0 H1 locs1 → W p l e R s m args below meth c H1 locs1 (cells + mc) (slots + ms) Q (F0 m (pc + 3) ls (.float r :: rest))) : W p l e R s m args below meth c H locs cells slots Q (F0 m pc ls st0) := by
  intro T hT X
  rcases hr T hT X with ⟨v, st₀, t, T', L, h0, X', hL, e1, e2, ⟨⟨r, u, hv, hp, hb⟩, hF⟩, st⟩ | ⟨q, st₀, t, T', L, E, ce, h0, X', hL, e1, e2, ⟨u, hp, hb, hF⟩, hce, hcv, hcl, st⟩
  · cases hv
    obtain ⟨k1, k2, k3⟩ := vx_keep h0 e1 hS hA hf hL hF
    obtain ⟨t2, a1, b1⟩ := kk r u t T'.heap (locs ++ L) e1.symm (by rw [← e2]; exact X'.warmed.alike) hp hb k1 k2 k3 T' rfl X'
    exact ⟨t2, st t2 a1, b1⟩
  · obtain ⟨k1, k2, k3⟩ := vx_keep h0 e1 hS hAX hf hL hF
    obtain ⟨t2, a1, b1⟩ := kx E ce q u t T'.heap (locs ++ L) e1.symm (by rw [← e2]; exact X'.warmed.alike) hp hb k1 k2 k3 (by rw [e1]; exact hce) hcv hcl T' rfl X'
    exact ⟨t2, st.trans a1, b1⟩
theorem vx_calld {S SX : Type} {post : UInt64 → S → Prop} {px : SX → Prop} {B : S → State → Prop} {BX : String → SX → State → Prop} {AX : Nat → Prop} (hr : vx_Run p l e R s m args below meth c H locs cells slots mc ms (F0 m pc ls st0) rest (va_Qd post B A1 a) (vx_X px BX AX) free) (hS : va_S A0 H0 H locs) (hA : ∀ q, q < H.size → A1 q → A0 q) (hf : ∀ q, free q → A0 q) (hAX : ∀ q, q < H.size → AX q → A0 q)
    (kx : ∀ (E : String) (ce : Cell) (q9 : Addr) (u : SX) (t : State) (H1 : Heap) (locs1 : List Loc), t.heap = H1 → s.vm.Alike t.vm → px u → BX E u t → H.size ≤ H1.size → (∀ q : Nat, q < H.size → ¬ AX q → H1[q]? = H[q]?) → va_S A0 H0 H1 locs1 → H1[q9]? = some ce → ce.vm = .none → s.vm.findClass E = some ce.cls → vx_W p l e R s m args below meth c H1 locs1 (cells + mc) (slots + ms) Q (F0 m pc ls rest) q9)
    (kk : ∀ (r : UInt64) (u : S) (t : State) (H1 : Heap) (locs1 : List Loc), t.heap = H1 → s.vm.Alike t.vm → post r u → B u t → H.size ≤ H1.size → (∀ q : Nat, q < H.size → ¬ A1 q → H1[q]? = H[q]?) → va_S A0 H0 H1 locs1 → W p l e R s m args below meth c H1 locs1 (cells + mc) (slots + ms) Q (F0 m (pc + 3) ls (.double r :: rest))) : W p l e R s m args below meth c H locs cells slots Q (F0 m pc ls st0) := by
  intro T hT X
  rcases hr T hT X with ⟨v, st₀, t, T', L, h0, X', hL, e1, e2, ⟨⟨r, u, hv, hp, hb⟩, hF⟩, st⟩ | ⟨q, st₀, t, T', L, E, ce, h0, X', hL, e1, e2, ⟨u, hp, hb, hF⟩, hce, hcv, hcl, st⟩
  · cases hv
    obtain ⟨k1, k2, k3⟩ := vx_keep h0 e1 hS hA hf hL hF
    obtain ⟨t2, a1, b1⟩ := kk r u t T'.heap (locs ++ L) e1.symm (by rw [← e2]; exact X'.warmed.alike) hp hb k1 k2 k3 T' rfl X'
    exact ⟨t2, st t2 a1, b1⟩
  · obtain ⟨k1, k2, k3⟩ := vx_keep h0 e1 hS hAX hf hL hF
    obtain ⟨t2, a1, b1⟩ := kx E ce q u t T'.heap (locs ++ L) e1.symm (by rw [← e2]; exact X'.warmed.alike) hp hb k1 k2 k3 (by rw [e1]; exact hce) hcv hcl T' rfl X'
    exact ⟨t2, st.trans a1, b1⟩
theorem vx_callv {S SX : Type} {post : S → Prop} {px : SX → Prop} {B : S → State → Prop} {BX : String → SX → State → Prop} {AX : Nat → Prop} (hr : vx_Run p l e R s m args below meth c H locs cells slots mc ms (F0 m pc ls st0) rest (va_Qv post B A1 a) (vx_X px BX AX) free) (hS : va_S A0 H0 H locs) (hA : ∀ q, q < H.size → A1 q → A0 q) (hf : ∀ q, free q → A0 q) (hAX : ∀ q, q < H.size → AX q → A0 q)
    (kx : ∀ (E : String) (ce : Cell) (q9 : Addr) (u : SX) (t : State) (H1 : Heap) (locs1 : List Loc), t.heap = H1 → s.vm.Alike t.vm → px u → BX E u t → H.size ≤ H1.size → (∀ q : Nat, q < H.size → ¬ AX q → H1[q]? = H[q]?) → va_S A0 H0 H1 locs1 → H1[q9]? = some ce → ce.vm = .none → s.vm.findClass E = some ce.cls → vx_W p l e R s m args below meth c H1 locs1 (cells + mc) (slots + ms) Q (F0 m pc ls rest) q9)
    (kk : ∀ (u : S) (t : State) (H1 : Heap) (locs1 : List Loc), t.heap = H1 → s.vm.Alike t.vm → post u → B u t → H.size ≤ H1.size → (∀ q : Nat, q < H.size → ¬ A1 q → H1[q]? = H[q]?) → va_S A0 H0 H1 locs1 → W p l e R s m args below meth c H1 locs1 (cells + mc) (slots + ms) Q (F0 m (pc + 3) ls (rest))) : W p l e R s m args below meth c H locs cells slots Q (F0 m pc ls st0) := by
  intro T hT X
  rcases hr T hT X with ⟨v, st₀, t, T', L, h0, X', hL, e1, e2, ⟨⟨u, hv, hp, hb⟩, hF⟩, st⟩ | ⟨q, st₀, t, T', L, E, ce, h0, X', hL, e1, e2, ⟨u, hp, hb, hF⟩, hce, hcv, hcl, st⟩
  · cases hv
    obtain ⟨k1, k2, k3⟩ := vx_keep h0 e1 hS hA hf hL hF
    obtain ⟨t2, a1, b1⟩ := kk u t T'.heap (locs ++ L) e1.symm (by rw [← e2]; exact X'.warmed.alike) hp hb k1 k2 k3 T' rfl X'
    exact ⟨t2, st t2 a1, b1⟩
  · obtain ⟨k1, k2, k3⟩ := vx_keep h0 e1 hS hAX hf hL hF
    obtain ⟨t2, a1, b1⟩ := kx E ce q u t T'.heap (locs ++ L) e1.symm (by rw [← e2]; exact X'.warmed.alike) hp hb k1 k2 k3 (by rw [e1]; exact hce) hcv hcl T' rfl X'
    exact ⟨t2, st.trans a1, b1⟩
/-- caught by the row x of this method's table; the rows ahead don't take it -/
theorem vx_catch {own name : String} {E : String} {ce : Cell} {q : Addr} (hown : s.vm.findClass own = some m.cls) (pre : List ExceptionTableEntry) (x : ExceptionTableEntry) (suf : List ExceptionTableEntry) (hsplit : c.exceptionTable.toList = pre ++ x :: suf)
    (hpass : ∀ z ∈ pre, covers z pc = false ∨ (z.catchType ≠ 0 ∧ ∃ nm : String, (Cond.classLink own z.catchType nm).before args s = true ∧ va_Nc E nm s)) (hx : covers x pc = true) (h0 : x.catchType ≠ 0)
    (hlink : (Cond.classLink own x.catchType name).before args s = true) (hcast : (Cond.castable E name).before args s = true) (hcell : H[q]? = some ce) (hv : ce.vm = .none) (hcl : s.vm.findClass E = some ce.cls)
    (kk : W p l e R s m args below meth c H locs cells slots Q (F0 m x.handlerPc ls [.ref q])) : vx_W p l e R s m args below meth c H locs cells slots Q (F0 m pc ls rest) q := by
  intro T hT X
  have hpl : e.platform.magicAccessors = ({} : Platform).magicAccessors := by rw [X.admits.platform]
  obtain ⟨c3, c4, hc3, hc4, hasg⟩ := Cond.castable_spec hcast
  cases Option.some.inj (hc3.symm.trans hcl)
  obtain ⟨c5, hc5, hcl5⟩ := Cond.classLink_spec hown hlink e.platform hpl
  cases Option.some.inj (hc4.symm.trans hc5)
  obtain ⟨vm', X', st⟩ := X.thenCaughtThrough q (g := F0 m pc ls rest) rfl (Steps.refl _) (by rw [hT]; exact hcell) (by rw [hv]; rfl) (by obtain ⟨k9, h9, -⟩ := Vm.findClass_spec hcl; exact ⟨k9, h9⟩) pre x suf hsplit
    (fun z hz => by
      rcases hpass z hz with h | ⟨hz0, nm, hl1, hn1⟩
      · exact Or.inl h
      · obtain ⟨c6, hc6, hcl6⟩ := Cond.classLink_spec hown hl1 e.platform hpl
        obtain ⟨a8, b8, h1, h2, h3⟩ := hn1
        cases Option.some.inj (h1.symm.trans hcl)
        cases Option.some.inj (h2.symm.trans hc6)
        exact Or.inr ⟨hz0, _, hcl6, h3⟩) hx (Or.inr ⟨h0, c4, hcl5, hasg⟩)
  obtain ⟨t, a1, b1⟩ := kk (T.setVm vm') hT X'
  exact ⟨t, st.trans a1, b1⟩
end Rows
section Ends
variable {p : Program} {l : Launch} {e : Env} {R : Room} {s : State} {m : MethodId} {args : Array Value} {below : List Frame} {meth : Method} {c : Code} {H : Heap} {locs : List Loc} {cells slots : Nat} {Q : State → Prop}
variable {mc ms : Nat} {free : Addr → Prop} {A0 A1 : Nat → Prop} {H0 : Heap} {a : Array Value} {ls : Array Slot} {st0 rest : List Value}
variable {Qc : Array Value → State → Outcome → State → Prop} {XC : String → State → State → Prop}
/-- what a body that may throw owes at its end -/
def vx_MQ (below : List Frame) (Qc : Array Value → State → Outcome → State → Prop) (XC : String → State → State → Prop) (a : Array Value) (s : State) (mc ms : Nat) (free : Addr → Prop) : State → Prop := fun t =>
  ∃ o, t.status = .running ∧ Ended t below o ∧ vx_Q Qc XC mc ms free a s o t
theorem vx_ret {g : JFrame} {mc ms : Nat} (k : W p l e R s m args below meth c H locs cells slots (MQ below Qc args s mc ms free) g) : W p l e R s m args below meth c H locs cells slots (vx_MQ below Qc XC args s mc ms free) g := by
  intro T hT X
  obtain ⟨t, a1, o, b1, b2, b3, b4⟩ := k T hT X
  exact ⟨t, a1, o, b1, b2, Or.inl ⟨b3, b4⟩⟩
/-- not caught here: it goes on to the caller -/
theorem vx_widen {g : JFrame} {q : Addr} {k n : Nat} (h1 : cells ≤ k) (h2 : slots ≤ n) (kk : vx_W p l e R s m args below meth c H locs k n Q g q) : vx_W p l e R s m args below meth c H locs cells slots Q g q := fun T hT X => kk T hT (stand_widen X h1 h2)
theorem vx_out {pc : Nat} {E : String} {ce : Cell} {q : Addr} {mc ms : Nat} (hout : ∀ x ∈ c.exceptionTable.toList, covers x pc = false) (hlocks : meth.locks = false) (hcell : H[q]? = some ce) (hv : ce.vm = .none) (hcl : s.vm.findClass E = some ce.cls)
    (hx : ∀ t : State, t.heap = H → s.vm.Alike t.vm → XC E s t) (hf : ∀ z ∈ locs, free z.base) (hc : cells ≤ mc) (hs : slots ≤ ms) :
    vx_W p l e R s m args below meth c H locs cells slots (vx_MQ below Qc XC args s mc ms free) (F0 m pc ls rest) q := by
  intro T hT X
  obtain ⟨st1, hrun, hend, hW, hsm⟩ := X.leaveThrown q (g := F0 m pc ls rest) rfl rfl rfl hout hlocks
  have hcell9 : (T.setFrames (.throwing q :: below)).heap[q]? = some ce := by
    show T.heap[q]? = some ce
    rw [hT]; exact hcell
  exact ⟨_, st1, .threw q, hrun, hend, Or.inr ⟨q, rfl, E, ce, locs, hx _ hT hW.alike, hcell9, hv, hcl, hW, hsm.mono hc hs, hf⟩⟩
theorem vx_frame {U : State} {k n : Nat} (h : s.sameButNew ({ U with vm := s.vm } : State) locs k n) : s.heap.size ≤ U.heap.size ∧ ∀ q : Nat, q < s.heap.size → (∀ z ∈ locs, z.base ≠ q) → U.heap[q]? = s.heap[q]? := by
  obtain ⟨-, h2, -, -, -, h6⟩ := h
  refine ⟨h2, fun q hq hz => ?_⟩
  obtain ⟨c9, e1, e2, e3, e4⟩ := h6 q _ (Array.getElem?_eq_getElem hq)
  have hs : c9.slots = (s.heap[q]).slots := Array.ext_getElem? fun i => e4 i fun hm => hz _ hm rfl
  have h9 : c9 = s.heap[q] := by
    rw [hs] at e2
    exact e2
  have e5 : U.heap[q]? = some c9 := e1
  rw [e5, h9, Array.getElem?_eq_getElem hq]
/-- the words of a throw but the four that speak of the heap -/
def vx_no (w : Cond) : Bool := decide (w ≠ .isRef (.static Bundle.tN "UNASSIGNED_STACK" Bundle.steD)) && decide (w ≠ .isRef (.static Bundle.tN "SUPPRESSED_SENTINEL" Bundle.listD)) && decide (w ≠ .laysStatic Bundle.tN "UNASSIGNED_STACK" Bundle.steD) && decide (w ≠ .laysStatic Bundle.tN "SUPPRESSED_SENTINEL" Bundle.listD)
def vx_at0 (own : String) (ic : Nat) (X : String) (names : List String) : List Cond := (Bundle.ownAtoms0 own ic X names).filter vx_no
def vx_atS (own : String) (ic : Nat) (X : String) (names : List String) : List Cond := (Bundle.ownAtoms own ic X names).filter vx_no
/-- a word that the tables alone decide, or a good one -/
def vx_ot (w : Cond) : Bool := w.onTables || goodWord w
theorem vx_ot_at {args a' : Array Value} {s U : State} {w : Cond} (hW : s.WarmedH U.vm) (hvm : s.vm = U.vm) (hg : vx_ot w = true) (h : w.before args s = true) : w.before a' U = true := by
  simp only [vx_ot, Bool.or_eq_true] at hg
  rcases hg with hg | hg
  · exact va_tabs hg hvm h
  · exact word_at hW (good_of_word hg) h
/-- a list's words: the good ones out of the method's own list, the others by premises of their own -/
theorem vx_hat {args : Array Value} {s : State} {L B : List Cond} (h1 : ∀ w ∈ L.filter goodWord, w.before args s = true) (h2 : ∀ w ∈ L.filter (fun w => !goodWord w), w ∈ B) (h3 : ∀ w ∈ B, w.before args s = true) : ∀ w ∈ L, w.before args s = true := by
  intro w hw
  by_cases g : goodWord w = true
  · exact h1 w (List.mem_filter.mpr ⟨hw, g⟩)
  · refine h3 w (h2 w (List.mem_filter.mpr ⟨hw, ?_⟩))
    show (!goodWord w) = true
    cases hgw : goodWord w
    · rfl
    · exact absurd hgw g
theorem vx_c {args : Array Value} {s : State} {w : Cond} {B : List Cond} (h : w.before args s = true) (t : ∀ w ∈ B, w.before args s = true) : ∀ w' ∈ w :: B, w'.before args s = true := fun w' h' => (List.mem_cons.mp h').elim (fun e => by rw [e]; exact h) (t w')
theorem vx_n {args : Array Value} {s : State} : ∀ w ∈ ([] : List Cond), w.before args s = true := fun _ h => nomatch h
theorem vx_own {args : Array Value} {s : State} {L : List Cond} (h1 : ∀ w ∈ L.filter vx_no, w.before args s = true)
    (hU : (Cond.isRef (.static Bundle.tN "UNASSIGNED_STACK" Bundle.steD)).before args s = true) (hN : (Cond.isRef (.static Bundle.tN "SUPPRESSED_SENTINEL" Bundle.listD)).before args s = true)
    (lU : (Cond.laysStatic Bundle.tN "UNASSIGNED_STACK" Bundle.steD).before args s = true) (lN : (Cond.laysStatic Bundle.tN "SUPPRESSED_SENTINEL" Bundle.listD).before args s = true) : ∀ w ∈ L, w.before args s = true := by
  intro w hw
  by_cases e1 : w = .isRef (.static Bundle.tN "UNASSIGNED_STACK" Bundle.steD)
  · rw [e1]; exact hU
  · by_cases e2 : w = .isRef (.static Bundle.tN "SUPPRESSED_SENTINEL" Bundle.listD)
    · rw [e2]; exact hN
    · by_cases e3 : w = .laysStatic Bundle.tN "UNASSIGNED_STACK" Bundle.steD
      · rw [e3]; exact lU
      · by_cases e4 : w = .laysStatic Bundle.tN "SUPPRESSED_SENTINEL" Bundle.listD
        · rw [e4]; exact lN
        · exact h1 w (List.mem_filter.mpr ⟨hw, by unfold vx_no; rw [decide_eq_true e1, decide_eq_true e2, decide_eq_true e3, decide_eq_true e4]; rfl⟩)
/-- where a static field lies, its class's statics cell in H -/
def vx_L (C n d : String) (A : Nat → Prop) (U : State) (H : Heap) : Prop := ∃ (c : ClassId) (k : Class) (i : Nat) (f : Field) (a : Nat) (cell : Cell), U.vm.findClass C = some c ∧ U.fieldFound? C n d = some (c, k, i, f) ∧ f.isStatic = true ∧ k.statics = some a ∧ H[a]? = some cell ∧ cell.vm.isStatics = true ∧ cell.cls = c ∧ f.slot < cell.slots.size ∧ k.staticTypes[f.slot]? = some f.type ∧ ¬ A a
theorem vx_L.moved {C n d : String} {A : Nat → Prop} {u U : State} {H : Heap} (hvm : u.vm.Alike U.vm) (h : vx_L C n d A u H) : vx_L C n d A U H := by
  obtain ⟨c, k, i, f, a, cell, h1, h2, h3, h4, h5, h6, h7, h8, h9, h10⟩ := h
  obtain ⟨k', hi', he⟩ := State.fieldFound?_setVm hvm h2
  exact ⟨c, k', i, f, a, cell, by rw [hvm.findClass]; exact h1, hi', h3, by rw [he]; exact h4, h5, h6, h7, h8, by rw [he]; exact h9, h10⟩
theorem vx_L.kept {C n d : String} {A : Nat → Prop} {U : State} {H H1 : Heap} (h : vx_L C n d A U H) (hq : ∀ a : Nat, a < H.size → ¬ A a → H1[a]? = H[a]?) : vx_L C n d A U H1 := by
  obtain ⟨c, k, i, f, a, cell, h1, h2, h3, h4, h5, h6, h7, h8, h9, h10⟩ := h
  exact ⟨c, k, i, f, a, cell, h1, h2, h3, h4, by rw [hq a (Array.getElem?_eq_some_iff.mp h5).1 h10]; exact h5, h6, h7, h8, h9, h10⟩
theorem vx_L.narrow {C n d : String} {A B : Nat → Prop} {U : State} {H : Heap} (h : vx_L C n d A U H) (hAB : ∀ q, B q → A q) : vx_L C n d B U H := by
  obtain ⟨c, k, i, f, a, cell, h1, h2, h3, h4, h5, h6, h7, h8, h9, h10⟩ := h
  exact ⟨c, k, i, f, a, cell, h1, h2, h3, h4, h5, h6, h7, h8, h9, fun z => h10 (hAB _ z)⟩
theorem vx_L.word {C n d : String} {A : Nat → Prop} {s : State} {args : Array Value} (h : vx_L C n d A s s.heap) : (Cond.laysStatic C n d).before args s = true := by
  obtain ⟨c, k, i, f, a, cell, h1, h2, h3, h4, h5, h6, h7, h8, h9, -⟩ := h
  show (Cond.laysStatic C n d).holds args s none s [] = true
  exact Cond.laysStatic_of h1 h2 h3 h4 h5 h6 h7 h8 h9
/-- .. and what it holds: null or some reference -/
def vx_Zq (C n d : String) (A : Nat → Prop) (U : State) (H : Heap) : Prop := va_Zq C n d A U H ∧ vx_L C n d A U H
theorem vx_Zq.moved {C n d : String} {A : Nat → Prop} {u U : State} {H : Heap} (hvm : u.vm.Alike U.vm) (h : vx_Zq C n d A u H) : vx_Zq C n d A U H := ⟨va_Zq.moved hvm h.1, vx_L.moved hvm h.2⟩
theorem vx_Zq.kept {C n d : String} {A : Nat → Prop} {U : State} {H H1 : Heap} (h : vx_Zq C n d A U H) (hq : ∀ a : Nat, a < H.size → ¬ A a → H1[a]? = H[a]?) : vx_Zq C n d A U H1 := ⟨va_Zq.kept h.1 hq, vx_L.kept h.2 hq⟩
theorem vx_Zq.narrow {C n d : String} {A B : Nat → Prop} {U : State} {H : Heap} (h : vx_Zq C n d A U H) (hAB : ∀ q, B q → A q) : vx_Zq C n d B U H := ⟨va_Zq.narrow h.1 hAB, vx_L.narrow h.2 hAB⟩
theorem vx_Zqof {args : Array Value} {s : State} {C n d : String} {A : Nat → Prop} (hl : (Cond.laysStatic C n d).before args s = true) (hini : (Cond.initialized C).before args s = true) (h : (Cond.isRef (.static C n d)).before args s = true) (hA : ∀ a : Nat, a < s.heap.size → ¬ A a) : vx_Zq C n d A s s.heap := by
  refine ⟨va_Zqof hl hini h hA, ?_⟩
  obtain ⟨c, k, i, f, a, cell, h1, h2, h3, h4, h5, h6, h7, h8, h9⟩ := Cond.laysStatic_spec hl
  exact ⟨c, k, i, f, a, cell, h1, h2, h3, h4, h5, h6, h7, h8, h9, hA a (Array.getElem?_eq_some_iff.mp h5).1⟩
theorem vx_isRef {C n d : String} {v : Value} {A : Nat → Prop} {s : State} {args : Array Value} (h : va_Z C n d v A s s.heap) (hv : v.isRef = true) : (Cond.isRef (.static C n d)).before args s = true := by
  obtain ⟨cf, kf, fi, f, a, cell, h1, h2, h3, h4, h5, h6, h7, -⟩ := h
  have he : (Term.static C n d).eval args s none [] s = some v := by
    simp [Term.eval, State.fieldNamed?, h1, h2, h4, h5, h6, h7]
  simp only [Cond.before, Cond.holds, Cond.value, he]
  cases v <;> simp_all [Value.isRef]
theorem vx_isRefq {C n d : String} {A : Nat → Prop} {s : State} {args : Array Value} (h : va_Zq C n d A s s.heap) : (Cond.isRef (.static C n d)).before args s = true := by
  rcases h with h | ⟨t, h⟩
  · exact vx_isRef h rfl
  · exact vx_isRef h rfl
/-- the same frame, seen from here: as if the method were called anew in this heap -/
theorem vx_rebase {T : State} (X : Stand p l e R s m args below meth c T locs cells slots) {R' : Room} (hf : R'.frames ≤ R.frames) (hl : R'.locals ≤ R.locals) (hc : cells + R'.cells ≤ R.cells) (hs : slots + R'.slots ≤ R.slots) :
    Stand p l e R' ((T.setVm s.vm).setFrames (.invoking m args :: below)) m args below meth c T [] 0 0 := by
  have htop : (T.setVm s.vm).topJava?.isSome := X.here.top
  have hF : ((T.setVm s.vm).setFrames (.invoking m args :: below)).frames = .invoking m args :: below := State.frames_setFrames _ (State.cur_lt_of_top htop)
  obtain ⟨g₀, hg0⟩ := Option.isSome_iff_exists.mp htop
  obtain ⟨r, hr⟩ := State.topJava?_eq_some.mp hg0
  have hl9 : e.platform.stackLimits (T.setVm s.vm).me = e.platform.stackLimits s.me := X.limits
  have hb9 : (T.setVm s.vm).me.stackBytes = s.me.stackBytes := X.bytes
  refine ⟨X.admits, X.cas, X.clock, hF, ?_, X.hears, X.method, X.code, X.here, X.tail, X.warmed, ?_, ?_, ?_⟩
  · have h := X.room
    have hU : ((T.setVm s.vm).setFrames (.invoking m args :: below)).localsInUse = s.localsInUse := by
      rw [State.localsInUse_invoking hF (meth := meth) (c := c) X.method X.code, State.localsInUse_invoking X.frames X.method X.code]
    simp only [State.hasRoom, Bool.and_eq_true, decide_eq_true_eq] at h ⊢
    obtain ⟨⟨⟨⟨h1, h2, h3, h4, h5, h6⟩, h7⟩, h8⟩, h9⟩ := h
    rw [X.frames, List.length_cons] at h2 h3
    have q1 := X.heapSize
    have q2 := X.used
    simp only [hF, hU, List.length_cons, State.stackLimits_setFrames, State.stackBytes_setFrames, hl9, hb9]
    refine ⟨⟨⟨⟨by omega, by omega, by omega, by omega, by omega, h6⟩, ?_⟩, ?_⟩, X.book⟩
    · show T.heap.size + R'.cells ≤ e.platform.maxCells
      omega
    · show T.slotsUsed + R'.slots ≤ e.platform.maxSlots
      omega
  · rw [State.stackLimits_setFrames]; rfl
  · rw [State.stackBytes_setFrames]; rfl
  · refine ⟨?_, Nat.le_refl _, Nat.le_refl _, ?_, ?_, fun a c9 h9 => ⟨c9, h9, rfl, rfl, fun _ _ => rfl⟩⟩
    · obtain ⟨t, ht, -⟩ := State.frames_cons hr
      show T.setVm s.vm = { ((T.setVm s.vm).setFrames (.invoking m args :: below)).setFrames (T.setVm s.vm).frames with heap := T.heap, slotsUsed := T.slotsUsed }
      rw [State.setFrames_setFrames, State.setFrames_self ht]
      rfl
    · show T.slotsUsed = T.slotsUsed + ((T.heap.toList.drop T.heap.size).map (·.slots.size)).sum
      rw [List.drop_eq_nil_of_le (Nat.le_of_eq Array.length_toList)]
      rfl
    · show ((T.heap.toList.drop T.heap.size).map (·.slots.size)).sum ≤ 0
      rw [List.drop_eq_nil_of_le (Nat.le_of_eq Array.length_toList)]
      exact Nat.le_refl _
/-- 'throw new E()': new; dup; invokespecial; athrow -/
theorem vx_throw0 {cc : ByteArray} {pc : Nat} (hexec : p.tables.exec = Jvm.exec) (hb : c.code = cc) (hl : l.stackTraces = false) {own cls : String} {names : List String} {ik ic mc ms : Nat} {A : Nat → Prop}
    (hown : s.vm.findClass own = some m.cls) (hcls : Bundle.fit cls = true) (hnames : ∀ n ∈ names, Bundle.fit n = true)
    (hk : (Cond.classLink own ik cls).before args s = true) (hini : (Cond.initialized cls).before args s = true) (hat : ∀ w ∈ vx_at0 own ic cls names, w.before args s = true)
    (hgood : ∀ w ∈ Cond.classLink own ik cls :: Cond.initialized cls :: vx_at0 own ic cls names, vx_ot w = true)
    (hU : vx_Zq Bundle.tN "UNASSIGNED_STACK" Bundle.steD A s s.heap) (hN : vx_Zq Bundle.tN "SUPPRESSED_SENTINEL" Bundle.listD A s s.heap) (hS : va_S A s.heap H locs) (hsize : ls.size = c.maxLocals)
    (d0 : decode cc pc = .ok (.new ik, 3)) (d3 : decode cc (pc + 3) = .ok (.dup, 1)) (d4 : decode cc (pc + 4) = .ok (.invokespecial ic, 3)) (d7 : decode cc (pc + 7) = .ok (.athrow, 1))
    (hout : ∀ x ∈ c.exceptionTable.toList, covers x (pc + 7) = false)
    (hRframes : names.length + 3 < R.frames) (hRlocals : (rest.map fun v => v.category).sum + (13 * (names.length + 1) + 42) ≤ R.locals) (hRcells : cells + 1 ≤ R.cells) (hRslots : slots + 6 ≤ R.slots) (hlocks : meth.locks = false)
    (hx : ∀ t : State, s.vm.Alike t.vm → H.size ≤ t.heap.size → (∀ q : Nat, q < H.size → t.heap[q]? = H[q]?) → XC cls s t)
    (hf : ∀ z ∈ locs, free z.base) (hc : cells + 1 ≤ mc) (hs : slots + 6 ≤ ms) :
    W p l e R s m args below meth c H locs cells slots (vx_MQ below Qc XC args s mc ms free) (F0 m pc ls rest) := by
  intro T hT X
  have htr : e.platform.stackTraces = false := (show e.platform.stackTraces = l.stackTraces by rw [X.admits.platform]).trans hl
  have Y := vx_rebase X (R' := { frames := R.frames, locals := R.locals, cells := 1, slots := 6 }) (Nat.le_refl _) (Nat.le_refl _) hRcells hRslots
  obtain ⟨s', hA⟩ : ∃ z, z = (T.setVm s.vm).setFrames (.invoking m args :: below) := ⟨_, rfl⟩
  rw [← hA] at Y
  have hvm : s'.vm = s.vm := by rw [hA]; rfl
  have hhp : s'.heap = H := by rw [hA]; exact hT
  have hW0 : s.WarmedH s'.vm := by rw [hvm]; exact State.WarmedH.refl s
  have hat' : ∀ w ∈ vx_at0 own ic cls names, w.before args s' = true := fun w hw => vx_ot_at hW0 hvm.symm (hgood w (List.mem_cons_of_mem _ (List.mem_cons_of_mem _ hw))) (hat w hw)
  have hk' : (Cond.classLink own ik cls).before args s' = true := vx_ot_at hW0 hvm.symm (hgood _ List.mem_cons_self) hk
  have hini' : (Cond.initialized cls).before args s' = true := vx_ot_at hW0 hvm.symm (hgood _ (List.mem_cons_of_mem _ List.mem_cons_self)) hini
  have hU' : vx_Zq Bundle.tN "UNASSIGNED_STACK" Bundle.steD A s' s'.heap := by rw [hhp]; exact vx_Zq.moved hW0.alike (hU.kept hS.2.1)
  have hN' : vx_Zq Bundle.tN "SUPPRESSED_SENTINEL" Bundle.listD A s' s'.heap := by rw [hhp]; exact vx_Zq.moved hW0.alike (hN.kept hS.2.1)
  have h : ∀ w ∈ Bundle.ownAtoms0 own ic cls names, w.before args s' = true := vx_own hat' (vx_isRefq hU'.1) (vx_isRefq hN'.1) hU'.2.word hN'.2.word
  have hown' : s'.vm.findClass own = some m.cls := by rw [hvm]; exact hown
  have hins : (Cond.instantiable cls 6).before args s' = true := h _ (by simp [Bundle.ownAtoms0])
  obtain ⟨vm₁, cX, kX, hfX, hkX, -, -, X₁, st1⟩ := Y.newCold hexec (own := own) (C := cls) (index := ik) (n := 6) hown' hk' hins hini'
    (g := F0 m pc ls rest) rfl (by rw [hb]; exact d0) (Nat.le_refl _) (Nat.le_refl _)
  generalize hT1 : (T.setVm vm₁).pushCell { cls := cX, slots := kX.instanceTypes.map defaultValue, vm := .none } = T1 at X₁ st1
  have hcat : (Value.ref T.heap.size).category = 1 := rfl
  have hcellA : T1.heap[T.heap.size]? = some (freshCell cX kX) := by rw [← hT1]; exact State.heap_pushCell_size _ _
  have d3' : decode c.code (pc + 3) = .ok (.dup, 1) := by rw [hb]; exact d3
  obtain ⟨U, hsteps, hrun, hend, hW, hsame, ce, hce, hO⟩ := X₁.ctorThrow0 hexec htr (own := own) (cls := cls) (names := names) (ic := ic) hown' hcls hnames h (fun x hx => nomatch hx) hfX hkX hcellA (by rw [hhp, hT]; exact Nat.le_refl _)
    (g := { method := m, pc := pc + 4, locals := ls, stack := .ref T.heap.size :: .ref T.heap.size :: rest, locked := none }) rfl hsize rfl rfl (rest := rest) rfl
    (by rw [hb]; exact d4) (by rw [hb]; exact d7) hout hRframes (by simp only [List.map_cons, List.sum_cons, hcat]; omega) hlocks
  obtain ⟨f1, f2⟩ := vx_frame hsame
  rw [hhp] at f1 f2
  have hWs : s.WarmedH U.vm := State.WarmedH.trans hW0 hW
  have hcl : s.vm.findClass cls = some ce.cls := by
    have h9 := hO.cls
    rw [hvm] at h9
    exact h9
  have hall : s.sameButNew ({ U with vm := s.vm } : State) locs mc ms := by
    subst hA
    obtain ⟨e1, e2⟩ := hsame
    rw [State.setFrames_setFrames] at e1
    have h2 : (T.setVm s.vm).sameButNew ({ U with vm := s.vm } : State) [] (0 + 1) (0 + 6) := ⟨e1, e2⟩
    have h3 := X.same.trans h2
    rw [List.append_nil] at h3
    exact h3.mono hc hs
  refine ⟨U, ?_, .threw T.heap.size, hrun, hend, Or.inr ⟨T.heap.size, rfl, cls, ce, locs, hx U hWs.alike f1 (fun q hq => f2 q hq (fun z hz => nomatch hz)), hce, hO.vm, hcl, hWs, hall, hf⟩⟩
  refine st1 _ ?_
  show Steps p.tables e below (T1.setTop { method := m, pc := pc + 3, locals := ls, stack := .ref T.heap.size :: rest, locked := none }) _
  jvm_step X₁.here [X₁.here.top, hexec, d3', Value.category]
  exact hsteps
/-- 'throw new E("text")': new; dup; ldc; invokespecial; athrow -/
theorem vx_throwS {cc : ByteArray} {pc : Nat} (hexec : p.tables.exec = Jvm.exec) (hb : c.code = cc) (hl : l.stackTraces = false) {own cls text : String} {names : List String} {ik is ic mc ms sa : Nat} {A : Nat → Prop}
    (hown : s.vm.findClass own = some m.cls) (hcls : Bundle.fit cls = true) (hnames : ∀ n ∈ names, Bundle.fit n = true)
    (hk : (Cond.classLink own ik cls).before args s = true) (hini : (Cond.initialized cls).before args s = true) (hstr : vk_R own is text sa s) (hat : ∀ w ∈ vx_atS own ic cls names, w.before args s = true)
    (hgood : ∀ w ∈ Cond.classLink own ik cls :: Cond.initialized cls :: vx_atS own ic cls names, vx_ot w = true)
    (hU : vx_Zq Bundle.tN "UNASSIGNED_STACK" Bundle.steD A s s.heap) (hN : vx_Zq Bundle.tN "SUPPRESSED_SENTINEL" Bundle.listD A s s.heap) (hS : va_S A s.heap H locs) (hsize : ls.size = c.maxLocals)
    (d0 : decode cc pc = .ok (.new ik, 3)) (d3 : decode cc (pc + 3) = .ok (.dup, 1)) (d4 : decode cc (pc + 4) = .ok (.ldc is, 2)) (d6 : decode cc (pc + 6) = .ok (.invokespecial ic, 3)) (d9 : decode cc (pc + 9) = .ok (.athrow, 1))
    (hout : ∀ x ∈ c.exceptionTable.toList, covers x (pc + 9) = false)
    (hRframes : names.length + 3 < R.frames) (hRlocals : (rest.map fun v => v.category).sum + (13 * (names.length + 1) + 43) ≤ R.locals) (hRcells : cells + 1 ≤ R.cells) (hRslots : slots + 6 ≤ R.slots) (hlocks : meth.locks = false)
    (hx : ∀ t : State, s.vm.Alike t.vm → H.size ≤ t.heap.size → (∀ q : Nat, q < H.size → t.heap[q]? = H[q]?) → XC cls s t)
    (hf : ∀ z ∈ locs, free z.base) (hc : cells + 1 ≤ mc) (hs : slots + 6 ≤ ms) :
    W p l e R s m args below meth c H locs cells slots (vx_MQ below Qc XC args s mc ms free) (F0 m pc ls rest) := by
  intro T hT X
  have htr : e.platform.stackTraces = false := (show e.platform.stackTraces = l.stackTraces by rw [X.admits.platform]).trans hl
  have Y := vx_rebase X (R' := { frames := R.frames, locals := R.locals, cells := 1, slots := 6 }) (Nat.le_refl _) (Nat.le_refl _) hRcells hRslots
  obtain ⟨s', hA⟩ : ∃ z, z = (T.setVm s.vm).setFrames (.invoking m args :: below) := ⟨_, rfl⟩
  rw [← hA] at Y
  have hvm : s'.vm = s.vm := by rw [hA]; rfl
  have hhp : s'.heap = H := by rw [hA]; exact hT
  have hW0 : s.WarmedH s'.vm := by rw [hvm]; exact State.WarmedH.refl s
  have hat' : ∀ w ∈ vx_atS own ic cls names, w.before args s' = true := fun w hw => vx_ot_at hW0 hvm.symm (hgood w (List.mem_cons_of_mem _ (List.mem_cons_of_mem _ hw))) (hat w hw)
  have hk' : (Cond.classLink own ik cls).before args s' = true := vx_ot_at hW0 hvm.symm (hgood _ List.mem_cons_self) hk
  have hini' : (Cond.initialized cls).before args s' = true := vx_ot_at hW0 hvm.symm (hgood _ (List.mem_cons_of_mem _ List.mem_cons_self)) hini
  have hU' : vx_Zq Bundle.tN "UNASSIGNED_STACK" Bundle.steD A s' s'.heap := by rw [hhp]; exact vx_Zq.moved hW0.alike (hU.kept hS.2.1)
  have hN' : vx_Zq Bundle.tN "SUPPRESSED_SENTINEL" Bundle.listD A s' s'.heap := by rw [hhp]; exact vx_Zq.moved hW0.alike (hN.kept hS.2.1)
  have h : ∀ w ∈ Bundle.ownAtoms own ic cls names, w.before args s' = true := vx_own hat' (vx_isRefq hU'.1) (vx_isRefq hN'.1) hU'.2.word hN'.2.word
  have hown' : s'.vm.findClass own = some m.cls := by rw [hvm]; exact hown
  have hins : (Cond.instantiable cls 6).before args s' = true := h _ (by simp [Bundle.ownAtoms])
  obtain ⟨vm₁, cX, kX, hfX, hkX, -, -, X₁, st1⟩ := Y.newCold hexec (own := own) (C := cls) (index := ik) (n := 6) hown' hk' hins hini'
    (g := F0 m pc ls rest) rfl (by rw [hb]; exact d0) (Nat.le_refl _) (Nat.le_refl _)
  generalize hT1 : (T.setVm vm₁).pushCell { cls := cX, slots := kX.instanceTypes.map defaultValue, vm := .none } = T1 at X₁ st1
  have hcat : (Value.ref T.heap.size).category = 1 := rfl
  have hcellA : T1.heap[T.heap.size]? = some (freshCell cX kX) := by rw [← hT1]; exact State.heap_pushCell_size _ _
  have d3' : decode c.code (pc + 3) = .ok (.dup, 1) := by rw [hb]; exact d3
  have d4' : decode c.code (pc + 4) = .ok (.ldc is, 2) := by rw [hb]; exact d4
  have hstr' : vk_R own is text sa s' := vk_R.warm hW0 hstr
  obtain ⟨U, hsteps, hrun, hend, hW, hsame, ce, hce, hO⟩ := X₁.ctorThrowS hexec htr (own := own) (cls := cls) (names := names) (ic := ic) hown' hcls hnames h (fun x hx => nomatch hx) hfX hkX hcellA (by rw [hhp, hT]; exact Nat.le_refl _) (msg := .ref sa) rfl
    (g := { method := m, pc := pc + 6, locals := ls, stack := .ref sa :: .ref T.heap.size :: .ref T.heap.size :: rest, locked := none }) rfl hsize rfl rfl (rest := rest) rfl
    (by rw [hb]; exact d6) (by rw [hb]; exact d9) hout hRframes (by simp only [List.map_cons, List.sum_cons, hcat]; omega) hlocks
  obtain ⟨f1, f2⟩ := vx_frame hsame
  rw [hhp] at f1 f2
  have hWs : s.WarmedH U.vm := State.WarmedH.trans hW0 hW
  have hcl : s.vm.findClass cls = some ce.cls := by
    have h9 := hO.cls
    rw [hvm] at h9
    exact h9
  have hall : s.sameButNew ({ U with vm := s.vm } : State) locs mc ms := by
    subst hA
    obtain ⟨e1, e2⟩ := hsame
    rw [State.setFrames_setFrames] at e1
    have h2 : (T.setVm s.vm).sameButNew ({ U with vm := s.vm } : State) [] (0 + 1) (0 + 6) := ⟨e1, e2⟩
    have h3 := X.same.trans h2
    rw [List.append_nil] at h3
    exact h3.mono hc hs
  refine ⟨U, ?_, .threw T.heap.size, hrun, hend, Or.inr ⟨T.heap.size, rfl, cls, ce, locs, hx U hWs.alike f1 (fun q hq => f2 q hq (fun z hz => nomatch hz)), hce, hO.vm, hcl, hWs, hall, hf⟩⟩
  refine st1 _ ?_
  show Steps p.tables e below (T1.setTop { method := m, pc := pc + 3, locals := ls, stack := .ref T.heap.size :: rest, locked := none }) _
  jvm_step X₁.here [X₁.here.top, hexec, d3', Value.category]
  exact X₁.ldcString hexec (own := own) (text := text) (index := is) (a := sa) hown' hstr'.1 hstr'.2
    (g := { method := m, pc := pc + 4, locals := ls, stack := .ref T.heap.size :: .ref T.heap.size :: rest, locked := none }) rfl d4' _ hsteps
/-- 'throw new E("text")', the text by a wide index -/
theorem vx_throwSW {cc : ByteArray} {pc : Nat} (hexec : p.tables.exec = Jvm.exec) (hb : c.code = cc) (hl : l.stackTraces = false) {own cls text : String} {names : List String} {ik is ic mc ms sa : Nat} {A : Nat → Prop}
    (hown : s.vm.findClass own = some m.cls) (hcls : Bundle.fit cls = true) (hnames : ∀ n ∈ names, Bundle.fit n = true)
    (hk : (Cond.classLink own ik cls).before args s = true) (hini : (Cond.initialized cls).before args s = true) (hstr : vk_R own is text sa s) (hat : ∀ w ∈ vx_atS own ic cls names, w.before args s = true)
    (hgood : ∀ w ∈ Cond.classLink own ik cls :: Cond.initialized cls :: vx_atS own ic cls names, vx_ot w = true)
    (hU : vx_Zq Bundle.tN "UNASSIGNED_STACK" Bundle.steD A s s.heap) (hN : vx_Zq Bundle.tN "SUPPRESSED_SENTINEL" Bundle.listD A s s.heap) (hS : va_S A s.heap H locs) (hsize : ls.size = c.maxLocals)
    (d0 : decode cc pc = .ok (.new ik, 3)) (d3 : decode cc (pc + 3) = .ok (.dup, 1)) (d4 : decode cc (pc + 4) = .ok (.ldc_w is, 3)) (d7 : decode cc (pc + 7) = .ok (.invokespecial ic, 3)) (d10 : decode cc (pc + 10) = .ok (.athrow, 1))
    (hout : ∀ x ∈ c.exceptionTable.toList, covers x (pc + 10) = false)
    (hRframes : names.length + 3 < R.frames) (hRlocals : (rest.map fun v => v.category).sum + (13 * (names.length + 1) + 43) ≤ R.locals) (hRcells : cells + 1 ≤ R.cells) (hRslots : slots + 6 ≤ R.slots) (hlocks : meth.locks = false)
    (hx : ∀ t : State, s.vm.Alike t.vm → H.size ≤ t.heap.size → (∀ q : Nat, q < H.size → t.heap[q]? = H[q]?) → XC cls s t)
    (hf : ∀ z ∈ locs, free z.base) (hc : cells + 1 ≤ mc) (hs : slots + 6 ≤ ms) :
    W p l e R s m args below meth c H locs cells slots (vx_MQ below Qc XC args s mc ms free) (F0 m pc ls rest) := by
  intro T hT X
  have htr : e.platform.stackTraces = false := (show e.platform.stackTraces = l.stackTraces by rw [X.admits.platform]).trans hl
  have Y := vx_rebase X (R' := { frames := R.frames, locals := R.locals, cells := 1, slots := 6 }) (Nat.le_refl _) (Nat.le_refl _) hRcells hRslots
  obtain ⟨s', hA⟩ : ∃ z, z = (T.setVm s.vm).setFrames (.invoking m args :: below) := ⟨_, rfl⟩
  rw [← hA] at Y
  have hvm : s'.vm = s.vm := by rw [hA]; rfl
  have hhp : s'.heap = H := by rw [hA]; exact hT
  have hW0 : s.WarmedH s'.vm := by rw [hvm]; exact State.WarmedH.refl s
  have hat' : ∀ w ∈ vx_atS own ic cls names, w.before args s' = true := fun w hw => vx_ot_at hW0 hvm.symm (hgood w (List.mem_cons_of_mem _ (List.mem_cons_of_mem _ hw))) (hat w hw)
  have hk' : (Cond.classLink own ik cls).before args s' = true := vx_ot_at hW0 hvm.symm (hgood _ List.mem_cons_self) hk
  have hini' : (Cond.initialized cls).before args s' = true := vx_ot_at hW0 hvm.symm (hgood _ (List.mem_cons_of_mem _ List.mem_cons_self)) hini
  have hU' : vx_Zq Bundle.tN "UNASSIGNED_STACK" Bundle.steD A s' s'.heap := by rw [hhp]; exact vx_Zq.moved hW0.alike (hU.kept hS.2.1)
  have hN' : vx_Zq Bundle.tN "SUPPRESSED_SENTINEL" Bundle.listD A s' s'.heap := by rw [hhp]; exact vx_Zq.moved hW0.alike (hN.kept hS.2.1)
  have h : ∀ w ∈ Bundle.ownAtoms own ic cls names, w.before args s' = true := vx_own hat' (vx_isRefq hU'.1) (vx_isRefq hN'.1) hU'.2.word hN'.2.word
  have hown' : s'.vm.findClass own = some m.cls := by rw [hvm]; exact hown
  have hins : (Cond.instantiable cls 6).before args s' = true := h _ (by simp [Bundle.ownAtoms])
  obtain ⟨vm₁, cX, kX, hfX, hkX, -, -, X₁, st1⟩ := Y.newCold hexec (own := own) (C := cls) (index := ik) (n := 6) hown' hk' hins hini'
    (g := F0 m pc ls rest) rfl (by rw [hb]; exact d0) (Nat.le_refl _) (Nat.le_refl _)
  generalize hT1 : (T.setVm vm₁).pushCell { cls := cX, slots := kX.instanceTypes.map defaultValue, vm := .none } = T1 at X₁ st1
  have hcat : (Value.ref T.heap.size).category = 1 := rfl
  have hcellA : T1.heap[T.heap.size]? = some (freshCell cX kX) := by rw [← hT1]; exact State.heap_pushCell_size _ _
  have d3' : decode c.code (pc + 3) = .ok (.dup, 1) := by rw [hb]; exact d3
  have d4' : decode c.code (pc + 4) = .ok (.ldc_w is, 3) := by rw [hb]; exact d4
  have hstr' : vk_R own is text sa s' := vk_R.warm hW0 hstr
  obtain ⟨U, hsteps, hrun, hend, hW, hsame, ce, hce, hO⟩ := X₁.ctorThrowS hexec htr (own := own) (cls := cls) (names := names) (ic := ic) hown' hcls hnames h (fun x hx => nomatch hx) hfX hkX hcellA (by rw [hhp, hT]; exact Nat.le_refl _) (msg := .ref sa) rfl
    (g := { method := m, pc := pc + 7, locals := ls, stack := .ref sa :: .ref T.heap.size :: .ref T.heap.size :: rest, locked := none }) rfl hsize rfl rfl (rest := rest) rfl
    (by rw [hb]; exact d7) (by rw [hb]; exact d10) hout hRframes (by simp only [List.map_cons, List.sum_cons, hcat]; omega) hlocks
  obtain ⟨f1, f2⟩ := vx_frame hsame
  rw [hhp] at f1 f2
  have hWs : s.WarmedH U.vm := State.WarmedH.trans hW0 hW
  have hcl : s.vm.findClass cls = some ce.cls := by
    have h9 := hO.cls
    rw [hvm] at h9
    exact h9
  have hall : s.sameButNew ({ U with vm := s.vm } : State) locs mc ms := by
    subst hA
    obtain ⟨e1, e2⟩ := hsame
    rw [State.setFrames_setFrames] at e1
    have h2 : (T.setVm s.vm).sameButNew ({ U with vm := s.vm } : State) [] (0 + 1) (0 + 6) := ⟨e1, e2⟩
    have h3 := X.same.trans h2
    rw [List.append_nil] at h3
    exact h3.mono hc hs
  refine ⟨U, ?_, .threw T.heap.size, hrun, hend, Or.inr ⟨T.heap.size, rfl, cls, ce, locs, hx U hWs.alike f1 (fun q hq => f2 q hq (fun z hz => nomatch hz)), hce, hO.vm, hcl, hWs, hall, hf⟩⟩
  refine st1 _ ?_
  show Steps p.tables e below (T1.setTop { method := m, pc := pc + 3, locals := ls, stack := .ref T.heap.size :: rest, locked := none }) _
  jvm_step X₁.here [X₁.here.top, hexec, d3', Value.category]
  exact X₁.ldcStringW hexec (own := own) (text := text) (index := is) (a := sa) hown' hstr'.1 hstr'.2
    (g := { method := m, pc := pc + 4, locals := ls, stack := .ref T.heap.size :: .ref T.heap.size :: rest, locked := none }) rfl d4' _ hsteps
end Ends
section Bodies
variable {l : Launch}
theorem vx_ofW {y : MethodName} {ws ws' : List Cond} {rm : Room} {Pc : Array Value → State → Prop} {Qc : Array Value → State → Outcome → State → Prop} {XC : String → State → State → Prop} {mc ms : Nat} {free : Addr → Prop} {cc : ByteArray} {maxL : Nat} {ret : Option FieldType}
    (hy : plainName y.cls = true) (hw : ws = Cond.code y cc maxL ret :: ws')
    (body : ∀ p e s m args below meth c s₁, BodyLoose p l y (headSpec ws rm) cc maxL ret e s m args below meth c s₁ → c.maxLocals = maxL → (∀ x ∈ c.exceptionTable.toList, False) → Pc args s →
      W p l e (headSpec ws rm).room s m args below meth c s.heap [] 0 0 (vx_MQ below Qc XC args s mc ms free) (entryFrame m args maxL)) : vx_Met l y ws rm Pc Qc XC mc ms free := by
  refine MetFree.of_bodyS (code := cc) (maxLocals := maxL) (ret := ret) hy ?_ ?_
  · intro args s m h hn
    obtain ⟨meth, c, h1, h2, h3, h4, h5, h6, -, -⟩ := Cond.code_spec hn (atoms_spec (ws := ws) h _ (by rw [hw]; exact List.mem_cons_self))
    exact ⟨meth, c, h1, h2, h3, h4, h5, h6⟩
  · intro p e s m args below meth c s₁ B hml hP _
    have hh0 : s₁.heap = s.heap := by rw [B.state]; rfl
    have ht : ∀ x ∈ c.exceptionTable.toList, False := by
      obtain ⟨meth9, c9, h1, h2, -, -, -, -, h7, -⟩ := Cond.code_spec B.named (atoms_spec (ws := ws) B.pre _ (by rw [hw]; exact List.mem_cons_self))
      cases Option.some.inj (h1.symm.trans B.method)
      cases Option.some.inj (h2.symm.trans (Stand.of_body B).code)
      intro x hx
      rw [Array.isEmpty_iff.mp h7] at hx
      cases hx
    obtain ⟨t, a1, o, b1, b2, b3⟩ := body p e s m args below meth c s₁ B hml ht hP s₁ hh0 (Stand.of_body B)
    exact ⟨t, o, a1, b1, b2, b3⟩
/-- the table of a body with handlers -/
theorem vx_table {p : Program} {x y : MethodName} {S : Spec} {cc bytes : ByteArray} {maxL maxL' : Nat} {ret ret' : Option FieldType} {e : Env} {s s₁ : State} {m : MethodId} {args : Array Value} {below : List Frame} {meth : Method} {c : Code} {hh : List (Nat × Nat × Nat × Nat)}
    (B : BodyLoose p l y S cc maxL ret e s m args below meth c s₁) (h : (Cond.codeWith y bytes maxL' ret' hh).before args s = true) : c.exceptionTable.toList = tableOf hh := by
  obtain ⟨m9, meth9, c9, hn9, h1, h2, -, -, h6, -⟩ := Cond.codeWith_spec h
  cases Option.some.inj (hn9.symm.trans B.named)
  cases Option.some.inj (h1.symm.trans B.method)
  cases Option.some.inj (h2.symm.trans (Stand.of_body B).code)
  rw [← h6, table_eq]
end Bodies
end VXA
/-! ===== END ===== -/
/-! ===== BEGIN a static call of a method with an exception table ===== -/
section VXS
variable {p : Program} {l : Launch} {e : Env} {R : Room} {s : State} {m : MethodId} {args : Array Value} {below : List Frame} {meth : Method} {c : Code} {T : State} {H : Heap} {locs : List Loc} {cells slots : Nat}
abbrev vx_CSW (R : Room) (s : State) (args : Array Value) (own : String) (index : Nat) (y : MethodName) (bytes : ByteArray) (maxL : Nat) (ret : Option FieldType) (hh : List (Nat × Nat × Nat × Nat)) (ws : List Cond) (rm : Room) (mc ms n : Nat) : Prop :=
  (rm.cells = mc ∧ rm.slots = ms ∧ rm.frames + 1 ≤ R.frames ∧ 8 + (maxL + 11) + rm.locals ≤ R.locals ∧ (∀ w ∈ ws, ∀ (a' : Array Value) (U : State), s.WarmedH U.vm → w.before a' U = true) ∧ Cond.codeWith y bytes maxL ret hh ∈ ws) ∧
  (Cond.codeWith y bytes maxL ret hh).before args s = true ∧ (Cond.initialized y.cls).before args s = true ∧ (y.cls ≠ "java/lang/invoke/MethodHandle" ∧ y.cls ≠ "java/lang/invoke/VarHandle") ∧
  (∀ sig, parseMethodDescriptor y.desc = some sig → n = sig.parameters.length) ∧ (Cond.methodLink own index y).before args s = true ∧ (Cond.static y).before args s = true
theorem vx_cwSW {own : String} {index maxL mc ms : Nat} {y : MethodName} {bytes : ByteArray} {ret : Option FieldType} {hh : List (Nat × Nat × Nat × Nat)} {Ts ws ws' : List Cond} {rm : Room} (n : Nat) (ht : ∀ w ∈ Ts, w.before args s = true) (hT : GoodIn Ts (va_wsS own index y ws)) (hw : ws = Cond.codeWith y bytes maxL ret hh :: ws') (hrc : rm.cells = mc) (hrs : rm.slots = ms)
    (hd : y.cls ≠ "java/lang/invoke/MethodHandle" ∧ y.cls ≠ "java/lang/invoke/VarHandle" ∧ (parseMethodDescriptor y.desc).map (fun d => d.parameters.length) = some n) (hR : rm.frames + 1 ≤ R.frames ∧ 8 + (maxL + 11) + rm.locals ≤ R.locals) :
    vx_CSW R s args own index y bytes maxL ret hh ws rm mc ms n := by
  have ok : ∀ w ∈ va_wsS own index y ws, w.before args s = true := fun w h => ht w (hT w h).1
  have hG : GoodIn Ts ws := fun w h => hT w (by unfold va_wsS; exact List.mem_append_right _ h)
  have hc : Cond.codeWith y bytes maxL ret hh ∈ ws := by rw [hw]; exact List.mem_cons_self
  refine ⟨⟨hrc, hrs, hR.1, hR.2, pay_in ht hG, hc⟩, ht _ (hG _ hc).1, ok _ (by simp [va_wsS]), ⟨hd.1, hd.2.1⟩, fun sig h => ?_, ok _ (by simp [va_wsS]), ok _ (by simp [va_wsS])⟩
  have h2 := hd.2.2
  rw [h] at h2
  exact (Option.some.inj h2).symm
theorem vx_callSW (X : Stand p l e R s m args below meth c T locs cells slots) (hexec : p.tables.exec = Jvm.exec) {own : String} {index : Nat} {y : MethodName} {bytes : ByteArray} {maxL : Nat} {ret : Option FieldType} {hh : List (Nat × Nat × Nat × Nat)}
    (hown : s.vm.findClass own = some m.cls) (hlink : (Cond.methodLink own index y).before args s = true) (hstat : (Cond.static y).before args s = true) (hinit : (Cond.initialized y.cls).before args s = true)
    (hcode : (Cond.codeWith y bytes maxL ret hh).before args s = true) (hy : y.cls ≠ "java/lang/invoke/MethodHandle" ∧ y.cls ≠ "java/lang/invoke/VarHandle")
    {W9 : Nat} {Pre : Pt → Array Value → Prop} {Post : Pt → Array Value → Option Value → Pt → Prop} (hK : Back l R p e below s args y 3 W9 Pre Post)
    {g : JFrame} (hg : g.method = m) (hsize : g.locals.size = c.maxLocals) {argsL rest : List Value} (hlen : ∀ sig, parseMethodDescriptor y.desc = some sig → argsL.length = sig.parameters.length)
    (hstack : g.stack = argsL.reverse ++ rest) (hW : 2 * g.monitorRoom + (rest.map fun v => v.category).sum ≤ W9) (hdg : decode c.code g.pc = .ok (.invokestatic index, 3))
    (hpre : ∀ vm₁, s.WarmedH vm₁ → Pre ⟨T.setVm vm₁, locs, cells, slots⟩ argsL.toArray) :
    ∃ (v : Option Value) (vm₁ : Vm) (B : Pt), s.WarmedH vm₁ ∧ Stand p l e R s m args below meth c B.U B.locs B.cells B.slots ∧ Post ⟨T.setVm vm₁, locs, cells, slots⟩ argsL.toArray v B ∧
      ∀ target, Steps p.tables e below (B.U.setTop { g with pc := g.pc + 3, stack := v.toList ++ rest }) target → Steps p.tables e below (T.setTop g) target := by
  obtain ⟨mk, methM, cM, hnamed, hmethM, -, -, -, -, -, -, hsigM⟩ := Cond.codeWith_spec hcode
  have hstatic : methM.isStatic = true := Cond.static_spec hnamed hmethM hstat
  obtain ⟨kP, hkP, -⟩ := className_of_methodNamed hnamed
  have hinitP : kP.init = .initialized := Cond.initialized_spec (findClass_of_methodNamed hnamed) hkP hinit
  obtain ⟨vm₁, X₁, hstep₁⟩ := X.invokestatic hexec hown hlink hnamed hmethM hstatic hkP hinitP hy (g := g) hg (argsL := argsL) (rest := rest) (hlen _ hsigM) hstack hdg
  obtain ⟨v, B, X', hpost, hsteps⟩ := hK m meth c ⟨T.setVm vm₁, locs, cells, slots⟩ { g with stack := rest } (.invokestatic index) mk argsL.toArray X₁ hg hsize hdg hW (X₁.named hnamed) (hpre vm₁ X₁.warmed)
  exact ⟨v, vm₁, B, X₁.warmed, X', hpost, fun target h => hstep₁ _ fun acts => by rw [doInvoke_state]; exact hsteps.trans h⟩
theorem vx_runSW {y : MethodName} {bytes cc : ByteArray} {maxL nL mc ms n index : Nat} {ret : Option FieldType} {hh : List (Nat × Nat × Nat × Nat)} {ws : List Cond} {rm : Room} {Pc : Array Value → State → Prop} {Qc : Array Value → State → Outcome → State → Prop} {free : Addr → Prop} {Ts : List Cond} {own : String} {As rest : List Value} {g : JFrame}
    (S : CallFix p m c cc nL s args Ts own) (hM : Met l y ws rm Pc Qc mc ms free) (cw : vx_CSW R s args own index y bytes maxL ret hh ws rm mc ms n) (hp : PreS s H Pc As)
    (hg : g.method = m) (hn : As.length = n) (hsize : g.locals.size = nL) (hstack : g.stack = As.reverse ++ rest) (hW : 2 * g.monitorRoom + (rest.map fun v => v.category).sum ≤ 8) (hdg : decode cc g.pc = .ok (.invokestatic index, 3)) (hf : cells + mc ≤ R.cells ∧ slots + ms ≤ R.slots) :
    va_Run p l e R s m args below meth c H locs cells slots mc ms g rest (Qc As.toArray) (free) := by
  obtain ⟨⟨hrc, hrs, hfr, hlo, hws, hcw⟩, hcode, hini, hy, hlen, hl, hstt⟩ := cw
  have hK : Back l R p e below s args y 3 8 (PreOf R mc ms Pc) (PostOf Qc mc ms free) := va_backW (hh := hh) (bytes := bytes) (maxL := maxL) (ret := ret) hM hp.1 hrc hrs hfr hlo hws hcw (fun a' U hW => word_at hW (Or.inl (by first | rfl | simp [Cond.onTables, Cond.keeps, Cond.steady])) hini)
  obtain ⟨hx, hb, hml, ho, -⟩ := S
  intro T hT X
  obtain ⟨v, vm₁, ⟨U', l2, c2, s2⟩, hW₁, X', ⟨g', mk, t, L, e1, e2, hq, h1, hL, h2, h3⟩, st⟩ := vx_callSW X hx (hh := hh) (bytes := bytes) (maxL := maxL) (ret := ret) ho hl hstt hini hcode hy hK hg (hsize.trans hml.symm) (argsL := As) (rest := rest) (fun sig h => hn.trans (hlen sig h)) hstack hW (by rw [hb]; exact hdg)
    (fun vm₁ hW₁ => ⟨hf.1, hf.2, hp.2 (T.setVm vm₁) hT hW₁⟩)
  dsimp only [Pt.U, Pt.locs, Pt.cells, Pt.slots] at X' e1 e2 h1 h2 h3 st
  subst h1; subst h2; subst h3
  exact ⟨v, (T.setVm vm₁).calling g' mk As.toArray, t, U', L, hT, X', hL, e1, e2, hq, st⟩
/-- not caught here, past rows that name other classes: it goes on to the caller -/
theorem vx_outP {p : Program} {l : Launch} {e : Env} {R : Room} {s : State} {m : MethodId} {args : Array Value} {below : List Frame} {meth : Method} {c : Code} {H : Heap} {locs : List Loc} {cells slots : Nat} {free : Addr → Prop} {ls : Array Slot} {rest : List Value} {Qc : Array Value → State → Outcome → State → Prop} {XC : String → State → State → Prop}
    {pc : Nat} {own E : String} {ce : Cell} {q : Addr} {mc ms : Nat} (hown : s.vm.findClass own = some m.cls) (hlocks : meth.locks = false)
    (hpass : ∀ z ∈ c.exceptionTable.toList, covers z pc = false ∨ (z.catchType ≠ 0 ∧ ∃ nm : String, (Cond.classLink own z.catchType nm).before args s = true ∧ va_Nc E nm s)) (hcell : H[q]? = some ce) (hv : ce.vm = .none) (hcl : s.vm.findClass E = some ce.cls)
    (hx : ∀ t : State, t.heap = H → s.vm.Alike t.vm → XC E s t) (hf : ∀ z ∈ locs, free z.base) (hc : cells ≤ mc) (hs : slots ≤ ms) :
    vx_W p l e R s m args below meth c H locs cells slots (vx_MQ below Qc XC args s mc ms free) (F0 m pc ls rest) q := by
  intro T hT X
  have hpl : e.platform.magicAccessors = ({} : Platform).magicAccessors := by rw [X.admits.platform]
  obtain ⟨vm', hW', X', st⟩ := X.outThrough hlocks q (g := F0 m pc ls rest) rfl rfl rfl (cell := ce) (by rw [hT]; exact hcell) (by rw [hv]; rfl)
    (by obtain ⟨k9, h9, -⟩ := Vm.findClass_spec hcl; exact ⟨k9, h9⟩) (fun z hz => by
      rcases hpass z hz with h | ⟨hz0, nm, hl1, hn1⟩
      · exact Or.inl h
      · obtain ⟨c6, hc6, hcl6⟩ := Cond.classLink_spec hown hl1 e.platform hpl
        obtain ⟨a8, b8, h1, h2, h3⟩ := hn1
        cases Option.some.inj (h1.symm.trans hcl)
        cases Option.some.inj (h2.symm.trans hc6)
        exact Or.inr ⟨hz0, _, hcl6, h3⟩)
  obtain ⟨g₀, hfr⟩ := X'.frames_eq
  have hcell9 : ((T.setVm vm').setFrames (.throwing q :: below)).heap[q]? = some ce := by
    show T.heap[q]? = some ce
    rw [hT]; exact hcell
  have hend : Ended ((T.setVm vm').setFrames (.throwing q :: below)) below (.threw q) := State.frames_setFrames _ (State.cur_lt_of_frames hfr)
  refine ⟨(T.setVm vm').setFrames (.throwing q :: below), ?_, .threw q, X'.here.running, hend, Or.inr ⟨q, rfl, E, ce, locs, hx _ hT (X'.ends _).1.alike, hcell9, hv, hcl, (X'.ends _).1, (X'.ends _).2.mono hc hs, hf⟩⟩
  rw [X.pushThrowing_eq]
  exact st
/-- a thing of a world lies in the heap -/
theorem vx_lt {D : va_G} {cl : List vw_C} {ws : va_W} {H1 : Heap} (h : va_P D cl ws H1) {k : Nat} {q : Nat × va_E} (hk : ws[k]? = some q) : q.1 < H1.size := (h k q hk).lt
end VXS
/-! ===== END ===== -/
/-! ===== BEGIN methods with a table of their own: called by a name, returning or throwing ===== -/
section VXH
/-! vx_backW, vx_callVX, vx_callSX, vx_callVW, vx_runVW, vx_runVX, vx_runSX, vx_ofWH follow the same proofs as their sisters above (Free/Laws.lean, Shelf42/LK1.lean); vx_outP calls Shelf42/NT130.lean (outThrough). -/
section
variable {l : Launch} {R : Room} {p : Program} {e : Env} {below : List Frame} {s : State} {sargs : Array Value} {y : MethodName} {len W9 : Nat}
theorem vx_backW {ws : List Cond} {rm : Room} {Pc : Array Value → State → Prop} {Qc : Array Value → State → Outcome → State → Prop} {XC : String → State → State → Prop} {mc ms : Nat} {free : Addr → Prop} {bytes : ByteArray} {maxL : Nat} {ret : Option FieldType} {hh : List (Nat × Nat × Nat × Nat)}
    (hM : vx_Met l y ws rm Pc Qc XC mc ms free) (hblind : FrameBlind Pc) (hrc : rm.cells = mc) (hrs : rm.slots = ms)
    (hframes : rm.frames + 1 ≤ R.frames) (hlocals : W9 + (maxL + 11) + rm.locals ≤ R.locals)
    (hws : ∀ w ∈ ws, ∀ a' U, s.WarmedH U.vm → w.before a' U = true) (hcode : Cond.codeWith y bytes maxL ret hh ∈ ws) (hinit : ∀ a' U, s.WarmedH U.vm → (Cond.initialized y.cls).before a' U = true) :
    vx_Back l R p e below s sargs y len W9 (PreOf R mc ms Pc) (PostOf Qc mc ms free) (vx_Post XC mc ms free) := by
  intro m meth c A g ig mk a X hg hsize hdg hW hn hp
  have h1 : (headSpec ws rm).pre.before a A.U = true := atoms_intro fun w hw => hws w hw _ _ X.warmed
  have h2 : (Cond.codeWith y bytes maxL ret hh).before a A.U = true := hws _ hcode _ _ X.warmed
  have h3 : (Cond.initialized y.cls).before a A.U = true := hinit _ _ X.warmed
  have h4 : A.cells + (headSpec ws rm).room.cells ≤ R.cells := by rw [show (headSpec ws rm).room.cells = mc from hrc]; exact hp.1
  have h5 : A.slots + (headSpec ws rm).room.slots ≤ R.slots := by rw [show (headSpec ws rm).room.slots = ms from hrs]; exact hp.2.1
  have hPc : Pc a (A.U.calling g mk a) := hblind _ _ _ _ hp.2.2
  obtain ⟨U, Ls, c0, s0⟩ := A
  dsimp only [Pt.U, Pt.locs, Pt.cells, Pt.slots] at h1 h2 h3 h4 h5 X hn hPc ⊢
  obtain ⟨m9, methY, cY, hn9, hmY, hcY, -, hlY, -⟩ := Cond.codeWith_spec h2
  cases Option.some.inj (hn9.symm.trans hn)
  obtain ⟨kY, hkY, -⟩ := className_of_methodNamed hn
  have hinitY : kY.init = .initialized := Cond.initialized_spec (findClass_of_methodNamed hn) hkY h3
  have h : At U g.method c below := by rw [hg]; exact X.here
  have hlocals9 : W9 + (maxL + 11) + (headSpec ws rm).room.locals ≤ R.locals := hlocals
  have happ : (headSpec ws rm).appliesLoose y e.platform (U.calling g mk a) = true :=
    Spec.appliesLoose_calling (g := g) h hdg hn hkY hinitY
      (X.room_calling (g := g) (R' := (headSpec ws rm).room) hsize hmY hcY hframes (by rw [hlY]; omega) h4 h5) h1
  obtain ⟨mid, hmid⟩ := h.above
  have hfr : (U.setTop g).frames = (.java g :: mid) ++ below := by rw [State.frames_setTop' g h.top, hmid]; rfl
  obtain ⟨o, s₂, hsteps, -, hend, hq⟩ := Steps.callFree hM p X.admits X.cas X.clock (acts := []) hfr happ hPc trivial
  have hq' : vx_Q Qc XC mc ms free a (U.calling g mk a) o s₂ := hq
  rw [State.frames_setTop' g h.top] at hend
  obtain ⟨g₀, hg0⟩ := Option.isSome_iff_exists.mp h.top
  obtain ⟨r, hr⟩ := State.topJava?_eq_some.mp hg0
  have hr' : (({ U with heap := s₂.heap, slotsUsed := s₂.slotsUsed } : State).setVm s₂.vm).frames = .java g₀ :: r := hr
  rcases hq' with ⟨hqc, L, hfe, hL⟩ | ⟨q, rfl, E, ce, L, hx, hce, hcv, hcl, hW₂, hsm, hL⟩
  · obtain ⟨⟨v, rfl⟩, hW₂, e2, q2, q3, q4, q5, q6⟩ := id hfe
    have e3 : s₂ = ({ (U.calling g mk a).setFrames s₂.frames with heap := s₂.heap, slotsUsed := s₂.slotsUsed } : State).setVm s₂.vm := by
      have : s₂ = ({ s₂ with vm := (U.calling g mk a).vm } : State).setVm s₂.vm := rfl
      rw [e2] at this
      exact this
    obtain ⟨c₂, i₂, len₂, hc₂, hd₂, hf₂⟩ := hend
    have hW' : U.WarmedH s₂.vm := hW₂
    have hcc : c₂ = c := by
      have h1 : s₂.code? g.method = U.code? g.method := by
        rw [State.code?_eq, State.code?_eq, hW'.alike.method?]
      exact Option.some.inj (hc₂.symm.trans (h1.trans h.code))
    subst hcc
    have hlen : len₂ = len := by rw [hdg] at hd₂; cases hd₂; rfl
    subst hlen
    have hs₂ : s₂ = (({ U with heap := s₂.heap, slotsUsed := s₂.slotsUsed } : State).setVm s₂.vm).setTop { g with pc := g.pc + len₂, stack := v.toList ++ g.stack } := by
      refine e3.trans ?_
      rw [hf₂, State.calling_eq h.top, State.setFrames_setFrames, State.setTop_of_frames _ hr', hr]
      rfl
    have hsame : U.sameButNew ({ U with heap := s₂.heap, slotsUsed := s₂.slotsUsed } : State) L mc ms := by
      refine ⟨?_, q2, q3, q4, q5, q6⟩
      obtain ⟨t, ht, -⟩ := State.frames_cons hr
      show ({ U with heap := s₂.heap, slotsUsed := s₂.slotsUsed } : State) = { U.setFrames U.frames with heap := s₂.heap, slotsUsed := s₂.slotsUsed }
      rw [State.setFrames_self ht]
    subst hg
    refine Or.inl ⟨v, ⟨(({ U with heap := s₂.heap, slotsUsed := s₂.slotsUsed } : State).setVm s₂.vm), Ls ++ L, c0 + mc, s0 + ms⟩,
      ⟨X.admits, X.cas, X.clock, X.frames, X.room, X.hears, X.method, X.code, (X.here.setHeapUsed s₂.heap s₂.slotsUsed).setVm hW'.alike, X.tail, State.WarmedH.trans X.warmed hW', X.limits, X.bytes, X.same.trans (hsame.setVm s.vm)⟩,
      ⟨g, mk, s₂, L, rfl, rfl, hqc, rfl, hL, rfl, rfl⟩, ?_⟩
    show Steps p.tables e below _ ((({ U with heap := s₂.heap, slotsUsed := s₂.slotsUsed } : State).setVm s₂.vm).setTop { g with pc := g.pc + len₂, stack := v.toList ++ g.stack })
    rw [← hs₂]
    exact hsteps
  · obtain ⟨e2, q2, q3, q4, q5, q6⟩ := id hsm
    have e3 : s₂ = ({ (U.calling g mk a).setFrames s₂.frames with heap := s₂.heap, slotsUsed := s₂.slotsUsed } : State).setVm s₂.vm := by
      have : s₂ = ({ s₂ with vm := (U.calling g mk a).vm } : State).setVm s₂.vm := rfl
      rw [e2] at this
      exact this
    have hf₂ : s₂.frames = .throwing q :: .java g :: U.frames.tail := hend
    have hW' : U.WarmedH s₂.vm := hW₂
    have hs₂ : s₂ = ((({ U with heap := s₂.heap, slotsUsed := s₂.slotsUsed } : State).setVm s₂.vm).setTop g).pushFrame (.throwing q) := by
      refine e3.trans ?_
      rw [hf₂, State.calling_eq h.top, State.setFrames_setFrames, State.pushFrame, State.frames_setTop _ hr', State.setTop_of_frames _ hr', State.setFrames_setFrames, hr]
      rfl
    have hsame : U.sameButNew ({ U with heap := s₂.heap, slotsUsed := s₂.slotsUsed } : State) L mc ms := by
      refine ⟨?_, q2, q3, q4, q5, q6⟩
      obtain ⟨t, ht, -⟩ := State.frames_cons hr
      show ({ U with heap := s₂.heap, slotsUsed := s₂.slotsUsed } : State) = { U.setFrames U.frames with heap := s₂.heap, slotsUsed := s₂.slotsUsed }
      rw [State.setFrames_self ht]
    subst hg
    refine Or.inr ⟨q, ⟨(({ U with heap := s₂.heap, slotsUsed := s₂.slotsUsed } : State).setVm s₂.vm), Ls ++ L, c0 + mc, s0 + ms⟩,
      ⟨X.admits, X.cas, X.clock, X.frames, X.room, X.hears, X.method, X.code, (X.here.setHeapUsed s₂.heap s₂.slotsUsed).setVm hW'.alike, X.tail, State.WarmedH.trans X.warmed hW', X.limits, X.bytes, X.same.trans (hsame.setVm s.vm)⟩,
      ⟨g, mk, s₂, L, E, ce, rfl, rfl, hx, hce, hcv, hcl, rfl, hL, rfl, rfl⟩, ?_⟩
    show Steps p.tables e below _ (((({ U with heap := s₂.heap, slotsUsed := s₂.slotsUsed } : State).setVm s₂.vm).setTop g).pushFrame (.throwing q))
    rw [← hs₂]
    exact hsteps
end
variable {p : Program} {l : Launch} {e : Env} {R : Room} {s : State} {m : MethodId} {args : Array Value} {below : List Frame} {meth : Method} {c : Code} {T : State} {H : Heap} {locs : List Loc} {cells slots : Nat}
theorem vx_callVX (X : Stand p l e R s m args below meth c T locs cells slots) (hexec : p.tables.exec = Jvm.exec) {own C : String} {index : Nat} {y : MethodName} {bytes : ByteArray} {maxL : Nat} {ret : Option FieldType} {hh : List (Nat × Nat × Nat × Nat)}
    (hown : s.vm.findClass own = some m.cls) (hlink : (Cond.methodLink own index y).before args s = true) (hinst : (Cond.instanceMethod y).before args s = true) (hsel : (Cond.selects C y y).before args s = true)
    (hcode : (Cond.codeWith y bytes maxL ret hh).before args s = true) (hy : y.cls ≠ "java/lang/invoke/MethodHandle" ∧ y.cls ≠ "java/lang/invoke/VarHandle")
    {W9 : Nat} {Pre : Pt → Array Value → Prop} {Post : Pt → Array Value → Option Value → Pt → Prop} {PostX : Pt → Array Value → Addr → Pt → Prop} (hK : vx_Back l R p e below s args y 3 W9 Pre Post PostX)
    {b : Addr} {cellB : Cell} (hcell : T.heap[b]? = some cellB) (hobj : cellB.vm.isStatics = false) (hcls : s.vm.findClass C = some cellB.cls)
    {g : JFrame} (hg : g.method = m) (hsize : g.locals.size = c.maxLocals) {argsL rest : List Value} (hlen : ∀ sig, parseMethodDescriptor y.desc = some sig → argsL.length = sig.parameters.length)
    (hstack : g.stack = argsL.reverse ++ .ref b :: rest) (hW : 2 * g.monitorRoom + (rest.map fun v => v.category).sum ≤ W9) (hdg : decode c.code g.pc = .ok (.invokevirtual index, 3))
    (hpre : ∀ vm₁, s.WarmedH vm₁ → Pre ⟨T.setVm vm₁, locs, cells, slots⟩ (Value.ref b :: argsL).toArray) :
    (∃ (v : Option Value) (vm₁ : Vm) (B : Pt), s.WarmedH vm₁ ∧ Stand p l e R s m args below meth c B.U B.locs B.cells B.slots ∧ Post ⟨T.setVm vm₁, locs, cells, slots⟩ (Value.ref b :: argsL).toArray v B ∧
      ∀ target, Steps p.tables e below (B.U.setTop { g with pc := g.pc + 3, stack := v.toList ++ rest }) target → Steps p.tables e below (T.setTop g) target) ∨
    (∃ (q : Addr) (vm₁ : Vm) (B : Pt), s.WarmedH vm₁ ∧ Stand p l e R s m args below meth c B.U B.locs B.cells B.slots ∧ PostX ⟨T.setVm vm₁, locs, cells, slots⟩ (Value.ref b :: argsL).toArray q B ∧
      Steps p.tables e below (T.setTop g) ((B.U.setTop { g with stack := rest }).pushFrame (.throwing q))) := by
  obtain ⟨mk, methM, hnamed, hmethM, hstM, habM⟩ := Cond.instanceMethod_spec hinst
  obtain ⟨m8, methM', cM, hn8, hmethM', -, -, -, -, -, -, hsigM⟩ := Cond.codeWith_spec hcode
  cases Option.some.inj (hn8.symm.trans hnamed)
  cases hmethM.symm.trans hmethM'
  obtain ⟨c2, r2, m2, q1, q2, q3, q4, kP, hkP, hkPi⟩ := Cond.selects_spec hsel
  cases hcls.symm.trans q1
  cases (State.methodFound?_of_named hnamed hy).symm.trans q2
  cases hnamed.symm.trans q3
  have hselP : selectMethod e.platform s.vm cellB.cls mk = .method mk := by rw [Launch.admits_selectMethod X.admits]; exact q4
  obtain ⟨vm₁, X₁, hstep₁⟩ := X.invokevirtual hexec hown hlink hnamed hmethM hstM hkP hkPi hy (a := b) (cell := cellB) hcell
    (fun z h => by rw [h] at hobj; cases hobj) hselP hmethM habM hkP hkPi (g := g) hg (argsL := argsL) (rest := rest) (hlen _ hsigM) hstack hdg
  rcases hK m meth c ⟨T.setVm vm₁, locs, cells, slots⟩ { g with stack := rest } (.invokevirtual index) mk (Value.ref b :: argsL).toArray X₁ hg hsize hdg hW (X₁.named hnamed) (hpre vm₁ X₁.warmed) with ⟨v, B, X', hpost, hsteps⟩ | ⟨q, B, X', hpost, hsteps⟩
  · exact Or.inl ⟨v, vm₁, B, X₁.warmed, X', hpost, fun target h => hstep₁ _ fun acts => by rw [doInvoke_state]; exact hsteps.trans h⟩
  · exact Or.inr ⟨q, vm₁, B, X₁.warmed, X', hpost, hstep₁ _ fun acts => by rw [doInvoke_state]; exact hsteps⟩
theorem vx_callSX (X : Stand p l e R s m args below meth c T locs cells slots) (hexec : p.tables.exec = Jvm.exec) {own : String} {index : Nat} {y : MethodName} {bytes : ByteArray} {maxL : Nat} {ret : Option FieldType} {hh : List (Nat × Nat × Nat × Nat)}
    (hown : s.vm.findClass own = some m.cls) (hlink : (Cond.methodLink own index y).before args s = true) (hstat : (Cond.static y).before args s = true) (hinit : (Cond.initialized y.cls).before args s = true)
    (hcode : (Cond.codeWith y bytes maxL ret hh).before args s = true) (hy : y.cls ≠ "java/lang/invoke/MethodHandle" ∧ y.cls ≠ "java/lang/invoke/VarHandle")
    {W9 : Nat} {Pre : Pt → Array Value → Prop} {Post : Pt → Array Value → Option Value → Pt → Prop} {PostX : Pt → Array Value → Addr → Pt → Prop} (hK : vx_Back l R p e below s args y 3 W9 Pre Post PostX)
    {g : JFrame} (hg : g.method = m) (hsize : g.locals.size = c.maxLocals) {argsL rest : List Value} (hlen : ∀ sig, parseMethodDescriptor y.desc = some sig → argsL.length = sig.parameters.length)
    (hstack : g.stack = argsL.reverse ++ rest) (hW : 2 * g.monitorRoom + (rest.map fun v => v.category).sum ≤ W9) (hdg : decode c.code g.pc = .ok (.invokestatic index, 3))
    (hpre : ∀ vm₁, s.WarmedH vm₁ → Pre ⟨T.setVm vm₁, locs, cells, slots⟩ argsL.toArray) :
    (∃ (v : Option Value) (vm₁ : Vm) (B : Pt), s.WarmedH vm₁ ∧ Stand p l e R s m args below meth c B.U B.locs B.cells B.slots ∧ Post ⟨T.setVm vm₁, locs, cells, slots⟩ argsL.toArray v B ∧
      ∀ target, Steps p.tables e below (B.U.setTop { g with pc := g.pc + 3, stack := v.toList ++ rest }) target → Steps p.tables e below (T.setTop g) target) ∨
    (∃ (q : Addr) (vm₁ : Vm) (B : Pt), s.WarmedH vm₁ ∧ Stand p l e R s m args below meth c B.U B.locs B.cells B.slots ∧ PostX ⟨T.setVm vm₁, locs, cells, slots⟩ argsL.toArray q B ∧
      Steps p.tables e below (T.setTop g) ((B.U.setTop { g with stack := rest }).pushFrame (.throwing q))) := by
  obtain ⟨mk, methM, cM, hnamed, hmethM, -, -, -, -, -, -, hsigM⟩ := Cond.codeWith_spec hcode
  have hstatic : methM.isStatic = true := Cond.static_spec hnamed hmethM hstat
  obtain ⟨kP, hkP, -⟩ := className_of_methodNamed hnamed
  have hinitP : kP.init = .initialized := Cond.initialized_spec (findClass_of_methodNamed hnamed) hkP hinit
  obtain ⟨vm₁, X₁, hstep₁⟩ := X.invokestatic hexec hown hlink hnamed hmethM hstatic hkP hinitP hy (g := g) hg (argsL := argsL) (rest := rest) (hlen _ hsigM) hstack hdg
  rcases hK m meth c ⟨T.setVm vm₁, locs, cells, slots⟩ { g with stack := rest } (.invokestatic index) mk argsL.toArray X₁ hg hsize hdg hW (X₁.named hnamed) (hpre vm₁ X₁.warmed) with ⟨v, B, X', hpost, hsteps⟩ | ⟨q, B, X', hpost, hsteps⟩
  · exact Or.inl ⟨v, vm₁, B, X₁.warmed, X', hpost, fun target h => hstep₁ _ fun acts => by rw [doInvoke_state]; exact hsteps.trans h⟩
  · exact Or.inr ⟨q, vm₁, B, X₁.warmed, X', hpost, hstep₁ _ fun acts => by rw [doInvoke_state]; exact hsteps⟩
theorem vx_callVW (X : Stand p l e R s m args below meth c T locs cells slots) (hexec : p.tables.exec = Jvm.exec) {own C : String} {index : Nat} {y : MethodName} {bytes : ByteArray} {maxL : Nat} {ret : Option FieldType} {hh : List (Nat × Nat × Nat × Nat)}
    (hown : s.vm.findClass own = some m.cls) (hlink : (Cond.methodLink own index y).before args s = true) (hinst : (Cond.instanceMethod y).before args s = true) (hsel : (Cond.selects C y y).before args s = true)
    (hcode : (Cond.codeWith y bytes maxL ret hh).before args s = true) (hy : y.cls ≠ "java/lang/invoke/MethodHandle" ∧ y.cls ≠ "java/lang/invoke/VarHandle")
    {W9 : Nat} {Pre : Pt → Array Value → Prop} {Post : Pt → Array Value → Option Value → Pt → Prop} (hK : Back l R p e below s args y 3 W9 Pre Post)
    {b : Addr} {cellB : Cell} (hcell : T.heap[b]? = some cellB) (hobj : cellB.vm.isStatics = false) (hcls : s.vm.findClass C = some cellB.cls)
    {g : JFrame} (hg : g.method = m) (hsize : g.locals.size = c.maxLocals) {argsL rest : List Value} (hlen : ∀ sig, parseMethodDescriptor y.desc = some sig → argsL.length = sig.parameters.length)
    (hstack : g.stack = argsL.reverse ++ .ref b :: rest) (hW : 2 * g.monitorRoom + (rest.map fun v => v.category).sum ≤ W9) (hdg : decode c.code g.pc = .ok (.invokevirtual index, 3))
    (hpre : ∀ vm₁, s.WarmedH vm₁ → Pre ⟨T.setVm vm₁, locs, cells, slots⟩ (Value.ref b :: argsL).toArray) :
    ∃ (v : Option Value) (vm₁ : Vm) (B : Pt), s.WarmedH vm₁ ∧ Stand p l e R s m args below meth c B.U B.locs B.cells B.slots ∧ Post ⟨T.setVm vm₁, locs, cells, slots⟩ (Value.ref b :: argsL).toArray v B ∧
      ∀ target, Steps p.tables e below (B.U.setTop { g with pc := g.pc + 3, stack := v.toList ++ rest }) target → Steps p.tables e below (T.setTop g) target := by
  obtain ⟨mk, methM, hnamed, hmethM, hstM, habM⟩ := Cond.instanceMethod_spec hinst
  obtain ⟨m8, methM', cM, hn8, hmethM', -, -, -, -, -, -, hsigM⟩ := Cond.codeWith_spec hcode
  cases Option.some.inj (hn8.symm.trans hnamed)
  cases hmethM.symm.trans hmethM'
  obtain ⟨c2, r2, m2, q1, q2, q3, q4, kP, hkP, hkPi⟩ := Cond.selects_spec hsel
  cases hcls.symm.trans q1
  cases (State.methodFound?_of_named hnamed hy).symm.trans q2
  cases hnamed.symm.trans q3
  have hselP : selectMethod e.platform s.vm cellB.cls mk = .method mk := by rw [Launch.admits_selectMethod X.admits]; exact q4
  obtain ⟨vm₁, X₁, hstep₁⟩ := X.invokevirtual hexec hown hlink hnamed hmethM hstM hkP hkPi hy (a := b) (cell := cellB) hcell
    (fun z h => by rw [h] at hobj; cases hobj) hselP hmethM habM hkP hkPi (g := g) hg (argsL := argsL) (rest := rest) (hlen _ hsigM) hstack hdg
  obtain ⟨v, B, X', hpost, hsteps⟩ := hK m meth c ⟨T.setVm vm₁, locs, cells, slots⟩ { g with stack := rest } (.invokevirtual index) mk (Value.ref b :: argsL).toArray X₁ hg hsize hdg hW (X₁.named hnamed) (hpre vm₁ X₁.warmed)
  exact ⟨v, vm₁, B, X₁.warmed, X', hpost, fun target h => hstep₁ _ fun acts => by rw [doInvoke_state]; exact hsteps.trans h⟩
abbrev vx_CVW (R : Room) (s : State) (args : Array Value) (own C : String) (index : Nat) (y : MethodName) (bytes : ByteArray) (maxL : Nat) (ret : Option FieldType) (hh : List (Nat × Nat × Nat × Nat)) (ws : List Cond) (rm : Room) (mc ms n : Nat) : Prop :=
  (rm.cells = mc ∧ rm.slots = ms ∧ rm.frames + 1 ≤ R.frames ∧ 8 + (maxL + 11) + rm.locals ≤ R.locals ∧ (∀ w ∈ ws, ∀ (a' : Array Value) (U : State), s.WarmedH U.vm → w.before a' U = true) ∧ Cond.codeWith y bytes maxL ret hh ∈ ws) ∧
  (Cond.codeWith y bytes maxL ret hh).before args s = true ∧ (Cond.initialized y.cls).before args s = true ∧ (y.cls ≠ "java/lang/invoke/MethodHandle" ∧ y.cls ≠ "java/lang/invoke/VarHandle") ∧
  (∀ sig, parseMethodDescriptor y.desc = some sig → n = sig.parameters.length) ∧ (Cond.methodLink own index y).before args s = true ∧ (Cond.instanceMethod y).before args s = true ∧ (Cond.selects C y y).before args s = true
theorem vx_cwVW {own C : String} {index maxL mc ms : Nat} {y : MethodName} {bytes : ByteArray} {ret : Option FieldType} {hh : List (Nat × Nat × Nat × Nat)} {Ts ws ws' : List Cond} {rm : Room} (n : Nat) (ht : ∀ w ∈ Ts, w.before args s = true) (hT : GoodIn Ts (wsV own index C y ws)) (hw : ws = Cond.codeWith y bytes maxL ret hh :: ws') (hrc : rm.cells = mc) (hrs : rm.slots = ms)
    (hd : y.cls = C ∧ y.cls ≠ "java/lang/invoke/MethodHandle" ∧ y.cls ≠ "java/lang/invoke/VarHandle" ∧ (parseMethodDescriptor y.desc).map (fun d => d.parameters.length) = some n) (hR : rm.frames + 1 ≤ R.frames ∧ 8 + (maxL + 11) + rm.locals ≤ R.locals) :
    vx_CVW R s args own C index y bytes maxL ret hh ws rm mc ms n := by
  obtain ⟨hC, hd⟩ := hd
  subst hC
  have ok : ∀ w ∈ wsV own index y.cls y ws, w.before args s = true := fun w h => ht w (hT w h).1
  have hG : GoodIn Ts ws := fun w h => hT w (by unfold wsV; exact List.mem_append_right _ h)
  have hc : Cond.codeWith y bytes maxL ret hh ∈ ws := by rw [hw]; exact List.mem_cons_self
  refine ⟨⟨hrc, hrs, hR.1, hR.2, pay_in ht hG, hc⟩, ht _ (hG _ hc).1, ok _ (by simp [wsV]), ⟨hd.1, hd.2.1⟩, fun sig h => ?_, ok _ (by simp [wsV]), ok _ (by simp [wsV]), ok _ (by simp [wsV])⟩
  have h2 := hd.2.2
  rw [h] at h2
  exact (Option.some.inj h2).symm
theorem vx_runVW {y : MethodName} {bytes cc : ByteArray} {maxL nL mc ms n index : Nat} {ret : Option FieldType} {hh : List (Nat × Nat × Nat × Nat)} {ws : List Cond} {rm : Room} {Pc : Array Value → State → Prop} {Qc : Array Value → State → Outcome → State → Prop} {free : Addr → Prop} {Ts : List Cond} {own C : String} {b : Addr} {As rest : List Value} {g : JFrame}
    (S : CallFix p m c cc nL s args Ts own) (hM : Met l y ws rm Pc Qc mc ms free) (cw : vx_CVW R s args own C index y bytes maxL ret hh ws rm mc ms n) (hp : PreV s H C b Pc As)
    (hg : g.method = m) (hn : As.length = n) (hsize : g.locals.size = nL) (hstack : g.stack = As.reverse ++ .ref b :: rest) (hW : 2 * g.monitorRoom + (rest.map fun v => v.category).sum ≤ 8) (hdg : decode cc g.pc = .ok (.invokevirtual index, 3)) (hf : cells + mc ≤ R.cells ∧ slots + ms ≤ R.slots) :
    va_Run p l e R s m args below meth c H locs cells slots mc ms g rest (Qc (Value.ref b :: As).toArray) free := by
  obtain ⟨⟨hrc, hrs, hfr, hlo, hws, hcw⟩, hcode, hini, hy, hlen, hl, hin, hse⟩ := cw
  have hK : Back l R p e below s args y 3 8 (PreOf R mc ms Pc) (PostOf Qc mc ms free) := va_backW (hh := hh) (bytes := bytes) (maxL := maxL) (ret := ret) hM hp.1 hrc hrs hfr hlo hws hcw (fun a' U hW => word_at hW (Or.inl (by first | rfl | simp [Cond.onTables, Cond.keeps, Cond.steady])) hini)
  obtain ⟨hx, hb, hml, ho, -⟩ := S
  obtain ⟨-, ⟨cellB, hcB, hoB, hclB⟩, hPc⟩ := hp
  intro T hT X
  obtain ⟨v, vm₁, ⟨U', l2, c2, s2⟩, hW₁, X', ⟨g', mk, t, L, e1, e2, hq, h1, hL, h2, h3⟩, st⟩ := vx_callVW X hx (C := C) (hh := hh) (bytes := bytes) (maxL := maxL) (ret := ret) ho hl hin hse hcode hy hK (by rw [hT]; exact hcB) hoB hclB hg (hsize.trans hml.symm) (argsL := As) (rest := rest) (fun sig h => hn.trans (hlen sig h)) hstack hW (by rw [hb]; exact hdg)
    (fun vm₁ hW₁ => ⟨hf.1, hf.2, hPc (T.setVm vm₁) hT hW₁⟩)
  dsimp only [Pt.U, Pt.locs, Pt.cells, Pt.slots] at X' e1 e2 h1 h2 h3 st
  subst h1; subst h2; subst h3
  exact ⟨v, (T.setVm vm₁).calling g' mk (Value.ref b :: As).toArray, t, U', L, hT, X', hL, e1, e2, hq, st⟩
section
variable {y : MethodName} {bytes cc : ByteArray} {maxL nL mc ms n index : Nat} {ret : Option FieldType} {ws : List Cond} {rm : Room} {Pc : Array Value → State → Prop} {Qc : Array Value → State → Outcome → State → Prop} {XC : String → State → State → Prop} {free : Addr → Prop} {Ts : List Cond} {own C : String} {b : Addr} {As rest : List Value} {g : JFrame}
theorem vx_runVX {hh : List (Nat × Nat × Nat × Nat)} (S : CallFix p m c cc nL s args Ts own) (hM : vx_Met l y ws rm Pc Qc XC mc ms free) (cw : vx_CVW R s args own C index y bytes maxL ret hh ws rm mc ms n) (hp : PreV s H C b Pc As)
    (hg : g.method = m) (hn : As.length = n) (hsize : g.locals.size = nL) (hstack : g.stack = As.reverse ++ .ref b :: rest) (hW : 2 * g.monitorRoom + (rest.map fun v => v.category).sum ≤ 8) (hdg : decode cc g.pc = .ok (.invokevirtual index, 3)) (hf : cells + mc ≤ R.cells ∧ slots + ms ≤ R.slots) :
    vx_Run p l e R s m args below meth c H locs cells slots mc ms g rest (Qc (Value.ref b :: As).toArray) XC free := by
  obtain ⟨⟨hrc, hrs, hfr, hlo, hws, hcw⟩, hcode, hini, hy, hlen, hl, hin, hse⟩ := cw
  have hK : vx_Back l R p e below s args y 3 8 (PreOf R mc ms Pc) (PostOf Qc mc ms free) (vx_Post XC mc ms free) := vx_backW (hh := hh) (bytes := bytes) (maxL := maxL) (ret := ret) hM hp.1 hrc hrs hfr hlo hws hcw (fun a' U hW => word_at hW (Or.inl (by first | rfl | simp [Cond.onTables, Cond.keeps, Cond.steady])) hini)
  obtain ⟨hx, hb, hml, ho, -⟩ := S
  obtain ⟨-, ⟨cellB, hcB, hoB, hclB⟩, hPc⟩ := hp
  intro T hT X
  rcases vx_callVX X hx (C := C) (hh := hh) (bytes := bytes) (maxL := maxL) (ret := ret) ho hl hin hse hcode hy hK (by rw [hT]; exact hcB) hoB hclB hg (hsize.trans hml.symm) (argsL := As) (rest := rest) (fun sig h => hn.trans (hlen sig h)) hstack hW (by rw [hb]; exact hdg)
    (fun vm₁ hW₁ => ⟨hf.1, hf.2, hPc (T.setVm vm₁) hT hW₁⟩) with ⟨v, vm₁, ⟨U', l2, c2, s2⟩, hW₁, X', ⟨g', mk, t, L, e1, e2, hq, h1, hL, h2, h3⟩, st⟩ | ⟨q, vm₁, ⟨U', l2, c2, s2⟩, hW₁, X', ⟨g', mk, t, L, E, ce, e1, e2, hq, hce, hcv, hcl, h1, hL, h2, h3⟩, st⟩
  · dsimp only [Pt.U, Pt.locs, Pt.cells, Pt.slots] at X' e1 e2 h1 h2 h3 st
    subst h1; subst h2; subst h3
    exact Or.inl ⟨v, (T.setVm vm₁).calling g' mk (Value.ref b :: As).toArray, t, U', L, hT, X', hL, e1, e2, hq, st⟩
  · dsimp only [Pt.U, Pt.locs, Pt.cells, Pt.slots] at X' e1 e2 h1 h2 h3 st hcl
    subst h1; subst h2; subst h3
    exact Or.inr ⟨q, (T.setVm vm₁).calling g' mk (Value.ref b :: As).toArray, t, U', L, E, ce, hT, X', hL, e1, e2, hq, hce, hcv, vx_cls hW₁ hcl, st⟩
theorem vx_runSX {hh : List (Nat × Nat × Nat × Nat)} (S : CallFix p m c cc nL s args Ts own) (hM : vx_Met l y ws rm Pc Qc XC mc ms free) (cw : vx_CSW R s args own index y bytes maxL ret hh ws rm mc ms n) (hp : PreS s H Pc As)
    (hg : g.method = m) (hn : As.length = n) (hsize : g.locals.size = nL) (hstack : g.stack = As.reverse ++ rest) (hW : 2 * g.monitorRoom + (rest.map fun v => v.category).sum ≤ 8) (hdg : decode cc g.pc = .ok (.invokestatic index, 3)) (hf : cells + mc ≤ R.cells ∧ slots + ms ≤ R.slots) :
    vx_Run p l e R s m args below meth c H locs cells slots mc ms g rest (Qc As.toArray) XC free := by
  obtain ⟨⟨hrc, hrs, hfr, hlo, hws, hcw⟩, hcode, hini, hy, hlen, hl, hstt⟩ := cw
  have hK : vx_Back l R p e below s args y 3 8 (PreOf R mc ms Pc) (PostOf Qc mc ms free) (vx_Post XC mc ms free) := vx_backW (hh := hh) (bytes := bytes) (maxL := maxL) (ret := ret) hM hp.1 hrc hrs hfr hlo hws hcw (fun a' U hW => word_at hW (Or.inl (by first | rfl | simp [Cond.onTables, Cond.keeps, Cond.steady])) hini)
  obtain ⟨hx, hb, hml, ho, -⟩ := S
  intro T hT X
  rcases vx_callSX X hx (hh := hh) (bytes := bytes) (maxL := maxL) (ret := ret) ho hl hstt hini hcode hy hK hg (hsize.trans hml.symm) (argsL := As) (rest := rest) (fun sig h => hn.trans (hlen sig h)) hstack hW (by rw [hb]; exact hdg)
    (fun vm₁ hW₁ => ⟨hf.1, hf.2, hp.2 (T.setVm vm₁) hT hW₁⟩) with ⟨v, vm₁, ⟨U', l2, c2, s2⟩, hW₁, X', ⟨g', mk, t, L, e1, e2, hq, h1, hL, h2, h3⟩, st⟩ | ⟨q, vm₁, ⟨U', l2, c2, s2⟩, hW₁, X', ⟨g', mk, t, L, E, ce, e1, e2, hq, hce, hcv, hcl, h1, hL, h2, h3⟩, st⟩
  · dsimp only [Pt.U, Pt.locs, Pt.cells, Pt.slots] at X' e1 e2 h1 h2 h3 st
    subst h1; subst h2; subst h3
    exact Or.inl ⟨v, (T.setVm vm₁).calling g' mk As.toArray, t, U', L, hT, X', hL, e1, e2, hq, st⟩
  · dsimp only [Pt.U, Pt.locs, Pt.cells, Pt.slots] at X' e1 e2 h1 h2 h3 st hcl
    subst h1; subst h2; subst h3
    exact Or.inr ⟨q, (T.setVm vm₁).calling g' mk As.toArray, t, U', L, E, ce, hT, X', hL, e1, e2, hq, hce, hcv, vx_cls hW₁ hcl, st⟩
end
end VXH
theorem vx_ofWH {l : Launch} {y : MethodName} {ws ws' : List Cond} {rm : Room} {Pc : Array Value → State → Prop} {Qc : Array Value → State → Outcome → State → Prop} {XC : String → State → State → Prop} {mc ms : Nat} {free : Addr → Prop} {cc : ByteArray} {maxL : Nat} {ret : Option FieldType} {hh : List (Nat × Nat × Nat × Nat)}
    (hy : plainName y.cls = true) (hw : ws = Cond.codeWith y cc maxL ret hh :: ws')
    (body : ∀ p e s m args below meth c s₁, BodyLoose p l y (headSpec ws rm) cc maxL ret e s m args below meth c s₁ → c.maxLocals = maxL → Pc args s →
      W p l e (headSpec ws rm).room s m args below meth c s.heap [] 0 0 (vx_MQ below Qc XC args s mc ms free) (entryFrame m args maxL)) : vx_Met l y ws rm Pc Qc XC mc ms free := by
  refine MetFree.of_bodyS (code := cc) (maxLocals := maxL) (ret := ret) hy ?_ ?_
  · intro args s m h hn
    obtain ⟨m9, meth, c, hn9, h1, h2, h3, h4, -, h5, h6, -⟩ := Cond.codeWith_spec (atoms_spec (ws := ws) h _ (by rw [hw]; exact List.mem_cons_self))
    cases hn.symm.trans hn9
    exact ⟨meth, c, h1, h2, h3, h4, h5, h6⟩
  · intro p e s m args below meth c s₁ B hml hP _
    have hh0 : s₁.heap = s.heap := by rw [B.state]; rfl
    obtain ⟨t, a1, o, b1, b2, b3⟩ := body p e s m args below meth c s₁ B hml hP s₁ hh0 (Stand.of_body B)
    exact ⟨t, o, a1, b1, b2, b3⟩
/-! ===== END ===== -/

/-! ===== BEGIN what the machine throws by itself, no traces kept ===== -/
section VXM
set_option maxHeartbeats 1000000 in
/-- the machine throws cls with the message text, no traces kept: from its note over the frame g to 'throwing' over the same frame (follows the proofs of Stand.vmThrowsMessage, Shelf/KitTracedVmS.lean, and Stand.throwsMessageColdBareV, StandMessageColdV.lean, without the step out of the frame) -/
theorem vx_vmAt {p : Program} {l : Launch} {e : Env} {R : Room} {s : State} {m₀ : MethodId} {args : Array Value} {below : List Frame} {meth : Method} {c : Code} {W : State} {locs : List Loc} {cells slots : Nat}
    (X : Stand p l e R s m₀ args below meth c W locs cells slots) (hexec : p.tables.exec = Jvm.exec) (htr : e.platform.stackTraces = false) {cls : String} {names : List String} {text : String}
    (hcls : Bundle.fit cls = true) (hnames : ∀ n ∈ names, Bundle.fit n = true) (hsoe : (cls == "java/lang/StackOverflowError") = false) (hoom : (cls == "java/lang/OutOfMemoryError") = false)
    (h : ∀ a ∈ Bundle.messageArmAtoms cls names, a.before args s = true)
    (hlocs : ∀ x ∈ locs, ∀ cell, s.heap[x.base]? = some cell → cell.vm.isStatics = false)
    (htext : (text == notModelled) = false) (hlimit : ¬ (stringBytes (stringToUtf16 text)).size > e.platform.arrayLengthLimit) (hheap : ¬ (stringBytes (stringToUtf16 text)).size * componentBytes .byte > e.platform.maxHeapBytes)
    {g : JFrame} (hg : g.method = m₀) (hsize : g.locals.size = c.maxLocals)
    (hRframes : names.length + 4 < R.frames) (hRlocals : 2 * g.monitorRoom + (g.stack.map fun v => v.category).sum + 10240 ≤ R.locals) (hshort : 13 * names.length + 55 ≤ 10240)
    (hRcells : cells + 3 ≤ R.cells) (hRslots : slots + ((stringBytes (stringToUtf16 text)).size + 4 + 6) ≤ R.slots) (hlocks : meth.locks = false) :
    ∃ (S : State) (q : Addr) (ce : Cell), (∀ target, Steps p.tables e below ((S.setTop g).pushFrame (.throwing q)) target → Steps p.tables e below ((W.setTop g).pushFrame (.throwNew cls (some text) none)) target) ∧
      Stand p l e R s m₀ args below meth c S locs (cells + 3) (slots + ((stringBytes (stringToUtf16 text)).size + 4 + 6)) ∧ S.heap[q]? = some ce ∧ s.vm.findClass cls = some ce.cls ∧ ce.vm = .none := by
  have howns : e.platform.frameOwnsMonitors = true := by rw [X.admits.platform]
  have hfin : e.platform.finalization = false := by rw [X.admits.platform]
  have hpl : e.platform.magicAccessors = ({} : Platform).magicAccessors := by rw [X.admits.platform]
  have a : ∀ x, x ∈ Bundle.messageArmAtoms cls names → x.holds args s none s [] = true := fun x hx => h x hx
  obtain ⟨T, Z0, L, -, Y⟩ := ThrowableC.of_atoms (args := args) howns hfin hpl (fun x hx => h x (by simp [Bundle.messageArmAtoms, hx]))
  obtain ⟨Z, M, LZ, LM, hnZ⟩ := Init0T.ofS_atoms (args := args) hpl L Y (fun x hx => h x (by simp [Bundle.messageArmAtoms, hx]))
  obtain ⟨P1, Ps, hlen, L1, hL, hP1m, hlink1, hlink⟩ := Bundle.chainS (args := args) hpl hnZ names cls hcls hnames (fun x hx => h x (by simp [Bundle.messageArmAtoms, hx]))
  obtain ⟨Zs, LZs, hn4, hfitv, hfitc⟩ := StringT.of_atoms (args := args) (fun x hx => h x (by simp [Bundle.messageArmAtoms, hx]))
  have hfound : s.vm.findClass cls = some P1.m.cls := findClass_of_methodNamed hP1m
  obtain ⟨c1, kX, hc1, hk, hord, -, -, hn6⟩ := Cond.instantiable_spec (a (.instantiable cls 6) (by simp [Bundle.messageArmAtoms]))
  cases Option.some.inj (hc1.symm.trans hfound)
  have hinit := Cond.initialized_spec hfound hk (a (.initialized cls) (by simp [Bundle.messageArmAtoms]))
  have hctor : kX.findMethod "<init>" "(Ljava/lang/String;)V" = some P1.m.idx := findMethod_of_methodNamed hP1m hk
  have hsel0 : selectMethod e.platform s.vm P1.m.cls T.fill0 = .method T.fill0 := by
    obtain ⟨c2, r2, m2, q1, q2, q3, q4, -⟩ := Cond.selects_spec (a (.selects cls Bundle.tFill0 Bundle.tFill0) (by simp [Bundle.messageArmAtoms]))
    cases Option.some.inj (q1.symm.trans hfound)
    cases Option.some.inj (q2.symm.trans (State.methodFound?_of_named Y.fill0 (by decide)))
    cases Option.some.inj (q3.symm.trans Y.fill0)
    rw [Launch.admits_selectMethod X.admits]; exact q4
  have hselF : selectMethod e.platform s.vm P1.m.cls T.fill = .method T.fill := by
    obtain ⟨c2, r2, m2, q1, q2, q3, q4, -⟩ := Cond.selects_spec (a (.selects cls Bundle.tFill Bundle.tFill) (by simp [Bundle.messageArmAtoms]))
    cases Option.some.inj (q1.symm.trans hfound)
    cases Option.some.inj (q2.symm.trans (State.methodFound?_of_named Y.fill (by decide)))
    cases Option.some.inj (q3.symm.trans Y.fill)
    rw [Launch.admits_selectMethod X.admits]; exact q4
  obtain ⟨cellS0, hcS0, hiss⟩ := Y.statics
  obtain ⟨u0, hu0⟩ := Cond.staticRefV Y.unassigned L.unassignedStatic L.statics hcS0 hiss (a (.isRef (.static Bundle.tN "UNASSIGNED_STACK" Bundle.steD)) (by simp [Bundle.messageArmAtoms]))
  obtain ⟨sen, hsen⟩ := Cond.staticRefV Y.sentinel L.sentinelStatic L.statics hcS0 hiss (a (.isRef (.static Bundle.tN "SUPPRESSED_SENTINEL" Bundle.listD)) (by simp [Bundle.messageArmAtoms]))
  obtain ⟨ci198, i198, fB, hk198, hg198, ha198, hsB, -, hnB, htB, hffB⟩ := Cond.ownField (t := .object "java/lang/Object") Y.found L.cls (by decide +kernel) (a (.fieldLink Bundle.tN 198 Bundle.tN "backtrace" "Ljava/lang/Object;") (by simp [Bundle.messageArmAtoms])) (a (.lays Bundle.tN Bundle.tN "backtrace" "Ljava/lang/Object;") (by simp [Bundle.messageArmAtoms])) e.platform hpl
  obtain ⟨cellS, hcS', heS, -, hkeep⟩ := X.same.2.2.2.2.2 T.aS cellS0 hcS0
  have hcellS : W.heap[T.aS]? = some cellS := hcS'
  have hout' : ∀ i, (⟨T.aS, i⟩ : Loc) ∉ locs := fun i hmem => by
    have := hlocs _ hmem cellS0 hcS0
    rw [hiss] at this; cases this
  have hknownS : cellS.vm ≠ .unknown := by
    rw [heS]; intro hu
    rw [show cellS0.vm = .unknown from hu] at hiss
    cases hiss
  have hvU : cellS.slots[T.fUnassigned.slot]? = some u0.v := by rw [hkeep _ (hout' _)]; exact hu0
  have hvSen : cellS.slots[T.fSentinel.slot]? = some sen.v := by rw [hkeep _ (hout' _)]; exact hsen
  obtain ⟨iM, hffM⟩ := Y.msg
  obtain ⟨tyC, dC, hdC, hdnC⟩ := Cond.laysAt hfound hk Y.cause (a (.lays cls Bundle.tN "cause" "Ljava/lang/Throwable;") (by simp [Bundle.messageArmAtoms]))
  obtain ⟨tyS, dS, hdS, hdnS⟩ := Cond.laysAt hfound hk Y.stack (a (.lays cls Bundle.tN "stackTrace" Bundle.steD) (by simp [Bundle.messageArmAtoms]))
  obtain ⟨tyP, dP, hdP, hdnP⟩ := Cond.laysAt hfound hk Y.supp (a (.lays cls Bundle.tN "suppressedExceptions" Bundle.listD) (by simp [Bundle.messageArmAtoms]))
  obtain ⟨tyM, dM, hdM, hdnM⟩ := Cond.laysAt hfound hk hffM (a (.lays cls Bundle.tN "detailMessage" "Ljava/lang/String;") (by simp [Bundle.messageArmAtoms]))
  obtain ⟨tyB, dB, hdB, hdnB⟩ := Cond.laysAt hfound hk hffB (a (.lays cls Bundle.tN "backtrace" "Ljava/lang/Object;") (by simp [Bundle.messageArmAtoms]))
  have bC := Cond.laysApart hdB hdC hdnB hdnC (by rw [hnB, Y.causeName]; decide)
  have bS := Cond.laysApart hdB hdS hdnB hdnS (by rw [hnB, Y.stackName]; decide)
  have bP := Cond.laysApart hdB hdP hdnB hdnP (by rw [hnB, Y.suppName]; decide)
  have hbk : ((preparedCellV T.toThrowableT (freshCell P1.m.cls kX) (W.heap.size + 2) u0 sen).withEntry W.cur).slots[fB.slot]? = some .null := by
    have := fresh_default (c := P1.m.cls) tyB
    rw [htB] at this
    simpa [preparedCellV, Cell.setSlot, Cell.withEntry, Array.getElem?_setIfInBounds, bC, bS, bP, bC.symm, bS.symm, bP.symm, defaultValue] using this
  have tkC := Takes.of_laid (v := .ref (W.heap.size + 2)) hk hord tyC (by rw [Y.causeType]; rfl)
  have tkS := Takes.of_laid (v := u0.v) hk hord tyS (by rw [Y.stackType]; exact fits_refV_array _ u0)
  have tkP := Takes.of_laid (v := sen.v) hk hord tyP (by rw [Y.suppType]; exact fits_refV_object _ sen)
  have tkM := Takes.of_laid (v := .ref (W.heap.size + 1)) hk hord tyM (by rw [Y.msgType]; rfl)
  have hskip : SkipFacts T e.platform s (fun u => u) u0 ((preparedCellV T.toThrowableT (freshCell P1.m.cls kX) (W.heap.size + 2) u0 sen).withEntry W.cur) := ⟨{ ci198 := ci198, i198 := i198, fBack := fB }, ⟨hk198, hg198, ha198, hsB⟩, hbk, fun _ _ => rfl⟩
  have h0 : At W g.method c below := by rw [hg]; exact X.here
  obtain ⟨hbeyond, hfreeW⟩ := X.vmMayThrow hsize (.throwNew cls (some text) none) (fun f hf => by cases hf) rfl hRlocals
  have hfr' : W.frames.length + Ps.length + 4 < (e.platform.stackLimits W.me).1 := by have := X.framesAbove hRframes; omega
  have hwd' : (stackUse (.java g :: W.frames.tail)).2 + 13 * Ps.length + 55 ≤ (e.platform.stackLimits W.me).2 := by have := X.stackAbove hsize (K := 13 * Ps.length + 55) (by omega); omega
  have hslots : W.slotsUsed + (stringBytes (stringToUtf16 text)).size + Zs.kS.instanceTypes.size + kX.instanceTypes.size ≤ e.platform.maxSlots := by
    have := X.slotsAbove hRslots
    rw [hn4, hn6]
    omega
  obtain ⟨vm', hW', st⟩ := Steps.vmThrowsMessageColdByV p (s₀ := s) (S := W) (g := g) h0 hexec T L Z LZ M LM X.warmed (t := W.cur) rfl Zs LZs P1 L1 Ps hL hlink1 hlink hsoe hoom hfound hk hinit hord hctor
    (Launch.admits_hotImplicitExceptions X.admits) hbeyond hfreeW htext hlimit hheap (X.cellsAbove hRcells) hslots (hfitv _) (hfitc _)
    (Nn := fun u => u) heapOnly_id (fun _ _ => rfl) (fun _ => rfl) (fun u x y => setCell_twice _ _ _ _) (fun _ => Nat.le_refl _) (cN := ((preparedCellV T.toThrowableT (freshCell P1.m.cls kX) (W.heap.size + 2) u0 sen).withEntry W.cur))
    hsel0 hcellS hknownS hvU tkS (fun _ hu => hu) (fun _ hu => hu) rfl rfl rfl (by simp [preparedCellV, Cell.setSlot, Cell.withEntry]) hskip (fun _ _ hA hW _ hroom _ hrest => L.nativeOff p htr hA hW hroom hrest) hselF hvSen tkC tkP tkM Y.objLocals rfl hfr' hwd'
  rw [plainBareV_eq T.toThrowableT (W.heap.size + 2) u0 sen (.ref (W.heap.size + 1)) W.cur rfl rfl] at st
  obtain ⟨-, -, w3, w4, -, -, -⟩ := withThrown_facts e.platform W Zs text P1.m.cls kX
  have X3 := ((X.pushed (bytesOf Zs.cB (stringToUtf16 text))).pushed (stringAt Zs.cS Zs.kS Zs.fv Zs.fc (stringToUtf16 text) W.heap.size)).pushed (freshCell P1.m.cls kX)
  rw [← withString_eq] at X3
  have X4 := X3.noted hW'
  have ha : (W.heap.size + 2) < ((withThrown W Zs text P1.m.cls kX).setVm vm').heap.size := by show _ < (withThrown W Zs text P1.m.cls kX).heap.size; rw [w3]; omega
  have hcell : ((withThrown W Zs text P1.m.cls kX).setVm vm').heap[(W.heap.size + 2)]? = some (freshCell P1.m.cls kX) := w4
  have X5 := ((((X4.stored hcell T.fCause.slot (.ref (W.heap.size + 2))).storedAgain ha T.fStack.slot u0.v).storedAgain ha T.fSupp.slot sen.v).storedAgain ha T.fStack.slot u0.v).storedAgain ha T.fMsg.slot (.ref (W.heap.size + 1))
  obtain ⟨g₁, hfrM⟩ := X5.frames_eq
  have hU : ((((withThrown W Zs text P1.m.cls kX).setVm vm').setCell (W.heap.size + 2) (plainBareV T.toThrowableT (freshCell P1.m.cls kX) (W.heap.size + 2) u0 sen (.ref (W.heap.size + 1)))).setTop g).pushFrame (.throwing (W.heap.size + 2)) = (((withThrown W Zs text P1.m.cls kX).setVm vm').setCell (W.heap.size + 2) (plainBareV T.toThrowableT (freshCell P1.m.cls kX) (W.heap.size + 2) u0 sen (.ref (W.heap.size + 1)))).setFrames (.throwing (W.heap.size + 2) :: .java g :: below) := by
    rw [State.pushFrame, State.frames_setTop _ hfrM, State.setTop_of_frames _ hfrM, State.setFrames_setFrames]
  have b1 : (bytesOf Zs.cB (stringToUtf16 text)).slots.size = (stringBytes (stringToUtf16 text)).size := by
    rw [(Cell.writeAll_facts _ _).2.2]; simp [bytes0]
  have b2 : (stringAt Zs.cS Zs.kS Zs.fv Zs.fc (stringToUtf16 text) W.heap.size).slots.size = 4 := by simp [string0, Cell.setSlot, hn4]
  have b3 : (freshCell P1.m.cls kX).slots.size = 6 := by simp [hn6]
  rw [b1, b2, b3] at X5
  have e9 : slots + (stringBytes (stringToUtf16 text)).size + 4 + 6 = slots + ((stringBytes (stringToUtf16 text)).size + 4 + 6) := by omega
  rw [e9] at X5
  simp only [List.append_assoc, List.cons_append, List.nil_append] at X5
  refine ⟨((withThrown W Zs text P1.m.cls kX).setVm vm').setCell (W.heap.size + 2) (plainBareV T.toThrowableT (freshCell P1.m.cls kX) (W.heap.size + 2) u0 sen (.ref (W.heap.size + 1))), W.heap.size + 2, _, fun target ht => st _ (by rw [X.tail, ← hU]; exact ht),
    X5.forget (fun y hy => ?_), heapAt_setCell_self _ ha, hfound, rfl⟩
  simp only [List.mem_cons, List.not_mem_nil, or_false] at hy
  have hge : s.heap.size ≤ W.heap.size := X.same.2.1
  rcases hy with rfl | rfl | rfl | rfl | rfl <;> exact Nat.le_trans hge (Nat.le_add_right _ 2)
set_option maxHeartbeats 1000000 in
/-- the machine throws NullPointerException, no traces kept: from its note over the frame g to 'throwing' over the same frame (follows the proof of Stand.vmThrowsNpe, Shelf42/KT2.lean; throwsNpeColdBareVAt, Shelf42/NT91.lean, called) -/
theorem vx_npeAt {p : Program} {l : Launch} {e : Env} {R : Room} {s : State} {m₀ : MethodId} {args : Array Value} {below : List Frame} {meth : Method} {c : Code} {W : State} {locs : List Loc} {cells slots : Nat}
    (X : Stand p l e R s m₀ args below meth c W locs cells slots) (hexec : p.tables.exec = Jvm.exec) (htr : e.platform.stackTraces = false) {n : Nat}
    (h : ∀ a ∈ Bundle.npeArmAtoms n, a.before args s = true)
    (hlocs : ∀ x ∈ locs, ∀ cell, s.heap[x.base]? = some cell → cell.vm.isStatics = false)
    {g : JFrame} (hg : g.method = m₀) (hsize : g.locals.size = c.maxLocals)
    (hRframes : 7 < R.frames) (hRlocals : 2 * g.monitorRoom + (g.stack.map fun v => v.category).sum + 10240 ≤ R.locals)
    (hRcells : cells + 1 ≤ R.cells) (hRslots : slots + n ≤ R.slots) (hlocks : meth.locks = false) :
    ∃ (S : State) (q : Addr) (ce : Cell), (∀ target, Steps p.tables e below ((S.setTop g).pushFrame (.throwing q)) target → Steps p.tables e below ((W.setTop g).pushFrame (.throwNew "java/lang/NullPointerException" none none)) target) ∧
      Stand p l e R s m₀ args below meth c S locs (cells + 1) (slots + n) ∧ S.heap[q]? = some ce ∧ s.vm.findClass "java/lang/NullPointerException" = some ce.cls ∧ ce.vm = .none := by
  have howns : e.platform.frameOwnsMonitors = true := by rw [X.admits.platform]
  have hfin : e.platform.finalization = false := by rw [X.admits.platform]
  have hpl : e.platform.magicAccessors = ({} : Platform).magicAccessors := by rw [X.admits.platform]
  have hpl2 : e.platform.arrayCloneIsPublic = true := by rw [X.admits.platform]
  have a' : ∀ x, x ∈ Bundle.npeArmAtoms n → x.holds args s none s [] = true := fun x hx => h x hx
  obtain ⟨T, Z, L, LZ, Y⟩ := ThrowableC.of_atoms (args := args) howns hfin hpl (fun x hx => h x (by simp [Bundle.npeArmAtoms, hx]))
  obtain ⟨N, LN, hcN, hnNF, hordN, hffS⟩ := NpeC.of_atoms (args := args) hpl hpl2 L Y (fun x hx => h x (by simp [Bundle.npeArmAtoms, hx]))
  obtain ⟨P1, L1, hP1m, hP1s⟩ := PassC.of_atoms (args := args) (s := s) hpl (X := Bundle.nN) (Y := Bundle.rN) (by decide) (by decide) LibCode.NullPointerException.Init0.at_0 LibCode.NullPointerException.Init0.at_1 LibCode.NullPointerException.Init0.at_4 (fun x hx => h x (by simp [Bundle.npeArmAtoms, hx]))
  obtain ⟨PR, LR, hPRm, hPRs⟩ := PassC.of_atoms (args := args) (s := s) hpl (X := Bundle.rN) (Y := Bundle.eN) (by decide) (by decide) LibCode.RuntimeException.Init0.at_0 LibCode.RuntimeException.Init0.at_1 LibCode.RuntimeException.Init0.at_4 (fun x hx => h x (by simp [Bundle.npeArmAtoms, hx]))
  obtain ⟨PE, LEx, hPEm, hPEs⟩ := PassC.of_atoms (args := args) (s := s) hpl (X := Bundle.eN) (Y := Bundle.tN) (by decide) (by decide) LibCode.Exception.Init0.at_0 LibCode.Exception.Init0.at_1 LibCode.Exception.Init0.at_4 (fun x hx => h x (by simp [Bundle.npeArmAtoms, hx]))
  have hfound : s.vm.findClass Bundle.nN = some P1.m.cls := findClass_of_methodNamed hP1m
  have ecls : N.cN = P1.m.cls := Option.some.inj (hcN.symm.trans hfound)
  have hk : s.vm.classes[P1.m.cls]? = some N.kN := by rw [← ecls]; exact LN.cls
  have hinit := Cond.initialized_spec hfound hk (a' (.initialized Bundle.nN) (by simp [Bundle.npeArmAtoms]))
  have hctor : N.kN.findMethod "<init>" "()V" = some P1.m.idx := findMethod_of_methodNamed hP1m hk
  obtain ⟨c1, k1, hc1, hk1, -, -, -, hn⟩ := Cond.instantiable_spec (a' (.instantiable Bundle.nN n) (by simp [Bundle.npeArmAtoms]))
  cases Option.some.inj (hc1.symm.trans hfound)
  cases Option.some.inj (hk1.symm.trans hk)
  have hfsz : (freshCell P1.m.cls N.kN).slots.size = n := by simp [hn]
  have hlink1 : P1.sup = PR.m := Option.some.inj (hP1s.symm.trans hPRm)
  have hlinkR : PR.sup = PE.m := Option.some.inj (hPRs.symm.trans hPEm)
  have hlinkE : PE.sup = Z.m T.toThrowableT := Option.some.inj (hPEs.symm.trans Y.init0)
  have hLs : ∀ P, P ∈ [PR, PE] → P.Links0 e.platform s := fun P hP => by
    simp only [List.mem_cons, List.not_mem_nil, or_false] at hP
    rcases hP with rfl | rfl
    · exact LR
    · exact LEx
  have hsel0 : selectMethod e.platform s.vm P1.m.cls T.fill0 = .method T.fill0 := by
    obtain ⟨c2, r2, m2, q1, q2, q3, q4, -⟩ := Cond.selects_spec (a' (.selects Bundle.nN Bundle.tFill0 Bundle.tFill0) (by simp [Bundle.npeArmAtoms]))
    cases Option.some.inj (q1.symm.trans hfound)
    cases Option.some.inj (q2.symm.trans (State.methodFound?_of_named Y.fill0 (by decide)))
    cases Option.some.inj (q3.symm.trans Y.fill0)
    rw [Launch.admits_selectMethod X.admits]; exact q4
  have hselF : selectMethod e.platform s.vm P1.m.cls T.fill = .method N.fill := by
    obtain ⟨c2, r2, m2, q1, q2, q3, q4, -⟩ := Cond.selects_spec (a' (.selects Bundle.nN Bundle.tFill Bundle.nFill) (by simp [Bundle.npeArmAtoms]))
    cases Option.some.inj (q1.symm.trans hfound)
    cases Option.some.inj (q2.symm.trans (State.methodFound?_of_named Y.fill (by decide)))
    cases Option.some.inj (q3.symm.trans hnNF)
    rw [Launch.admits_selectMethod X.admits]; exact q4
  obtain ⟨cellS0, hcS0, hiss⟩ := Y.statics
  obtain ⟨u0, hu0⟩ := Cond.staticRefV Y.unassigned L.unassignedStatic L.statics hcS0 hiss (a' (.isRef (.static Bundle.tN "UNASSIGNED_STACK" Bundle.steD)) (by simp [Bundle.npeArmAtoms]))
  obtain ⟨sen, hsen⟩ := Cond.staticRefV Y.sentinel L.sentinelStatic L.statics hcS0 hiss (a' (.isRef (.static Bundle.tN "SUPPRESSED_SENTINEL" Bundle.listD)) (by simp [Bundle.npeArmAtoms]))
  obtain ⟨ci198, i198, fB, hk198, hg198, ha198, hsB, -, hnB, htB, hffB⟩ := Cond.ownField (t := .object "java/lang/Object") Y.found L.cls (by decide +kernel) (a' (.fieldLink Bundle.tN 198 Bundle.tN "backtrace" Bundle.objD) (by simp [Bundle.npeArmAtoms])) (a' (.lays Bundle.tN Bundle.tN "backtrace" Bundle.objD) (by simp [Bundle.npeArmAtoms])) e.platform hpl
  obtain ⟨cellS, hcS', heS, -, hkeep⟩ := X.same.2.2.2.2.2 T.aS cellS0 hcS0
  have hcellS : W.heap[T.aS]? = some cellS := hcS'
  have hout' : ∀ i, (⟨T.aS, i⟩ : Loc) ∉ locs := fun i hmem => by
    have := hlocs _ hmem cellS0 hcS0
    rw [hiss] at this; cases this
  have hknownS : cellS.vm ≠ .unknown := by
    rw [heS]; intro hu
    rw [show cellS0.vm = .unknown from hu] at hiss
    cases hiss
  have hvU : cellS.slots[T.fUnassigned.slot]? = some u0.v := by rw [hkeep _ (hout' _)]; exact hu0
  have hvSen : cellS.slots[T.fSentinel.slot]? = some sen.v := by rw [hkeep _ (hout' _)]; exact hsen
  obtain ⟨tyC, dC, hdC, hdnC⟩ := Cond.laysAt hfound hk Y.cause (a' (.lays Bundle.nN Bundle.tN "cause" "Ljava/lang/Throwable;") (by simp [Bundle.npeArmAtoms]))
  obtain ⟨tyS, dS, hdS, hdnS⟩ := Cond.laysAt hfound hk Y.stack (a' (.lays Bundle.nN Bundle.tN "stackTrace" Bundle.steD) (by simp [Bundle.npeArmAtoms]))
  obtain ⟨tyP, dP, hdP, hdnP⟩ := Cond.laysAt hfound hk Y.supp (a' (.lays Bundle.nN Bundle.tN "suppressedExceptions" Bundle.listD) (by simp [Bundle.npeArmAtoms]))
  obtain ⟨tyX, dX, hdX, hdnX⟩ := Cond.laysAt hfound hk hffS (a' (.lays Bundle.nN Bundle.nN "extendedMessageState" "I") (by simp [Bundle.npeArmAtoms, Bundle.npeAtoms]))
  obtain ⟨hnX, htX⟩ := State.fieldFound?_type hffS (t := .int) (by decide +kernel)
  have xC := Cond.laysApart hdC hdX hdnC hdnX (by rw [hnX, Y.causeName]; decide)
  have xS := Cond.laysApart hdS hdX hdnS hdnX (by rw [hnX, Y.stackName]; decide)
  have xP := Cond.laysApart hdP hdX hdnP hdnX (by rw [hnX, Y.suppName]; decide)
  have hv0 : (freshCell P1.m.cls N.kN).slots[N.fState.slot]? = some (.int 0) := by
    have := fresh_default (c := P1.m.cls) tyX
    rw [htX] at this; exact this
  obtain ⟨tyB, dB, hdB, hdnB⟩ := Cond.laysAt hfound hk hffB (a' (.lays Bundle.nN Bundle.tN "backtrace" Bundle.objD) (by simp [Bundle.npeArmAtoms]))
  have bC := Cond.laysApart hdB hdC hdnB hdnC (by rw [hnB, Y.causeName]; decide)
  have bS := Cond.laysApart hdB hdS hdnB hdnS (by rw [hnB, Y.stackName]; decide)
  have bP := Cond.laysApart hdB hdP hdnB hdnP (by rw [hnB, Y.suppName]; decide)
  have bX := Cond.laysApart hdB hdX hdnB hdnX (by rw [hnB, hnX]; decide)
  have hbk : ((npeCell N.toNpeT (preparedCellV T.toThrowableT (freshCell P1.m.cls N.kN) W.heap.size u0 sen) W.cur).withEntry W.cur).slots[fB.slot]? = some .null := by
    have := fresh_default (c := P1.m.cls) tyB
    rw [htB] at this
    simpa [npeCell, preparedCellV, Cell.setSlot, Cell.withEntry, Array.getElem?_setIfInBounds, bC, bS, bP, bX, bC.symm, bS.symm, bP.symm, bX.symm, defaultValue] using this
  have tkC := Takes.of_laid (v := .ref W.heap.size) hk hordN tyC (by rw [Y.causeType]; rfl)
  have tkS := Takes.of_laid (v := u0.v) hk hordN tyS (by rw [Y.stackType]; exact fits_refV_array _ u0)
  have tkP := Takes.of_laid (v := sen.v) hk hordN tyP (by rw [Y.suppType]; exact fits_refV_object _ sen)
  have tkX := Takes.of_laid (v := .int 1) hk hordN tyX (by rw [htX]; rfl)
  have hskip : SkipFacts T e.platform s (fun u => u) u0 ((npeCell N.toNpeT (preparedCellV T.toThrowableT (freshCell P1.m.cls N.kN) W.heap.size u0 sen) W.cur).withEntry W.cur) := ⟨{ ci198 := ci198, i198 := i198, fBack := fB }, ⟨hk198, hg198, ha198, hsB⟩, hbk, fun _ _ => rfl⟩
  obtain ⟨vm', X3, st, -⟩ := X.throwsNpeColdBareVAt hexec hg hsize T L Z LZ N LN P1 L1 [PR, PE] hLs hlink1 ⟨hlinkR, hlinkE, trivial⟩ hfound hk hinit hordN hctor hsel0 hselF hcellS hknownS hvU hvSen
    hv0 xC xS xP tkC tkS tkP tkX Y.objLocals hskip (fun _ _ hA hW _ hroom _ hrest => L.nativeOff p htr hA hW hroom hrest) (by simpa using hRframes) hRlocals (by simp) hRcells (by rw [hn]; exact hRslots)
  have hlt : W.heap.size < ((W.pushCell (freshCell P1.m.cls N.kN)).setVm vm').heap.size := by
    show W.heap.size < (W.pushCell (freshCell P1.m.cls N.kN)).heap.size
    rw [State.heap_size_pushCell]; omega
  rw [hfsz] at X3
  obtain ⟨g₁, hfrM⟩ := X3.frames_eq
  have hU : ((((W.pushCell (freshCell P1.m.cls N.kN)).setVm vm').setCell W.heap.size (npeBareV T.toThrowableT N.toNpeT (freshCell P1.m.cls N.kN) W.heap.size u0 sen)).setTop g).pushFrame (.throwing W.heap.size) = (((W.pushCell (freshCell P1.m.cls N.kN)).setVm vm').setCell W.heap.size (npeBareV T.toThrowableT N.toNpeT (freshCell P1.m.cls N.kN) W.heap.size u0 sen)).setFrames (.throwing W.heap.size :: .java g :: below) := by
    rw [State.pushFrame, State.frames_setTop _ hfrM, State.setTop_of_frames _ hfrM, State.setFrames_setFrames]
  refine ⟨_, W.heap.size, _, fun target ht => st.trans (by rw [← hU]; exact ht), X3.forget (fun y hy => ?_), heapAt_setCell_self _ hlt, hfound, rfl⟩
  simp only [List.mem_cons, List.not_mem_nil, or_false] at hy
  have hge : s.heap.size ≤ W.heap.size := X.same.2.1
  rcases hy with rfl | rfl | rfl | rfl | rfl <;> exact hge
/-- the words of a machine's NullPointerException, but the four that speak of the heap -/
def vx_atN (n : Nat) : List Cond := (Bundle.npeArmAtoms n).filter vx_no
/-- the words of a machine's throw with a message, but the four that speak of the heap -/
def vx_atM (X : String) (names : List String) : List Cond := (Bundle.messageArmAtoms X names).filter vx_no
section
variable {p : Program} {l : Launch} {e : Env} {R : Room} {s : State} {m : MethodId} {args : Array Value} {below : List Frame} {meth : Method} {c : Code} {H : Heap} {locs : List Loc} {cells slots : Nat}
/-- a frame seen from a rebased start, seen from the first start again -/
theorem vx_back9 {T S : State} {R' : Room} {k n : Nat} (X : Stand p l e R s m args below meth c T locs cells slots) (Y : Stand p l e R' ((T.setVm s.vm).setFrames (.invoking m args :: below)) m args below meth c T [] 0 0) (Z : Stand p l e R' ((T.setVm s.vm).setFrames (.invoking m args :: below)) m args below meth c S [] k n) :
    Stand p l e R s m args below meth c S locs (cells + k) (slots + n) := by
  have hW0 : s.WarmedH ((T.setVm s.vm).setFrames (.invoking m args :: below)).vm := State.WarmedH.refl s
  refine { admits := X.admits, cas := X.cas, clock := X.clock, frames := X.frames, room := X.room, hears := X.hears, method := X.method, code := X.code, here := Z.here, tail := Z.tail, warmed := State.WarmedH.trans hW0 Z.warmed, limits := Z.limits.trans (Y.limits.symm.trans X.limits), bytes := Z.bytes.trans (Y.bytes.symm.trans X.bytes), same := ?_ }
  obtain ⟨e1, e2⟩ := Z.same
  rw [State.setFrames_setFrames] at e1
  have h2 : (T.setVm s.vm).sameButNew (S.setVm s.vm) [] k n := ⟨e1, e2⟩
  have h3 := X.same.trans h2
  rw [List.append_nil] at h3
  exact h3
/-- from the machine's note that E is thrown here with this text -/
def vx_Note (p : Program) (l : Launch) (e : Env) (R : Room) (s : State) (m : MethodId) (args : Array Value) (below : List Frame) (meth : Method) (c : Code) (H : Heap) (locs : List Loc) (cells slots : Nat) (Q : State → Prop) (g : JFrame) (E text : String) : Prop :=
  ∀ T : State, T.heap = H → Stand p l e R s m args below meth c T locs cells slots → ∃ t, Steps p.tables e below ((T.setTop g).pushFrame (.throwNew E (some text) none)) t ∧ Q t
theorem vx_vm {pc : Nat} {ls : Array Slot} {rest : List Value} {Q : State → Prop} (hexec : p.tables.exec = Jvm.exec) (hl : l.stackTraces = false) {cls text : String} {names : List String} {nb : Nat} {A : Nat → Prop}
    (hcls : Bundle.fit cls = true) (hnames : ∀ n ∈ names, Bundle.fit n = true) (hsoe : (cls == "java/lang/StackOverflowError") = false) (hoom : (cls == "java/lang/OutOfMemoryError") = false)
    (hat : ∀ w ∈ vx_atM cls names, w.before args s = true) (hgood : ∀ w ∈ vx_atM cls names, vx_ot w = true)
    (hU : vx_Zq Bundle.tN "UNASSIGNED_STACK" Bundle.steD A s s.heap) (hN : vx_Zq Bundle.tN "SUPPRESSED_SENTINEL" Bundle.listD A s s.heap) (hS : va_S A s.heap H locs) (hsize : ls.size = c.maxLocals)
    (htext : (text == notModelled) = false) (hnb : (stringBytes (stringToUtf16 text)).size ≤ nb) (hnb1 : nb ≤ 1000)
    (hRframes : names.length + 4 < R.frames) (hRlocals : (rest.map fun v => v.category).sum + 10240 ≤ R.locals) (hshort : 13 * names.length + 55 ≤ 10240) (hRcells : cells + 3 ≤ R.cells) (hRslots : slots + (nb + 10) ≤ R.slots) (hlocks : meth.locks = false)
    (k : ∀ (H1 : Heap) (q9 : Addr) (ce : Cell), H.size ≤ H1.size → (∀ q : Nat, q < H.size → H1[q]? = H[q]?) → va_S A s.heap H1 locs → H1[q9]? = some ce → ce.vm = .none → s.vm.findClass cls = some ce.cls → vx_W p l e R s m args below meth c H1 locs (cells + 3) (slots + (nb + 10)) Q (F0 m pc ls rest) q9) :
    vx_Note p l e R s m args below meth c H locs cells slots Q (F0 m pc ls rest) cls text := by
  intro T hT X
  have htr : e.platform.stackTraces = false := (show e.platform.stackTraces = l.stackTraces by rw [X.admits.platform]).trans hl
  have Y := vx_rebase X (R' := { frames := R.frames, locals := R.locals, cells := 3, slots := nb + 10 }) (Nat.le_refl _) (Nat.le_refl _) hRcells hRslots
  have hhp : ((T.setVm s.vm).setFrames (.invoking m args :: below)).heap = H := hT
  have hW0 : s.WarmedH ((T.setVm s.vm).setFrames (.invoking m args :: below)).vm := State.WarmedH.refl s
  have hat' : ∀ w ∈ vx_atM cls names, w.before args ((T.setVm s.vm).setFrames (.invoking m args :: below)) = true := fun w hw => vx_ot_at hW0 rfl (hgood w hw) (hat w hw)
  have hU' : vx_Zq Bundle.tN "UNASSIGNED_STACK" Bundle.steD A ((T.setVm s.vm).setFrames (.invoking m args :: below)) ((T.setVm s.vm).setFrames (.invoking m args :: below)).heap := by rw [hhp]; exact vx_Zq.moved hW0.alike (hU.kept hS.2.1)
  have hN' : vx_Zq Bundle.tN "SUPPRESSED_SENTINEL" Bundle.listD A ((T.setVm s.vm).setFrames (.invoking m args :: below)) ((T.setVm s.vm).setFrames (.invoking m args :: below)).heap := by rw [hhp]; exact vx_Zq.moved hW0.alike (hN.kept hS.2.1)
  obtain ⟨S, q, ce, st, Z, hce, hcl', hv⟩ := vx_vmAt Y hexec htr (cls := cls) (names := names) (text := text) hcls hnames hsoe hoom (vx_own hat' (vx_isRefq hU'.1) (vx_isRefq hN'.1) hU'.2.word hN'.2.word) (fun x hx => nomatch hx) htext
    (by rw [Launch.admits_arrayLengthLimit X.admits]; omega) (by rw [Launch.admits_maxHeapBytes X.admits]; simp only [componentBytes]; omega)
    (g := F0 m pc ls rest) rfl hsize hRframes (by show 2 * 0 + (rest.map fun v => v.category).sum + 10240 ≤ R.locals; omega) hshort (by show 0 + 3 ≤ 3; omega) (by show 0 + (_ + 4 + 6) ≤ nb + 10; omega) hlocks
  obtain ⟨f1, f2⟩ := vx_frame Z.same
  have f1' : H.size ≤ S.heap.size := by rw [← hT]; exact f1
  have f2' : ∀ q : Nat, q < H.size → S.heap[q]? = H[q]? := fun q hq => by
    rw [← hT]
    exact f2 q (by rw [← hT] at hq; exact hq) (fun z hz => nomatch hz)
  have X5 := vx_back9 X Y Z
  have X6 : Stand p l e R s m args below meth c S locs (cells + 3) (slots + (nb + 10)) := { X5 with same := X5.same.mono (by omega) (by omega) }
  obtain ⟨t, a1, b1⟩ := k S.heap q ce f1' f2' ⟨Nat.le_trans hS.1 f1', fun q h1 h2 => (f2' q (Nat.lt_of_lt_of_le h1 hS.1)).trans (hS.2.1 q h1 h2), hS.2.2⟩ hce hv hcl' S rfl X6
  exact ⟨t, st t a1, b1⟩
/-- from the machine's note that NullPointerException is thrown here -/
def vx_NoteN (p : Program) (l : Launch) (e : Env) (R : Room) (s : State) (m : MethodId) (args : Array Value) (below : List Frame) (meth : Method) (c : Code) (H : Heap) (locs : List Loc) (cells slots : Nat) (Q : State → Prop) (g : JFrame) : Prop :=
  ∀ T : State, T.heap = H → Stand p l e R s m args below meth c T locs cells slots → ∃ t, Steps p.tables e below ((T.setTop g).pushFrame (.throwNew "java/lang/NullPointerException" none none)) t ∧ Q t
theorem vx_npe {pc : Nat} {ls : Array Slot} {rest : List Value} {Q : State → Prop} (hexec : p.tables.exec = Jvm.exec) (hl : l.stackTraces = false) {nb : Nat} {A : Nat → Prop}
    (hat : ∀ w ∈ vx_atN nb, w.before args s = true) (hgood : ∀ w ∈ vx_atN nb, vx_ot w = true)
    (hU : vx_Zq Bundle.tN "UNASSIGNED_STACK" Bundle.steD A s s.heap) (hN : vx_Zq Bundle.tN "SUPPRESSED_SENTINEL" Bundle.listD A s s.heap) (hS : va_S A s.heap H locs) (hsize : ls.size = c.maxLocals)
    (hRframes : 7 < R.frames) (hRlocals : (rest.map fun v => v.category).sum + 10240 ≤ R.locals) (hRcells : cells + 1 ≤ R.cells) (hRslots : slots + nb ≤ R.slots) (hlocks : meth.locks = false)
    (k : ∀ (H1 : Heap) (q9 : Addr) (ce : Cell), H.size ≤ H1.size → (∀ q : Nat, q < H.size → H1[q]? = H[q]?) → va_S A s.heap H1 locs → H1[q9]? = some ce → ce.vm = .none → s.vm.findClass "java/lang/NullPointerException" = some ce.cls → vx_W p l e R s m args below meth c H1 locs (cells + 1) (slots + nb) Q (F0 m pc ls rest) q9) :
    vx_NoteN p l e R s m args below meth c H locs cells slots Q (F0 m pc ls rest) := by
  intro T hT X
  have htr : e.platform.stackTraces = false := (show e.platform.stackTraces = l.stackTraces by rw [X.admits.platform]).trans hl
  have Y := vx_rebase X (R' := { frames := R.frames, locals := R.locals, cells := 1, slots := nb }) (Nat.le_refl _) (Nat.le_refl _) hRcells hRslots
  have hhp : ((T.setVm s.vm).setFrames (.invoking m args :: below)).heap = H := hT
  have hW0 : s.WarmedH ((T.setVm s.vm).setFrames (.invoking m args :: below)).vm := State.WarmedH.refl s
  have hat' : ∀ w ∈ vx_atN nb, w.before args ((T.setVm s.vm).setFrames (.invoking m args :: below)) = true := fun w hw => vx_ot_at hW0 rfl (hgood w hw) (hat w hw)
  have hU' : vx_Zq Bundle.tN "UNASSIGNED_STACK" Bundle.steD A ((T.setVm s.vm).setFrames (.invoking m args :: below)) ((T.setVm s.vm).setFrames (.invoking m args :: below)).heap := by rw [hhp]; exact vx_Zq.moved hW0.alike (hU.kept hS.2.1)
  have hN' : vx_Zq Bundle.tN "SUPPRESSED_SENTINEL" Bundle.listD A ((T.setVm s.vm).setFrames (.invoking m args :: below)) ((T.setVm s.vm).setFrames (.invoking m args :: below)).heap := by rw [hhp]; exact vx_Zq.moved hW0.alike (hN.kept hS.2.1)
  obtain ⟨S, q, ce, st, Z, hce, hcl', hv⟩ := vx_npeAt Y hexec htr (n := nb) (vx_own hat' (vx_isRefq hU'.1) (vx_isRefq hN'.1) hU'.2.word hN'.2.word) (fun x hx => nomatch hx)
    (g := F0 m pc ls rest) rfl hsize hRframes (by show 2 * 0 + (rest.map fun v => v.category).sum + 10240 ≤ R.locals; omega) (by show 0 + 1 ≤ 1; omega) (by show 0 + nb ≤ nb; omega) hlocks
  obtain ⟨f1, f2⟩ := vx_frame Z.same
  have f1' : H.size ≤ S.heap.size := by rw [← hT]; exact f1
  have f2' : ∀ q : Nat, q < H.size → S.heap[q]? = H[q]? := fun q hq => by
    rw [← hT]
    exact f2 q (by rw [← hT] at hq; exact hq) (fun z hz => nomatch hz)
  have X5 := vx_back9 X Y Z
  have X6 : Stand p l e R s m args below meth c S locs (cells + 1) (slots + nb) := { X5 with same := X5.same.mono (by omega) (by omega) }
  obtain ⟨t, a1, b1⟩ := k S.heap q ce f1' f2' ⟨Nat.le_trans hS.1 f1', fun q h1 h2 => (f2' q (Nat.lt_of_lt_of_le h1 hS.1)).trans (hS.2.1 q h1 h2), hS.2.2⟩ hce hv hcl' S rfl X6
  exact ⟨t, st t a1, b1⟩
variable {Q : State → Prop} {cc : ByteArray} {pc : Nat} {ls : Array Slot} {rest : List Value}
theorem vx_idivZ (hexec : p.tables.exec = Jvm.exec) (hb : c.code = cc) {a b : Int32} (h0 : b = 0) (d : decode cc pc = .ok (.idiv, 1)) (k : vx_Note p l e R s m args below meth c H locs cells slots Q (F0 m pc ls rest) "java/lang/ArithmeticException" "/ by zero") :
    W p l e R s m args below meth c H locs cells slots Q (F0 m pc ls (.int b :: .int a :: rest)) := by
  intro T hT X
  obtain ⟨t, st, q⟩ := k T hT X
  exact ⟨t, X.idivZero hexec (g := F0 m pc ls (.int b :: .int a :: rest)) rfl (a := a) (rest := rest) (by rw [h0]) (by rw [hb]; exact d) t st, q⟩
theorem vx_iremZ (hexec : p.tables.exec = Jvm.exec) (hb : c.code = cc) {a b : Int32} (h0 : b = 0) (d : decode cc pc = .ok (.irem, 1)) (k : vx_Note p l e R s m args below meth c H locs cells slots Q (F0 m pc ls rest) "java/lang/ArithmeticException" "/ by zero") :
    W p l e R s m args below meth c H locs cells slots Q (F0 m pc ls (.int b :: .int a :: rest)) := by
  intro T hT X
  obtain ⟨t, st, q⟩ := k T hT X
  exact ⟨t, X.iremZero hexec (g := F0 m pc ls (.int b :: .int a :: rest)) rfl (a := a) (rest := rest) (by rw [h0]) (by rw [hb]; exact d) t st, q⟩
theorem vx_ldivZ (hexec : p.tables.exec = Jvm.exec) (hb : c.code = cc) {a b : Int64} (h0 : b = 0) (d : decode cc pc = .ok (.ldiv, 1)) (k : vx_Note p l e R s m args below meth c H locs cells slots Q (F0 m pc ls rest) "java/lang/ArithmeticException" "/ by zero") :
    W p l e R s m args below meth c H locs cells slots Q (F0 m pc ls (.long b :: .long a :: rest)) := by
  intro T hT X
  obtain ⟨t, st, q⟩ := k T hT X
  exact ⟨t, X.ldivZero hexec (g := F0 m pc ls (.long b :: .long a :: rest)) rfl (a := a) (rest := rest) (by rw [h0]) (by rw [hb]; exact d) t st, q⟩
theorem vx_lremZ (hexec : p.tables.exec = Jvm.exec) (hb : c.code = cc) {a b : Int64} (h0 : b = 0) (d : decode cc pc = .ok (.lrem, 1)) (k : vx_Note p l e R s m args below meth c H locs cells slots Q (F0 m pc ls rest) "java/lang/ArithmeticException" "/ by zero") :
    W p l e R s m args below meth c H locs cells slots Q (F0 m pc ls (.long b :: .long a :: rest)) := by
  intro T hT X
  obtain ⟨t, st, q⟩ := k T hT X
  exact ⟨t, X.lremZero hexec (g := F0 m pc ls (.long b :: .long a :: rest)) rfl (a := a) (rest := rest) (by rw [h0]) (by rw [hb]; exact d) t st, q⟩
theorem vx_ialdZ {D : va_G} {cl : List vw_C} {ws : va_W} {tys : List (ClassId × FieldType)} {a : Nat} (hexec : p.tables.exec = Jvm.exec) (hb : c.code = cc) (hK : va_K D cl tys s) (hP : va_P D cl ws H) (q0 t0 : Nat) {cA : ClassId} {n : Nat} {f : Nat → Int32} (ha : ws[q0]? = some (a, .inl (cA, n, .inl f))) (ht : tys[t0]? = some (cA, .int)) {i : Int32} (hout : ¬ vp_in i n) (hdg : decode cc pc = .ok (.iaload, 1))
    (k : ∀ tx : String, tx = (toString "Index " ++ toString i ++ toString " out of bounds for length " ++ toString n : String) → vx_Note p l e R s m args below meth c H locs cells slots Q (F0 m pc ls rest) "java/lang/ArrayIndexOutOfBoundsException" tx) : W p l e R s m args below meth c H locs cells slots Q (F0 m pc ls (.int i :: .ref a :: rest)) := by
  intro T hT X
  obtain ⟨t, st, q⟩ := k _ rfl T hT X
  refine ⟨t, ?_, q⟩
  have h1 := X.ialoadOut hexec (by rw [hT]; exact hP q0 _ ha) ((hK.2 t0 _ ht).1 n (fun j => .int (f j))) (j := i) (by show (i < 0 ∨ (arrV _ _ _).slots.size ≤ _); rw [arrV_size]; exact Classical.byContradiction hout) (g := F0 m pc ls (.int i :: .ref a :: rest)) rfl (rest := rest) rfl (by rw [hb]; exact hdg) t
  simp only [arrV_size] at h1
  exact h1 st
theorem vx_iastZ {D : va_G} {cl : List vw_C} {ws : va_W} {tys : List (ClassId × FieldType)} {a : Nat} (hexec : p.tables.exec = Jvm.exec) (hb : c.code = cc) (hK : va_K D cl tys s) (hP : va_P D cl ws H) (q0 t0 : Nat) {cA : ClassId} {n : Nat} {f : Nat → Int32} (ha : ws[q0]? = some (a, .inl (cA, n, .inl f))) (ht : tys[t0]? = some (cA, .int)) {i : Int32} {x : Int32} (hout : ¬ vp_in i n) (hdg : decode cc pc = .ok (.iastore, 1))
    (k : ∀ tx : String, tx = (toString "Index " ++ toString i ++ toString " out of bounds for length " ++ toString n : String) → vx_Note p l e R s m args below meth c H locs cells slots Q (F0 m pc ls rest) "java/lang/ArrayIndexOutOfBoundsException" tx) : W p l e R s m args below meth c H locs cells slots Q (F0 m pc ls (.int x :: .int i :: .ref a :: rest)) := by
  intro T hT X
  obtain ⟨t, st, q⟩ := k _ rfl T hT X
  refine ⟨t, ?_, q⟩
  have h1 := X.iastoreOut hexec (by rw [hT]; exact hP q0 _ ha) ((hK.2 t0 _ ht).1 n (fun j => .int (f j))) (j := i) (by show (i < 0 ∨ (arrV _ _ _).slots.size ≤ _); rw [arrV_size]; exact Classical.byContradiction hout) (g := F0 m pc ls (.int x :: .int i :: .ref a :: rest)) rfl (rest := rest) rfl (by rw [hb]; exact hdg) t
  simp only [arrV_size] at h1
  exact h1 st
theorem vx_baldZ {D : va_G} {cl : List vw_C} {ws : va_W} {tys : List (ClassId × FieldType)} {a : Nat} (hexec : p.tables.exec = Jvm.exec) (hb : c.code = cc) (hK : va_K D cl tys s) (hP : va_P D cl ws H) (q0 t0 : Nat) {cA : ClassId} {n : Nat} {f : Nat → Int32} (ha : ws[q0]? = some (a, .inl (cA, n, .inl f))) (ht : tys[t0]? = some (cA, .byte)) {i : Int32} (hout : ¬ vp_in i n) (hdg : decode cc pc = .ok (.baload, 1))
    (k : ∀ tx : String, tx = (toString "Index " ++ toString i ++ toString " out of bounds for length " ++ toString n : String) → vx_Note p l e R s m args below meth c H locs cells slots Q (F0 m pc ls rest) "java/lang/ArrayIndexOutOfBoundsException" tx) : W p l e R s m args below meth c H locs cells slots Q (F0 m pc ls (.int i :: .ref a :: rest)) := by
  intro T hT X
  obtain ⟨t, st, q⟩ := k _ rfl T hT X
  refine ⟨t, ?_, q⟩
  have h1 := X.baloadOut hexec (by rw [hT]; exact hP q0 _ ha) ((hK.2 t0 _ ht).1 n (fun j => .int (f j))) (j := i) (by show (i < 0 ∨ (arrV _ _ _).slots.size ≤ _); rw [arrV_size]; exact Classical.byContradiction hout) (g := F0 m pc ls (.int i :: .ref a :: rest)) rfl (rest := rest) rfl (by rw [hb]; exact hdg) t
  simp only [arrV_size] at h1
  exact h1 st
theorem vx_bastZ {D : va_G} {cl : List vw_C} {ws : va_W} {tys : List (ClassId × FieldType)} {a : Nat} (hexec : p.tables.exec = Jvm.exec) (hb : c.code = cc) (hK : va_K D cl tys s) (hP : va_P D cl ws H) (q0 t0 : Nat) {cA : ClassId} {n : Nat} {f : Nat → Int32} (ha : ws[q0]? = some (a, .inl (cA, n, .inl f))) (ht : tys[t0]? = some (cA, .byte)) {i : Int32} {x : Int32} (hout : ¬ vp_in i n) (hdg : decode cc pc = .ok (.bastore, 1))
    (k : ∀ tx : String, tx = (toString "Index " ++ toString i ++ toString " out of bounds for length " ++ toString n : String) → vx_Note p l e R s m args below meth c H locs cells slots Q (F0 m pc ls rest) "java/lang/ArrayIndexOutOfBoundsException" tx) : W p l e R s m args below meth c H locs cells slots Q (F0 m pc ls (.int x :: .int i :: .ref a :: rest)) := by
  intro T hT X
  obtain ⟨t, st, q⟩ := k _ rfl T hT X
  refine ⟨t, ?_, q⟩
  have h1 := X.bastoreOut hexec (by rw [hT]; exact hP q0 _ ha) ((hK.2 t0 _ ht).1 n (fun j => .int (f j))) (j := i) (by show (i < 0 ∨ (arrV _ _ _).slots.size ≤ _); rw [arrV_size]; exact Classical.byContradiction hout) (g := F0 m pc ls (.int x :: .int i :: .ref a :: rest)) rfl (rest := rest) rfl (by rw [hb]; exact hdg) t
  simp only [arrV_size] at h1
  exact h1 st
theorem vx_zaldZ {D : va_G} {cl : List vw_C} {ws : va_W} {tys : List (ClassId × FieldType)} {a : Nat} (hexec : p.tables.exec = Jvm.exec) (hb : c.code = cc) (hK : va_K D cl tys s) (hP : va_P D cl ws H) (q0 t0 : Nat) {cA : ClassId} {n : Nat} {f : Nat → Int32} (ha : ws[q0]? = some (a, .inl (cA, n, .inl f))) (ht : tys[t0]? = some (cA, .boolean)) {i : Int32} (hout : ¬ vp_in i n) (hdg : decode cc pc = .ok (.baload, 1))
    (k : ∀ tx : String, tx = (toString "Index " ++ toString i ++ toString " out of bounds for length " ++ toString n : String) → vx_Note p l e R s m args below meth c H locs cells slots Q (F0 m pc ls rest) "java/lang/ArrayIndexOutOfBoundsException" tx) : W p l e R s m args below meth c H locs cells slots Q (F0 m pc ls (.int i :: .ref a :: rest)) := by
  intro T hT X
  obtain ⟨t, st, q⟩ := k _ rfl T hT X
  refine ⟨t, ?_, q⟩
  have h1 := X.baloadOut hexec (by rw [hT]; exact hP q0 _ ha) ((hK.2 t0 _ ht).1 n (fun j => .int (f j))) (j := i) (by show (i < 0 ∨ (arrV _ _ _).slots.size ≤ _); rw [arrV_size]; exact Classical.byContradiction hout) (g := F0 m pc ls (.int i :: .ref a :: rest)) rfl (rest := rest) rfl (by rw [hb]; exact hdg) t
  simp only [arrV_size] at h1
  exact h1 st
theorem vx_zastZ {D : va_G} {cl : List vw_C} {ws : va_W} {tys : List (ClassId × FieldType)} {a : Nat} (hexec : p.tables.exec = Jvm.exec) (hb : c.code = cc) (hK : va_K D cl tys s) (hP : va_P D cl ws H) (q0 t0 : Nat) {cA : ClassId} {n : Nat} {f : Nat → Int32} (ha : ws[q0]? = some (a, .inl (cA, n, .inl f))) (ht : tys[t0]? = some (cA, .boolean)) {i : Int32} {x : Int32} (hout : ¬ vp_in i n) (hdg : decode cc pc = .ok (.bastore, 1))
    (k : ∀ tx : String, tx = (toString "Index " ++ toString i ++ toString " out of bounds for length " ++ toString n : String) → vx_Note p l e R s m args below meth c H locs cells slots Q (F0 m pc ls rest) "java/lang/ArrayIndexOutOfBoundsException" tx) : W p l e R s m args below meth c H locs cells slots Q (F0 m pc ls (.int x :: .int i :: .ref a :: rest)) := by
  intro T hT X
  obtain ⟨t, st, q⟩ := k _ rfl T hT X
  refine ⟨t, ?_, q⟩
  have h1 := X.bastoreOut hexec (by rw [hT]; exact hP q0 _ ha) ((hK.2 t0 _ ht).1 n (fun j => .int (f j))) (j := i) (by show (i < 0 ∨ (arrV _ _ _).slots.size ≤ _); rw [arrV_size]; exact Classical.byContradiction hout) (g := F0 m pc ls (.int x :: .int i :: .ref a :: rest)) rfl (rest := rest) rfl (by rw [hb]; exact hdg) t
  simp only [arrV_size] at h1
  exact h1 st
theorem vx_caldZ {D : va_G} {cl : List vw_C} {ws : va_W} {tys : List (ClassId × FieldType)} {a : Nat} (hexec : p.tables.exec = Jvm.exec) (hb : c.code = cc) (hK : va_K D cl tys s) (hP : va_P D cl ws H) (q0 t0 : Nat) {cA : ClassId} {n : Nat} {f : Nat → Int32} (ha : ws[q0]? = some (a, .inl (cA, n, .inl f))) (ht : tys[t0]? = some (cA, .char)) {i : Int32} (hout : ¬ vp_in i n) (hdg : decode cc pc = .ok (.caload, 1))
    (k : ∀ tx : String, tx = (toString "Index " ++ toString i ++ toString " out of bounds for length " ++ toString n : String) → vx_Note p l e R s m args below meth c H locs cells slots Q (F0 m pc ls rest) "java/lang/ArrayIndexOutOfBoundsException" tx) : W p l e R s m args below meth c H locs cells slots Q (F0 m pc ls (.int i :: .ref a :: rest)) := by
  intro T hT X
  obtain ⟨t, st, q⟩ := k _ rfl T hT X
  refine ⟨t, ?_, q⟩
  have h1 := X.caloadOut hexec (by rw [hT]; exact hP q0 _ ha) ((hK.2 t0 _ ht).1 n (fun j => .int (f j))) (j := i) (by show (i < 0 ∨ (arrV _ _ _).slots.size ≤ _); rw [arrV_size]; exact Classical.byContradiction hout) (g := F0 m pc ls (.int i :: .ref a :: rest)) rfl (rest := rest) rfl (by rw [hb]; exact hdg) t
  simp only [arrV_size] at h1
  exact h1 st
theorem vx_castZ {D : va_G} {cl : List vw_C} {ws : va_W} {tys : List (ClassId × FieldType)} {a : Nat} (hexec : p.tables.exec = Jvm.exec) (hb : c.code = cc) (hK : va_K D cl tys s) (hP : va_P D cl ws H) (q0 t0 : Nat) {cA : ClassId} {n : Nat} {f : Nat → Int32} (ha : ws[q0]? = some (a, .inl (cA, n, .inl f))) (ht : tys[t0]? = some (cA, .char)) {i : Int32} {x : Int32} (hout : ¬ vp_in i n) (hdg : decode cc pc = .ok (.castore, 1))
    (k : ∀ tx : String, tx = (toString "Index " ++ toString i ++ toString " out of bounds for length " ++ toString n : String) → vx_Note p l e R s m args below meth c H locs cells slots Q (F0 m pc ls rest) "java/lang/ArrayIndexOutOfBoundsException" tx) : W p l e R s m args below meth c H locs cells slots Q (F0 m pc ls (.int x :: .int i :: .ref a :: rest)) := by
  intro T hT X
  obtain ⟨t, st, q⟩ := k _ rfl T hT X
  refine ⟨t, ?_, q⟩
  have h1 := X.castoreOut hexec (by rw [hT]; exact hP q0 _ ha) ((hK.2 t0 _ ht).1 n (fun j => .int (f j))) (j := i) (by show (i < 0 ∨ (arrV _ _ _).slots.size ≤ _); rw [arrV_size]; exact Classical.byContradiction hout) (g := F0 m pc ls (.int x :: .int i :: .ref a :: rest)) rfl (rest := rest) rfl (by rw [hb]; exact hdg) t
  simp only [arrV_size] at h1
  exact h1 st
theorem vx_saldZ {D : va_G} {cl : List vw_C} {ws : va_W} {tys : List (ClassId × FieldType)} {a : Nat} (hexec : p.tables.exec = Jvm.exec) (hb : c.code = cc) (hK : va_K D cl tys s) (hP : va_P D cl ws H) (q0 t0 : Nat) {cA : ClassId} {n : Nat} {f : Nat → Int32} (ha : ws[q0]? = some (a, .inl (cA, n, .inl f))) (ht : tys[t0]? = some (cA, .short)) {i : Int32} (hout : ¬ vp_in i n) (hdg : decode cc pc = .ok (.saload, 1))
    (k : ∀ tx : String, tx = (toString "Index " ++ toString i ++ toString " out of bounds for length " ++ toString n : String) → vx_Note p l e R s m args below meth c H locs cells slots Q (F0 m pc ls rest) "java/lang/ArrayIndexOutOfBoundsException" tx) : W p l e R s m args below meth c H locs cells slots Q (F0 m pc ls (.int i :: .ref a :: rest)) := by
  intro T hT X
  obtain ⟨t, st, q⟩ := k _ rfl T hT X
  refine ⟨t, ?_, q⟩
  have h1 := X.saloadOut hexec (by rw [hT]; exact hP q0 _ ha) ((hK.2 t0 _ ht).1 n (fun j => .int (f j))) (j := i) (by show (i < 0 ∨ (arrV _ _ _).slots.size ≤ _); rw [arrV_size]; exact Classical.byContradiction hout) (g := F0 m pc ls (.int i :: .ref a :: rest)) rfl (rest := rest) rfl (by rw [hb]; exact hdg) t
  simp only [arrV_size] at h1
  exact h1 st
theorem vx_sastZ {D : va_G} {cl : List vw_C} {ws : va_W} {tys : List (ClassId × FieldType)} {a : Nat} (hexec : p.tables.exec = Jvm.exec) (hb : c.code = cc) (hK : va_K D cl tys s) (hP : va_P D cl ws H) (q0 t0 : Nat) {cA : ClassId} {n : Nat} {f : Nat → Int32} (ha : ws[q0]? = some (a, .inl (cA, n, .inl f))) (ht : tys[t0]? = some (cA, .short)) {i : Int32} {x : Int32} (hout : ¬ vp_in i n) (hdg : decode cc pc = .ok (.sastore, 1))
    (k : ∀ tx : String, tx = (toString "Index " ++ toString i ++ toString " out of bounds for length " ++ toString n : String) → vx_Note p l e R s m args below meth c H locs cells slots Q (F0 m pc ls rest) "java/lang/ArrayIndexOutOfBoundsException" tx) : W p l e R s m args below meth c H locs cells slots Q (F0 m pc ls (.int x :: .int i :: .ref a :: rest)) := by
  intro T hT X
  obtain ⟨t, st, q⟩ := k _ rfl T hT X
  refine ⟨t, ?_, q⟩
  have h1 := X.sastoreOut hexec (by rw [hT]; exact hP q0 _ ha) ((hK.2 t0 _ ht).1 n (fun j => .int (f j))) (j := i) (by show (i < 0 ∨ (arrV _ _ _).slots.size ≤ _); rw [arrV_size]; exact Classical.byContradiction hout) (g := F0 m pc ls (.int x :: .int i :: .ref a :: rest)) rfl (rest := rest) rfl (by rw [hb]; exact hdg) t
  simp only [arrV_size] at h1
  exact h1 st
theorem vx_laldZ {D : va_G} {cl : List vw_C} {ws : va_W} {tys : List (ClassId × FieldType)} {a : Nat} (hexec : p.tables.exec = Jvm.exec) (hb : c.code = cc) (hK : va_K D cl tys s) (hP : va_P D cl ws H) (q0 t0 : Nat) {cA : ClassId} {n : Nat} {f : Nat → Int64} (ha : ws[q0]? = some (a, .inl (cA, n, .inr (.inl f)))) (ht : tys[t0]? = some (cA, .long)) {i : Int32} (hout : ¬ vp_in i n) (hdg : decode cc pc = .ok (.laload, 1))
    (k : ∀ tx : String, tx = (toString "Index " ++ toString i ++ toString " out of bounds for length " ++ toString n : String) → vx_Note p l e R s m args below meth c H locs cells slots Q (F0 m pc ls rest) "java/lang/ArrayIndexOutOfBoundsException" tx) : W p l e R s m args below meth c H locs cells slots Q (F0 m pc ls (.int i :: .ref a :: rest)) := by
  intro T hT X
  obtain ⟨t, st, q⟩ := k _ rfl T hT X
  refine ⟨t, ?_, q⟩
  have h1 := X.laloadOut hexec (by rw [hT]; exact hP q0 _ ha) ((hK.2 t0 _ ht).1 n (fun j => .long (f j))) (j := i) (by show (i < 0 ∨ (arrV _ _ _).slots.size ≤ _); rw [arrV_size]; exact Classical.byContradiction hout) (g := F0 m pc ls (.int i :: .ref a :: rest)) rfl (rest := rest) rfl (by rw [hb]; exact hdg) t
  simp only [arrV_size] at h1
  exact h1 st
theorem vx_lastZ {D : va_G} {cl : List vw_C} {ws : va_W} {tys : List (ClassId × FieldType)} {a : Nat} (hexec : p.tables.exec = Jvm.exec) (hb : c.code = cc) (hK : va_K D cl tys s) (hP : va_P D cl ws H) (q0 t0 : Nat) {cA : ClassId} {n : Nat} {f : Nat → Int64} (ha : ws[q0]? = some (a, .inl (cA, n, .inr (.inl f)))) (ht : tys[t0]? = some (cA, .long)) {i : Int32} {x : Int64} (hout : ¬ vp_in i n) (hdg : decode cc pc = .ok (.lastore, 1))
    (k : ∀ tx : String, tx = (toString "Index " ++ toString i ++ toString " out of bounds for length " ++ toString n : String) → vx_Note p l e R s m args below meth c H locs cells slots Q (F0 m pc ls rest) "java/lang/ArrayIndexOutOfBoundsException" tx) : W p l e R s m args below meth c H locs cells slots Q (F0 m pc ls (.long x :: .int i :: .ref a :: rest)) := by
  intro T hT X
  obtain ⟨t, st, q⟩ := k _ rfl T hT X
  refine ⟨t, ?_, q⟩
  have h1 := X.lastoreOut hexec (by rw [hT]; exact hP q0 _ ha) ((hK.2 t0 _ ht).1 n (fun j => .long (f j))) (j := i) (by show (i < 0 ∨ (arrV _ _ _).slots.size ≤ _); rw [arrV_size]; exact Classical.byContradiction hout) (g := F0 m pc ls (.long x :: .int i :: .ref a :: rest)) rfl (rest := rest) rfl (by rw [hb]; exact hdg) t
  simp only [arrV_size] at h1
  exact h1 st
theorem vx_faldZ {D : va_G} {cl : List vw_C} {ws : va_W} {tys : List (ClassId × FieldType)} {a : Nat} (hexec : p.tables.exec = Jvm.exec) (hb : c.code = cc) (hK : va_K D cl tys s) (hP : va_P D cl ws H) (q0 t0 : Nat) {cA : ClassId} {n : Nat} {f : Nat → UInt32} (ha : ws[q0]? = some (a, .inl (cA, n, .inr (.inr (.inl f))))) (ht : tys[t0]? = some (cA, .float)) {i : Int32} (hout : ¬ vp_in i n) (hdg : decode cc pc = .ok (.faload, 1))
    (k : ∀ tx : String, tx = (toString "Index " ++ toString i ++ toString " out of bounds for length " ++ toString n : String) → vx_Note p l e R s m args below meth c H locs cells slots Q (F0 m pc ls rest) "java/lang/ArrayIndexOutOfBoundsException" tx) : W p l e R s m args below meth c H locs cells slots Q (F0 m pc ls (.int i :: .ref a :: rest)) := by
  intro T hT X
  obtain ⟨t, st, q⟩ := k _ rfl T hT X
  refine ⟨t, ?_, q⟩
  have h1 := X.faloadOut hexec (by rw [hT]; exact hP q0 _ ha) ((hK.2 t0 _ ht).1 n (fun j => .float (f j))) (j := i) (by show (i < 0 ∨ (arrV _ _ _).slots.size ≤ _); rw [arrV_size]; exact Classical.byContradiction hout) (g := F0 m pc ls (.int i :: .ref a :: rest)) rfl (rest := rest) rfl (by rw [hb]; exact hdg) t
  simp only [arrV_size] at h1
  exact h1 st
theorem vx_fastZ {D : va_G} {cl : List vw_C} {ws : va_W} {tys : List (ClassId × FieldType)} {a : Nat} (hexec : p.tables.exec = Jvm.exec) (hb : c.code = cc) (hK : va_K D cl tys s) (hP : va_P D cl ws H) (q0 t0 : Nat) {cA : ClassId} {n : Nat} {f : Nat → UInt32} (ha : ws[q0]? = some (a, .inl (cA, n, .inr (.inr (.inl f))))) (ht : tys[t0]? = some (cA, .float)) {i : Int32} {x : UInt32} (hout : ¬ vp_in i n) (hdg : decode cc pc = .ok (.fastore, 1))
    (k : ∀ tx : String, tx = (toString "Index " ++ toString i ++ toString " out of bounds for length " ++ toString n : String) → vx_Note p l e R s m args below meth c H locs cells slots Q (F0 m pc ls rest) "java/lang/ArrayIndexOutOfBoundsException" tx) : W p l e R s m args below meth c H locs cells slots Q (F0 m pc ls (.float x :: .int i :: .ref a :: rest)) := by
  intro T hT X
  obtain ⟨t, st, q⟩ := k _ rfl T hT X
  refine ⟨t, ?_, q⟩
  have h1 := X.fastoreOut hexec (by rw [hT]; exact hP q0 _ ha) ((hK.2 t0 _ ht).1 n (fun j => .float (f j))) (j := i) (by show (i < 0 ∨ (arrV _ _ _).slots.size ≤ _); rw [arrV_size]; exact Classical.byContradiction hout) (g := F0 m pc ls (.float x :: .int i :: .ref a :: rest)) rfl (rest := rest) rfl (by rw [hb]; exact hdg) t
  simp only [arrV_size] at h1
  exact h1 st
theorem vx_daldZ {D : va_G} {cl : List vw_C} {ws : va_W} {tys : List (ClassId × FieldType)} {a : Nat} (hexec : p.tables.exec = Jvm.exec) (hb : c.code = cc) (hK : va_K D cl tys s) (hP : va_P D cl ws H) (q0 t0 : Nat) {cA : ClassId} {n : Nat} {f : Nat → UInt64} (ha : ws[q0]? = some (a, .inl (cA, n, .inr (.inr (.inr (.inl f)))))) (ht : tys[t0]? = some (cA, .double)) {i : Int32} (hout : ¬ vp_in i n) (hdg : decode cc pc = .ok (.daload, 1))
    (k : ∀ tx : String, tx = (toString "Index " ++ toString i ++ toString " out of bounds for length " ++ toString n : String) → vx_Note p l e R s m args below meth c H locs cells slots Q (F0 m pc ls rest) "java/lang/ArrayIndexOutOfBoundsException" tx) : W p l e R s m args below meth c H locs cells slots Q (F0 m pc ls (.int i :: .ref a :: rest)) := by
  intro T hT X
  obtain ⟨t, st, q⟩ := k _ rfl T hT X
  refine ⟨t, ?_, q⟩
  have h1 := X.daloadOut hexec (by rw [hT]; exact hP q0 _ ha) ((hK.2 t0 _ ht).1 n (fun j => .double (f j))) (j := i) (by show (i < 0 ∨ (arrV _ _ _).slots.size ≤ _); rw [arrV_size]; exact Classical.byContradiction hout) (g := F0 m pc ls (.int i :: .ref a :: rest)) rfl (rest := rest) rfl (by rw [hb]; exact hdg) t
  simp only [arrV_size] at h1
  exact h1 st
theorem vx_dastZ {D : va_G} {cl : List vw_C} {ws : va_W} {tys : List (ClassId × FieldType)} {a : Nat} (hexec : p.tables.exec = Jvm.exec) (hb : c.code = cc) (hK : va_K D cl tys s) (hP : va_P D cl ws H) (q0 t0 : Nat) {cA : ClassId} {n : Nat} {f : Nat → UInt64} (ha : ws[q0]? = some (a, .inl (cA, n, .inr (.inr (.inr (.inl f)))))) (ht : tys[t0]? = some (cA, .double)) {i : Int32} {x : UInt64} (hout : ¬ vp_in i n) (hdg : decode cc pc = .ok (.dastore, 1))
    (k : ∀ tx : String, tx = (toString "Index " ++ toString i ++ toString " out of bounds for length " ++ toString n : String) → vx_Note p l e R s m args below meth c H locs cells slots Q (F0 m pc ls rest) "java/lang/ArrayIndexOutOfBoundsException" tx) : W p l e R s m args below meth c H locs cells slots Q (F0 m pc ls (.double x :: .int i :: .ref a :: rest)) := by
  intro T hT X
  obtain ⟨t, st, q⟩ := k _ rfl T hT X
  refine ⟨t, ?_, q⟩
  have h1 := X.dastoreOut hexec (by rw [hT]; exact hP q0 _ ha) ((hK.2 t0 _ ht).1 n (fun j => .double (f j))) (j := i) (by show (i < 0 ∨ (arrV _ _ _).slots.size ≤ _); rw [arrV_size]; exact Classical.byContradiction hout) (g := F0 m pc ls (.double x :: .int i :: .ref a :: rest)) rfl (rest := rest) rfl (by rw [hb]; exact hdg) t
  simp only [arrV_size] at h1
  exact h1 st
theorem vx_arraylengthN (hexec : p.tables.exec = Jvm.exec) (hb : c.code = cc) (hdg : decode cc pc = .ok (.arraylength, 1)) (k : vx_NoteN p l e R s m args below meth c H locs cells slots Q (F0 m pc ls rest)) : W p l e R s m args below meth c H locs cells slots Q (F0 m pc ls (.null :: rest)) := by
  intro T hT X
  obtain ⟨t, st, q⟩ := k T hT X
  exact ⟨t, X.arraylengthNull hexec (g := F0 m pc ls (.null :: rest)) rfl (rest := rest) rfl (by rw [hb]; exact hdg) t st, q⟩
theorem vx_ialoadN (hexec : p.tables.exec = Jvm.exec) (hb : c.code = cc) {i : Int32} (hdg : decode cc pc = .ok (.iaload, 1)) (k : vx_NoteN p l e R s m args below meth c H locs cells slots Q (F0 m pc ls rest)) : W p l e R s m args below meth c H locs cells slots Q (F0 m pc ls (.int i :: .null :: rest)) := by
  intro T hT X
  obtain ⟨t, st, q⟩ := k T hT X
  exact ⟨t, X.ialoadNull hexec (g := F0 m pc ls (.int i :: .null :: rest)) rfl (rest := rest) rfl (by rw [hb]; exact hdg) t st, q⟩
theorem vx_laloadN (hexec : p.tables.exec = Jvm.exec) (hb : c.code = cc) {i : Int32} (hdg : decode cc pc = .ok (.laload, 1)) (k : vx_NoteN p l e R s m args below meth c H locs cells slots Q (F0 m pc ls rest)) : W p l e R s m args below meth c H locs cells slots Q (F0 m pc ls (.int i :: .null :: rest)) := by
  intro T hT X
  obtain ⟨t, st, q⟩ := k T hT X
  exact ⟨t, X.laloadNull hexec (g := F0 m pc ls (.int i :: .null :: rest)) rfl (rest := rest) rfl (by rw [hb]; exact hdg) t st, q⟩
theorem vx_faloadN (hexec : p.tables.exec = Jvm.exec) (hb : c.code = cc) {i : Int32} (hdg : decode cc pc = .ok (.faload, 1)) (k : vx_NoteN p l e R s m args below meth c H locs cells slots Q (F0 m pc ls rest)) : W p l e R s m args below meth c H locs cells slots Q (F0 m pc ls (.int i :: .null :: rest)) := by
  intro T hT X
  obtain ⟨t, st, q⟩ := k T hT X
  exact ⟨t, X.faloadNull hexec (g := F0 m pc ls (.int i :: .null :: rest)) rfl (rest := rest) rfl (by rw [hb]; exact hdg) t st, q⟩
theorem vx_daloadN (hexec : p.tables.exec = Jvm.exec) (hb : c.code = cc) {i : Int32} (hdg : decode cc pc = .ok (.daload, 1)) (k : vx_NoteN p l e R s m args below meth c H locs cells slots Q (F0 m pc ls rest)) : W p l e R s m args below meth c H locs cells slots Q (F0 m pc ls (.int i :: .null :: rest)) := by
  intro T hT X
  obtain ⟨t, st, q⟩ := k T hT X
  exact ⟨t, X.daloadNull hexec (g := F0 m pc ls (.int i :: .null :: rest)) rfl (rest := rest) rfl (by rw [hb]; exact hdg) t st, q⟩
theorem vx_aaloadN (hexec : p.tables.exec = Jvm.exec) (hb : c.code = cc) {i : Int32} (hdg : decode cc pc = .ok (.aaload, 1)) (k : vx_NoteN p l e R s m args below meth c H locs cells slots Q (F0 m pc ls rest)) : W p l e R s m args below meth c H locs cells slots Q (F0 m pc ls (.int i :: .null :: rest)) := by
  intro T hT X
  obtain ⟨t, st, q⟩ := k T hT X
  exact ⟨t, X.aaloadNull hexec (g := F0 m pc ls (.int i :: .null :: rest)) rfl (rest := rest) rfl (by rw [hb]; exact hdg) t st, q⟩
theorem vx_baloadN (hexec : p.tables.exec = Jvm.exec) (hb : c.code = cc) {i : Int32} (hdg : decode cc pc = .ok (.baload, 1)) (k : vx_NoteN p l e R s m args below meth c H locs cells slots Q (F0 m pc ls rest)) : W p l e R s m args below meth c H locs cells slots Q (F0 m pc ls (.int i :: .null :: rest)) := by
  intro T hT X
  obtain ⟨t, st, q⟩ := k T hT X
  exact ⟨t, X.baloadNull hexec (g := F0 m pc ls (.int i :: .null :: rest)) rfl (rest := rest) rfl (by rw [hb]; exact hdg) t st, q⟩
theorem vx_caloadN (hexec : p.tables.exec = Jvm.exec) (hb : c.code = cc) {i : Int32} (hdg : decode cc pc = .ok (.caload, 1)) (k : vx_NoteN p l e R s m args below meth c H locs cells slots Q (F0 m pc ls rest)) : W p l e R s m args below meth c H locs cells slots Q (F0 m pc ls (.int i :: .null :: rest)) := by
  intro T hT X
  obtain ⟨t, st, q⟩ := k T hT X
  exact ⟨t, X.caloadNull hexec (g := F0 m pc ls (.int i :: .null :: rest)) rfl (rest := rest) rfl (by rw [hb]; exact hdg) t st, q⟩
theorem vx_saloadN (hexec : p.tables.exec = Jvm.exec) (hb : c.code = cc) {i : Int32} (hdg : decode cc pc = .ok (.saload, 1)) (k : vx_NoteN p l e R s m args below meth c H locs cells slots Q (F0 m pc ls rest)) : W p l e R s m args below meth c H locs cells slots Q (F0 m pc ls (.int i :: .null :: rest)) := by
  intro T hT X
  obtain ⟨t, st, q⟩ := k T hT X
  exact ⟨t, X.saloadNull hexec (g := F0 m pc ls (.int i :: .null :: rest)) rfl (rest := rest) rfl (by rw [hb]; exact hdg) t st, q⟩
theorem vx_iastoreN (hexec : p.tables.exec = Jvm.exec) (hb : c.code = cc) {x : Int32} {i : Int32} (hdg : decode cc pc = .ok (.iastore, 1)) (k : vx_NoteN p l e R s m args below meth c H locs cells slots Q (F0 m pc ls rest)) : W p l e R s m args below meth c H locs cells slots Q (F0 m pc ls (.int x :: .int i :: .null :: rest)) := by
  intro T hT X
  obtain ⟨t, st, q⟩ := k T hT X
  exact ⟨t, X.iastoreNull hexec (g := F0 m pc ls (.int x :: .int i :: .null :: rest)) rfl (rest := rest) rfl (by rw [hb]; exact hdg) t st, q⟩
theorem vx_lastoreN (hexec : p.tables.exec = Jvm.exec) (hb : c.code = cc) {x : Int64} {i : Int32} (hdg : decode cc pc = .ok (.lastore, 1)) (k : vx_NoteN p l e R s m args below meth c H locs cells slots Q (F0 m pc ls rest)) : W p l e R s m args below meth c H locs cells slots Q (F0 m pc ls (.long x :: .int i :: .null :: rest)) := by
  intro T hT X
  obtain ⟨t, st, q⟩ := k T hT X
  exact ⟨t, X.lastoreNull hexec (g := F0 m pc ls (.long x :: .int i :: .null :: rest)) rfl (rest := rest) rfl (by rw [hb]; exact hdg) t st, q⟩
theorem vx_fastoreN (hexec : p.tables.exec = Jvm.exec) (hb : c.code = cc) {x : UInt32} {i : Int32} (hdg : decode cc pc = .ok (.fastore, 1)) (k : vx_NoteN p l e R s m args below meth c H locs cells slots Q (F0 m pc ls rest)) : W p l e R s m args below meth c H locs cells slots Q (F0 m pc ls (.float x :: .int i :: .null :: rest)) := by
  intro T hT X
  obtain ⟨t, st, q⟩ := k T hT X
  exact ⟨t, X.fastoreNull hexec (g := F0 m pc ls (.float x :: .int i :: .null :: rest)) rfl (rest := rest) rfl (by rw [hb]; exact hdg) t st, q⟩
theorem vx_dastoreN (hexec : p.tables.exec = Jvm.exec) (hb : c.code = cc) {x : UInt64} {i : Int32} (hdg : decode cc pc = .ok (.dastore, 1)) (k : vx_NoteN p l e R s m args below meth c H locs cells slots Q (F0 m pc ls rest)) : W p l e R s m args below meth c H locs cells slots Q (F0 m pc ls (.double x :: .int i :: .null :: rest)) := by
  intro T hT X
  obtain ⟨t, st, q⟩ := k T hT X
  exact ⟨t, X.dastoreNull hexec (g := F0 m pc ls (.double x :: .int i :: .null :: rest)) rfl (rest := rest) rfl (by rw [hb]; exact hdg) t st, q⟩
theorem vx_bastoreN (hexec : p.tables.exec = Jvm.exec) (hb : c.code = cc) {x : Int32} {i : Int32} (hdg : decode cc pc = .ok (.bastore, 1)) (k : vx_NoteN p l e R s m args below meth c H locs cells slots Q (F0 m pc ls rest)) : W p l e R s m args below meth c H locs cells slots Q (F0 m pc ls (.int x :: .int i :: .null :: rest)) := by
  intro T hT X
  obtain ⟨t, st, q⟩ := k T hT X
  exact ⟨t, X.bastoreNull hexec (g := F0 m pc ls (.int x :: .int i :: .null :: rest)) rfl (rest := rest) rfl (by rw [hb]; exact hdg) t st, q⟩
theorem vx_castoreN (hexec : p.tables.exec = Jvm.exec) (hb : c.code = cc) {x : Int32} {i : Int32} (hdg : decode cc pc = .ok (.castore, 1)) (k : vx_NoteN p l e R s m args below meth c H locs cells slots Q (F0 m pc ls rest)) : W p l e R s m args below meth c H locs cells slots Q (F0 m pc ls (.int x :: .int i :: .null :: rest)) := by
  intro T hT X
  obtain ⟨t, st, q⟩ := k T hT X
  exact ⟨t, X.castoreNull hexec (g := F0 m pc ls (.int x :: .int i :: .null :: rest)) rfl (rest := rest) rfl (by rw [hb]; exact hdg) t st, q⟩
theorem vx_sastoreN (hexec : p.tables.exec = Jvm.exec) (hb : c.code = cc) {x : Int32} {i : Int32} (hdg : decode cc pc = .ok (.sastore, 1)) (k : vx_NoteN p l e R s m args below meth c H locs cells slots Q (F0 m pc ls rest)) : W p l e R s m args below meth c H locs cells slots Q (F0 m pc ls (.int x :: .int i :: .null :: rest)) := by
  intro T hT X
  obtain ⟨t, st, q⟩ := k T hT X
  exact ⟨t, X.sastoreNull hexec (g := F0 m pc ls (.int x :: .int i :: .null :: rest)) rfl (rest := rest) rfl (by rw [hb]; exact hdg) t st, q⟩
theorem vx_invokeN {own C : String} {index maxL : Nat} {y : MethodName} {bytes : ByteArray} {ret : Option FieldType} (hexec : p.tables.exec = Jvm.exec) (hb : c.code = cc) (hown : s.vm.findClass own = some m.cls) (hlink : (Cond.methodLink own index y).before args s = true) (hinst : (Cond.instanceMethod y).before args s = true) (hcode : (Cond.code y bytes maxL ret).before args s = true) (hsel : (Cond.selects C y y).before args s = true)
    (hx : y.cls ≠ "java/lang/invoke/MethodHandle" ∧ y.cls ≠ "java/lang/invoke/VarHandle") {As : List Value} (hlen : (parseMethodDescriptor y.desc).map (fun d => d.parameters.length) = some As.length) (hdg : decode cc pc = .ok (.invokevirtual index, 3))
    (k : vx_NoteN p l e R s m args below meth c H locs cells slots Q (F0 m pc ls rest)) {st0 : List Value} (hst : st0 = As.reverse ++ .null :: rest) : W p l e R s m args below meth c H locs cells slots Q (F0 m pc ls st0) := by
  intro T hT X
  obtain ⟨r0, r, hn, hrm, hstR, hsigR⟩ := va_Decl.of hinst hcode
  obtain ⟨c2, r2, m2, q1, q2, q3, q4, kP, hkP, hkPi⟩ := Cond.selects_spec hsel
  cases hn.symm.trans q3
  have hl9 : As.length = r.sig.parameters.length := by
    rw [hsigR] at hlen
    exact (Option.some.inj hlen).symm
  obtain ⟨vm', X1, st1⟩ := X.invokevirtualNull hexec hown hlink hn hrm hstR hkP hkPi hx (g := F0 m pc ls st0) rfl (argsL := As) (rest := rest) hl9 hst (by rw [hb]; exact hdg)
  obtain ⟨t, st, q⟩ := k (T.setVm vm') hT X1
  exact ⟨t, st1 t st, q⟩
theorem vx_newarrayZ {atype : ArrayType} (hexec : p.tables.exec = Jvm.exec) (hb : c.code = cc) {n : Int32} (h0 : n < 0) (hdg : decode cc pc = .ok (.newarray atype, 2)) (k : ∀ tx : String, tx = toString n → vx_Note p l e R s m args below meth c H locs cells slots Q (F0 m pc ls rest) "java/lang/NegativeArraySizeException" tx) : W p l e R s m args below meth c H locs cells slots Q (F0 m pc ls (.int n :: rest)) := by
  intro T hT X
  obtain ⟨t, st, q⟩ := k _ rfl T hT X
  exact ⟨t, X.newarrayNegative hexec (g := F0 m pc ls (.int n :: rest)) rfl h0 (rest := rest) rfl (by rw [hb]; exact hdg) t st, q⟩
end
end VXM
/-! ===== END ===== -/
end
section
def RX0 : String := "GaugeHall$Alert"
def TX0 : u_T := fun k => match k with
  | 0 => ("GaugeHall$Alert", "limit", "I", true)
  | 1 => ("GaugeHall$Alert", "seconds", "I", true)
  | 2 => ("GaugeHall$Alert", "on", "Z", false)
  | _ => ("GaugeHall$Alert", "since", "J", false)
def tyX0 : Nat → FieldType := fun k => match k with
  | 0 => .int
  | 1 => .int
  | 2 => .boolean
  | _ => .long
theorem nmX0 : ∀ a, a < 4 → ∀ b, b < 4 → a ≠ b → (TX0 a).2.1 ≠ (TX0 b).2.1 := by decide +kernel
theorem tyX0_ok : ∀ k, k < 4 → parseFieldDescriptor (TX0 k).2.2.1 = some (tyX0 k) := by decide +kernel
abbrev cX0_init : ByteArray := prog_2_method_1_code
def yX0_init : MethodName := ⟨RX0, "<init>", "(II)V"⟩
abbrev cX0_see : ByteArray := prog_2_method_2_code
def yX0_see : MethodName := ⟨RX0, "see", "(JI)V"⟩
abbrev cX0_stateAt : ByteArray := prog_2_method_3_code
def yX0_stateAt : MethodName := ⟨RX0, "stateAt", "(J)C"⟩
def RX1 : String := "GaugeHall$Block"
def TX1 : u_T := fun k => match k with
  | 0 => ("GaugeHall$Block", "firstTime", "J", true)
  | 1 => ("GaugeHall$Block", "firstValue", "I", true)
  | 2 => ("GaugeHall$Block", "timeSteps", "[J", true)
  | 3 => ("GaugeHall$Block", "valueSteps", "[I", true)
  | 4 => ("GaugeHall$Block", "size", "I", false)
  | 5 => ("GaugeHall$Block", "bits", "I", false)
  | 6 => ("GaugeHall$Block", "lastTime", "J", false)
  | 7 => ("GaugeHall$Block", "lastGap", "J", false)
  | _ => ("GaugeHall$Block", "lastValue", "I", false)
def tyX1 : Nat → FieldType := fun k => match k with
  | 0 => .long
  | 1 => .int
  | 2 => .array .long
  | 3 => .array .int
  | 4 => .int
  | 5 => .int
  | 6 => .long
  | 7 => .long
  | _ => .int
theorem nmX1 : ∀ a, a < 9 → ∀ b, b < 9 → a ≠ b → (TX1 a).2.1 ≠ (TX1 b).2.1 := by decide +kernel
theorem tyX1_ok : ∀ k, k < 9 → parseFieldDescriptor (TX1 k).2.2.1 = some (tyX1 k) := by decide +kernel
abbrev cX1_init : ByteArray := prog_3_method_1_code
def yX1_init : MethodName := ⟨RX1, "<init>", "(JI)V"⟩
abbrev cX1_append : ByteArray := prog_3_method_2_code
def yX1_append : MethodName := ⟨RX1, "append", "(JI)V"⟩
abbrev cX1_timeStepBits : ByteArray := prog_3_method_3_code
def yX1_timeStepBits : MethodName := ⟨RX1, "timeStepBits", "(J)I"⟩
abbrev cX1_valueStepBits : ByteArray := prog_3_method_4_code
def yX1_valueStepBits : MethodName := ⟨RX1, "valueStepBits", "(I)I"⟩
abbrev cX1_timeOfSample : ByteArray := prog_3_method_5_code
def yX1_timeOfSample : MethodName := ⟨RX1, "timeOfSample", "(I)J"⟩
abbrev cX1_valueOfSample : ByteArray := prog_3_method_6_code
def yX1_valueOfSample : MethodName := ⟨RX1, "valueOfSample", "(I)I"⟩
abbrev cX1_read : ByteArray := prog_3_method_7_code
def yX1_read : MethodName := ⟨RX1, "read", "(LGaugeHall$Totals;JJ)V"⟩
def RX2 : String := "GaugeHall$Series"
def TX2 : u_T := fun k => match k with
  | 0 => ("GaugeHall$Series", "name", "I", true)
  | 1 => ("GaugeHall$Series", "host", "I", true)
  | 2 => ("GaugeHall$Series", "times", "[J", true)
  | 3 => ("GaugeHall$Series", "values", "[I", true)
  | 4 => ("GaugeHall$Series", "sorted", "[I", true)
  | 5 => ("GaugeHall$Series", "chain", "[LGaugeHall$Block;", true)
  | 6 => ("GaugeHall$Series", "sketch", "LGaugeHall$Sketch;", true)
  | 7 => ("GaugeHall$Series", "size", "I", false)
  | _ => ("GaugeHall$Series", "alert", "LGaugeHall$Alert;", false)
def tyX2 : Nat → FieldType := fun k => match k with
  | 0 => .int
  | 1 => .int
  | 2 => .array .long
  | 3 => .array .int
  | 4 => .array .int
  | 5 => .array (.object "GaugeHall$Block")
  | 6 => .object "GaugeHall$Sketch"
  | 7 => .int
  | _ => .object "GaugeHall$Alert"
theorem nmX2 : ∀ a, a < 9 → ∀ b, b < 9 → a ≠ b → (TX2 a).2.1 ≠ (TX2 b).2.1 := by decide +kernel
theorem tyX2_ok : ∀ k, k < 9 → parseFieldDescriptor (TX2 k).2.2.1 = some (tyX2 k) := by decide +kernel
abbrev cX2_init : ByteArray := prog_4_method_1_code
def yX2_init : MethodName := ⟨RX2, "<init>", "(II)V"⟩
abbrev cX2_isFull : ByteArray := prog_4_method_2_code
def yX2_isFull : MethodName := ⟨RX2, "isFull", "()Z"⟩
abbrev cX2_hasSampleAt : ByteArray := prog_4_method_3_code
def yX2_hasSampleAt : MethodName := ⟨RX2, "hasSampleAt", "(J)Z"⟩
abbrev cX2_newestValue : ByteArray := prog_4_method_4_code
def yX2_newestValue : MethodName := ⟨RX2, "newestValue", "()I"⟩
abbrev cX2_take : ByteArray := prog_4_method_5_code
def yX2_take : MethodName := ⟨RX2, "take", "(JI)V"⟩
abbrev cX2_sortIn : ByteArray := prog_4_method_6_code
def yX2_sortIn : MethodName := ⟨RX2, "sortIn", "(I)V"⟩
abbrev cX2_toBlock : ByteArray := prog_4_method_7_code
def yX2_toBlock : MethodName := ⟨RX2, "toBlock", "(JI)V"⟩
abbrev cX2_blockAt : ByteArray := prog_4_method_8_code
def yX2_blockAt : MethodName := ⟨RX2, "blockAt", "(I)LGaugeHall$Block;"⟩
abbrev cX2_blockCount : ByteArray := prog_4_method_9_code
def yX2_blockCount : MethodName := ⟨RX2, "blockCount", "()I"⟩
abbrev cX2_blockBits : ByteArray := prog_4_method_10_code
def yX2_blockBits : MethodName := ⟨RX2, "blockBits", "()J"⟩
abbrev cX2_readBlocks : ByteArray := prog_4_method_11_code
def yX2_readBlocks : MethodName := ⟨RX2, "readBlocks", "(LGaugeHall$Totals;JJ)V"⟩
abbrev cX2_readSamples : ByteArray := prog_4_method_12_code
def yX2_readSamples : MethodName := ⟨RX2, "readSamples", "(LGaugeHall$Totals;JJ)V"⟩
abbrev cX2_readRollupsInside : ByteArray := prog_4_method_13_code
def yX2_readRollupsInside : MethodName := ⟨RX2, "readRollupsInside", "(LGaugeHall$Totals;JJ)V"⟩
abbrev cX2_readRollupsTouching : ByteArray := prog_4_method_14_code
def yX2_readRollupsTouching : MethodName := ⟨RX2, "readRollupsTouching", "(LGaugeHall$Totals;JJ)V"⟩
abbrev cX2_rollupStart : ByteArray := prog_4_method_15_code
def yX2_rollupStart : MethodName := ⟨RX2, "rollupStart", "(J)J"⟩
abbrev cX2_targetOf : ByteArray := prog_4_method_16_code
def yX2_targetOf : MethodName := ⟨RX2, "targetOf", "(I)I"⟩
abbrev cX2_leastReaching : ByteArray := prog_4_method_17_code
def yX2_leastReaching : MethodName := ⟨RX2, "leastReaching", "(I)I"⟩
abbrev cX2_sketchIsWithin : ByteArray := prog_4_method_18_code
def yX2_sketchIsWithin : MethodName := ⟨RX2, "sketchIsWithin", "(I)Z"⟩
abbrev cX2_samplesUpTo : ByteArray := prog_4_method_19_code
def yX2_samplesUpTo : MethodName := ⟨RX2, "samplesUpTo", "(I)I"⟩
abbrev cX2_holdsTogether : ByteArray := prog_4_method_20_code
def yX2_holdsTogether : MethodName := ⟨RX2, "holdsTogether", "()Z"⟩
abbrev cX2_blocksTellWhatCame : ByteArray := prog_4_method_21_code
def yX2_blocksTellWhatCame : MethodName := ⟨RX2, "blocksTellWhatCame", "()Z"⟩
def RX3 : String := "GaugeHall$Sketch"
def TX3 : u_T := fun k => match k with
  | 0 => ("GaugeHall$Sketch", "levels", "[[I", true)
  | 1 => ("GaugeHall$Sketch", "sizes", "[I", true)
  | 2 => ("GaugeHall$Sketch", "halvings", "[I", true)
  | _ => ("GaugeHall$Sketch", "bound", "I", false)
def tyX3 : Nat → FieldType := fun k => match k with
  | 0 => .array (.array .int)
  | 1 => .array .int
  | 2 => .array .int
  | _ => .int
theorem nmX3 : ∀ a, a < 4 → ∀ b, b < 4 → a ≠ b → (TX3 a).2.1 ≠ (TX3 b).2.1 := by decide +kernel
theorem tyX3_ok : ∀ k, k < 4 → parseFieldDescriptor (TX3 k).2.2.1 = some (tyX3 k) := by decide +kernel
abbrev cX3_init : ByteArray := prog_5_method_1_code
def yX3_init : MethodName := ⟨RX3, "<init>", "()V"⟩
abbrev cX3_take : ByteArray := prog_5_method_2_code
def yX3_take : MethodName := ⟨RX3, "take", "(I)V"⟩
abbrev cX3_put : ByteArray := prog_5_method_3_code
def yX3_put : MethodName := ⟨RX3, "put", "(II)V"⟩
abbrev cX3_halve : ByteArray := prog_5_method_4_code
def yX3_halve : MethodName := ⟨RX3, "halve", "(I)V"⟩
abbrev cX3_sort : ByteArray := prog_5_method_5_code
def yX3_sort : MethodName := ⟨RX3, "sort", "([I)V"⟩
abbrev cX3_heldValues : ByteArray := prog_5_method_6_code
def yX3_heldValues : MethodName := ⟨RX3, "heldValues", "()I"⟩
abbrev cX3_weightUpTo : ByteArray := prog_5_method_7_code
def yX3_weightUpTo : MethodName := ⟨RX3, "weightUpTo", "(I)I"⟩
abbrev cX3_leastReaching : ByteArray := prog_5_method_8_code
def yX3_leastReaching : MethodName := ⟨RX3, "leastReaching", "(I)I"⟩
def RX4 : String := "GaugeHall$Totals"
def TX4 : u_T := fun k => match k with
  | 0 => ("GaugeHall$Totals", "found", "I", false)
  | 1 => ("GaugeHall$Totals", "total", "J", false)
  | _ => ("GaugeHall$Totals", "greatest", "I", false)
def tyX4 : Nat → FieldType := fun k => match k with
  | 0 => .int
  | 1 => .long
  | _ => .int
theorem nmX4 : ∀ a, a < 3 → ∀ b, b < 3 → a ≠ b → (TX4 a).2.1 ≠ (TX4 b).2.1 := by decide +kernel
theorem tyX4_ok : ∀ k, k < 3 → parseFieldDescriptor (TX4 k).2.2.1 = some (tyX4 k) := by decide +kernel
abbrev cX4_init : ByteArray := prog_6_method_1_code
def yX4_init : MethodName := ⟨RX4, "<init>", "()V"⟩
abbrev cX4_clear : ByteArray := prog_6_method_2_code
def yX4_clear : MethodName := ⟨RX4, "clear", "()V"⟩
abbrev cX4_take : ByteArray := prog_6_method_3_code
def yX4_take : MethodName := ⟨RX4, "take", "(I)V"⟩
def RX5 : String := "GaugeHall"
def TX5 : u_T := fun k => match k with
  | 0 => ("GaugeHall", "rows", "[LGaugeHall$Series;", true)
  | 1 => ("GaugeHall", "totals", "LGaugeHall$Totals;", true)
  | 2 => ("GaugeHall", "opened", "I", false)
  | _ => ("GaugeHall", "now", "J", false)
def tyX5 : Nat → FieldType := fun k => match k with
  | 0 => .array (.object "GaugeHall$Series")
  | 1 => .object "GaugeHall$Totals"
  | 2 => .int
  | _ => .long
theorem nmX5 : ∀ a, a < 4 → ∀ b, b < 4 → a ≠ b → (TX5 a).2.1 ≠ (TX5 b).2.1 := by decide +kernel
theorem tyX5_ok : ∀ k, k < 4 → parseFieldDescriptor (TX5 k).2.2.1 = some (tyX5 k) := by decide +kernel
abbrev cX5_init : ByteArray := prog_1_method_1_code
def yX5_init : MethodName := ⟨RX5, "<init>", "()V"⟩
abbrev cX5_open : ByteArray := prog_1_method_2_code
def yX5_open : MethodName := ⟨RX5, "open", "(II)I"⟩
abbrev cX5_pass : ByteArray := prog_1_method_3_code
def yX5_pass : MethodName := ⟨RX5, "pass", "(I)J"⟩
abbrev cX5_add : ByteArray := prog_1_method_4_code
def yX5_add : MethodName := ⟨RX5, "add", "(II)I"⟩
abbrev cX5_time : ByteArray := prog_1_method_5_code
def yX5_time : MethodName := ⟨RX5, "time", "()J"⟩
abbrev cX5_seriesCount : ByteArray := prog_1_method_6_code
def yX5_seriesCount : MethodName := ⟨RX5, "seriesCount", "()I"⟩
abbrev cX5_find : ByteArray := prog_1_method_7_code
def yX5_find : MethodName := ⟨RX5, "find", "(II)I"⟩
abbrev cX5_nameOf : ByteArray := prog_1_method_8_code
def yX5_nameOf : MethodName := ⟨RX5, "nameOf", "(I)I"⟩
abbrev cX5_hostOf : ByteArray := prog_1_method_9_code
def yX5_hostOf : MethodName := ⟨RX5, "hostOf", "(I)I"⟩
abbrev cX5_samples : ByteArray := prog_1_method_10_code
def yX5_samples : MethodName := ⟨RX5, "samples", "(I)I"⟩
abbrev cX5_latest : ByteArray := prog_1_method_11_code
def yX5_latest : MethodName := ⟨RX5, "latest", "(I)I"⟩
abbrev cX5_blocks : ByteArray := prog_1_method_12_code
def yX5_blocks : MethodName := ⟨RX5, "blocks", "(I)I"⟩
abbrev cX5_bitsOf : ByteArray := prog_1_method_13_code
def yX5_bitsOf : MethodName := ⟨RX5, "bitsOf", "(II)I"⟩
abbrev cX5_timeAt : ByteArray := prog_1_method_14_code
def yX5_timeAt : MethodName := ⟨RX5, "timeAt", "(II)J"⟩
abbrev cX5_valueAt : ByteArray := prog_1_method_15_code
def yX5_valueAt : MethodName := ⟨RX5, "valueAt", "(II)I"⟩
abbrev cX5_allBits : ByteArray := prog_1_method_16_code
def yX5_allBits : MethodName := ⟨RX5, "allBits", "()J"⟩
abbrev cX5_count : ByteArray := prog_1_method_17_code
def yX5_count : MethodName := ⟨RX5, "count", "(IJJ)I"⟩
abbrev cX5_sum : ByteArray := prog_1_method_18_code
def yX5_sum : MethodName := ⟨RX5, "sum", "(IJJ)J"⟩
abbrev cX5_sumByReading : ByteArray := prog_1_method_19_code
def yX5_sumByReading : MethodName := ⟨RX5, "sumByReading", "(IJJ)J"⟩
abbrev cX5_maximum : ByteArray := prog_1_method_20_code
def yX5_maximum : MethodName := ⟨RX5, "maximum", "(IJJ)I"⟩
abbrev cX5_mean : ByteArray := prog_1_method_21_code
def yX5_mean : MethodName := ⟨RX5, "mean", "(IJJ)D"⟩
abbrev cX5_rollupCount : ByteArray := prog_1_method_22_code
def yX5_rollupCount : MethodName := ⟨RX5, "rollupCount", "(II)I"⟩
abbrev cX5_countLow : ByteArray := prog_1_method_23_code
def yX5_countLow : MethodName := ⟨RX5, "countLow", "(IJJ)I"⟩
abbrev cX5_countHigh : ByteArray := prog_1_method_24_code
def yX5_countHigh : MethodName := ⟨RX5, "countHigh", "(IJJ)I"⟩
abbrev cX5_maximumHigh : ByteArray := prog_1_method_25_code
def yX5_maximumHigh : MethodName := ⟨RX5, "maximumHigh", "(IJJ)I"⟩
abbrev cX5_quantile : ByteArray := prog_1_method_26_code
def yX5_quantile : MethodName := ⟨RX5, "quantile", "(II)I"⟩
abbrev cX5_exactQuantile : ByteArray := prog_1_method_27_code
def yX5_exactQuantile : MethodName := ⟨RX5, "exactQuantile", "(II)I"⟩
abbrev cX5_bound : ByteArray := prog_1_method_28_code
def yX5_bound : MethodName := ⟨RX5, "bound", "(I)I"⟩
abbrev cX5_held : ByteArray := prog_1_method_29_code
def yX5_held : MethodName := ⟨RX5, "held", "(I)I"⟩
abbrev cX5_isWithin : ByteArray := prog_1_method_30_code
def yX5_isWithin : MethodName := ⟨RX5, "isWithin", "(II)Z"⟩
abbrev cX5_setAlert : ByteArray := prog_1_method_31_code
def yX5_setAlert : MethodName := ⟨RX5, "setAlert", "(III)C"⟩
abbrev cX5_removeAlert : ByteArray := prog_1_method_32_code
def yX5_removeAlert : MethodName := ⟨RX5, "removeAlert", "(I)C"⟩
abbrev cX5_alertOf : ByteArray := prog_1_method_33_code
def yX5_alertOf : MethodName := ⟨RX5, "alertOf", "(I)C"⟩
abbrev cX5_firing : ByteArray := prog_1_method_34_code
def yX5_firing : MethodName := ⟨RX5, "firing", "()I"⟩
abbrev cX5_joinCount : ByteArray := prog_1_method_35_code
def yX5_joinCount : MethodName := ⟨RX5, "joinCount", "(II)I"⟩
abbrev cX5_joinSum : ByteArray := prog_1_method_36_code
def yX5_joinSum : MethodName := ⟨RX5, "joinSum", "(II)J"⟩
abbrev cX5_firingShare : ByteArray := prog_1_method_37_code
def yX5_firingShare : MethodName := ⟨RX5, "firingShare", "()F"⟩
abbrev cX5_isConsistent : ByteArray := prog_1_method_38_code
def yX5_isConsistent : MethodName := ⟨RX5, "isConsistent", "()Z"⟩
abbrev cX5_isLabel : ByteArray := prog_1_method_39_code
def yX5_isLabel : MethodName := ⟨RX5, "isLabel", "(I)Z"⟩
abbrev cX5_isValue : ByteArray := prog_1_method_40_code
def yX5_isValue : MethodName := ⟨RX5, "isValue", "(I)Z"⟩
abbrev cX5_refuseBadNames : ByteArray := prog_1_method_41_code
def yX5_refuseBadNames : MethodName := ⟨RX5, "refuseBadNames", "(II)V"⟩
abbrev cX5_refuseBadRange : ByteArray := prog_1_method_42_code
def yX5_refuseBadRange : MethodName := ⟨RX5, "refuseBadRange", "(JJ)V"⟩
abbrev cX5_refuseEmpty : ByteArray := prog_1_method_43_code
def yX5_refuseEmpty : MethodName := ⟨RX5, "refuseEmpty", "(LGaugeHall$Series;)V"⟩
abbrev cX5_rowOf : ByteArray := prog_1_method_44_code
def yX5_rowOf : MethodName := ⟨RX5, "rowOf", "(I)LGaugeHall$Series;"⟩
abbrev cX5_rowForQuantile : ByteArray := prog_1_method_45_code
def yX5_rowForQuantile : MethodName := ⟨RX5, "rowForQuantile", "(II)LGaugeHall$Series;"⟩
abbrev cX5_numberWith : ByteArray := prog_1_method_46_code
def yX5_numberWith : MethodName := ⟨RX5, "numberWith", "(II)I"⟩
abbrev cX5_rowWithSamples : ByteArray := prog_1_method_47_code
def yX5_rowWithSamples : MethodName := ⟨RX5, "rowWithSamples", "(II)LGaugeHall$Series;"⟩
abbrev cX5_blockOfSample : ByteArray := prog_1_method_48_code
def yX5_blockOfSample : MethodName := ⟨RX5, "blockOfSample", "(LGaugeHall$Series;I)LGaugeHall$Block;"⟩
abbrev cX5_readBlocks : ByteArray := prog_1_method_49_code
def yX5_readBlocks : MethodName := ⟨RX5, "readBlocks", "(IJJ)V"⟩
abbrev cX5_readTouchingRollups : ByteArray := prog_1_method_50_code
def yX5_readTouchingRollups : MethodName := ⟨RX5, "readTouchingRollups", "(IJJ)V"⟩
abbrev cX5_stateOfAlert : ByteArray := prog_1_method_51_code
def yX5_stateOfAlert : MethodName := ⟨RX5, "stateOfAlert", "(LGaugeHall$Series;)C"⟩
abbrev cX5_firingAlerts : ByteArray := prog_1_method_52_code
def yX5_firingAlerts : MethodName := ⟨RX5, "firingAlerts", "()I"⟩
def RX6 : String := "GaugeHallModel"
def TX6 : u_T := fun k => match k with
  | 0 => ("GaugeHallModel", "thrown", "I", false)
  | 1 => ("GaugeHallModel", "many", "I", false)
  | 2 => ("GaugeHallModel", "now", "J", false)
  | 3 => ("GaugeHallModel", "name", "[I", true)
  | 4 => ("GaugeHallModel", "host", "[I", true)
  | 5 => ("GaugeHallModel", "n", "[I", true)
  | 6 => ("GaugeHallModel", "values", "[I", true)
  | 7 => ("GaugeHallModel", "bound", "[I", true)
  | 8 => ("GaugeHallModel", "times", "[J", true)
  | 9 => ("GaugeHallModel", "sketch", "[I", true)
  | 10 => ("GaugeHallModel", "size", "[I", true)
  | 11 => ("GaugeHallModel", "halvings", "[I", true)
  | 12 => ("GaugeHallModel", "hasAlert", "[I", true)
  | 13 => ("GaugeHallModel", "limit", "[I", true)
  | 14 => ("GaugeHallModel", "wait", "[I", true)
  | 15 => ("GaugeHallModel", "isOn", "[I", true)
  | _ => ("GaugeHallModel", "since", "[J", true)
def tyX6 : Nat → FieldType := fun k => match k with
  | 0 => .int
  | 1 => .int
  | 2 => .long
  | 3 => .array .int
  | 4 => .array .int
  | 5 => .array .int
  | 6 => .array .int
  | 7 => .array .int
  | 8 => .array .long
  | 9 => .array .int
  | 10 => .array .int
  | 11 => .array .int
  | 12 => .array .int
  | 13 => .array .int
  | 14 => .array .int
  | 15 => .array .int
  | _ => .array .long
theorem nmX6 : ∀ a, a < 17 → ∀ b, b < 17 → a ≠ b → (TX6 a).2.1 ≠ (TX6 b).2.1 := by decide +kernel
theorem tyX6_ok : ∀ k, k < 17 → parseFieldDescriptor (TX6 k).2.2.1 = some (tyX6 k) := by decide +kernel
abbrev cX6_init : ByteArray := prog_8_method_1_code
def yX6_init : MethodName := ⟨RX6, "<init>", "()V"⟩
abbrev cX6_thrown : ByteArray := prog_8_method_2_code
def yX6_thrown : MethodName := ⟨RX6, "thrown", "()I"⟩
abbrev cX6_fail : ByteArray := prog_8_method_3_code
def yX6_fail : MethodName := ⟨RX6, "fail", "(I)I"⟩
abbrev cX6_isIn : ByteArray := prog_8_method_4_code
def yX6_isIn : MethodName := ⟨RX6, "isIn", "(III)Z"⟩
abbrev cX6_looks : ByteArray := prog_8_method_5_code
def yX6_looks : MethodName := ⟨RX6, "looks", "(I)Z"⟩
abbrev cX6_search : ByteArray := prog_8_method_6_code
def yX6_search : MethodName := ⟨RX6, "search", "(II)I"⟩
abbrev cX6_value : ByteArray := prog_8_method_7_code
def yX6_value : MethodName := ⟨RX6, "value", "(II)I"⟩
abbrev cX6_time : ByteArray := prog_8_method_8_code
def yX6_time : MethodName := ⟨RX6, "time", "(II)J"⟩
abbrev cX6_last : ByteArray := prog_8_method_9_code
def yX6_last : MethodName := ⟨RX6, "last", "(I)I"⟩
abbrev cX6_open : ByteArray := prog_8_method_10_code
def yX6_open : MethodName := ⟨RX6, "open", "(II)I"⟩
abbrev cX6_pass : ByteArray := prog_8_method_11_code
def yX6_pass : MethodName := ⟨RX6, "pass", "(I)J"⟩
abbrev cX6_holds : ByteArray := prog_8_method_12_code
def yX6_holds : MethodName := ⟨RX6, "holds", "(III)V"⟩
abbrev cX6_halves : ByteArray := prog_8_method_13_code
def yX6_halves : MethodName := ⟨RX6, "halves", "(II)V"⟩
abbrev cX6_add : ByteArray := prog_8_method_14_code
def yX6_add : MethodName := ⟨RX6, "add", "(II)I"⟩
abbrev cX6_time_ : ByteArray := prog_8_method_15_code
def yX6_time_ : MethodName := ⟨RX6, "time", "()J"⟩
abbrev cX6_seriesCount : ByteArray := prog_8_method_16_code
def yX6_seriesCount : MethodName := ⟨RX6, "seriesCount", "()I"⟩
abbrev cX6_find : ByteArray := prog_8_method_17_code
def yX6_find : MethodName := ⟨RX6, "find", "(II)I"⟩
abbrev cX6_nameOf : ByteArray := prog_8_method_18_code
def yX6_nameOf : MethodName := ⟨RX6, "nameOf", "(I)I"⟩
abbrev cX6_hostOf : ByteArray := prog_8_method_19_code
def yX6_hostOf : MethodName := ⟨RX6, "hostOf", "(I)I"⟩
abbrev cX6_samples : ByteArray := prog_8_method_20_code
def yX6_samples : MethodName := ⟨RX6, "samples", "(I)I"⟩
abbrev cX6_latest : ByteArray := prog_8_method_21_code
def yX6_latest : MethodName := ⟨RX6, "latest", "(I)I"⟩
abbrev cX6_many : ByteArray := prog_8_method_22_code
def yX6_many : MethodName := ⟨RX6, "many", "(I)I"⟩
abbrev cX6_blocks : ByteArray := prog_8_method_23_code
def yX6_blocks : MethodName := ⟨RX6, "blocks", "(I)I"⟩
abbrev cX6_bits : ByteArray := prog_8_method_24_code
def yX6_bits : MethodName := ⟨RX6, "bits", "(II)I"⟩
abbrev cX6_bitsOf : ByteArray := prog_8_method_25_code
def yX6_bitsOf : MethodName := ⟨RX6, "bitsOf", "(II)I"⟩
abbrev cX6_isSample : ByteArray := prog_8_method_26_code
def yX6_isSample : MethodName := ⟨RX6, "isSample", "(II)Z"⟩
abbrev cX6_timeAt : ByteArray := prog_8_method_27_code
def yX6_timeAt : MethodName := ⟨RX6, "timeAt", "(II)J"⟩
abbrev cX6_valueAt : ByteArray := prog_8_method_28_code
def yX6_valueAt : MethodName := ⟨RX6, "valueAt", "(II)I"⟩
abbrev cX6_allBits : ByteArray := prog_8_method_29_code
def yX6_allBits : MethodName := ⟨RX6, "allBits", "()J"⟩
abbrev cX6_isRange : ByteArray := prog_8_method_30_code
def yX6_isRange : MethodName := ⟨RX6, "isRange", "(IJJ)Z"⟩
abbrev cX6_isInside : ByteArray := prog_8_method_31_code
def yX6_isInside : MethodName := ⟨RX6, "isInside", "(IIJJ)Z"⟩
abbrev cX6_counted : ByteArray := prog_8_method_32_code
def yX6_counted : MethodName := ⟨RX6, "counted", "(IJJ)I"⟩
abbrev cX6_summed : ByteArray := prog_8_method_33_code
def yX6_summed : MethodName := ⟨RX6, "summed", "(IJJ)J"⟩
abbrev cX6_count : ByteArray := prog_8_method_34_code
def yX6_count : MethodName := ⟨RX6, "count", "(IJJ)I"⟩
abbrev cX6_sum : ByteArray := prog_8_method_35_code
def yX6_sum : MethodName := ⟨RX6, "sum", "(IJJ)J"⟩
abbrev cX6_sumByReading : ByteArray := prog_8_method_36_code
def yX6_sumByReading : MethodName := ⟨RX6, "sumByReading", "(IJJ)J"⟩
abbrev cX6_maximum : ByteArray := prog_8_method_37_code
def yX6_maximum : MethodName := ⟨RX6, "maximum", "(IJJ)I"⟩
abbrev cX6_mean : ByteArray := prog_8_method_38_code
def yX6_mean : MethodName := ⟨RX6, "mean", "(IJJ)D"⟩
abbrev cX6_begin : ByteArray := prog_8_method_39_code
def yX6_begin : MethodName := ⟨RX6, "begin", "(II)J"⟩
abbrev cX6_rollupCount : ByteArray := prog_8_method_40_code
def yX6_rollupCount : MethodName := ⟨RX6, "rollupCount", "(II)I"⟩
abbrev cX6_countLow : ByteArray := prog_8_method_41_code
def yX6_countLow : MethodName := ⟨RX6, "countLow", "(IJJ)I"⟩
abbrev cX6_isTouched : ByteArray := prog_8_method_42_code
def yX6_isTouched : MethodName := ⟨RX6, "isTouched", "(IIJJ)Z"⟩
abbrev cX6_countHigh : ByteArray := prog_8_method_43_code
def yX6_countHigh : MethodName := ⟨RX6, "countHigh", "(IJJ)I"⟩
abbrev cX6_maximumHigh : ByteArray := prog_8_method_44_code
def yX6_maximumHigh : MethodName := ⟨RX6, "maximumHigh", "(IJJ)I"⟩
abbrev cX6_isPart : ByteArray := prog_8_method_45_code
def yX6_isPart : MethodName := ⟨RX6, "isPart", "(II)Z"⟩
abbrev cX6_target : ByteArray := prog_8_method_46_code
def yX6_target : MethodName := ⟨RX6, "target", "(II)I"⟩
abbrev cX6_standing : ByteArray := prog_8_method_47_code
def yX6_standing : MethodName := ⟨RX6, "standing", "(II)I"⟩
abbrev cX6_sketched : ByteArray := prog_8_method_48_code
def yX6_sketched : MethodName := ⟨RX6, "sketched", "(II)I"⟩
abbrev cX6_upTo : ByteArray := prog_8_method_49_code
def yX6_upTo : MethodName := ⟨RX6, "upTo", "(II)I"⟩
abbrev cX6_quantile : ByteArray := prog_8_method_50_code
def yX6_quantile : MethodName := ⟨RX6, "quantile", "(II)I"⟩
abbrev cX6_exactQuantile : ByteArray := prog_8_method_51_code
def yX6_exactQuantile : MethodName := ⟨RX6, "exactQuantile", "(II)I"⟩
abbrev cX6_bound : ByteArray := prog_8_method_52_code
def yX6_bound : MethodName := ⟨RX6, "bound", "(I)I"⟩
abbrev cX6_held : ByteArray := prog_8_method_53_code
def yX6_held : MethodName := ⟨RX6, "held", "(I)I"⟩
abbrev cX6_isWithin : ByteArray := prog_8_method_54_code
def yX6_isWithin : MethodName := ⟨RX6, "isWithin", "(II)Z"⟩
abbrev cX6_state : ByteArray := prog_8_method_55_code
def yX6_state : MethodName := ⟨RX6, "state", "(I)C"⟩
abbrev cX6_setAlert : ByteArray := prog_8_method_56_code
def yX6_setAlert : MethodName := ⟨RX6, "setAlert", "(III)C"⟩
abbrev cX6_isSet : ByteArray := prog_8_method_57_code
def yX6_isSet : MethodName := ⟨RX6, "isSet", "(I)Z"⟩
abbrev cX6_removeAlert : ByteArray := prog_8_method_58_code
def yX6_removeAlert : MethodName := ⟨RX6, "removeAlert", "(I)C"⟩
abbrev cX6_alertOf : ByteArray := prog_8_method_59_code
def yX6_alertOf : MethodName := ⟨RX6, "alertOf", "(I)C"⟩
abbrev cX6_firing : ByteArray := prog_8_method_60_code
def yX6_firing : MethodName := ⟨RX6, "firing", "()I"⟩
abbrev cX6_joined : ByteArray := prog_8_method_61_code
def yX6_joined : MethodName := ⟨RX6, "joined", "(IIZ)J"⟩
abbrev cX6_areNames : ByteArray := prog_8_method_62_code
def yX6_areNames : MethodName := ⟨RX6, "areNames", "(II)Z"⟩
abbrev cX6_joinCount : ByteArray := prog_8_method_63_code
def yX6_joinCount : MethodName := ⟨RX6, "joinCount", "(II)I"⟩
abbrev cX6_joinSum : ByteArray := prog_8_method_64_code
def yX6_joinSum : MethodName := ⟨RX6, "joinSum", "(II)J"⟩
abbrev cX6_firingShare : ByteArray := prog_8_method_65_code
def yX6_firingShare : MethodName := ⟨RX6, "firingShare", "()F"⟩
abbrev cX6_isConsistent : ByteArray := prog_8_method_66_code
def yX6_isConsistent : MethodName := ⟨RX6, "isConsistent", "()Z"⟩
def RJx145de : String := "java/io/Serializable"
def TJx145de : u_T := fun k => match k with
  | _ => ("", "", "", false)
def tyJx145de : Nat → FieldType := fun k => match k with
  | _ => .int
theorem nmJx145de : ∀ a, a < 0 → ∀ b, b < 0 → a ≠ b → (TJx145de a).2.1 ≠ (TJx145de b).2.1 := by decide +kernel
theorem tyJx145de_ok : ∀ k, k < 0 → parseFieldDescriptor (TJx145de k).2.2.1 = some (tyJx145de k) := by decide +kernel
def RJx00060 : String := "java/lang/ArrayIndexOutOfBoundsException"
def TJx00060 : u_T := fun k => match k with
  | 0 => ("java/lang/Throwable", "backtrace", "Ljava/lang/Object;", false)
  | 1 => ("java/lang/Throwable", "detailMessage", "Ljava/lang/String;", false)
  | 2 => ("java/lang/Throwable", "cause", "Ljava/lang/Throwable;", false)
  | 3 => ("java/lang/Throwable", "stackTrace", "[Ljava/lang/StackTraceElement;", false)
  | 4 => ("java/lang/Throwable", "depth", "I", false)
  | _ => ("java/lang/Throwable", "suppressedExceptions", "Ljava/util/List;", false)
def tyJx00060 : Nat → FieldType := fun k => match k with
  | 0 => .object "java/lang/Object"
  | 1 => .object "java/lang/String"
  | 2 => .object "java/lang/Throwable"
  | 3 => .array (.object "java/lang/StackTraceElement")
  | 4 => .int
  | _ => .object "java/util/List"
theorem nmJx00060 : ∀ a, a < 6 → ∀ b, b < 6 → a ≠ b → (TJx00060 a).2.1 ≠ (TJx00060 b).2.1 := by decide +kernel
theorem tyJx00060_ok : ∀ k, k < 6 → parseFieldDescriptor (TJx00060 k).2.2.1 = some (tyJx00060 k) := by decide +kernel
def RJ9 : String := "java/lang/Math"
def TJ9 : u_T := fun k => match k with
  | _ => ("", "", "", false)
def tyJ9 : Nat → FieldType := fun k => match k with
  | _ => .int
theorem nmJ9 : ∀ a, a < 0 → ∀ b, b < 0 → a ≠ b → (TJ9 a).2.1 ≠ (TJ9 b).2.1 := by decide +kernel
theorem tyJ9_ok : ∀ k, k < 0 → parseFieldDescriptor (TJ9 k).2.2.1 = some (tyJ9 k) := by decide +kernel
def RJ0 : String := "java/lang/String"
def TJ0 : u_T := fun k => match k with
  | 0 => ("java/lang/String", "value", "[B", true)
  | _ => ("java/lang/String", "coder", "B", true)
def tyJ0 : Nat → FieldType := fun k => match k with
  | 0 => .array .byte
  | _ => .byte
theorem nmJ0 : ∀ a, a < 2 → ∀ b, b < 2 → a ≠ b → (TJ0 a).2.1 ≠ (TJ0 b).2.1 := by decide +kernel
theorem tyJ0_ok : ∀ k, k < 2 → parseFieldDescriptor (TJ0 k).2.2.1 = some (tyJ0 k) := by decide +kernel
def RL : String := "GaugeHallLaw"
abbrev cL_open : ByteArray := method_3_code
def yL_open : MethodName := ⟨RL, "open", "(LGaugeHall;II[J)I"⟩
abbrev cL_pass : ByteArray := method_4_code
def yL_pass : MethodName := ⟨RL, "pass", "(LGaugeHall;I[J)I"⟩
abbrev cL_add : ByteArray := method_5_code
def yL_add : MethodName := ⟨RL, "add", "(LGaugeHall;II[J)I"⟩
abbrev cL_find : ByteArray := method_6_code
def yL_find : MethodName := ⟨RL, "find", "(LGaugeHall;II[J)I"⟩
abbrev cL_nameOf : ByteArray := method_7_code
def yL_nameOf : MethodName := ⟨RL, "nameOf", "(LGaugeHall;I[J)I"⟩
abbrev cL_hostOf : ByteArray := method_8_code
def yL_hostOf : MethodName := ⟨RL, "hostOf", "(LGaugeHall;I[J)I"⟩
abbrev cL_samples : ByteArray := method_9_code
def yL_samples : MethodName := ⟨RL, "samples", "(LGaugeHall;I[J)I"⟩
abbrev cL_latest : ByteArray := method_10_code
def yL_latest : MethodName := ⟨RL, "latest", "(LGaugeHall;I[J)I"⟩
abbrev cL_blocks : ByteArray := method_11_code
def yL_blocks : MethodName := ⟨RL, "blocks", "(LGaugeHall;I[J)I"⟩
abbrev cL_bitsOf : ByteArray := method_12_code
def yL_bitsOf : MethodName := ⟨RL, "bitsOf", "(LGaugeHall;II[J)I"⟩
abbrev cL_timeAt : ByteArray := method_13_code
def yL_timeAt : MethodName := ⟨RL, "timeAt", "(LGaugeHall;II[J)I"⟩
abbrev cL_valueAt : ByteArray := method_14_code
def yL_valueAt : MethodName := ⟨RL, "valueAt", "(LGaugeHall;II[J)I"⟩
abbrev cL_count : ByteArray := method_15_code
def yL_count : MethodName := ⟨RL, "count", "(LGaugeHall;IJJ[J)I"⟩
abbrev cL_sum : ByteArray := method_16_code
def yL_sum : MethodName := ⟨RL, "sum", "(LGaugeHall;IJJ[J)I"⟩
abbrev cL_sumByReading : ByteArray := method_17_code
def yL_sumByReading : MethodName := ⟨RL, "sumByReading", "(LGaugeHall;IJJ[J)I"⟩
abbrev cL_maximum : ByteArray := method_18_code
def yL_maximum : MethodName := ⟨RL, "maximum", "(LGaugeHall;IJJ[J)I"⟩
abbrev cL_mean : ByteArray := method_19_code
def yL_mean : MethodName := ⟨RL, "mean", "(LGaugeHall;IJJ[D)I"⟩
abbrev cL_rollupCount : ByteArray := method_20_code
def yL_rollupCount : MethodName := ⟨RL, "rollupCount", "(LGaugeHall;II[J)I"⟩
abbrev cL_countLow : ByteArray := method_21_code
def yL_countLow : MethodName := ⟨RL, "countLow", "(LGaugeHall;IJJ[J)I"⟩
abbrev cL_countHigh : ByteArray := method_22_code
def yL_countHigh : MethodName := ⟨RL, "countHigh", "(LGaugeHall;IJJ[J)I"⟩
abbrev cL_maximumHigh : ByteArray := method_23_code
def yL_maximumHigh : MethodName := ⟨RL, "maximumHigh", "(LGaugeHall;IJJ[J)I"⟩
abbrev cL_quantile : ByteArray := method_24_code
def yL_quantile : MethodName := ⟨RL, "quantile", "(LGaugeHall;II[J)I"⟩
abbrev cL_exactQuantile : ByteArray := method_25_code
def yL_exactQuantile : MethodName := ⟨RL, "exactQuantile", "(LGaugeHall;II[J)I"⟩
abbrev cL_bound : ByteArray := method_26_code
def yL_bound : MethodName := ⟨RL, "bound", "(LGaugeHall;I[J)I"⟩
abbrev cL_held : ByteArray := method_27_code
def yL_held : MethodName := ⟨RL, "held", "(LGaugeHall;I[J)I"⟩
abbrev cL_isWithin : ByteArray := method_28_code
def yL_isWithin : MethodName := ⟨RL, "isWithin", "(LGaugeHall;II[J)I"⟩
abbrev cL_setAlert : ByteArray := method_29_code
def yL_setAlert : MethodName := ⟨RL, "setAlert", "(LGaugeHall;III[J)I"⟩
abbrev cL_removeAlert : ByteArray := method_30_code
def yL_removeAlert : MethodName := ⟨RL, "removeAlert", "(LGaugeHall;I[J)I"⟩
abbrev cL_alertOf : ByteArray := method_31_code
def yL_alertOf : MethodName := ⟨RL, "alertOf", "(LGaugeHall;I[J)I"⟩
abbrev cL_joinCount : ByteArray := method_32_code
def yL_joinCount : MethodName := ⟨RL, "joinCount", "(LGaugeHall;II[J)I"⟩
abbrev cL_joinSum : ByteArray := method_33_code
def yL_joinSum : MethodName := ⟨RL, "joinSum", "(LGaugeHall;II[J)I"⟩
abbrev cL_firingShare : ByteArray := method_34_code
def yL_firingShare : MethodName := ⟨RL, "firingShare", "(LGaugeHall;[D)I"⟩
abbrev cL_law : ByteArray := code
def yL_law : MethodName := ⟨RL, "law", "([I)Z"⟩
abbrev vwCl : List vw_C := [(RJ0, TJ0, 2), (RJx00060, TJx00060, 6), (RX0, TX0, 4), (RX1, TX1, 9), (RX2, TX2, 9), (RX3, TX3, 4), (RX4, TX4, 3), (RX5, TX5, 4), (RX6, TX6, 17)]
end
section
theorem dX0_init_0 : decode cX0_init 0 = .ok (.aload_n 0, 1) := by decide +kernel
theorem dX0_init_1 : decode cX0_init 1 = .ok (.invokespecial 3, 3) := by decide +kernel
theorem dX0_init_4 : decode cX0_init 4 = .ok (.aload_n 0, 1) := by decide +kernel
theorem dX0_init_5 : decode cX0_init 5 = .ok (.iload_n 1, 1) := by decide +kernel
theorem dX0_init_6 : decode cX0_init 6 = .ok (.putfield 9, 3) := by decide +kernel
theorem dX0_init_9 : decode cX0_init 9 = .ok (.aload_n 0, 1) := by decide +kernel
theorem dX0_init_10 : decode cX0_init 10 = .ok (.iload_n 2, 1) := by decide +kernel
theorem dX0_init_11 : decode cX0_init 11 = .ok (.putfield 15, 3) := by decide +kernel
theorem dX0_init_14 : decode cX0_init 14 = .ok (.aload_n 0, 1) := by decide +kernel
theorem dX0_init_15 : decode cX0_init 15 = .ok (.iconst 0, 1) := by decide +kernel
theorem dX0_init_16 : decode cX0_init 16 = .ok (.putfield 18, 3) := by decide +kernel
theorem dX0_init_19 : decode cX0_init 19 = .ok (.aload_n 0, 1) := by decide +kernel
theorem dX0_init_20 : decode cX0_init 20 = .ok (.lconst 0, 1) := by decide +kernel
theorem dX0_init_21 : decode cX0_init 21 = .ok (.putfield 22, 3) := by decide +kernel
theorem dX0_init_24 : decode cX0_init 24 = .ok (.return_, 1) := by decide +kernel
theorem dX0_see_0 : decode cX0_see 0 = .ok (.iload_n 3, 1) := by decide +kernel
theorem dX0_see_1 : decode cX0_see 1 = .ok (.aload_n 0, 1) := by decide +kernel
theorem dX0_see_2 : decode cX0_see 2 = .ok (.getfield 9, 3) := by decide +kernel
theorem dX0_see_5 : decode cX0_see 5 = .ok (.if_icmp .gt 11, 3) := by decide +kernel
theorem dX0_see_8 : decode cX0_see 8 = .ok (.aload_n 0, 1) := by decide +kernel
theorem dX0_see_9 : decode cX0_see 9 = .ok (.iconst 0, 1) := by decide +kernel
theorem dX0_see_10 : decode cX0_see 10 = .ok (.putfield 18, 3) := by decide +kernel
theorem dX0_see_13 : decode cX0_see 13 = .ok (.goto 20, 3) := by decide +kernel
theorem dX0_see_16 : decode cX0_see 16 = .ok (.aload_n 0, 1) := by decide +kernel
theorem dX0_see_17 : decode cX0_see 17 = .ok (.getfield 18, 3) := by decide +kernel
theorem dX0_see_20 : decode cX0_see 20 = .ok (.ifCond .ne 13, 3) := by decide +kernel
theorem dX0_see_23 : decode cX0_see 23 = .ok (.aload_n 0, 1) := by decide +kernel
theorem dX0_see_24 : decode cX0_see 24 = .ok (.iconst 1, 1) := by decide +kernel
theorem dX0_see_25 : decode cX0_see 25 = .ok (.putfield 18, 3) := by decide +kernel
theorem dX0_see_28 : decode cX0_see 28 = .ok (.aload_n 0, 1) := by decide +kernel
theorem dX0_see_29 : decode cX0_see 29 = .ok (.lload_n 1, 1) := by decide +kernel
theorem dX0_see_30 : decode cX0_see 30 = .ok (.putfield 22, 3) := by decide +kernel
theorem dX0_see_33 : decode cX0_see 33 = .ok (.return_, 1) := by decide +kernel
theorem dX0_stateAt_0 : decode cX0_stateAt 0 = .ok (.aload_n 0, 1) := by decide +kernel
theorem dX0_stateAt_1 : decode cX0_stateAt 1 = .ok (.getfield 18, 3) := by decide +kernel
theorem dX0_stateAt_4 : decode cX0_stateAt 4 = .ok (.ifCond .ne 6, 3) := by decide +kernel
theorem dX0_stateAt_7 : decode cX0_stateAt 7 = .ok (.bipush 111, 2) := by decide +kernel
theorem dX0_stateAt_9 : decode cX0_stateAt 9 = .ok (.ireturn, 1) := by decide +kernel
theorem dX0_stateAt_10 : decode cX0_stateAt 10 = .ok (.lload_n 1, 1) := by decide +kernel
theorem dX0_stateAt_11 : decode cX0_stateAt 11 = .ok (.aload_n 0, 1) := by decide +kernel
theorem dX0_stateAt_12 : decode cX0_stateAt 12 = .ok (.getfield 22, 3) := by decide +kernel
theorem dX0_stateAt_15 : decode cX0_stateAt 15 = .ok (.lsub, 1) := by decide +kernel
theorem dX0_stateAt_16 : decode cX0_stateAt 16 = .ok (.aload_n 0, 1) := by decide +kernel
theorem dX0_stateAt_17 : decode cX0_stateAt 17 = .ok (.getfield 15, 3) := by decide +kernel
theorem dX0_stateAt_20 : decode cX0_stateAt 20 = .ok (.i2l, 1) := by decide +kernel
theorem dX0_stateAt_21 : decode cX0_stateAt 21 = .ok (.lcmp, 1) := by decide +kernel
theorem dX0_stateAt_22 : decode cX0_stateAt 22 = .ok (.ifCond .lt 8, 3) := by decide +kernel
theorem dX0_stateAt_25 : decode cX0_stateAt 25 = .ok (.bipush 102, 2) := by decide +kernel
theorem dX0_stateAt_27 : decode cX0_stateAt 27 = .ok (.goto 5, 3) := by decide +kernel
theorem dX0_stateAt_30 : decode cX0_stateAt 30 = .ok (.bipush 112, 2) := by decide +kernel
theorem dX0_stateAt_32 : decode cX0_stateAt 32 = .ok (.ireturn, 1) := by decide +kernel
theorem dX1_init_0 : decode cX1_init 0 = .ok (.aload_n 0, 1) := by decide +kernel
theorem dX1_init_1 : decode cX1_init 1 = .ok (.invokespecial 3, 3) := by decide +kernel
theorem dX1_init_4 : decode cX1_init 4 = .ok (.aload_n 0, 1) := by decide +kernel
theorem dX1_init_5 : decode cX1_init 5 = .ok (.lload_n 1, 1) := by decide +kernel
theorem dX1_init_6 : decode cX1_init 6 = .ok (.putfield 9, 3) := by decide +kernel
theorem dX1_init_9 : decode cX1_init 9 = .ok (.aload_n 0, 1) := by decide +kernel
theorem dX1_init_10 : decode cX1_init 10 = .ok (.iload_n 3, 1) := by decide +kernel
theorem dX1_init_11 : decode cX1_init 11 = .ok (.putfield 15, 3) := by decide +kernel
theorem dX1_init_14 : decode cX1_init 14 = .ok (.aload_n 0, 1) := by decide +kernel
theorem dX1_init_15 : decode cX1_init 15 = .ok (.bipush 8, 2) := by decide +kernel
theorem dX1_init_17 : decode cX1_init 17 = .ok (.newarray .long, 2) := by decide +kernel
theorem dX1_init_19 : decode cX1_init 19 = .ok (.putfield 19, 3) := by decide +kernel
theorem dX1_init_22 : decode cX1_init 22 = .ok (.aload_n 0, 1) := by decide +kernel
theorem dX1_init_23 : decode cX1_init 23 = .ok (.bipush 8, 2) := by decide +kernel
theorem dX1_init_25 : decode cX1_init 25 = .ok (.newarray .int, 2) := by decide +kernel
theorem dX1_init_27 : decode cX1_init 27 = .ok (.putfield 23, 3) := by decide +kernel
theorem dX1_init_30 : decode cX1_init 30 = .ok (.aload_n 0, 1) := by decide +kernel
theorem dX1_init_31 : decode cX1_init 31 = .ok (.iconst 1, 1) := by decide +kernel
theorem dX1_init_32 : decode cX1_init 32 = .ok (.putfield 27, 3) := by decide +kernel
theorem dX1_init_35 : decode cX1_init 35 = .ok (.aload_n 0, 1) := by decide +kernel
theorem dX1_init_36 : decode cX1_init 36 = .ok (.bipush 64, 2) := by decide +kernel
theorem dX1_init_38 : decode cX1_init 38 = .ok (.putfield 30, 3) := by decide +kernel
theorem dX1_init_41 : decode cX1_init 41 = .ok (.aload_n 0, 1) := by decide +kernel
theorem dX1_init_42 : decode cX1_init 42 = .ok (.lload_n 1, 1) := by decide +kernel
theorem dX1_init_43 : decode cX1_init 43 = .ok (.putfield 33, 3) := by decide +kernel
theorem dX1_init_46 : decode cX1_init 46 = .ok (.aload_n 0, 1) := by decide +kernel
theorem dX1_init_47 : decode cX1_init 47 = .ok (.lconst 0, 1) := by decide +kernel
theorem dX1_init_48 : decode cX1_init 48 = .ok (.putfield 36, 3) := by decide +kernel
theorem dX1_init_51 : decode cX1_init 51 = .ok (.aload_n 0, 1) := by decide +kernel
theorem dX1_init_52 : decode cX1_init 52 = .ok (.iload_n 3, 1) := by decide +kernel
theorem dX1_init_53 : decode cX1_init 53 = .ok (.putfield 39, 3) := by decide +kernel
theorem dX1_init_56 : decode cX1_init 56 = .ok (.return_, 1) := by decide +kernel
theorem dX1_append_0 : decode cX1_append 0 = .ok (.aload_n 0, 1) := by decide +kernel
theorem dX1_append_1 : decode cX1_append 1 = .ok (.getfield 27, 3) := by decide +kernel
theorem dX1_append_4 : decode cX1_append 4 = .ok (.bipush 8, 2) := by decide +kernel
theorem dX1_append_6 : decode cX1_append 6 = .ok (.if_icmp .lt 4, 3) := by decide +kernel
theorem dX1_append_9 : decode cX1_append 9 = .ok (.return_, 1) := by decide +kernel
theorem dX1_append_10 : decode cX1_append 10 = .ok (.lload_n 1, 1) := by decide +kernel
theorem dX1_append_11 : decode cX1_append 11 = .ok (.aload_n 0, 1) := by decide +kernel
theorem dX1_append_12 : decode cX1_append 12 = .ok (.getfield 33, 3) := by decide +kernel
theorem dX1_append_15 : decode cX1_append 15 = .ok (.lsub, 1) := by decide +kernel
theorem dX1_append_16 : decode cX1_append 16 = .ok (.lstore 4, 2) := by decide +kernel
theorem dX1_append_18 : decode cX1_append 18 = .ok (.aload_n 0, 1) := by decide +kernel
theorem dX1_append_19 : decode cX1_append 19 = .ok (.getfield 19, 3) := by decide +kernel
theorem dX1_append_22 : decode cX1_append 22 = .ok (.aload_n 0, 1) := by decide +kernel
theorem dX1_append_23 : decode cX1_append 23 = .ok (.getfield 27, 3) := by decide +kernel
theorem dX1_append_26 : decode cX1_append 26 = .ok (.lload 4, 2) := by decide +kernel
theorem dX1_append_28 : decode cX1_append 28 = .ok (.aload_n 0, 1) := by decide +kernel
theorem dX1_append_29 : decode cX1_append 29 = .ok (.getfield 36, 3) := by decide +kernel
theorem dX1_append_32 : decode cX1_append 32 = .ok (.lsub, 1) := by decide +kernel
theorem dX1_append_33 : decode cX1_append 33 = .ok (.lastore, 1) := by decide +kernel
theorem dX1_append_34 : decode cX1_append 34 = .ok (.aload_n 0, 1) := by decide +kernel
theorem dX1_append_35 : decode cX1_append 35 = .ok (.getfield 23, 3) := by decide +kernel
theorem dX1_append_38 : decode cX1_append 38 = .ok (.aload_n 0, 1) := by decide +kernel
theorem dX1_append_39 : decode cX1_append 39 = .ok (.getfield 27, 3) := by decide +kernel
theorem dX1_append_42 : decode cX1_append 42 = .ok (.iload_n 3, 1) := by decide +kernel
theorem dX1_append_43 : decode cX1_append 43 = .ok (.aload_n 0, 1) := by decide +kernel
theorem dX1_append_44 : decode cX1_append 44 = .ok (.getfield 39, 3) := by decide +kernel
theorem dX1_append_47 : decode cX1_append 47 = .ok (.isub, 1) := by decide +kernel
theorem dX1_append_48 : decode cX1_append 48 = .ok (.iastore, 1) := by decide +kernel
theorem dX1_append_49 : decode cX1_append 49 = .ok (.aload_n 0, 1) := by decide +kernel
theorem dX1_append_50 : decode cX1_append 50 = .ok (.dup, 1) := by decide +kernel
theorem dX1_append_51 : decode cX1_append 51 = .ok (.getfield 30, 3) := by decide +kernel
theorem dX1_append_54 : decode cX1_append 54 = .ok (.lload 4, 2) := by decide +kernel
theorem dX1_append_56 : decode cX1_append 56 = .ok (.aload_n 0, 1) := by decide +kernel
theorem dX1_append_57 : decode cX1_append 57 = .ok (.getfield 36, 3) := by decide +kernel
theorem dX1_append_60 : decode cX1_append 60 = .ok (.lsub, 1) := by decide +kernel
theorem dX1_append_61 : decode cX1_append 61 = .ok (.invokestatic 42, 3) := by decide +kernel
theorem dX1_append_64 : decode cX1_append 64 = .ok (.iload_n 3, 1) := by decide +kernel
theorem dX1_append_65 : decode cX1_append 65 = .ok (.aload_n 0, 1) := by decide +kernel
theorem dX1_append_66 : decode cX1_append 66 = .ok (.getfield 39, 3) := by decide +kernel
theorem dX1_append_69 : decode cX1_append 69 = .ok (.isub, 1) := by decide +kernel
theorem dX1_append_70 : decode cX1_append 70 = .ok (.invokestatic 46, 3) := by decide +kernel
theorem dX1_append_73 : decode cX1_append 73 = .ok (.iadd, 1) := by decide +kernel
theorem dX1_append_74 : decode cX1_append 74 = .ok (.iadd, 1) := by decide +kernel
theorem dX1_append_75 : decode cX1_append 75 = .ok (.putfield 30, 3) := by decide +kernel
theorem dX1_append_78 : decode cX1_append 78 = .ok (.aload_n 0, 1) := by decide +kernel
theorem dX1_append_79 : decode cX1_append 79 = .ok (.dup, 1) := by decide +kernel
theorem dX1_append_80 : decode cX1_append 80 = .ok (.getfield 27, 3) := by decide +kernel
theorem dX1_append_83 : decode cX1_append 83 = .ok (.iconst 1, 1) := by decide +kernel
theorem dX1_append_84 : decode cX1_append 84 = .ok (.iadd, 1) := by decide +kernel
theorem dX1_append_85 : decode cX1_append 85 = .ok (.putfield 27, 3) := by decide +kernel
theorem dX1_append_88 : decode cX1_append 88 = .ok (.aload_n 0, 1) := by decide +kernel
theorem dX1_append_89 : decode cX1_append 89 = .ok (.lload_n 1, 1) := by decide +kernel
theorem dX1_append_90 : decode cX1_append 90 = .ok (.putfield 33, 3) := by decide +kernel
theorem dX1_append_93 : decode cX1_append 93 = .ok (.aload_n 0, 1) := by decide +kernel
theorem dX1_append_94 : decode cX1_append 94 = .ok (.lload 4, 2) := by decide +kernel
theorem dX1_append_96 : decode cX1_append 96 = .ok (.putfield 36, 3) := by decide +kernel
theorem dX1_append_99 : decode cX1_append 99 = .ok (.aload_n 0, 1) := by decide +kernel
theorem dX1_append_100 : decode cX1_append 100 = .ok (.iload_n 3, 1) := by decide +kernel
theorem dX1_append_101 : decode cX1_append 101 = .ok (.putfield 39, 3) := by decide +kernel
theorem dX1_append_104 : decode cX1_append 104 = .ok (.return_, 1) := by decide +kernel
theorem dX1_timeStepBits_0 : decode cX1_timeStepBits 0 = .ok (.lload_n 0, 1) := by decide +kernel
theorem dX1_timeStepBits_1 : decode cX1_timeStepBits 1 = .ok (.lconst 0, 1) := by decide +kernel
theorem dX1_timeStepBits_2 : decode cX1_timeStepBits 2 = .ok (.lcmp, 1) := by decide +kernel
theorem dX1_timeStepBits_3 : decode cX1_timeStepBits 3 = .ok (.ifCond .ne 5, 3) := by decide +kernel
theorem dX1_timeStepBits_6 : decode cX1_timeStepBits 6 = .ok (.iconst 1, 1) := by decide +kernel
theorem dX1_timeStepBits_7 : decode cX1_timeStepBits 7 = .ok (.ireturn, 1) := by decide +kernel
theorem dX1_timeStepBits_8 : decode cX1_timeStepBits 8 = .ok (.lload_n 0, 1) := by decide +kernel
theorem dX1_timeStepBits_9 : decode cX1_timeStepBits 9 = .ok (.ldc2_w 50, 3) := by decide +kernel
theorem dX1_timeStepBits_12 : decode cX1_timeStepBits 12 = .ok (.lcmp, 1) := by decide +kernel
theorem dX1_timeStepBits_13 : decode cX1_timeStepBits 13 = .ok (.ifCond .lt 16, 3) := by decide +kernel
theorem dX1_timeStepBits_16 : decode cX1_timeStepBits 16 = .ok (.lload_n 0, 1) := by decide +kernel
theorem dX1_timeStepBits_17 : decode cX1_timeStepBits 17 = .ok (.ldc2_w 52, 3) := by decide +kernel
theorem dX1_timeStepBits_20 : decode cX1_timeStepBits 20 = .ok (.lcmp, 1) := by decide +kernel
theorem dX1_timeStepBits_21 : decode cX1_timeStepBits 21 = .ok (.ifCond .gt 8, 3) := by decide +kernel
theorem dX1_timeStepBits_24 : decode cX1_timeStepBits 24 = .ok (.bipush 6, 2) := by decide +kernel
theorem dX1_timeStepBits_26 : decode cX1_timeStepBits 26 = .ok (.goto 5, 3) := by decide +kernel
theorem dX1_timeStepBits_29 : decode cX1_timeStepBits 29 = .ok (.bipush 15, 2) := by decide +kernel
theorem dX1_timeStepBits_31 : decode cX1_timeStepBits 31 = .ok (.ireturn, 1) := by decide +kernel
theorem dX1_valueStepBits_0 : decode cX1_valueStepBits 0 = .ok (.iload_n 0, 1) := by decide +kernel
theorem dX1_valueStepBits_1 : decode cX1_valueStepBits 1 = .ok (.ifCond .ne 5, 3) := by decide +kernel
theorem dX1_valueStepBits_4 : decode cX1_valueStepBits 4 = .ok (.iconst 1, 1) := by decide +kernel
theorem dX1_valueStepBits_5 : decode cX1_valueStepBits 5 = .ok (.ireturn, 1) := by decide +kernel
theorem dX1_valueStepBits_6 : decode cX1_valueStepBits 6 = .ok (.iload_n 0, 1) := by decide +kernel
theorem dX1_valueStepBits_7 : decode cX1_valueStepBits 7 = .ok (.bipush (-31), 2) := by decide +kernel
theorem dX1_valueStepBits_9 : decode cX1_valueStepBits 9 = .ok (.if_icmp .lt 14, 3) := by decide +kernel
theorem dX1_valueStepBits_12 : decode cX1_valueStepBits 12 = .ok (.iload_n 0, 1) := by decide +kernel
theorem dX1_valueStepBits_13 : decode cX1_valueStepBits 13 = .ok (.bipush 32, 2) := by decide +kernel
theorem dX1_valueStepBits_15 : decode cX1_valueStepBits 15 = .ok (.if_icmp .gt 8, 3) := by decide +kernel
theorem dX1_valueStepBits_18 : decode cX1_valueStepBits 18 = .ok (.bipush 8, 2) := by decide +kernel
theorem dX1_valueStepBits_20 : decode cX1_valueStepBits 20 = .ok (.goto 5, 3) := by decide +kernel
theorem dX1_valueStepBits_23 : decode cX1_valueStepBits 23 = .ok (.bipush 18, 2) := by decide +kernel
theorem dX1_valueStepBits_25 : decode cX1_valueStepBits 25 = .ok (.ireturn, 1) := by decide +kernel
theorem dX1_timeOfSample_0 : decode cX1_timeOfSample 0 = .ok (.aload_n 0, 1) := by decide +kernel
theorem dX1_timeOfSample_1 : decode cX1_timeOfSample 1 = .ok (.getfield 9, 3) := by decide +kernel
theorem dX1_timeOfSample_4 : decode cX1_timeOfSample 4 = .ok (.lstore_n 2, 1) := by decide +kernel
theorem dX1_timeOfSample_5 : decode cX1_timeOfSample 5 = .ok (.lconst 0, 1) := by decide +kernel
theorem dX1_timeOfSample_6 : decode cX1_timeOfSample 6 = .ok (.lstore 4, 2) := by decide +kernel
theorem dX1_timeOfSample_8 : decode cX1_timeOfSample 8 = .ok (.iconst 0, 1) := by decide +kernel
theorem dX1_timeOfSample_9 : decode cX1_timeOfSample 9 = .ok (.istore 6, 2) := by decide +kernel
theorem dX1_timeOfSample_11 : decode cX1_timeOfSample 11 = .ok (.iload 6, 2) := by decide +kernel
theorem dX1_timeOfSample_13 : decode cX1_timeOfSample 13 = .ok (.iload_n 1, 1) := by decide +kernel
theorem dX1_timeOfSample_14 : decode cX1_timeOfSample 14 = .ok (.if_icmp .gt 36, 3) := by decide +kernel
theorem dX1_timeOfSample_17 : decode cX1_timeOfSample 17 = .ok (.iload 6, 2) := by decide +kernel
theorem dX1_timeOfSample_19 : decode cX1_timeOfSample 19 = .ok (.aload_n 0, 1) := by decide +kernel
theorem dX1_timeOfSample_20 : decode cX1_timeOfSample 20 = .ok (.getfield 19, 3) := by decide +kernel
theorem dX1_timeOfSample_23 : decode cX1_timeOfSample 23 = .ok (.arraylength, 1) := by decide +kernel
theorem dX1_timeOfSample_24 : decode cX1_timeOfSample 24 = .ok (.if_icmp .ge 26, 3) := by decide +kernel
theorem dX1_timeOfSample_27 : decode cX1_timeOfSample 27 = .ok (.lload 4, 2) := by decide +kernel
theorem dX1_timeOfSample_29 : decode cX1_timeOfSample 29 = .ok (.aload_n 0, 1) := by decide +kernel
theorem dX1_timeOfSample_30 : decode cX1_timeOfSample 30 = .ok (.getfield 19, 3) := by decide +kernel
theorem dX1_timeOfSample_33 : decode cX1_timeOfSample 33 = .ok (.iload 6, 2) := by decide +kernel
theorem dX1_timeOfSample_35 : decode cX1_timeOfSample 35 = .ok (.laload, 1) := by decide +kernel
theorem dX1_timeOfSample_36 : decode cX1_timeOfSample 36 = .ok (.ladd, 1) := by decide +kernel
theorem dX1_timeOfSample_37 : decode cX1_timeOfSample 37 = .ok (.lstore 4, 2) := by decide +kernel
theorem dX1_timeOfSample_39 : decode cX1_timeOfSample 39 = .ok (.lload_n 2, 1) := by decide +kernel
theorem dX1_timeOfSample_40 : decode cX1_timeOfSample 40 = .ok (.lload 4, 2) := by decide +kernel
theorem dX1_timeOfSample_42 : decode cX1_timeOfSample 42 = .ok (.ladd, 1) := by decide +kernel
theorem dX1_timeOfSample_43 : decode cX1_timeOfSample 43 = .ok (.lstore_n 2, 1) := by decide +kernel
theorem dX1_timeOfSample_44 : decode cX1_timeOfSample 44 = .ok (.iinc 6 1, 3) := by decide +kernel
theorem dX1_timeOfSample_47 : decode cX1_timeOfSample 47 = .ok (.goto (-36), 3) := by decide +kernel
theorem dX1_timeOfSample_50 : decode cX1_timeOfSample 50 = .ok (.lload_n 2, 1) := by decide +kernel
theorem dX1_timeOfSample_51 : decode cX1_timeOfSample 51 = .ok (.lreturn, 1) := by decide +kernel
theorem dX1_valueOfSample_0 : decode cX1_valueOfSample 0 = .ok (.aload_n 0, 1) := by decide +kernel
theorem dX1_valueOfSample_1 : decode cX1_valueOfSample 1 = .ok (.getfield 15, 3) := by decide +kernel
theorem dX1_valueOfSample_4 : decode cX1_valueOfSample 4 = .ok (.istore_n 2, 1) := by decide +kernel
theorem dX1_valueOfSample_5 : decode cX1_valueOfSample 5 = .ok (.iconst 0, 1) := by decide +kernel
theorem dX1_valueOfSample_6 : decode cX1_valueOfSample 6 = .ok (.istore_n 3, 1) := by decide +kernel
theorem dX1_valueOfSample_7 : decode cX1_valueOfSample 7 = .ok (.iload_n 3, 1) := by decide +kernel
theorem dX1_valueOfSample_8 : decode cX1_valueOfSample 8 = .ok (.iload_n 1, 1) := by decide +kernel
theorem dX1_valueOfSample_9 : decode cX1_valueOfSample 9 = .ok (.if_icmp .gt 27, 3) := by decide +kernel
theorem dX1_valueOfSample_12 : decode cX1_valueOfSample 12 = .ok (.iload_n 3, 1) := by decide +kernel
theorem dX1_valueOfSample_13 : decode cX1_valueOfSample 13 = .ok (.aload_n 0, 1) := by decide +kernel
theorem dX1_valueOfSample_14 : decode cX1_valueOfSample 14 = .ok (.getfield 23, 3) := by decide +kernel
theorem dX1_valueOfSample_17 : decode cX1_valueOfSample 17 = .ok (.arraylength, 1) := by decide +kernel
theorem dX1_valueOfSample_18 : decode cX1_valueOfSample 18 = .ok (.if_icmp .ge 18, 3) := by decide +kernel
theorem dX1_valueOfSample_21 : decode cX1_valueOfSample 21 = .ok (.iload_n 2, 1) := by decide +kernel
theorem dX1_valueOfSample_22 : decode cX1_valueOfSample 22 = .ok (.aload_n 0, 1) := by decide +kernel
theorem dX1_valueOfSample_23 : decode cX1_valueOfSample 23 = .ok (.getfield 23, 3) := by decide +kernel
theorem dX1_valueOfSample_26 : decode cX1_valueOfSample 26 = .ok (.iload_n 3, 1) := by decide +kernel
theorem dX1_valueOfSample_27 : decode cX1_valueOfSample 27 = .ok (.iaload, 1) := by decide +kernel
theorem dX1_valueOfSample_28 : decode cX1_valueOfSample 28 = .ok (.iadd, 1) := by decide +kernel
theorem dX1_valueOfSample_29 : decode cX1_valueOfSample 29 = .ok (.istore_n 2, 1) := by decide +kernel
theorem dX1_valueOfSample_30 : decode cX1_valueOfSample 30 = .ok (.iinc 3 1, 3) := by decide +kernel
theorem dX1_valueOfSample_33 : decode cX1_valueOfSample 33 = .ok (.goto (-26), 3) := by decide +kernel
theorem dX1_valueOfSample_36 : decode cX1_valueOfSample 36 = .ok (.iload_n 2, 1) := by decide +kernel
theorem dX1_valueOfSample_37 : decode cX1_valueOfSample 37 = .ok (.ireturn, 1) := by decide +kernel
theorem dX1_read_0 : decode cX1_read 0 = .ok (.aload_n 0, 1) := by decide +kernel
theorem dX1_read_1 : decode cX1_read 1 = .ok (.getfield 9, 3) := by decide +kernel
theorem dX1_read_4 : decode cX1_read 4 = .ok (.lstore 6, 2) := by decide +kernel
theorem dX1_read_6 : decode cX1_read 6 = .ok (.lconst 0, 1) := by decide +kernel
theorem dX1_read_7 : decode cX1_read 7 = .ok (.lstore 8, 2) := by decide +kernel
theorem dX1_read_9 : decode cX1_read 9 = .ok (.aload_n 0, 1) := by decide +kernel
theorem dX1_read_10 : decode cX1_read 10 = .ok (.getfield 15, 3) := by decide +kernel
theorem dX1_read_13 : decode cX1_read 13 = .ok (.istore 10, 2) := by decide +kernel
theorem dX1_read_15 : decode cX1_read 15 = .ok (.iconst 0, 1) := by decide +kernel
theorem dX1_read_16 : decode cX1_read 16 = .ok (.istore 11, 2) := by decide +kernel
theorem dX1_read_18 : decode cX1_read 18 = .ok (.iload 11, 2) := by decide +kernel
theorem dX1_read_20 : decode cX1_read 20 = .ok (.aload_n 0, 1) := by decide +kernel
theorem dX1_read_21 : decode cX1_read 21 = .ok (.getfield 27, 3) := by decide +kernel
theorem dX1_read_24 : decode cX1_read 24 = .ok (.if_icmp .ge 81, 3) := by decide +kernel
theorem dX1_read_27 : decode cX1_read 27 = .ok (.iload 11, 2) := by decide +kernel
theorem dX1_read_29 : decode cX1_read 29 = .ok (.aload_n 0, 1) := by decide +kernel
theorem dX1_read_30 : decode cX1_read 30 = .ok (.getfield 19, 3) := by decide +kernel
theorem dX1_read_33 : decode cX1_read 33 = .ok (.arraylength, 1) := by decide +kernel
theorem dX1_read_34 : decode cX1_read 34 = .ok (.if_icmp .ge 71, 3) := by decide +kernel
theorem dX1_read_37 : decode cX1_read 37 = .ok (.iload 11, 2) := by decide +kernel
theorem dX1_read_39 : decode cX1_read 39 = .ok (.aload_n 0, 1) := by decide +kernel
theorem dX1_read_40 : decode cX1_read 40 = .ok (.getfield 23, 3) := by decide +kernel
theorem dX1_read_43 : decode cX1_read 43 = .ok (.arraylength, 1) := by decide +kernel
theorem dX1_read_44 : decode cX1_read 44 = .ok (.if_icmp .ge 61, 3) := by decide +kernel
theorem dX1_read_47 : decode cX1_read 47 = .ok (.lload 8, 2) := by decide +kernel
theorem dX1_read_49 : decode cX1_read 49 = .ok (.aload_n 0, 1) := by decide +kernel
theorem dX1_read_50 : decode cX1_read 50 = .ok (.getfield 19, 3) := by decide +kernel
theorem dX1_read_53 : decode cX1_read 53 = .ok (.iload 11, 2) := by decide +kernel
theorem dX1_read_55 : decode cX1_read 55 = .ok (.laload, 1) := by decide +kernel
theorem dX1_read_56 : decode cX1_read 56 = .ok (.ladd, 1) := by decide +kernel
theorem dX1_read_57 : decode cX1_read 57 = .ok (.lstore 8, 2) := by decide +kernel
theorem dX1_read_59 : decode cX1_read 59 = .ok (.lload 6, 2) := by decide +kernel
theorem dX1_read_61 : decode cX1_read 61 = .ok (.lload 8, 2) := by decide +kernel
theorem dX1_read_63 : decode cX1_read 63 = .ok (.ladd, 1) := by decide +kernel
theorem dX1_read_64 : decode cX1_read 64 = .ok (.lstore 6, 2) := by decide +kernel
theorem dX1_read_66 : decode cX1_read 66 = .ok (.iload 10, 2) := by decide +kernel
theorem dX1_read_68 : decode cX1_read 68 = .ok (.aload_n 0, 1) := by decide +kernel
theorem dX1_read_69 : decode cX1_read 69 = .ok (.getfield 23, 3) := by decide +kernel
theorem dX1_read_72 : decode cX1_read 72 = .ok (.iload 11, 2) := by decide +kernel
theorem dX1_read_74 : decode cX1_read 74 = .ok (.iaload, 1) := by decide +kernel
theorem dX1_read_75 : decode cX1_read 75 = .ok (.iadd, 1) := by decide +kernel
theorem dX1_read_76 : decode cX1_read 76 = .ok (.istore 10, 2) := by decide +kernel
theorem dX1_read_78 : decode cX1_read 78 = .ok (.lload 6, 2) := by decide +kernel
theorem dX1_read_80 : decode cX1_read 80 = .ok (.lload_n 2, 1) := by decide +kernel
theorem dX1_read_81 : decode cX1_read 81 = .ok (.lcmp, 1) := by decide +kernel
theorem dX1_read_82 : decode cX1_read 82 = .ok (.ifCond .lt 17, 3) := by decide +kernel
theorem dX1_read_85 : decode cX1_read 85 = .ok (.lload 6, 2) := by decide +kernel
theorem dX1_read_87 : decode cX1_read 87 = .ok (.lload 4, 2) := by decide +kernel
theorem dX1_read_89 : decode cX1_read 89 = .ok (.lcmp, 1) := by decide +kernel
theorem dX1_read_90 : decode cX1_read 90 = .ok (.ifCond .gt 9, 3) := by decide +kernel
theorem dX1_read_93 : decode cX1_read 93 = .ok (.aload_n 1, 1) := by decide +kernel
theorem dX1_read_94 : decode cX1_read 94 = .ok (.iload 10, 2) := by decide +kernel
theorem dX1_read_96 : decode cX1_read 96 = .ok (.invokevirtual 54, 3) := by decide +kernel
theorem dX1_read_99 : decode cX1_read 99 = .ok (.iinc 11 1, 3) := by decide +kernel
theorem dX1_read_102 : decode cX1_read 102 = .ok (.goto (-84), 3) := by decide +kernel
theorem dX1_read_105 : decode cX1_read 105 = .ok (.return_, 1) := by decide +kernel
theorem dX2_init_0 : decode cX2_init 0 = .ok (.aload_n 0, 1) := by decide +kernel
theorem dX2_init_1 : decode cX2_init 1 = .ok (.invokespecial 3, 3) := by decide +kernel
theorem dX2_init_4 : decode cX2_init 4 = .ok (.aload_n 0, 1) := by decide +kernel
theorem dX2_init_5 : decode cX2_init 5 = .ok (.iload_n 1, 1) := by decide +kernel
theorem dX2_init_6 : decode cX2_init 6 = .ok (.putfield 9, 3) := by decide +kernel
theorem dX2_init_9 : decode cX2_init 9 = .ok (.aload_n 0, 1) := by decide +kernel
theorem dX2_init_10 : decode cX2_init 10 = .ok (.iload_n 2, 1) := by decide +kernel
theorem dX2_init_11 : decode cX2_init 11 = .ok (.putfield 15, 3) := by decide +kernel
theorem dX2_init_14 : decode cX2_init 14 = .ok (.aload_n 0, 1) := by decide +kernel
theorem dX2_init_15 : decode cX2_init 15 = .ok (.bipush 120, 2) := by decide +kernel
theorem dX2_init_17 : decode cX2_init 17 = .ok (.newarray .long, 2) := by decide +kernel
theorem dX2_init_19 : decode cX2_init 19 = .ok (.putfield 18, 3) := by decide +kernel
theorem dX2_init_22 : decode cX2_init 22 = .ok (.aload_n 0, 1) := by decide +kernel
theorem dX2_init_23 : decode cX2_init 23 = .ok (.bipush 120, 2) := by decide +kernel
theorem dX2_init_25 : decode cX2_init 25 = .ok (.newarray .int, 2) := by decide +kernel
theorem dX2_init_27 : decode cX2_init 27 = .ok (.putfield 22, 3) := by decide +kernel
theorem dX2_init_30 : decode cX2_init 30 = .ok (.aload_n 0, 1) := by decide +kernel
theorem dX2_init_31 : decode cX2_init 31 = .ok (.bipush 120, 2) := by decide +kernel
theorem dX2_init_33 : decode cX2_init 33 = .ok (.newarray .int, 2) := by decide +kernel
theorem dX2_init_35 : decode cX2_init 35 = .ok (.putfield 26, 3) := by decide +kernel
theorem dX2_init_38 : decode cX2_init 38 = .ok (.aload_n 0, 1) := by decide +kernel
theorem dX2_init_39 : decode cX2_init 39 = .ok (.bipush 15, 2) := by decide +kernel
theorem dX2_init_41 : decode cX2_init 41 = .ok (.anewarray 29, 3) := by decide +kernel
theorem dX2_init_44 : decode cX2_init 44 = .ok (.putfield 31, 3) := by decide +kernel
theorem dX2_init_47 : decode cX2_init 47 = .ok (.aload_n 0, 1) := by decide +kernel
theorem dX2_init_48 : decode cX2_init 48 = .ok (.new 35, 3) := by decide +kernel
theorem dX2_init_51 : decode cX2_init 51 = .ok (.dup, 1) := by decide +kernel
theorem dX2_init_52 : decode cX2_init 52 = .ok (.invokespecial 37, 3) := by decide +kernel
theorem dX2_init_55 : decode cX2_init 55 = .ok (.putfield 38, 3) := by decide +kernel
theorem dX2_init_58 : decode cX2_init 58 = .ok (.aload_n 0, 1) := by decide +kernel
theorem dX2_init_59 : decode cX2_init 59 = .ok (.iconst 0, 1) := by decide +kernel
theorem dX2_init_60 : decode cX2_init 60 = .ok (.putfield 42, 3) := by decide +kernel
theorem dX2_init_63 : decode cX2_init 63 = .ok (.aload_n 0, 1) := by decide +kernel
theorem dX2_init_64 : decode cX2_init 64 = .ok (.aconst_null, 1) := by decide +kernel
theorem dX2_init_65 : decode cX2_init 65 = .ok (.putfield 45, 3) := by decide +kernel
theorem dX2_init_68 : decode cX2_init 68 = .ok (.return_, 1) := by decide +kernel
theorem dX2_isFull_0 : decode cX2_isFull 0 = .ok (.aload_n 0, 1) := by decide +kernel
theorem dX2_isFull_1 : decode cX2_isFull 1 = .ok (.getfield 42, 3) := by decide +kernel
theorem dX2_isFull_4 : decode cX2_isFull 4 = .ok (.bipush 120, 2) := by decide +kernel
theorem dX2_isFull_6 : decode cX2_isFull 6 = .ok (.if_icmp .lt 7, 3) := by decide +kernel
theorem dX2_isFull_9 : decode cX2_isFull 9 = .ok (.iconst 1, 1) := by decide +kernel
theorem dX2_isFull_10 : decode cX2_isFull 10 = .ok (.goto 4, 3) := by decide +kernel
theorem dX2_isFull_13 : decode cX2_isFull 13 = .ok (.iconst 0, 1) := by decide +kernel
theorem dX2_isFull_14 : decode cX2_isFull 14 = .ok (.ireturn, 1) := by decide +kernel
theorem dX2_hasSampleAt_0 : decode cX2_hasSampleAt 0 = .ok (.aload_n 0, 1) := by decide +kernel
theorem dX2_hasSampleAt_1 : decode cX2_hasSampleAt 1 = .ok (.getfield 42, 3) := by decide +kernel
theorem dX2_hasSampleAt_4 : decode cX2_hasSampleAt 4 = .ok (.ifCond .le 35, 3) := by decide +kernel
theorem dX2_hasSampleAt_7 : decode cX2_hasSampleAt 7 = .ok (.aload_n 0, 1) := by decide +kernel
theorem dX2_hasSampleAt_8 : decode cX2_hasSampleAt 8 = .ok (.getfield 42, 3) := by decide +kernel
theorem dX2_hasSampleAt_11 : decode cX2_hasSampleAt 11 = .ok (.aload_n 0, 1) := by decide +kernel
theorem dX2_hasSampleAt_12 : decode cX2_hasSampleAt 12 = .ok (.getfield 18, 3) := by decide +kernel
theorem dX2_hasSampleAt_15 : decode cX2_hasSampleAt 15 = .ok (.arraylength, 1) := by decide +kernel
theorem dX2_hasSampleAt_16 : decode cX2_hasSampleAt 16 = .ok (.if_icmp .gt 23, 3) := by decide +kernel
theorem dX2_hasSampleAt_19 : decode cX2_hasSampleAt 19 = .ok (.aload_n 0, 1) := by decide +kernel
theorem dX2_hasSampleAt_20 : decode cX2_hasSampleAt 20 = .ok (.getfield 18, 3) := by decide +kernel
theorem dX2_hasSampleAt_23 : decode cX2_hasSampleAt 23 = .ok (.aload_n 0, 1) := by decide +kernel
theorem dX2_hasSampleAt_24 : decode cX2_hasSampleAt 24 = .ok (.getfield 42, 3) := by decide +kernel
theorem dX2_hasSampleAt_27 : decode cX2_hasSampleAt 27 = .ok (.iconst 1, 1) := by decide +kernel
theorem dX2_hasSampleAt_28 : decode cX2_hasSampleAt 28 = .ok (.isub, 1) := by decide +kernel
theorem dX2_hasSampleAt_29 : decode cX2_hasSampleAt 29 = .ok (.laload, 1) := by decide +kernel
theorem dX2_hasSampleAt_30 : decode cX2_hasSampleAt 30 = .ok (.lload_n 1, 1) := by decide +kernel
theorem dX2_hasSampleAt_31 : decode cX2_hasSampleAt 31 = .ok (.lcmp, 1) := by decide +kernel
theorem dX2_hasSampleAt_32 : decode cX2_hasSampleAt 32 = .ok (.ifCond .ne 7, 3) := by decide +kernel
theorem dX2_hasSampleAt_35 : decode cX2_hasSampleAt 35 = .ok (.iconst 1, 1) := by decide +kernel
theorem dX2_hasSampleAt_36 : decode cX2_hasSampleAt 36 = .ok (.goto 4, 3) := by decide +kernel
theorem dX2_hasSampleAt_39 : decode cX2_hasSampleAt 39 = .ok (.iconst 0, 1) := by decide +kernel
theorem dX2_hasSampleAt_40 : decode cX2_hasSampleAt 40 = .ok (.ireturn, 1) := by decide +kernel
theorem dX2_newestValue_0 : decode cX2_newestValue 0 = .ok (.aload_n 0, 1) := by decide +kernel
theorem dX2_newestValue_1 : decode cX2_newestValue 1 = .ok (.getfield 42, 3) := by decide +kernel
theorem dX2_newestValue_4 : decode cX2_newestValue 4 = .ok (.ifCond .le 29, 3) := by decide +kernel
theorem dX2_newestValue_7 : decode cX2_newestValue 7 = .ok (.aload_n 0, 1) := by decide +kernel
theorem dX2_newestValue_8 : decode cX2_newestValue 8 = .ok (.getfield 42, 3) := by decide +kernel
theorem dX2_newestValue_11 : decode cX2_newestValue 11 = .ok (.aload_n 0, 1) := by decide +kernel
theorem dX2_newestValue_12 : decode cX2_newestValue 12 = .ok (.getfield 22, 3) := by decide +kernel
theorem dX2_newestValue_15 : decode cX2_newestValue 15 = .ok (.arraylength, 1) := by decide +kernel
theorem dX2_newestValue_16 : decode cX2_newestValue 16 = .ok (.if_icmp .gt 17, 3) := by decide +kernel
theorem dX2_newestValue_19 : decode cX2_newestValue 19 = .ok (.aload_n 0, 1) := by decide +kernel
theorem dX2_newestValue_20 : decode cX2_newestValue 20 = .ok (.getfield 22, 3) := by decide +kernel
theorem dX2_newestValue_23 : decode cX2_newestValue 23 = .ok (.aload_n 0, 1) := by decide +kernel
theorem dX2_newestValue_24 : decode cX2_newestValue 24 = .ok (.getfield 42, 3) := by decide +kernel
theorem dX2_newestValue_27 : decode cX2_newestValue 27 = .ok (.iconst 1, 1) := by decide +kernel
theorem dX2_newestValue_28 : decode cX2_newestValue 28 = .ok (.isub, 1) := by decide +kernel
theorem dX2_newestValue_29 : decode cX2_newestValue 29 = .ok (.iaload, 1) := by decide +kernel
theorem dX2_newestValue_30 : decode cX2_newestValue 30 = .ok (.goto 4, 3) := by decide +kernel
theorem dX2_newestValue_33 : decode cX2_newestValue 33 = .ok (.iconst 0, 1) := by decide +kernel
theorem dX2_newestValue_34 : decode cX2_newestValue 34 = .ok (.ireturn, 1) := by decide +kernel
theorem dX2_take_0 : decode cX2_take 0 = .ok (.aload_n 0, 1) := by decide +kernel
theorem dX2_take_1 : decode cX2_take 1 = .ok (.invokevirtual 49, 3) := by decide +kernel
theorem dX2_take_4 : decode cX2_take 4 = .ok (.ifCond .eq 4, 3) := by decide +kernel
theorem dX2_take_7 : decode cX2_take 7 = .ok (.return_, 1) := by decide +kernel
theorem dX2_take_8 : decode cX2_take 8 = .ok (.aload_n 0, 1) := by decide +kernel
theorem dX2_take_9 : decode cX2_take 9 = .ok (.getfield 18, 3) := by decide +kernel
theorem dX2_take_12 : decode cX2_take 12 = .ok (.aload_n 0, 1) := by decide +kernel
theorem dX2_take_13 : decode cX2_take 13 = .ok (.getfield 42, 3) := by decide +kernel
theorem dX2_take_16 : decode cX2_take 16 = .ok (.lload_n 1, 1) := by decide +kernel
theorem dX2_take_17 : decode cX2_take 17 = .ok (.lastore, 1) := by decide +kernel
theorem dX2_take_18 : decode cX2_take 18 = .ok (.aload_n 0, 1) := by decide +kernel
theorem dX2_take_19 : decode cX2_take 19 = .ok (.getfield 22, 3) := by decide +kernel
theorem dX2_take_22 : decode cX2_take 22 = .ok (.aload_n 0, 1) := by decide +kernel
theorem dX2_take_23 : decode cX2_take 23 = .ok (.getfield 42, 3) := by decide +kernel
theorem dX2_take_26 : decode cX2_take 26 = .ok (.iload_n 3, 1) := by decide +kernel
theorem dX2_take_27 : decode cX2_take 27 = .ok (.iastore, 1) := by decide +kernel
theorem dX2_take_28 : decode cX2_take 28 = .ok (.aload_n 0, 1) := by decide +kernel
theorem dX2_take_29 : decode cX2_take 29 = .ok (.iload_n 3, 1) := by decide +kernel
theorem dX2_take_30 : decode cX2_take 30 = .ok (.invokevirtual 53, 3) := by decide +kernel
theorem dX2_take_33 : decode cX2_take 33 = .ok (.aload_n 0, 1) := by decide +kernel
theorem dX2_take_34 : decode cX2_take 34 = .ok (.lload_n 1, 1) := by decide +kernel
theorem dX2_take_35 : decode cX2_take 35 = .ok (.iload_n 3, 1) := by decide +kernel
theorem dX2_take_36 : decode cX2_take 36 = .ok (.invokevirtual 57, 3) := by decide +kernel
theorem dX2_take_39 : decode cX2_take 39 = .ok (.aload_n 0, 1) := by decide +kernel
theorem dX2_take_40 : decode cX2_take 40 = .ok (.dup, 1) := by decide +kernel
theorem dX2_take_41 : decode cX2_take 41 = .ok (.getfield 42, 3) := by decide +kernel
theorem dX2_take_44 : decode cX2_take 44 = .ok (.iconst 1, 1) := by decide +kernel
theorem dX2_take_45 : decode cX2_take 45 = .ok (.iadd, 1) := by decide +kernel
theorem dX2_take_46 : decode cX2_take 46 = .ok (.putfield 42, 3) := by decide +kernel
theorem dX2_take_49 : decode cX2_take 49 = .ok (.aload_n 0, 1) := by decide +kernel
theorem dX2_take_50 : decode cX2_take 50 = .ok (.getfield 38, 3) := by decide +kernel
theorem dX2_take_53 : decode cX2_take 53 = .ok (.iload_n 3, 1) := by decide +kernel
theorem dX2_take_54 : decode cX2_take 54 = .ok (.invokevirtual 61, 3) := by decide +kernel
theorem dX2_take_57 : decode cX2_take 57 = .ok (.aload_n 0, 1) := by decide +kernel
theorem dX2_take_58 : decode cX2_take 58 = .ok (.getfield 45, 3) := by decide +kernel
theorem dX2_take_61 : decode cX2_take 61 = .ok (.ifnull 12, 3) := by decide +kernel
theorem dX2_take_64 : decode cX2_take 64 = .ok (.aload_n 0, 1) := by decide +kernel
theorem dX2_take_65 : decode cX2_take 65 = .ok (.getfield 45, 3) := by decide +kernel
theorem dX2_take_68 : decode cX2_take 68 = .ok (.lload_n 1, 1) := by decide +kernel
theorem dX2_take_69 : decode cX2_take 69 = .ok (.iload_n 3, 1) := by decide +kernel
theorem dX2_take_70 : decode cX2_take 70 = .ok (.invokevirtual 64, 3) := by decide +kernel
theorem dX2_take_73 : decode cX2_take 73 = .ok (.return_, 1) := by decide +kernel
theorem dX2_sortIn_0 : decode cX2_sortIn 0 = .ok (.aload_n 0, 1) := by decide +kernel
theorem dX2_sortIn_1 : decode cX2_sortIn 1 = .ok (.getfield 42, 3) := by decide +kernel
theorem dX2_sortIn_4 : decode cX2_sortIn 4 = .ok (.istore_n 2, 1) := by decide +kernel
theorem dX2_sortIn_5 : decode cX2_sortIn 5 = .ok (.iload_n 2, 1) := by decide +kernel
theorem dX2_sortIn_6 : decode cX2_sortIn 6 = .ok (.ifCond .le 44, 3) := by decide +kernel
theorem dX2_sortIn_9 : decode cX2_sortIn 9 = .ok (.iload_n 2, 1) := by decide +kernel
theorem dX2_sortIn_10 : decode cX2_sortIn 10 = .ok (.aload_n 0, 1) := by decide +kernel
theorem dX2_sortIn_11 : decode cX2_sortIn 11 = .ok (.getfield 26, 3) := by decide +kernel
theorem dX2_sortIn_14 : decode cX2_sortIn 14 = .ok (.arraylength, 1) := by decide +kernel
theorem dX2_sortIn_15 : decode cX2_sortIn 15 = .ok (.if_icmp .ge 35, 3) := by decide +kernel
theorem dX2_sortIn_18 : decode cX2_sortIn 18 = .ok (.aload_n 0, 1) := by decide +kernel
theorem dX2_sortIn_19 : decode cX2_sortIn 19 = .ok (.getfield 26, 3) := by decide +kernel
theorem dX2_sortIn_22 : decode cX2_sortIn 22 = .ok (.iload_n 2, 1) := by decide +kernel
theorem dX2_sortIn_23 : decode cX2_sortIn 23 = .ok (.iconst 1, 1) := by decide +kernel
theorem dX2_sortIn_24 : decode cX2_sortIn 24 = .ok (.isub, 1) := by decide +kernel
theorem dX2_sortIn_25 : decode cX2_sortIn 25 = .ok (.iaload, 1) := by decide +kernel
theorem dX2_sortIn_26 : decode cX2_sortIn 26 = .ok (.iload_n 1, 1) := by decide +kernel
theorem dX2_sortIn_27 : decode cX2_sortIn 27 = .ok (.if_icmp .le 23, 3) := by decide +kernel
theorem dX2_sortIn_30 : decode cX2_sortIn 30 = .ok (.aload_n 0, 1) := by decide +kernel
theorem dX2_sortIn_31 : decode cX2_sortIn 31 = .ok (.getfield 26, 3) := by decide +kernel
theorem dX2_sortIn_34 : decode cX2_sortIn 34 = .ok (.iload_n 2, 1) := by decide +kernel
theorem dX2_sortIn_35 : decode cX2_sortIn 35 = .ok (.aload_n 0, 1) := by decide +kernel
theorem dX2_sortIn_36 : decode cX2_sortIn 36 = .ok (.getfield 26, 3) := by decide +kernel
theorem dX2_sortIn_39 : decode cX2_sortIn 39 = .ok (.iload_n 2, 1) := by decide +kernel
theorem dX2_sortIn_40 : decode cX2_sortIn 40 = .ok (.iconst 1, 1) := by decide +kernel
theorem dX2_sortIn_41 : decode cX2_sortIn 41 = .ok (.isub, 1) := by decide +kernel
theorem dX2_sortIn_42 : decode cX2_sortIn 42 = .ok (.iaload, 1) := by decide +kernel
theorem dX2_sortIn_43 : decode cX2_sortIn 43 = .ok (.iastore, 1) := by decide +kernel
theorem dX2_sortIn_44 : decode cX2_sortIn 44 = .ok (.iinc 2 (-1), 3) := by decide +kernel
theorem dX2_sortIn_47 : decode cX2_sortIn 47 = .ok (.goto (-42), 3) := by decide +kernel
theorem dX2_sortIn_50 : decode cX2_sortIn 50 = .ok (.iload_n 2, 1) := by decide +kernel
theorem dX2_sortIn_51 : decode cX2_sortIn 51 = .ok (.ifCond .lt 19, 3) := by decide +kernel
theorem dX2_sortIn_54 : decode cX2_sortIn 54 = .ok (.iload_n 2, 1) := by decide +kernel
theorem dX2_sortIn_55 : decode cX2_sortIn 55 = .ok (.aload_n 0, 1) := by decide +kernel
theorem dX2_sortIn_56 : decode cX2_sortIn 56 = .ok (.getfield 26, 3) := by decide +kernel
theorem dX2_sortIn_59 : decode cX2_sortIn 59 = .ok (.arraylength, 1) := by decide +kernel
theorem dX2_sortIn_60 : decode cX2_sortIn 60 = .ok (.if_icmp .ge 10, 3) := by decide +kernel
theorem dX2_sortIn_63 : decode cX2_sortIn 63 = .ok (.aload_n 0, 1) := by decide +kernel
theorem dX2_sortIn_64 : decode cX2_sortIn 64 = .ok (.getfield 26, 3) := by decide +kernel
theorem dX2_sortIn_67 : decode cX2_sortIn 67 = .ok (.iload_n 2, 1) := by decide +kernel
theorem dX2_sortIn_68 : decode cX2_sortIn 68 = .ok (.iload_n 1, 1) := by decide +kernel
theorem dX2_sortIn_69 : decode cX2_sortIn 69 = .ok (.iastore, 1) := by decide +kernel
theorem dX2_sortIn_70 : decode cX2_sortIn 70 = .ok (.return_, 1) := by decide +kernel
theorem dX2_toBlock_0 : decode cX2_toBlock 0 = .ok (.aload_n 0, 1) := by decide +kernel
theorem dX2_toBlock_1 : decode cX2_toBlock 1 = .ok (.getfield 42, 3) := by decide +kernel
theorem dX2_toBlock_4 : decode cX2_toBlock 4 = .ok (.bipush 8, 2) := by decide +kernel
theorem dX2_toBlock_6 : decode cX2_toBlock 6 = .ok (.idiv, 1) := by decide +kernel
theorem dX2_toBlock_7 : decode cX2_toBlock 7 = .ok (.istore 4, 2) := by decide +kernel
theorem dX2_toBlock_9 : decode cX2_toBlock 9 = .ok (.iload 4, 2) := by decide +kernel
theorem dX2_toBlock_11 : decode cX2_toBlock 11 = .ok (.aload_n 0, 1) := by decide +kernel
theorem dX2_toBlock_12 : decode cX2_toBlock 12 = .ok (.getfield 31, 3) := by decide +kernel
theorem dX2_toBlock_15 : decode cX2_toBlock 15 = .ok (.arraylength, 1) := by decide +kernel
theorem dX2_toBlock_16 : decode cX2_toBlock 16 = .ok (.if_icmp .lt 4, 3) := by decide +kernel
theorem dX2_toBlock_19 : decode cX2_toBlock 19 = .ok (.return_, 1) := by decide +kernel
theorem dX2_toBlock_20 : decode cX2_toBlock 20 = .ok (.aload_n 0, 1) := by decide +kernel
theorem dX2_toBlock_21 : decode cX2_toBlock 21 = .ok (.getfield 31, 3) := by decide +kernel
theorem dX2_toBlock_24 : decode cX2_toBlock 24 = .ok (.iload 4, 2) := by decide +kernel
theorem dX2_toBlock_26 : decode cX2_toBlock 26 = .ok (.aaload, 1) := by decide +kernel
theorem dX2_toBlock_27 : decode cX2_toBlock 27 = .ok (.astore 5, 2) := by decide +kernel
theorem dX2_toBlock_29 : decode cX2_toBlock 29 = .ok (.aload 5, 2) := by decide +kernel
theorem dX2_toBlock_31 : decode cX2_toBlock 31 = .ok (.ifnonnull 22, 3) := by decide +kernel
theorem dX2_toBlock_34 : decode cX2_toBlock 34 = .ok (.aload_n 0, 1) := by decide +kernel
theorem dX2_toBlock_35 : decode cX2_toBlock 35 = .ok (.getfield 31, 3) := by decide +kernel
theorem dX2_toBlock_38 : decode cX2_toBlock 38 = .ok (.iload 4, 2) := by decide +kernel
theorem dX2_toBlock_40 : decode cX2_toBlock 40 = .ok (.new 29, 3) := by decide +kernel
theorem dX2_toBlock_43 : decode cX2_toBlock 43 = .ok (.dup, 1) := by decide +kernel
theorem dX2_toBlock_44 : decode cX2_toBlock 44 = .ok (.lload_n 1, 1) := by decide +kernel
theorem dX2_toBlock_45 : decode cX2_toBlock 45 = .ok (.iload_n 3, 1) := by decide +kernel
theorem dX2_toBlock_46 : decode cX2_toBlock 46 = .ok (.invokespecial 69, 3) := by decide +kernel
theorem dX2_toBlock_49 : decode cX2_toBlock 49 = .ok (.aastore, 1) := by decide +kernel
theorem dX2_toBlock_50 : decode cX2_toBlock 50 = .ok (.goto 10, 3) := by decide +kernel
theorem dX2_toBlock_53 : decode cX2_toBlock 53 = .ok (.aload 5, 2) := by decide +kernel
theorem dX2_toBlock_55 : decode cX2_toBlock 55 = .ok (.lload_n 1, 1) := by decide +kernel
theorem dX2_toBlock_56 : decode cX2_toBlock 56 = .ok (.iload_n 3, 1) := by decide +kernel
theorem dX2_toBlock_57 : decode cX2_toBlock 57 = .ok (.invokevirtual 71, 3) := by decide +kernel
theorem dX2_toBlock_60 : decode cX2_toBlock 60 = .ok (.return_, 1) := by decide +kernel
theorem dX2_blockAt_0 : decode cX2_blockAt 0 = .ok (.iload_n 1, 1) := by decide +kernel
theorem dX2_blockAt_1 : decode cX2_blockAt 1 = .ok (.ifCond .lt 21, 3) := by decide +kernel
theorem dX2_blockAt_4 : decode cX2_blockAt 4 = .ok (.iload_n 1, 1) := by decide +kernel
theorem dX2_blockAt_5 : decode cX2_blockAt 5 = .ok (.aload_n 0, 1) := by decide +kernel
theorem dX2_blockAt_6 : decode cX2_blockAt 6 = .ok (.getfield 31, 3) := by decide +kernel
theorem dX2_blockAt_9 : decode cX2_blockAt 9 = .ok (.arraylength, 1) := by decide +kernel
theorem dX2_blockAt_10 : decode cX2_blockAt 10 = .ok (.if_icmp .ge 12, 3) := by decide +kernel
theorem dX2_blockAt_13 : decode cX2_blockAt 13 = .ok (.aload_n 0, 1) := by decide +kernel
theorem dX2_blockAt_14 : decode cX2_blockAt 14 = .ok (.getfield 31, 3) := by decide +kernel
theorem dX2_blockAt_17 : decode cX2_blockAt 17 = .ok (.iload_n 1, 1) := by decide +kernel
theorem dX2_blockAt_18 : decode cX2_blockAt 18 = .ok (.aaload, 1) := by decide +kernel
theorem dX2_blockAt_19 : decode cX2_blockAt 19 = .ok (.goto 4, 3) := by decide +kernel
theorem dX2_blockAt_22 : decode cX2_blockAt 22 = .ok (.aconst_null, 1) := by decide +kernel
theorem dX2_blockAt_23 : decode cX2_blockAt 23 = .ok (.areturn, 1) := by decide +kernel
theorem dX2_blockCount_0 : decode cX2_blockCount 0 = .ok (.aload_n 0, 1) := by decide +kernel
theorem dX2_blockCount_1 : decode cX2_blockCount 1 = .ok (.getfield 42, 3) := by decide +kernel
theorem dX2_blockCount_4 : decode cX2_blockCount 4 = .ok (.bipush 8, 2) := by decide +kernel
theorem dX2_blockCount_6 : decode cX2_blockCount 6 = .ok (.iadd, 1) := by decide +kernel
theorem dX2_blockCount_7 : decode cX2_blockCount 7 = .ok (.iconst 1, 1) := by decide +kernel
theorem dX2_blockCount_8 : decode cX2_blockCount 8 = .ok (.isub, 1) := by decide +kernel
theorem dX2_blockCount_9 : decode cX2_blockCount 9 = .ok (.bipush 8, 2) := by decide +kernel
theorem dX2_blockCount_11 : decode cX2_blockCount 11 = .ok (.idiv, 1) := by decide +kernel
theorem dX2_blockCount_12 : decode cX2_blockCount 12 = .ok (.ireturn, 1) := by decide +kernel
theorem dX2_blockBits_0 : decode cX2_blockBits 0 = .ok (.lconst 0, 1) := by decide +kernel
theorem dX2_blockBits_1 : decode cX2_blockBits 1 = .ok (.lstore_n 1, 1) := by decide +kernel
theorem dX2_blockBits_2 : decode cX2_blockBits 2 = .ok (.aload_n 0, 1) := by decide +kernel
theorem dX2_blockBits_3 : decode cX2_blockBits 3 = .ok (.getfield 31, 3) := by decide +kernel
theorem dX2_blockBits_6 : decode cX2_blockBits 6 = .ok (.astore_n 3, 1) := by decide +kernel
theorem dX2_blockBits_7 : decode cX2_blockBits 7 = .ok (.aload_n 3, 1) := by decide +kernel
theorem dX2_blockBits_8 : decode cX2_blockBits 8 = .ok (.arraylength, 1) := by decide +kernel
theorem dX2_blockBits_9 : decode cX2_blockBits 9 = .ok (.istore 4, 2) := by decide +kernel
theorem dX2_blockBits_11 : decode cX2_blockBits 11 = .ok (.iconst 0, 1) := by decide +kernel
theorem dX2_blockBits_12 : decode cX2_blockBits 12 = .ok (.istore 5, 2) := by decide +kernel
theorem dX2_blockBits_14 : decode cX2_blockBits 14 = .ok (.iload 5, 2) := by decide +kernel
theorem dX2_blockBits_16 : decode cX2_blockBits 16 = .ok (.iload 4, 2) := by decide +kernel
theorem dX2_blockBits_18 : decode cX2_blockBits 18 = .ok (.if_icmp .ge 29, 3) := by decide +kernel
theorem dX2_blockBits_21 : decode cX2_blockBits 21 = .ok (.aload_n 3, 1) := by decide +kernel
theorem dX2_blockBits_22 : decode cX2_blockBits 22 = .ok (.iload 5, 2) := by decide +kernel
theorem dX2_blockBits_24 : decode cX2_blockBits 24 = .ok (.aaload, 1) := by decide +kernel
theorem dX2_blockBits_25 : decode cX2_blockBits 25 = .ok (.astore 6, 2) := by decide +kernel
theorem dX2_blockBits_27 : decode cX2_blockBits 27 = .ok (.aload 6, 2) := by decide +kernel
theorem dX2_blockBits_29 : decode cX2_blockBits 29 = .ok (.ifnull 12, 3) := by decide +kernel
theorem dX2_blockBits_32 : decode cX2_blockBits 32 = .ok (.lload_n 1, 1) := by decide +kernel
theorem dX2_blockBits_33 : decode cX2_blockBits 33 = .ok (.aload 6, 2) := by decide +kernel
theorem dX2_blockBits_35 : decode cX2_blockBits 35 = .ok (.getfield 74, 3) := by decide +kernel
theorem dX2_blockBits_38 : decode cX2_blockBits 38 = .ok (.i2l, 1) := by decide +kernel
theorem dX2_blockBits_39 : decode cX2_blockBits 39 = .ok (.ladd, 1) := by decide +kernel
theorem dX2_blockBits_40 : decode cX2_blockBits 40 = .ok (.lstore_n 1, 1) := by decide +kernel
theorem dX2_blockBits_41 : decode cX2_blockBits 41 = .ok (.iinc 5 1, 3) := by decide +kernel
theorem dX2_blockBits_44 : decode cX2_blockBits 44 = .ok (.goto (-30), 3) := by decide +kernel
theorem dX2_blockBits_47 : decode cX2_blockBits 47 = .ok (.lload_n 1, 1) := by decide +kernel
theorem dX2_blockBits_48 : decode cX2_blockBits 48 = .ok (.lreturn, 1) := by decide +kernel
theorem dX2_readBlocks_0 : decode cX2_readBlocks 0 = .ok (.aload_n 1, 1) := by decide +kernel
theorem dX2_readBlocks_1 : decode cX2_readBlocks 1 = .ok (.invokevirtual 77, 3) := by decide +kernel
theorem dX2_readBlocks_4 : decode cX2_readBlocks 4 = .ok (.aload_n 0, 1) := by decide +kernel
theorem dX2_readBlocks_5 : decode cX2_readBlocks 5 = .ok (.getfield 31, 3) := by decide +kernel
theorem dX2_readBlocks_8 : decode cX2_readBlocks 8 = .ok (.astore 6, 2) := by decide +kernel
theorem dX2_readBlocks_10 : decode cX2_readBlocks 10 = .ok (.aload 6, 2) := by decide +kernel
theorem dX2_readBlocks_12 : decode cX2_readBlocks 12 = .ok (.arraylength, 1) := by decide +kernel
theorem dX2_readBlocks_13 : decode cX2_readBlocks 13 = .ok (.istore 7, 2) := by decide +kernel
theorem dX2_readBlocks_15 : decode cX2_readBlocks 15 = .ok (.iconst 0, 1) := by decide +kernel
theorem dX2_readBlocks_16 : decode cX2_readBlocks 16 = .ok (.istore 8, 2) := by decide +kernel
theorem dX2_readBlocks_18 : decode cX2_readBlocks 18 = .ok (.iload 8, 2) := by decide +kernel
theorem dX2_readBlocks_20 : decode cX2_readBlocks 20 = .ok (.iload 7, 2) := by decide +kernel
theorem dX2_readBlocks_22 : decode cX2_readBlocks 22 = .ok (.if_icmp .ge 30, 3) := by decide +kernel
theorem dX2_readBlocks_25 : decode cX2_readBlocks 25 = .ok (.aload 6, 2) := by decide +kernel
theorem dX2_readBlocks_27 : decode cX2_readBlocks 27 = .ok (.iload 8, 2) := by decide +kernel
theorem dX2_readBlocks_29 : decode cX2_readBlocks 29 = .ok (.aaload, 1) := by decide +kernel
theorem dX2_readBlocks_30 : decode cX2_readBlocks 30 = .ok (.astore 9, 2) := by decide +kernel
theorem dX2_readBlocks_32 : decode cX2_readBlocks 32 = .ok (.aload 9, 2) := by decide +kernel
theorem dX2_readBlocks_34 : decode cX2_readBlocks 34 = .ok (.ifnull 12, 3) := by decide +kernel
theorem dX2_readBlocks_37 : decode cX2_readBlocks 37 = .ok (.aload 9, 2) := by decide +kernel
theorem dX2_readBlocks_39 : decode cX2_readBlocks 39 = .ok (.aload_n 1, 1) := by decide +kernel
theorem dX2_readBlocks_40 : decode cX2_readBlocks 40 = .ok (.lload_n 2, 1) := by decide +kernel
theorem dX2_readBlocks_41 : decode cX2_readBlocks 41 = .ok (.lload 4, 2) := by decide +kernel
theorem dX2_readBlocks_43 : decode cX2_readBlocks 43 = .ok (.invokevirtual 82, 3) := by decide +kernel
theorem dX2_readBlocks_46 : decode cX2_readBlocks 46 = .ok (.iinc 8 1, 3) := by decide +kernel
theorem dX2_readBlocks_49 : decode cX2_readBlocks 49 = .ok (.goto (-31), 3) := by decide +kernel
theorem dX2_readBlocks_52 : decode cX2_readBlocks 52 = .ok (.return_, 1) := by decide +kernel
theorem dX2_readSamples_0 : decode cX2_readSamples 0 = .ok (.aload_n 1, 1) := by decide +kernel
theorem dX2_readSamples_1 : decode cX2_readSamples 1 = .ok (.invokevirtual 77, 3) := by decide +kernel
theorem dX2_readSamples_4 : decode cX2_readSamples 4 = .ok (.iconst 0, 1) := by decide +kernel
theorem dX2_readSamples_5 : decode cX2_readSamples 5 = .ok (.istore 6, 2) := by decide +kernel
theorem dX2_readSamples_7 : decode cX2_readSamples 7 = .ok (.iload 6, 2) := by decide +kernel
theorem dX2_readSamples_9 : decode cX2_readSamples 9 = .ok (.aload_n 0, 1) := by decide +kernel
theorem dX2_readSamples_10 : decode cX2_readSamples 10 = .ok (.getfield 42, 3) := by decide +kernel
theorem dX2_readSamples_13 : decode cX2_readSamples 13 = .ok (.if_icmp .ge 65, 3) := by decide +kernel
theorem dX2_readSamples_16 : decode cX2_readSamples 16 = .ok (.iload 6, 2) := by decide +kernel
theorem dX2_readSamples_18 : decode cX2_readSamples 18 = .ok (.aload_n 0, 1) := by decide +kernel
theorem dX2_readSamples_19 : decode cX2_readSamples 19 = .ok (.getfield 18, 3) := by decide +kernel
theorem dX2_readSamples_22 : decode cX2_readSamples 22 = .ok (.arraylength, 1) := by decide +kernel
theorem dX2_readSamples_23 : decode cX2_readSamples 23 = .ok (.if_icmp .ge 55, 3) := by decide +kernel
theorem dX2_readSamples_26 : decode cX2_readSamples 26 = .ok (.iload 6, 2) := by decide +kernel
theorem dX2_readSamples_28 : decode cX2_readSamples 28 = .ok (.aload_n 0, 1) := by decide +kernel
theorem dX2_readSamples_29 : decode cX2_readSamples 29 = .ok (.getfield 22, 3) := by decide +kernel
theorem dX2_readSamples_32 : decode cX2_readSamples 32 = .ok (.arraylength, 1) := by decide +kernel
theorem dX2_readSamples_33 : decode cX2_readSamples 33 = .ok (.if_icmp .ge 45, 3) := by decide +kernel
theorem dX2_readSamples_36 : decode cX2_readSamples 36 = .ok (.aload_n 0, 1) := by decide +kernel
theorem dX2_readSamples_37 : decode cX2_readSamples 37 = .ok (.getfield 18, 3) := by decide +kernel
theorem dX2_readSamples_40 : decode cX2_readSamples 40 = .ok (.iload 6, 2) := by decide +kernel
theorem dX2_readSamples_42 : decode cX2_readSamples 42 = .ok (.laload, 1) := by decide +kernel
theorem dX2_readSamples_43 : decode cX2_readSamples 43 = .ok (.lload_n 2, 1) := by decide +kernel
theorem dX2_readSamples_44 : decode cX2_readSamples 44 = .ok (.lcmp, 1) := by decide +kernel
theorem dX2_readSamples_45 : decode cX2_readSamples 45 = .ok (.ifCond .lt 27, 3) := by decide +kernel
theorem dX2_readSamples_48 : decode cX2_readSamples 48 = .ok (.aload_n 0, 1) := by decide +kernel
theorem dX2_readSamples_49 : decode cX2_readSamples 49 = .ok (.getfield 18, 3) := by decide +kernel
theorem dX2_readSamples_52 : decode cX2_readSamples 52 = .ok (.iload 6, 2) := by decide +kernel
theorem dX2_readSamples_54 : decode cX2_readSamples 54 = .ok (.laload, 1) := by decide +kernel
theorem dX2_readSamples_55 : decode cX2_readSamples 55 = .ok (.lload 4, 2) := by decide +kernel
theorem dX2_readSamples_57 : decode cX2_readSamples 57 = .ok (.lcmp, 1) := by decide +kernel
theorem dX2_readSamples_58 : decode cX2_readSamples 58 = .ok (.ifCond .gt 14, 3) := by decide +kernel
theorem dX2_readSamples_61 : decode cX2_readSamples 61 = .ok (.aload_n 1, 1) := by decide +kernel
theorem dX2_readSamples_62 : decode cX2_readSamples 62 = .ok (.aload_n 0, 1) := by decide +kernel
theorem dX2_readSamples_63 : decode cX2_readSamples 63 = .ok (.getfield 22, 3) := by decide +kernel
theorem dX2_readSamples_66 : decode cX2_readSamples 66 = .ok (.iload 6, 2) := by decide +kernel
theorem dX2_readSamples_68 : decode cX2_readSamples 68 = .ok (.iaload, 1) := by decide +kernel
theorem dX2_readSamples_69 : decode cX2_readSamples 69 = .ok (.invokevirtual 86, 3) := by decide +kernel
theorem dX2_readSamples_72 : decode cX2_readSamples 72 = .ok (.iinc 6 1, 3) := by decide +kernel
theorem dX2_readSamples_75 : decode cX2_readSamples 75 = .ok (.goto (-68), 3) := by decide +kernel
theorem dX2_readSamples_78 : decode cX2_readSamples 78 = .ok (.return_, 1) := by decide +kernel
theorem dX2_readRollupsInside_0 : decode cX2_readRollupsInside 0 = .ok (.aload_n 1, 1) := by decide +kernel
theorem dX2_readRollupsInside_1 : decode cX2_readRollupsInside 1 = .ok (.invokevirtual 77, 3) := by decide +kernel
theorem dX2_readRollupsInside_4 : decode cX2_readRollupsInside 4 = .ok (.iconst 0, 1) := by decide +kernel
theorem dX2_readRollupsInside_5 : decode cX2_readRollupsInside 5 = .ok (.istore 6, 2) := by decide +kernel
theorem dX2_readRollupsInside_7 : decode cX2_readRollupsInside 7 = .ok (.iload 6, 2) := by decide +kernel
theorem dX2_readRollupsInside_9 : decode cX2_readRollupsInside 9 = .ok (.aload_n 0, 1) := by decide +kernel
theorem dX2_readRollupsInside_10 : decode cX2_readRollupsInside 10 = .ok (.getfield 42, 3) := by decide +kernel
theorem dX2_readRollupsInside_13 : decode cX2_readRollupsInside 13 = .ok (.if_icmp .ge 73, 3) := by decide +kernel
theorem dX2_readRollupsInside_16 : decode cX2_readRollupsInside 16 = .ok (.iload 6, 2) := by decide +kernel
theorem dX2_readRollupsInside_18 : decode cX2_readRollupsInside 18 = .ok (.aload_n 0, 1) := by decide +kernel
theorem dX2_readRollupsInside_19 : decode cX2_readRollupsInside 19 = .ok (.getfield 18, 3) := by decide +kernel
theorem dX2_readRollupsInside_22 : decode cX2_readRollupsInside 22 = .ok (.arraylength, 1) := by decide +kernel
theorem dX2_readRollupsInside_23 : decode cX2_readRollupsInside 23 = .ok (.if_icmp .ge 63, 3) := by decide +kernel
theorem dX2_readRollupsInside_26 : decode cX2_readRollupsInside 26 = .ok (.iload 6, 2) := by decide +kernel
theorem dX2_readRollupsInside_28 : decode cX2_readRollupsInside 28 = .ok (.aload_n 0, 1) := by decide +kernel
theorem dX2_readRollupsInside_29 : decode cX2_readRollupsInside 29 = .ok (.getfield 22, 3) := by decide +kernel
theorem dX2_readRollupsInside_32 : decode cX2_readRollupsInside 32 = .ok (.arraylength, 1) := by decide +kernel
theorem dX2_readRollupsInside_33 : decode cX2_readRollupsInside 33 = .ok (.if_icmp .ge 53, 3) := by decide +kernel
theorem dX2_readRollupsInside_36 : decode cX2_readRollupsInside 36 = .ok (.aload_n 0, 1) := by decide +kernel
theorem dX2_readRollupsInside_37 : decode cX2_readRollupsInside 37 = .ok (.getfield 18, 3) := by decide +kernel
theorem dX2_readRollupsInside_40 : decode cX2_readRollupsInside 40 = .ok (.iload 6, 2) := by decide +kernel
theorem dX2_readRollupsInside_42 : decode cX2_readRollupsInside 42 = .ok (.laload, 1) := by decide +kernel
theorem dX2_readRollupsInside_43 : decode cX2_readRollupsInside 43 = .ok (.invokestatic 87, 3) := by decide +kernel
theorem dX2_readRollupsInside_46 : decode cX2_readRollupsInside 46 = .ok (.lstore 7, 2) := by decide +kernel
theorem dX2_readRollupsInside_48 : decode cX2_readRollupsInside 48 = .ok (.lload 7, 2) := by decide +kernel
theorem dX2_readRollupsInside_50 : decode cX2_readRollupsInside 50 = .ok (.lload_n 2, 1) := by decide +kernel
theorem dX2_readRollupsInside_51 : decode cX2_readRollupsInside 51 = .ok (.lcmp, 1) := by decide +kernel
theorem dX2_readRollupsInside_52 : decode cX2_readRollupsInside 52 = .ok (.ifCond .lt 28, 3) := by decide +kernel
theorem dX2_readRollupsInside_55 : decode cX2_readRollupsInside 55 = .ok (.lload 7, 2) := by decide +kernel
theorem dX2_readRollupsInside_57 : decode cX2_readRollupsInside 57 = .ok (.ldc2_w 91, 3) := by decide +kernel
theorem dX2_readRollupsInside_60 : decode cX2_readRollupsInside 60 = .ok (.ladd, 1) := by decide +kernel
theorem dX2_readRollupsInside_61 : decode cX2_readRollupsInside 61 = .ok (.lconst 1, 1) := by decide +kernel
theorem dX2_readRollupsInside_62 : decode cX2_readRollupsInside 62 = .ok (.lsub, 1) := by decide +kernel
theorem dX2_readRollupsInside_63 : decode cX2_readRollupsInside 63 = .ok (.lload 4, 2) := by decide +kernel
theorem dX2_readRollupsInside_65 : decode cX2_readRollupsInside 65 = .ok (.lcmp, 1) := by decide +kernel
theorem dX2_readRollupsInside_66 : decode cX2_readRollupsInside 66 = .ok (.ifCond .gt 14, 3) := by decide +kernel
theorem dX2_readRollupsInside_69 : decode cX2_readRollupsInside 69 = .ok (.aload_n 1, 1) := by decide +kernel
theorem dX2_readRollupsInside_70 : decode cX2_readRollupsInside 70 = .ok (.aload_n 0, 1) := by decide +kernel
theorem dX2_readRollupsInside_71 : decode cX2_readRollupsInside 71 = .ok (.getfield 22, 3) := by decide +kernel
theorem dX2_readRollupsInside_74 : decode cX2_readRollupsInside 74 = .ok (.iload 6, 2) := by decide +kernel
theorem dX2_readRollupsInside_76 : decode cX2_readRollupsInside 76 = .ok (.iaload, 1) := by decide +kernel
theorem dX2_readRollupsInside_77 : decode cX2_readRollupsInside 77 = .ok (.invokevirtual 86, 3) := by decide +kernel
theorem dX2_readRollupsInside_80 : decode cX2_readRollupsInside 80 = .ok (.iinc 6 1, 3) := by decide +kernel
theorem dX2_readRollupsInside_83 : decode cX2_readRollupsInside 83 = .ok (.goto (-76), 3) := by decide +kernel
theorem dX2_readRollupsInside_86 : decode cX2_readRollupsInside 86 = .ok (.return_, 1) := by decide +kernel
theorem dX2_readRollupsTouching_0 : decode cX2_readRollupsTouching 0 = .ok (.aload_n 1, 1) := by decide +kernel
theorem dX2_readRollupsTouching_1 : decode cX2_readRollupsTouching 1 = .ok (.invokevirtual 77, 3) := by decide +kernel
theorem dX2_readRollupsTouching_4 : decode cX2_readRollupsTouching 4 = .ok (.iconst 0, 1) := by decide +kernel
theorem dX2_readRollupsTouching_5 : decode cX2_readRollupsTouching 5 = .ok (.istore 6, 2) := by decide +kernel
theorem dX2_readRollupsTouching_7 : decode cX2_readRollupsTouching 7 = .ok (.iload 6, 2) := by decide +kernel
theorem dX2_readRollupsTouching_9 : decode cX2_readRollupsTouching 9 = .ok (.aload_n 0, 1) := by decide +kernel
theorem dX2_readRollupsTouching_10 : decode cX2_readRollupsTouching 10 = .ok (.getfield 42, 3) := by decide +kernel
theorem dX2_readRollupsTouching_13 : decode cX2_readRollupsTouching 13 = .ok (.if_icmp .ge 73, 3) := by decide +kernel
theorem dX2_readRollupsTouching_16 : decode cX2_readRollupsTouching 16 = .ok (.iload 6, 2) := by decide +kernel
theorem dX2_readRollupsTouching_18 : decode cX2_readRollupsTouching 18 = .ok (.aload_n 0, 1) := by decide +kernel
theorem dX2_readRollupsTouching_19 : decode cX2_readRollupsTouching 19 = .ok (.getfield 18, 3) := by decide +kernel
theorem dX2_readRollupsTouching_22 : decode cX2_readRollupsTouching 22 = .ok (.arraylength, 1) := by decide +kernel
theorem dX2_readRollupsTouching_23 : decode cX2_readRollupsTouching 23 = .ok (.if_icmp .ge 63, 3) := by decide +kernel
theorem dX2_readRollupsTouching_26 : decode cX2_readRollupsTouching 26 = .ok (.iload 6, 2) := by decide +kernel
theorem dX2_readRollupsTouching_28 : decode cX2_readRollupsTouching 28 = .ok (.aload_n 0, 1) := by decide +kernel
theorem dX2_readRollupsTouching_29 : decode cX2_readRollupsTouching 29 = .ok (.getfield 22, 3) := by decide +kernel
theorem dX2_readRollupsTouching_32 : decode cX2_readRollupsTouching 32 = .ok (.arraylength, 1) := by decide +kernel
theorem dX2_readRollupsTouching_33 : decode cX2_readRollupsTouching 33 = .ok (.if_icmp .ge 53, 3) := by decide +kernel
theorem dX2_readRollupsTouching_36 : decode cX2_readRollupsTouching 36 = .ok (.aload_n 0, 1) := by decide +kernel
theorem dX2_readRollupsTouching_37 : decode cX2_readRollupsTouching 37 = .ok (.getfield 18, 3) := by decide +kernel
theorem dX2_readRollupsTouching_40 : decode cX2_readRollupsTouching 40 = .ok (.iload 6, 2) := by decide +kernel
theorem dX2_readRollupsTouching_42 : decode cX2_readRollupsTouching 42 = .ok (.laload, 1) := by decide +kernel
theorem dX2_readRollupsTouching_43 : decode cX2_readRollupsTouching 43 = .ok (.invokestatic 87, 3) := by decide +kernel
theorem dX2_readRollupsTouching_46 : decode cX2_readRollupsTouching 46 = .ok (.lstore 7, 2) := by decide +kernel
theorem dX2_readRollupsTouching_48 : decode cX2_readRollupsTouching 48 = .ok (.lload 7, 2) := by decide +kernel
theorem dX2_readRollupsTouching_50 : decode cX2_readRollupsTouching 50 = .ok (.ldc2_w 91, 3) := by decide +kernel
theorem dX2_readRollupsTouching_53 : decode cX2_readRollupsTouching 53 = .ok (.ladd, 1) := by decide +kernel
theorem dX2_readRollupsTouching_54 : decode cX2_readRollupsTouching 54 = .ok (.lconst 1, 1) := by decide +kernel
theorem dX2_readRollupsTouching_55 : decode cX2_readRollupsTouching 55 = .ok (.lsub, 1) := by decide +kernel
theorem dX2_readRollupsTouching_56 : decode cX2_readRollupsTouching 56 = .ok (.lload_n 2, 1) := by decide +kernel
theorem dX2_readRollupsTouching_57 : decode cX2_readRollupsTouching 57 = .ok (.lcmp, 1) := by decide +kernel
theorem dX2_readRollupsTouching_58 : decode cX2_readRollupsTouching 58 = .ok (.ifCond .lt 22, 3) := by decide +kernel
theorem dX2_readRollupsTouching_61 : decode cX2_readRollupsTouching 61 = .ok (.lload 7, 2) := by decide +kernel
theorem dX2_readRollupsTouching_63 : decode cX2_readRollupsTouching 63 = .ok (.lload 4, 2) := by decide +kernel
theorem dX2_readRollupsTouching_65 : decode cX2_readRollupsTouching 65 = .ok (.lcmp, 1) := by decide +kernel
theorem dX2_readRollupsTouching_66 : decode cX2_readRollupsTouching 66 = .ok (.ifCond .gt 14, 3) := by decide +kernel
theorem dX2_readRollupsTouching_69 : decode cX2_readRollupsTouching 69 = .ok (.aload_n 1, 1) := by decide +kernel
theorem dX2_readRollupsTouching_70 : decode cX2_readRollupsTouching 70 = .ok (.aload_n 0, 1) := by decide +kernel
theorem dX2_readRollupsTouching_71 : decode cX2_readRollupsTouching 71 = .ok (.getfield 22, 3) := by decide +kernel
theorem dX2_readRollupsTouching_74 : decode cX2_readRollupsTouching 74 = .ok (.iload 6, 2) := by decide +kernel
theorem dX2_readRollupsTouching_76 : decode cX2_readRollupsTouching 76 = .ok (.iaload, 1) := by decide +kernel
theorem dX2_readRollupsTouching_77 : decode cX2_readRollupsTouching 77 = .ok (.invokevirtual 86, 3) := by decide +kernel
theorem dX2_readRollupsTouching_80 : decode cX2_readRollupsTouching 80 = .ok (.iinc 6 1, 3) := by decide +kernel
theorem dX2_readRollupsTouching_83 : decode cX2_readRollupsTouching 83 = .ok (.goto (-76), 3) := by decide +kernel
theorem dX2_readRollupsTouching_86 : decode cX2_readRollupsTouching 86 = .ok (.return_, 1) := by decide +kernel
theorem dX2_rollupStart_0 : decode cX2_rollupStart 0 = .ok (.lload_n 0, 1) := by decide +kernel
theorem dX2_rollupStart_1 : decode cX2_rollupStart 1 = .ok (.lload_n 0, 1) := by decide +kernel
theorem dX2_rollupStart_2 : decode cX2_rollupStart 2 = .ok (.ldc2_w 91, 3) := by decide +kernel
theorem dX2_rollupStart_5 : decode cX2_rollupStart 5 = .ok (.lrem, 1) := by decide +kernel
theorem dX2_rollupStart_6 : decode cX2_rollupStart 6 = .ok (.lsub, 1) := by decide +kernel
theorem dX2_rollupStart_7 : decode cX2_rollupStart 7 = .ok (.lreturn, 1) := by decide +kernel
theorem dX2_targetOf_0 : decode cX2_targetOf 0 = .ok (.iload_n 1, 1) := by decide +kernel
theorem dX2_targetOf_1 : decode cX2_targetOf 1 = .ok (.aload_n 0, 1) := by decide +kernel
theorem dX2_targetOf_2 : decode cX2_targetOf 2 = .ok (.getfield 42, 3) := by decide +kernel
theorem dX2_targetOf_5 : decode cX2_targetOf 5 = .ok (.imul, 1) := by decide +kernel
theorem dX2_targetOf_6 : decode cX2_targetOf 6 = .ok (.bipush 99, 2) := by decide +kernel
theorem dX2_targetOf_8 : decode cX2_targetOf 8 = .ok (.iadd, 1) := by decide +kernel
theorem dX2_targetOf_9 : decode cX2_targetOf 9 = .ok (.bipush 100, 2) := by decide +kernel
theorem dX2_targetOf_11 : decode cX2_targetOf 11 = .ok (.idiv, 1) := by decide +kernel
theorem dX2_targetOf_12 : decode cX2_targetOf 12 = .ok (.ireturn, 1) := by decide +kernel
theorem dX2_leastReaching_0 : decode cX2_leastReaching 0 = .ok (.iload_n 1, 1) := by decide +kernel
theorem dX2_leastReaching_1 : decode cX2_leastReaching 1 = .ok (.iconst 1, 1) := by decide +kernel
theorem dX2_leastReaching_2 : decode cX2_leastReaching 2 = .ok (.if_icmp .lt 23, 3) := by decide +kernel
theorem dX2_leastReaching_5 : decode cX2_leastReaching 5 = .ok (.iload_n 1, 1) := by decide +kernel
theorem dX2_leastReaching_6 : decode cX2_leastReaching 6 = .ok (.aload_n 0, 1) := by decide +kernel
theorem dX2_leastReaching_7 : decode cX2_leastReaching 7 = .ok (.getfield 26, 3) := by decide +kernel
theorem dX2_leastReaching_10 : decode cX2_leastReaching 10 = .ok (.arraylength, 1) := by decide +kernel
theorem dX2_leastReaching_11 : decode cX2_leastReaching 11 = .ok (.if_icmp .gt 14, 3) := by decide +kernel
theorem dX2_leastReaching_14 : decode cX2_leastReaching 14 = .ok (.aload_n 0, 1) := by decide +kernel
theorem dX2_leastReaching_15 : decode cX2_leastReaching 15 = .ok (.getfield 26, 3) := by decide +kernel
theorem dX2_leastReaching_18 : decode cX2_leastReaching 18 = .ok (.iload_n 1, 1) := by decide +kernel
theorem dX2_leastReaching_19 : decode cX2_leastReaching 19 = .ok (.iconst 1, 1) := by decide +kernel
theorem dX2_leastReaching_20 : decode cX2_leastReaching 20 = .ok (.isub, 1) := by decide +kernel
theorem dX2_leastReaching_21 : decode cX2_leastReaching 21 = .ok (.iaload, 1) := by decide +kernel
theorem dX2_leastReaching_22 : decode cX2_leastReaching 22 = .ok (.goto 4, 3) := by decide +kernel
theorem dX2_leastReaching_25 : decode cX2_leastReaching 25 = .ok (.iconst 0, 1) := by decide +kernel
theorem dX2_leastReaching_26 : decode cX2_leastReaching 26 = .ok (.ireturn, 1) := by decide +kernel
theorem dX2_sketchIsWithin_0 : decode cX2_sketchIsWithin 0 = .ok (.aload_n 0, 1) := by decide +kernel
theorem dX2_sketchIsWithin_1 : decode cX2_sketchIsWithin 1 = .ok (.iload_n 1, 1) := by decide +kernel
theorem dX2_sketchIsWithin_2 : decode cX2_sketchIsWithin 2 = .ok (.invokevirtual 93, 3) := by decide +kernel
theorem dX2_sketchIsWithin_5 : decode cX2_sketchIsWithin 5 = .ok (.istore_n 2, 1) := by decide +kernel
theorem dX2_sketchIsWithin_6 : decode cX2_sketchIsWithin 6 = .ok (.aload_n 0, 1) := by decide +kernel
theorem dX2_sketchIsWithin_7 : decode cX2_sketchIsWithin 7 = .ok (.getfield 38, 3) := by decide +kernel
theorem dX2_sketchIsWithin_10 : decode cX2_sketchIsWithin 10 = .ok (.iload_n 2, 1) := by decide +kernel
theorem dX2_sketchIsWithin_11 : decode cX2_sketchIsWithin 11 = .ok (.invokevirtual 97, 3) := by decide +kernel
theorem dX2_sketchIsWithin_14 : decode cX2_sketchIsWithin 14 = .ok (.istore_n 3, 1) := by decide +kernel
theorem dX2_sketchIsWithin_15 : decode cX2_sketchIsWithin 15 = .ok (.aload_n 0, 1) := by decide +kernel
theorem dX2_sketchIsWithin_16 : decode cX2_sketchIsWithin 16 = .ok (.iload_n 3, 1) := by decide +kernel
theorem dX2_sketchIsWithin_17 : decode cX2_sketchIsWithin 17 = .ok (.invokevirtual 100, 3) := by decide +kernel
theorem dX2_sketchIsWithin_20 : decode cX2_sketchIsWithin 20 = .ok (.iload_n 2, 1) := by decide +kernel
theorem dX2_sketchIsWithin_21 : decode cX2_sketchIsWithin 21 = .ok (.aload_n 0, 1) := by decide +kernel
theorem dX2_sketchIsWithin_22 : decode cX2_sketchIsWithin 22 = .ok (.getfield 38, 3) := by decide +kernel
theorem dX2_sketchIsWithin_25 : decode cX2_sketchIsWithin 25 = .ok (.getfield 103, 3) := by decide +kernel
theorem dX2_sketchIsWithin_28 : decode cX2_sketchIsWithin 28 = .ok (.isub, 1) := by decide +kernel
theorem dX2_sketchIsWithin_29 : decode cX2_sketchIsWithin 29 = .ok (.if_icmp .lt 26, 3) := by decide +kernel
theorem dX2_sketchIsWithin_32 : decode cX2_sketchIsWithin 32 = .ok (.aload_n 0, 1) := by decide +kernel
theorem dX2_sketchIsWithin_33 : decode cX2_sketchIsWithin 33 = .ok (.iload_n 3, 1) := by decide +kernel
theorem dX2_sketchIsWithin_34 : decode cX2_sketchIsWithin 34 = .ok (.iconst 1, 1) := by decide +kernel
theorem dX2_sketchIsWithin_35 : decode cX2_sketchIsWithin 35 = .ok (.isub, 1) := by decide +kernel
theorem dX2_sketchIsWithin_36 : decode cX2_sketchIsWithin 36 = .ok (.invokevirtual 100, 3) := by decide +kernel
theorem dX2_sketchIsWithin_39 : decode cX2_sketchIsWithin 39 = .ok (.iload_n 2, 1) := by decide +kernel
theorem dX2_sketchIsWithin_40 : decode cX2_sketchIsWithin 40 = .ok (.aload_n 0, 1) := by decide +kernel
theorem dX2_sketchIsWithin_41 : decode cX2_sketchIsWithin 41 = .ok (.getfield 38, 3) := by decide +kernel
theorem dX2_sketchIsWithin_44 : decode cX2_sketchIsWithin 44 = .ok (.getfield 103, 3) := by decide +kernel
theorem dX2_sketchIsWithin_47 : decode cX2_sketchIsWithin 47 = .ok (.iadd, 1) := by decide +kernel
theorem dX2_sketchIsWithin_48 : decode cX2_sketchIsWithin 48 = .ok (.if_icmp .ge 7, 3) := by decide +kernel
theorem dX2_sketchIsWithin_51 : decode cX2_sketchIsWithin 51 = .ok (.iconst 1, 1) := by decide +kernel
theorem dX2_sketchIsWithin_52 : decode cX2_sketchIsWithin 52 = .ok (.goto 4, 3) := by decide +kernel
theorem dX2_sketchIsWithin_55 : decode cX2_sketchIsWithin 55 = .ok (.iconst 0, 1) := by decide +kernel
theorem dX2_sketchIsWithin_56 : decode cX2_sketchIsWithin 56 = .ok (.ireturn, 1) := by decide +kernel
theorem dX2_samplesUpTo_0 : decode cX2_samplesUpTo 0 = .ok (.iconst 0, 1) := by decide +kernel
theorem dX2_samplesUpTo_1 : decode cX2_samplesUpTo 1 = .ok (.istore_n 2, 1) := by decide +kernel
theorem dX2_samplesUpTo_2 : decode cX2_samplesUpTo 2 = .ok (.iload_n 2, 1) := by decide +kernel
theorem dX2_samplesUpTo_3 : decode cX2_samplesUpTo 3 = .ok (.aload_n 0, 1) := by decide +kernel
theorem dX2_samplesUpTo_4 : decode cX2_samplesUpTo 4 = .ok (.getfield 42, 3) := by decide +kernel
theorem dX2_samplesUpTo_7 : decode cX2_samplesUpTo 7 = .ok (.if_icmp .ge 28, 3) := by decide +kernel
theorem dX2_samplesUpTo_10 : decode cX2_samplesUpTo 10 = .ok (.iload_n 2, 1) := by decide +kernel
theorem dX2_samplesUpTo_11 : decode cX2_samplesUpTo 11 = .ok (.aload_n 0, 1) := by decide +kernel
theorem dX2_samplesUpTo_12 : decode cX2_samplesUpTo 12 = .ok (.getfield 26, 3) := by decide +kernel
theorem dX2_samplesUpTo_15 : decode cX2_samplesUpTo 15 = .ok (.arraylength, 1) := by decide +kernel
theorem dX2_samplesUpTo_16 : decode cX2_samplesUpTo 16 = .ok (.if_icmp .ge 19, 3) := by decide +kernel
theorem dX2_samplesUpTo_19 : decode cX2_samplesUpTo 19 = .ok (.aload_n 0, 1) := by decide +kernel
theorem dX2_samplesUpTo_20 : decode cX2_samplesUpTo 20 = .ok (.getfield 26, 3) := by decide +kernel
theorem dX2_samplesUpTo_23 : decode cX2_samplesUpTo 23 = .ok (.iload_n 2, 1) := by decide +kernel
theorem dX2_samplesUpTo_24 : decode cX2_samplesUpTo 24 = .ok (.iaload, 1) := by decide +kernel
theorem dX2_samplesUpTo_25 : decode cX2_samplesUpTo 25 = .ok (.iload_n 1, 1) := by decide +kernel
theorem dX2_samplesUpTo_26 : decode cX2_samplesUpTo 26 = .ok (.if_icmp .gt 9, 3) := by decide +kernel
theorem dX2_samplesUpTo_29 : decode cX2_samplesUpTo 29 = .ok (.iinc 2 1, 3) := by decide +kernel
theorem dX2_samplesUpTo_32 : decode cX2_samplesUpTo 32 = .ok (.goto (-30), 3) := by decide +kernel
theorem dX2_samplesUpTo_35 : decode cX2_samplesUpTo 35 = .ok (.iload_n 2, 1) := by decide +kernel
theorem dX2_samplesUpTo_36 : decode cX2_samplesUpTo 36 = .ok (.ireturn, 1) := by decide +kernel
theorem dX2_holdsTogether_0 : decode cX2_holdsTogether 0 = .ok (.aload_n 0, 1) := by decide +kernel
theorem dX2_holdsTogether_1 : decode cX2_holdsTogether 1 = .ok (.invokevirtual 106, 3) := by decide +kernel
theorem dX2_holdsTogether_4 : decode cX2_holdsTogether 4 = .ok (.ifCond .eq 58, 3) := by decide +kernel
theorem dX2_holdsTogether_7 : decode cX2_holdsTogether 7 = .ok (.aload_n 0, 1) := by decide +kernel
theorem dX2_holdsTogether_8 : decode cX2_holdsTogether 8 = .ok (.getfield 38, 3) := by decide +kernel
theorem dX2_holdsTogether_11 : decode cX2_holdsTogether 11 = .ok (.sipush 10000, 3) := by decide +kernel
theorem dX2_holdsTogether_14 : decode cX2_holdsTogether 14 = .ok (.invokevirtual 109, 3) := by decide +kernel
theorem dX2_holdsTogether_17 : decode cX2_holdsTogether 17 = .ok (.aload_n 0, 1) := by decide +kernel
theorem dX2_holdsTogether_18 : decode cX2_holdsTogether 18 = .ok (.getfield 42, 3) := by decide +kernel
theorem dX2_holdsTogether_21 : decode cX2_holdsTogether 21 = .ok (.if_icmp .ne 41, 3) := by decide +kernel
theorem dX2_holdsTogether_24 : decode cX2_holdsTogether 24 = .ok (.aload_n 0, 1) := by decide +kernel
theorem dX2_holdsTogether_25 : decode cX2_holdsTogether 25 = .ok (.getfield 42, 3) := by decide +kernel
theorem dX2_holdsTogether_28 : decode cX2_holdsTogether 28 = .ok (.ifCond .eq 30, 3) := by decide +kernel
theorem dX2_holdsTogether_31 : decode cX2_holdsTogether 31 = .ok (.aload_n 0, 1) := by decide +kernel
theorem dX2_holdsTogether_32 : decode cX2_holdsTogether 32 = .ok (.bipush 10, 2) := by decide +kernel
theorem dX2_holdsTogether_34 : decode cX2_holdsTogether 34 = .ok (.invokevirtual 112, 3) := by decide +kernel
theorem dX2_holdsTogether_37 : decode cX2_holdsTogether 37 = .ok (.ifCond .eq 25, 3) := by decide +kernel
theorem dX2_holdsTogether_40 : decode cX2_holdsTogether 40 = .ok (.aload_n 0, 1) := by decide +kernel
theorem dX2_holdsTogether_41 : decode cX2_holdsTogether 41 = .ok (.bipush 50, 2) := by decide +kernel
theorem dX2_holdsTogether_43 : decode cX2_holdsTogether 43 = .ok (.invokevirtual 112, 3) := by decide +kernel
theorem dX2_holdsTogether_46 : decode cX2_holdsTogether 46 = .ok (.ifCond .eq 16, 3) := by decide +kernel
theorem dX2_holdsTogether_49 : decode cX2_holdsTogether 49 = .ok (.aload_n 0, 1) := by decide +kernel
theorem dX2_holdsTogether_50 : decode cX2_holdsTogether 50 = .ok (.bipush 90, 2) := by decide +kernel
theorem dX2_holdsTogether_52 : decode cX2_holdsTogether 52 = .ok (.invokevirtual 112, 3) := by decide +kernel
theorem dX2_holdsTogether_55 : decode cX2_holdsTogether 55 = .ok (.ifCond .eq 7, 3) := by decide +kernel
theorem dX2_holdsTogether_58 : decode cX2_holdsTogether 58 = .ok (.iconst 1, 1) := by decide +kernel
theorem dX2_holdsTogether_59 : decode cX2_holdsTogether 59 = .ok (.goto 4, 3) := by decide +kernel
theorem dX2_holdsTogether_62 : decode cX2_holdsTogether 62 = .ok (.iconst 0, 1) := by decide +kernel
theorem dX2_holdsTogether_63 : decode cX2_holdsTogether 63 = .ok (.ireturn, 1) := by decide +kernel
theorem dX2_blocksTellWhatCame_0 : decode cX2_blocksTellWhatCame 0 = .ok (.iconst 0, 1) := by decide +kernel
theorem dX2_blocksTellWhatCame_1 : decode cX2_blocksTellWhatCame 1 = .ok (.istore_n 1, 1) := by decide +kernel
theorem dX2_blocksTellWhatCame_2 : decode cX2_blocksTellWhatCame 2 = .ok (.iload_n 1, 1) := by decide +kernel
theorem dX2_blocksTellWhatCame_3 : decode cX2_blocksTellWhatCame 3 = .ok (.aload_n 0, 1) := by decide +kernel
theorem dX2_blocksTellWhatCame_4 : decode cX2_blocksTellWhatCame 4 = .ok (.getfield 42, 3) := by decide +kernel
theorem dX2_blocksTellWhatCame_7 : decode cX2_blocksTellWhatCame 7 = .ok (.if_icmp .ge 76, 3) := by decide +kernel
theorem dX2_blocksTellWhatCame_10 : decode cX2_blocksTellWhatCame 10 = .ok (.iload_n 1, 1) := by decide +kernel
theorem dX2_blocksTellWhatCame_11 : decode cX2_blocksTellWhatCame 11 = .ok (.aload_n 0, 1) := by decide +kernel
theorem dX2_blocksTellWhatCame_12 : decode cX2_blocksTellWhatCame 12 = .ok (.getfield 18, 3) := by decide +kernel
theorem dX2_blocksTellWhatCame_15 : decode cX2_blocksTellWhatCame 15 = .ok (.arraylength, 1) := by decide +kernel
theorem dX2_blocksTellWhatCame_16 : decode cX2_blocksTellWhatCame 16 = .ok (.if_icmp .ge 67, 3) := by decide +kernel
theorem dX2_blocksTellWhatCame_19 : decode cX2_blocksTellWhatCame 19 = .ok (.iload_n 1, 1) := by decide +kernel
theorem dX2_blocksTellWhatCame_20 : decode cX2_blocksTellWhatCame 20 = .ok (.aload_n 0, 1) := by decide +kernel
theorem dX2_blocksTellWhatCame_21 : decode cX2_blocksTellWhatCame 21 = .ok (.getfield 22, 3) := by decide +kernel
theorem dX2_blocksTellWhatCame_24 : decode cX2_blocksTellWhatCame 24 = .ok (.arraylength, 1) := by decide +kernel
theorem dX2_blocksTellWhatCame_25 : decode cX2_blocksTellWhatCame 25 = .ok (.if_icmp .ge 58, 3) := by decide +kernel
theorem dX2_blocksTellWhatCame_28 : decode cX2_blocksTellWhatCame 28 = .ok (.aload_n 0, 1) := by decide +kernel
theorem dX2_blocksTellWhatCame_29 : decode cX2_blocksTellWhatCame 29 = .ok (.iload_n 1, 1) := by decide +kernel
theorem dX2_blocksTellWhatCame_30 : decode cX2_blocksTellWhatCame 30 = .ok (.bipush 8, 2) := by decide +kernel
theorem dX2_blocksTellWhatCame_32 : decode cX2_blocksTellWhatCame 32 = .ok (.idiv, 1) := by decide +kernel
theorem dX2_blocksTellWhatCame_33 : decode cX2_blocksTellWhatCame 33 = .ok (.invokevirtual 116, 3) := by decide +kernel
theorem dX2_blocksTellWhatCame_36 : decode cX2_blocksTellWhatCame 36 = .ok (.astore_n 2, 1) := by decide +kernel
theorem dX2_blocksTellWhatCame_37 : decode cX2_blocksTellWhatCame 37 = .ok (.iload_n 1, 1) := by decide +kernel
theorem dX2_blocksTellWhatCame_38 : decode cX2_blocksTellWhatCame 38 = .ok (.bipush 8, 2) := by decide +kernel
theorem dX2_blocksTellWhatCame_40 : decode cX2_blocksTellWhatCame 40 = .ok (.irem, 1) := by decide +kernel
theorem dX2_blocksTellWhatCame_41 : decode cX2_blocksTellWhatCame 41 = .ok (.istore_n 3, 1) := by decide +kernel
theorem dX2_blocksTellWhatCame_42 : decode cX2_blocksTellWhatCame 42 = .ok (.aload_n 2, 1) := by decide +kernel
theorem dX2_blocksTellWhatCame_43 : decode cX2_blocksTellWhatCame 43 = .ok (.ifnull 32, 3) := by decide +kernel
theorem dX2_blocksTellWhatCame_46 : decode cX2_blocksTellWhatCame 46 = .ok (.aload_n 2, 1) := by decide +kernel
theorem dX2_blocksTellWhatCame_47 : decode cX2_blocksTellWhatCame 47 = .ok (.iload_n 3, 1) := by decide +kernel
theorem dX2_blocksTellWhatCame_48 : decode cX2_blocksTellWhatCame 48 = .ok (.invokevirtual 120, 3) := by decide +kernel
theorem dX2_blocksTellWhatCame_51 : decode cX2_blocksTellWhatCame 51 = .ok (.aload_n 0, 1) := by decide +kernel
theorem dX2_blocksTellWhatCame_52 : decode cX2_blocksTellWhatCame 52 = .ok (.getfield 18, 3) := by decide +kernel
theorem dX2_blocksTellWhatCame_55 : decode cX2_blocksTellWhatCame 55 = .ok (.iload_n 1, 1) := by decide +kernel
theorem dX2_blocksTellWhatCame_56 : decode cX2_blocksTellWhatCame 56 = .ok (.laload, 1) := by decide +kernel
theorem dX2_blocksTellWhatCame_57 : decode cX2_blocksTellWhatCame 57 = .ok (.lcmp, 1) := by decide +kernel
theorem dX2_blocksTellWhatCame_58 : decode cX2_blocksTellWhatCame 58 = .ok (.ifCond .ne 17, 3) := by decide +kernel
theorem dX2_blocksTellWhatCame_61 : decode cX2_blocksTellWhatCame 61 = .ok (.aload_n 2, 1) := by decide +kernel
theorem dX2_blocksTellWhatCame_62 : decode cX2_blocksTellWhatCame 62 = .ok (.iload_n 3, 1) := by decide +kernel
theorem dX2_blocksTellWhatCame_63 : decode cX2_blocksTellWhatCame 63 = .ok (.invokevirtual 124, 3) := by decide +kernel
theorem dX2_blocksTellWhatCame_66 : decode cX2_blocksTellWhatCame 66 = .ok (.aload_n 0, 1) := by decide +kernel
theorem dX2_blocksTellWhatCame_67 : decode cX2_blocksTellWhatCame 67 = .ok (.getfield 22, 3) := by decide +kernel
theorem dX2_blocksTellWhatCame_70 : decode cX2_blocksTellWhatCame 70 = .ok (.iload_n 1, 1) := by decide +kernel
theorem dX2_blocksTellWhatCame_71 : decode cX2_blocksTellWhatCame 71 = .ok (.iaload, 1) := by decide +kernel
theorem dX2_blocksTellWhatCame_72 : decode cX2_blocksTellWhatCame 72 = .ok (.if_icmp .eq 5, 3) := by decide +kernel
theorem dX2_blocksTellWhatCame_75 : decode cX2_blocksTellWhatCame 75 = .ok (.iconst 0, 1) := by decide +kernel
theorem dX2_blocksTellWhatCame_76 : decode cX2_blocksTellWhatCame 76 = .ok (.ireturn, 1) := by decide +kernel
theorem dX2_blocksTellWhatCame_77 : decode cX2_blocksTellWhatCame 77 = .ok (.iinc 1 1, 3) := by decide +kernel
theorem dX2_blocksTellWhatCame_80 : decode cX2_blocksTellWhatCame 80 = .ok (.goto (-78), 3) := by decide +kernel
theorem dX2_blocksTellWhatCame_83 : decode cX2_blocksTellWhatCame 83 = .ok (.iconst 1, 1) := by decide +kernel
theorem dX2_blocksTellWhatCame_84 : decode cX2_blocksTellWhatCame 84 = .ok (.ireturn, 1) := by decide +kernel
end
section
theorem dX3_init_0 : decode cX3_init 0 = .ok (.aload_n 0, 1) := by decide +kernel
theorem dX3_init_1 : decode cX3_init 1 = .ok (.invokespecial 3, 3) := by decide +kernel
theorem dX3_init_4 : decode cX3_init 4 = .ok (.aload_n 0, 1) := by decide +kernel
theorem dX3_init_5 : decode cX3_init 5 = .ok (.iconst 5, 1) := by decide +kernel
theorem dX3_init_6 : decode cX3_init 6 = .ok (.bipush 8, 2) := by decide +kernel
theorem dX3_init_8 : decode cX3_init 8 = .ok (.multianewarray 9 2, 4) := by decide +kernel
theorem dX3_init_12 : decode cX3_init 12 = .ok (.putfield 11, 3) := by decide +kernel
theorem dX3_init_15 : decode cX3_init 15 = .ok (.aload_n 0, 1) := by decide +kernel
theorem dX3_init_16 : decode cX3_init 16 = .ok (.iconst 5, 1) := by decide +kernel
theorem dX3_init_17 : decode cX3_init 17 = .ok (.newarray .int, 2) := by decide +kernel
theorem dX3_init_19 : decode cX3_init 19 = .ok (.putfield 16, 3) := by decide +kernel
theorem dX3_init_22 : decode cX3_init 22 = .ok (.aload_n 0, 1) := by decide +kernel
theorem dX3_init_23 : decode cX3_init 23 = .ok (.iconst 5, 1) := by decide +kernel
theorem dX3_init_24 : decode cX3_init 24 = .ok (.newarray .int, 2) := by decide +kernel
theorem dX3_init_26 : decode cX3_init 26 = .ok (.putfield 20, 3) := by decide +kernel
theorem dX3_init_29 : decode cX3_init 29 = .ok (.aload_n 0, 1) := by decide +kernel
theorem dX3_init_30 : decode cX3_init 30 = .ok (.iconst 0, 1) := by decide +kernel
theorem dX3_init_31 : decode cX3_init 31 = .ok (.putfield 23, 3) := by decide +kernel
theorem dX3_init_34 : decode cX3_init 34 = .ok (.return_, 1) := by decide +kernel
theorem dX3_take_0 : decode cX3_take 0 = .ok (.aload_n 0, 1) := by decide +kernel
theorem dX3_take_1 : decode cX3_take 1 = .ok (.iconst 0, 1) := by decide +kernel
theorem dX3_take_2 : decode cX3_take 2 = .ok (.iload_n 1, 1) := by decide +kernel
theorem dX3_take_3 : decode cX3_take 3 = .ok (.invokevirtual 27, 3) := by decide +kernel
theorem dX3_take_6 : decode cX3_take 6 = .ok (.iconst 0, 1) := by decide +kernel
theorem dX3_take_7 : decode cX3_take 7 = .ok (.istore_n 2, 1) := by decide +kernel
theorem dX3_take_8 : decode cX3_take 8 = .ok (.iload_n 2, 1) := by decide +kernel
theorem dX3_take_9 : decode cX3_take 9 = .ok (.iconst 4, 1) := by decide +kernel
theorem dX3_take_10 : decode cX3_take 10 = .ok (.if_icmp .ge 25, 3) := by decide +kernel
theorem dX3_take_13 : decode cX3_take 13 = .ok (.aload_n 0, 1) := by decide +kernel
theorem dX3_take_14 : decode cX3_take 14 = .ok (.getfield 16, 3) := by decide +kernel
theorem dX3_take_17 : decode cX3_take 17 = .ok (.iload_n 2, 1) := by decide +kernel
theorem dX3_take_18 : decode cX3_take 18 = .ok (.iaload, 1) := by decide +kernel
theorem dX3_take_19 : decode cX3_take 19 = .ok (.bipush 8, 2) := by decide +kernel
theorem dX3_take_21 : decode cX3_take 21 = .ok (.if_icmp .lt 8, 3) := by decide +kernel
theorem dX3_take_24 : decode cX3_take 24 = .ok (.aload_n 0, 1) := by decide +kernel
theorem dX3_take_25 : decode cX3_take 25 = .ok (.iload_n 2, 1) := by decide +kernel
theorem dX3_take_26 : decode cX3_take 26 = .ok (.invokevirtual 31, 3) := by decide +kernel
theorem dX3_take_29 : decode cX3_take 29 = .ok (.iinc 2 1, 3) := by decide +kernel
theorem dX3_take_32 : decode cX3_take 32 = .ok (.goto (-24), 3) := by decide +kernel
theorem dX3_take_35 : decode cX3_take 35 = .ok (.return_, 1) := by decide +kernel
theorem dX3_put_0 : decode cX3_put 0 = .ok (.iload_n 1, 1) := by decide +kernel
theorem dX3_put_1 : decode cX3_put 1 = .ok (.ifCond .lt 8, 3) := by decide +kernel
theorem dX3_put_4 : decode cX3_put 4 = .ok (.iload_n 1, 1) := by decide +kernel
theorem dX3_put_5 : decode cX3_put 5 = .ok (.iconst 5, 1) := by decide +kernel
theorem dX3_put_6 : decode cX3_put 6 = .ok (.if_icmp .lt 4, 3) := by decide +kernel
theorem dX3_put_9 : decode cX3_put 9 = .ok (.return_, 1) := by decide +kernel
theorem dX3_put_10 : decode cX3_put 10 = .ok (.aload_n 0, 1) := by decide +kernel
theorem dX3_put_11 : decode cX3_put 11 = .ok (.getfield 16, 3) := by decide +kernel
theorem dX3_put_14 : decode cX3_put 14 = .ok (.iload_n 1, 1) := by decide +kernel
theorem dX3_put_15 : decode cX3_put 15 = .ok (.iaload, 1) := by decide +kernel
theorem dX3_put_16 : decode cX3_put 16 = .ok (.istore_n 3, 1) := by decide +kernel
theorem dX3_put_17 : decode cX3_put 17 = .ok (.iload_n 3, 1) := by decide +kernel
theorem dX3_put_18 : decode cX3_put 18 = .ok (.ifCond .lt 27, 3) := by decide +kernel
theorem dX3_put_21 : decode cX3_put 21 = .ok (.iload_n 3, 1) := by decide +kernel
theorem dX3_put_22 : decode cX3_put 22 = .ok (.bipush 8, 2) := by decide +kernel
theorem dX3_put_24 : decode cX3_put 24 = .ok (.if_icmp .ge 21, 3) := by decide +kernel
theorem dX3_put_27 : decode cX3_put 27 = .ok (.aload_n 0, 1) := by decide +kernel
theorem dX3_put_28 : decode cX3_put 28 = .ok (.getfield 11, 3) := by decide +kernel
theorem dX3_put_31 : decode cX3_put 31 = .ok (.iload_n 1, 1) := by decide +kernel
theorem dX3_put_32 : decode cX3_put 32 = .ok (.aaload, 1) := by decide +kernel
theorem dX3_put_33 : decode cX3_put 33 = .ok (.iload_n 3, 1) := by decide +kernel
theorem dX3_put_34 : decode cX3_put 34 = .ok (.iload_n 2, 1) := by decide +kernel
theorem dX3_put_35 : decode cX3_put 35 = .ok (.iastore, 1) := by decide +kernel
theorem dX3_put_36 : decode cX3_put 36 = .ok (.aload_n 0, 1) := by decide +kernel
theorem dX3_put_37 : decode cX3_put 37 = .ok (.getfield 16, 3) := by decide +kernel
theorem dX3_put_40 : decode cX3_put 40 = .ok (.iload_n 1, 1) := by decide +kernel
theorem dX3_put_41 : decode cX3_put 41 = .ok (.iload_n 3, 1) := by decide +kernel
theorem dX3_put_42 : decode cX3_put 42 = .ok (.iconst 1, 1) := by decide +kernel
theorem dX3_put_43 : decode cX3_put 43 = .ok (.iadd, 1) := by decide +kernel
theorem dX3_put_44 : decode cX3_put 44 = .ok (.iastore, 1) := by decide +kernel
theorem dX3_put_45 : decode cX3_put 45 = .ok (.return_, 1) := by decide +kernel
theorem dX3_halve_0 : decode cX3_halve 0 = .ok (.iload_n 1, 1) := by decide +kernel
theorem dX3_halve_1 : decode cX3_halve 1 = .ok (.ifCond .lt 8, 3) := by decide +kernel
theorem dX3_halve_4 : decode cX3_halve 4 = .ok (.iload_n 1, 1) := by decide +kernel
theorem dX3_halve_5 : decode cX3_halve 5 = .ok (.iconst 4, 1) := by decide +kernel
theorem dX3_halve_6 : decode cX3_halve 6 = .ok (.if_icmp .lt 4, 3) := by decide +kernel
theorem dX3_halve_9 : decode cX3_halve 9 = .ok (.return_, 1) := by decide +kernel
theorem dX3_halve_10 : decode cX3_halve 10 = .ok (.aload_n 0, 1) := by decide +kernel
theorem dX3_halve_11 : decode cX3_halve 11 = .ok (.getfield 11, 3) := by decide +kernel
theorem dX3_halve_14 : decode cX3_halve 14 = .ok (.iload_n 1, 1) := by decide +kernel
theorem dX3_halve_15 : decode cX3_halve 15 = .ok (.aaload, 1) := by decide +kernel
theorem dX3_halve_16 : decode cX3_halve 16 = .ok (.astore_n 2, 1) := by decide +kernel
theorem dX3_halve_17 : decode cX3_halve 17 = .ok (.aload_n 2, 1) := by decide +kernel
theorem dX3_halve_18 : decode cX3_halve 18 = .ok (.invokestatic 35, 3) := by decide +kernel
theorem dX3_halve_21 : decode cX3_halve 21 = .ok (.aload_n 0, 1) := by decide +kernel
theorem dX3_halve_22 : decode cX3_halve 22 = .ok (.getfield 20, 3) := by decide +kernel
theorem dX3_halve_25 : decode cX3_halve 25 = .ok (.iload_n 1, 1) := by decide +kernel
theorem dX3_halve_26 : decode cX3_halve 26 = .ok (.iaload, 1) := by decide +kernel
theorem dX3_halve_27 : decode cX3_halve 27 = .ok (.iconst 2, 1) := by decide +kernel
theorem dX3_halve_28 : decode cX3_halve 28 = .ok (.irem, 1) := by decide +kernel
theorem dX3_halve_29 : decode cX3_halve 29 = .ok (.ifCond .ne 7, 3) := by decide +kernel
theorem dX3_halve_32 : decode cX3_halve 32 = .ok (.iconst 1, 1) := by decide +kernel
theorem dX3_halve_33 : decode cX3_halve 33 = .ok (.goto 4, 3) := by decide +kernel
theorem dX3_halve_36 : decode cX3_halve 36 = .ok (.iconst 0, 1) := by decide +kernel
theorem dX3_halve_37 : decode cX3_halve 37 = .ok (.istore_n 3, 1) := by decide +kernel
theorem dX3_halve_38 : decode cX3_halve 38 = .ok (.iload_n 3, 1) := by decide +kernel
theorem dX3_halve_39 : decode cX3_halve 39 = .ok (.aload_n 2, 1) := by decide +kernel
theorem dX3_halve_40 : decode cX3_halve 40 = .ok (.arraylength, 1) := by decide +kernel
theorem dX3_halve_41 : decode cX3_halve 41 = .ok (.if_icmp .ge 19, 3) := by decide +kernel
theorem dX3_halve_44 : decode cX3_halve 44 = .ok (.aload_n 0, 1) := by decide +kernel
theorem dX3_halve_45 : decode cX3_halve 45 = .ok (.iload_n 1, 1) := by decide +kernel
theorem dX3_halve_46 : decode cX3_halve 46 = .ok (.iconst 1, 1) := by decide +kernel
theorem dX3_halve_47 : decode cX3_halve 47 = .ok (.iadd, 1) := by decide +kernel
theorem dX3_halve_48 : decode cX3_halve 48 = .ok (.aload_n 2, 1) := by decide +kernel
theorem dX3_halve_49 : decode cX3_halve 49 = .ok (.iload_n 3, 1) := by decide +kernel
theorem dX3_halve_50 : decode cX3_halve 50 = .ok (.iaload, 1) := by decide +kernel
theorem dX3_halve_51 : decode cX3_halve 51 = .ok (.invokevirtual 27, 3) := by decide +kernel
theorem dX3_halve_54 : decode cX3_halve 54 = .ok (.iinc 3 2, 3) := by decide +kernel
theorem dX3_halve_57 : decode cX3_halve 57 = .ok (.goto (-19), 3) := by decide +kernel
theorem dX3_halve_60 : decode cX3_halve 60 = .ok (.aload_n 0, 1) := by decide +kernel
theorem dX3_halve_61 : decode cX3_halve 61 = .ok (.getfield 16, 3) := by decide +kernel
theorem dX3_halve_64 : decode cX3_halve 64 = .ok (.iload_n 1, 1) := by decide +kernel
theorem dX3_halve_65 : decode cX3_halve 65 = .ok (.iconst 0, 1) := by decide +kernel
theorem dX3_halve_66 : decode cX3_halve 66 = .ok (.iastore, 1) := by decide +kernel
theorem dX3_halve_67 : decode cX3_halve 67 = .ok (.aload_n 0, 1) := by decide +kernel
theorem dX3_halve_68 : decode cX3_halve 68 = .ok (.getfield 20, 3) := by decide +kernel
theorem dX3_halve_71 : decode cX3_halve 71 = .ok (.iload_n 1, 1) := by decide +kernel
theorem dX3_halve_72 : decode cX3_halve 72 = .ok (.dup2, 1) := by decide +kernel
theorem dX3_halve_73 : decode cX3_halve 73 = .ok (.iaload, 1) := by decide +kernel
theorem dX3_halve_74 : decode cX3_halve 74 = .ok (.iconst 1, 1) := by decide +kernel
theorem dX3_halve_75 : decode cX3_halve 75 = .ok (.iadd, 1) := by decide +kernel
theorem dX3_halve_76 : decode cX3_halve 76 = .ok (.iastore, 1) := by decide +kernel
theorem dX3_halve_77 : decode cX3_halve 77 = .ok (.aload_n 0, 1) := by decide +kernel
theorem dX3_halve_78 : decode cX3_halve 78 = .ok (.dup, 1) := by decide +kernel
theorem dX3_halve_79 : decode cX3_halve 79 = .ok (.getfield 23, 3) := by decide +kernel
theorem dX3_halve_82 : decode cX3_halve 82 = .ok (.iconst 1, 1) := by decide +kernel
theorem dX3_halve_83 : decode cX3_halve 83 = .ok (.iload_n 1, 1) := by decide +kernel
theorem dX3_halve_84 : decode cX3_halve 84 = .ok (.ishl, 1) := by decide +kernel
theorem dX3_halve_85 : decode cX3_halve 85 = .ok (.iadd, 1) := by decide +kernel
theorem dX3_halve_86 : decode cX3_halve 86 = .ok (.putfield 23, 3) := by decide +kernel
theorem dX3_halve_89 : decode cX3_halve 89 = .ok (.return_, 1) := by decide +kernel
theorem dX3_sort_0 : decode cX3_sort 0 = .ok (.iconst 1, 1) := by decide +kernel
theorem dX3_sort_1 : decode cX3_sort 1 = .ok (.istore_n 1, 1) := by decide +kernel
theorem dX3_sort_2 : decode cX3_sort 2 = .ok (.iload_n 1, 1) := by decide +kernel
theorem dX3_sort_3 : decode cX3_sort 3 = .ok (.aload_n 0, 1) := by decide +kernel
theorem dX3_sort_4 : decode cX3_sort 4 = .ok (.arraylength, 1) := by decide +kernel
theorem dX3_sort_5 : decode cX3_sort 5 = .ok (.if_icmp .ge 46, 3) := by decide +kernel
theorem dX3_sort_8 : decode cX3_sort 8 = .ok (.aload_n 0, 1) := by decide +kernel
theorem dX3_sort_9 : decode cX3_sort 9 = .ok (.iload_n 1, 1) := by decide +kernel
theorem dX3_sort_10 : decode cX3_sort 10 = .ok (.iaload, 1) := by decide +kernel
theorem dX3_sort_11 : decode cX3_sort 11 = .ok (.istore_n 2, 1) := by decide +kernel
theorem dX3_sort_12 : decode cX3_sort 12 = .ok (.iload_n 1, 1) := by decide +kernel
theorem dX3_sort_13 : decode cX3_sort 13 = .ok (.istore_n 3, 1) := by decide +kernel
theorem dX3_sort_14 : decode cX3_sort 14 = .ok (.iload_n 3, 1) := by decide +kernel
theorem dX3_sort_15 : decode cX3_sort 15 = .ok (.ifCond .le 26, 3) := by decide +kernel
theorem dX3_sort_18 : decode cX3_sort 18 = .ok (.aload_n 0, 1) := by decide +kernel
theorem dX3_sort_19 : decode cX3_sort 19 = .ok (.iload_n 3, 1) := by decide +kernel
theorem dX3_sort_20 : decode cX3_sort 20 = .ok (.iconst 1, 1) := by decide +kernel
theorem dX3_sort_21 : decode cX3_sort 21 = .ok (.isub, 1) := by decide +kernel
theorem dX3_sort_22 : decode cX3_sort 22 = .ok (.iaload, 1) := by decide +kernel
theorem dX3_sort_23 : decode cX3_sort 23 = .ok (.iload_n 2, 1) := by decide +kernel
theorem dX3_sort_24 : decode cX3_sort 24 = .ok (.if_icmp .le 17, 3) := by decide +kernel
theorem dX3_sort_27 : decode cX3_sort 27 = .ok (.aload_n 0, 1) := by decide +kernel
theorem dX3_sort_28 : decode cX3_sort 28 = .ok (.iload_n 3, 1) := by decide +kernel
theorem dX3_sort_29 : decode cX3_sort 29 = .ok (.aload_n 0, 1) := by decide +kernel
theorem dX3_sort_30 : decode cX3_sort 30 = .ok (.iload_n 3, 1) := by decide +kernel
theorem dX3_sort_31 : decode cX3_sort 31 = .ok (.iconst 1, 1) := by decide +kernel
theorem dX3_sort_32 : decode cX3_sort 32 = .ok (.isub, 1) := by decide +kernel
theorem dX3_sort_33 : decode cX3_sort 33 = .ok (.iaload, 1) := by decide +kernel
theorem dX3_sort_34 : decode cX3_sort 34 = .ok (.iastore, 1) := by decide +kernel
theorem dX3_sort_35 : decode cX3_sort 35 = .ok (.iinc 3 (-1), 3) := by decide +kernel
theorem dX3_sort_38 : decode cX3_sort 38 = .ok (.goto (-24), 3) := by decide +kernel
theorem dX3_sort_41 : decode cX3_sort 41 = .ok (.aload_n 0, 1) := by decide +kernel
theorem dX3_sort_42 : decode cX3_sort 42 = .ok (.iload_n 3, 1) := by decide +kernel
theorem dX3_sort_43 : decode cX3_sort 43 = .ok (.iload_n 2, 1) := by decide +kernel
theorem dX3_sort_44 : decode cX3_sort 44 = .ok (.iastore, 1) := by decide +kernel
theorem dX3_sort_45 : decode cX3_sort 45 = .ok (.iinc 1 1, 3) := by decide +kernel
theorem dX3_sort_48 : decode cX3_sort 48 = .ok (.goto (-46), 3) := by decide +kernel
theorem dX3_sort_51 : decode cX3_sort 51 = .ok (.return_, 1) := by decide +kernel
theorem dX3_heldValues_0 : decode cX3_heldValues 0 = .ok (.iconst 0, 1) := by decide +kernel
theorem dX3_heldValues_1 : decode cX3_heldValues 1 = .ok (.istore_n 1, 1) := by decide +kernel
theorem dX3_heldValues_2 : decode cX3_heldValues 2 = .ok (.aload_n 0, 1) := by decide +kernel
theorem dX3_heldValues_3 : decode cX3_heldValues 3 = .ok (.getfield 16, 3) := by decide +kernel
theorem dX3_heldValues_6 : decode cX3_heldValues 6 = .ok (.astore_n 2, 1) := by decide +kernel
theorem dX3_heldValues_7 : decode cX3_heldValues 7 = .ok (.aload_n 2, 1) := by decide +kernel
theorem dX3_heldValues_8 : decode cX3_heldValues 8 = .ok (.arraylength, 1) := by decide +kernel
theorem dX3_heldValues_9 : decode cX3_heldValues 9 = .ok (.istore_n 3, 1) := by decide +kernel
theorem dX3_heldValues_10 : decode cX3_heldValues 10 = .ok (.iconst 0, 1) := by decide +kernel
theorem dX3_heldValues_11 : decode cX3_heldValues 11 = .ok (.istore 4, 2) := by decide +kernel
theorem dX3_heldValues_13 : decode cX3_heldValues 13 = .ok (.iload 4, 2) := by decide +kernel
theorem dX3_heldValues_15 : decode cX3_heldValues 15 = .ok (.iload_n 3, 1) := by decide +kernel
theorem dX3_heldValues_16 : decode cX3_heldValues 16 = .ok (.if_icmp .ge 20, 3) := by decide +kernel
theorem dX3_heldValues_19 : decode cX3_heldValues 19 = .ok (.aload_n 2, 1) := by decide +kernel
theorem dX3_heldValues_20 : decode cX3_heldValues 20 = .ok (.iload 4, 2) := by decide +kernel
theorem dX3_heldValues_22 : decode cX3_heldValues 22 = .ok (.iaload, 1) := by decide +kernel
theorem dX3_heldValues_23 : decode cX3_heldValues 23 = .ok (.istore 5, 2) := by decide +kernel
theorem dX3_heldValues_25 : decode cX3_heldValues 25 = .ok (.iload_n 1, 1) := by decide +kernel
theorem dX3_heldValues_26 : decode cX3_heldValues 26 = .ok (.iload 5, 2) := by decide +kernel
theorem dX3_heldValues_28 : decode cX3_heldValues 28 = .ok (.iadd, 1) := by decide +kernel
theorem dX3_heldValues_29 : decode cX3_heldValues 29 = .ok (.istore_n 1, 1) := by decide +kernel
theorem dX3_heldValues_30 : decode cX3_heldValues 30 = .ok (.iinc 4 1, 3) := by decide +kernel
theorem dX3_heldValues_33 : decode cX3_heldValues 33 = .ok (.goto (-20), 3) := by decide +kernel
theorem dX3_heldValues_36 : decode cX3_heldValues 36 = .ok (.iload_n 1, 1) := by decide +kernel
theorem dX3_heldValues_37 : decode cX3_heldValues 37 = .ok (.ireturn, 1) := by decide +kernel
theorem dX3_weightUpTo_0 : decode cX3_weightUpTo 0 = .ok (.iconst 0, 1) := by decide +kernel
theorem dX3_weightUpTo_1 : decode cX3_weightUpTo 1 = .ok (.istore_n 2, 1) := by decide +kernel
theorem dX3_weightUpTo_2 : decode cX3_weightUpTo 2 = .ok (.iconst 0, 1) := by decide +kernel
theorem dX3_weightUpTo_3 : decode cX3_weightUpTo 3 = .ok (.istore_n 3, 1) := by decide +kernel
theorem dX3_weightUpTo_4 : decode cX3_weightUpTo 4 = .ok (.iload_n 3, 1) := by decide +kernel
theorem dX3_weightUpTo_5 : decode cX3_weightUpTo 5 = .ok (.iconst 5, 1) := by decide +kernel
theorem dX3_weightUpTo_6 : decode cX3_weightUpTo 6 = .ok (.if_icmp .ge 60, 3) := by decide +kernel
theorem dX3_weightUpTo_9 : decode cX3_weightUpTo 9 = .ok (.aload_n 0, 1) := by decide +kernel
theorem dX3_weightUpTo_10 : decode cX3_weightUpTo 10 = .ok (.getfield 11, 3) := by decide +kernel
theorem dX3_weightUpTo_13 : decode cX3_weightUpTo 13 = .ok (.iload_n 3, 1) := by decide +kernel
theorem dX3_weightUpTo_14 : decode cX3_weightUpTo 14 = .ok (.aaload, 1) := by decide +kernel
theorem dX3_weightUpTo_15 : decode cX3_weightUpTo 15 = .ok (.astore 4, 2) := by decide +kernel
theorem dX3_weightUpTo_17 : decode cX3_weightUpTo 17 = .ok (.iconst 0, 1) := by decide +kernel
theorem dX3_weightUpTo_18 : decode cX3_weightUpTo 18 = .ok (.istore 5, 2) := by decide +kernel
theorem dX3_weightUpTo_20 : decode cX3_weightUpTo 20 = .ok (.iload 5, 2) := by decide +kernel
theorem dX3_weightUpTo_22 : decode cX3_weightUpTo 22 = .ok (.aload_n 0, 1) := by decide +kernel
theorem dX3_weightUpTo_23 : decode cX3_weightUpTo 23 = .ok (.getfield 16, 3) := by decide +kernel
theorem dX3_weightUpTo_26 : decode cX3_weightUpTo 26 = .ok (.iload_n 3, 1) := by decide +kernel
theorem dX3_weightUpTo_27 : decode cX3_weightUpTo 27 = .ok (.iaload, 1) := by decide +kernel
theorem dX3_weightUpTo_28 : decode cX3_weightUpTo 28 = .ok (.if_icmp .ge 32, 3) := by decide +kernel
theorem dX3_weightUpTo_31 : decode cX3_weightUpTo 31 = .ok (.iload 5, 2) := by decide +kernel
theorem dX3_weightUpTo_33 : decode cX3_weightUpTo 33 = .ok (.aload 4, 2) := by decide +kernel
theorem dX3_weightUpTo_35 : decode cX3_weightUpTo 35 = .ok (.arraylength, 1) := by decide +kernel
theorem dX3_weightUpTo_36 : decode cX3_weightUpTo 36 = .ok (.if_icmp .ge 24, 3) := by decide +kernel
theorem dX3_weightUpTo_39 : decode cX3_weightUpTo 39 = .ok (.aload 4, 2) := by decide +kernel
theorem dX3_weightUpTo_41 : decode cX3_weightUpTo 41 = .ok (.iload 5, 2) := by decide +kernel
theorem dX3_weightUpTo_43 : decode cX3_weightUpTo 43 = .ok (.iaload, 1) := by decide +kernel
theorem dX3_weightUpTo_44 : decode cX3_weightUpTo 44 = .ok (.iload_n 1, 1) := by decide +kernel
theorem dX3_weightUpTo_45 : decode cX3_weightUpTo 45 = .ok (.if_icmp .gt 9, 3) := by decide +kernel
theorem dX3_weightUpTo_48 : decode cX3_weightUpTo 48 = .ok (.iload_n 2, 1) := by decide +kernel
theorem dX3_weightUpTo_49 : decode cX3_weightUpTo 49 = .ok (.iconst 1, 1) := by decide +kernel
theorem dX3_weightUpTo_50 : decode cX3_weightUpTo 50 = .ok (.iload_n 3, 1) := by decide +kernel
theorem dX3_weightUpTo_51 : decode cX3_weightUpTo 51 = .ok (.ishl, 1) := by decide +kernel
theorem dX3_weightUpTo_52 : decode cX3_weightUpTo 52 = .ok (.iadd, 1) := by decide +kernel
theorem dX3_weightUpTo_53 : decode cX3_weightUpTo 53 = .ok (.istore_n 2, 1) := by decide +kernel
theorem dX3_weightUpTo_54 : decode cX3_weightUpTo 54 = .ok (.iinc 5 1, 3) := by decide +kernel
theorem dX3_weightUpTo_57 : decode cX3_weightUpTo 57 = .ok (.goto (-37), 3) := by decide +kernel
theorem dX3_weightUpTo_60 : decode cX3_weightUpTo 60 = .ok (.iinc 3 1, 3) := by decide +kernel
theorem dX3_weightUpTo_63 : decode cX3_weightUpTo 63 = .ok (.goto (-59), 3) := by decide +kernel
theorem dX3_weightUpTo_66 : decode cX3_weightUpTo 66 = .ok (.iload_n 2, 1) := by decide +kernel
theorem dX3_weightUpTo_67 : decode cX3_weightUpTo 67 = .ok (.ireturn, 1) := by decide +kernel
theorem dX3_leastReaching_0 : decode cX3_leastReaching 0 = .ok (.sipush 10000, 3) := by decide +kernel
theorem dX3_leastReaching_3 : decode cX3_leastReaching 3 = .ok (.istore_n 2, 1) := by decide +kernel
theorem dX3_leastReaching_4 : decode cX3_leastReaching 4 = .ok (.iconst 0, 1) := by decide +kernel
theorem dX3_leastReaching_5 : decode cX3_leastReaching 5 = .ok (.istore_n 3, 1) := by decide +kernel
theorem dX3_leastReaching_6 : decode cX3_leastReaching 6 = .ok (.iload_n 3, 1) := by decide +kernel
theorem dX3_leastReaching_7 : decode cX3_leastReaching 7 = .ok (.iconst 5, 1) := by decide +kernel
theorem dX3_leastReaching_8 : decode cX3_leastReaching 8 = .ok (.if_icmp .ge 73, 3) := by decide +kernel
theorem dX3_leastReaching_11 : decode cX3_leastReaching 11 = .ok (.aload_n 0, 1) := by decide +kernel
theorem dX3_leastReaching_12 : decode cX3_leastReaching 12 = .ok (.getfield 11, 3) := by decide +kernel
theorem dX3_leastReaching_15 : decode cX3_leastReaching 15 = .ok (.iload_n 3, 1) := by decide +kernel
theorem dX3_leastReaching_16 : decode cX3_leastReaching 16 = .ok (.aaload, 1) := by decide +kernel
theorem dX3_leastReaching_17 : decode cX3_leastReaching 17 = .ok (.astore 4, 2) := by decide +kernel
theorem dX3_leastReaching_19 : decode cX3_leastReaching 19 = .ok (.iconst 0, 1) := by decide +kernel
theorem dX3_leastReaching_20 : decode cX3_leastReaching 20 = .ok (.istore 5, 2) := by decide +kernel
theorem dX3_leastReaching_22 : decode cX3_leastReaching 22 = .ok (.iload 5, 2) := by decide +kernel
theorem dX3_leastReaching_24 : decode cX3_leastReaching 24 = .ok (.aload_n 0, 1) := by decide +kernel
theorem dX3_leastReaching_25 : decode cX3_leastReaching 25 = .ok (.getfield 16, 3) := by decide +kernel
theorem dX3_leastReaching_28 : decode cX3_leastReaching 28 = .ok (.iload_n 3, 1) := by decide +kernel
theorem dX3_leastReaching_29 : decode cX3_leastReaching 29 = .ok (.iaload, 1) := by decide +kernel
theorem dX3_leastReaching_30 : decode cX3_leastReaching 30 = .ok (.if_icmp .ge 45, 3) := by decide +kernel
theorem dX3_leastReaching_33 : decode cX3_leastReaching 33 = .ok (.iload 5, 2) := by decide +kernel
theorem dX3_leastReaching_35 : decode cX3_leastReaching 35 = .ok (.aload 4, 2) := by decide +kernel
theorem dX3_leastReaching_37 : decode cX3_leastReaching 37 = .ok (.arraylength, 1) := by decide +kernel
theorem dX3_leastReaching_38 : decode cX3_leastReaching 38 = .ok (.if_icmp .ge 37, 3) := by decide +kernel
theorem dX3_leastReaching_41 : decode cX3_leastReaching 41 = .ok (.aload 4, 2) := by decide +kernel
theorem dX3_leastReaching_43 : decode cX3_leastReaching 43 = .ok (.iload 5, 2) := by decide +kernel
theorem dX3_leastReaching_45 : decode cX3_leastReaching 45 = .ok (.iaload, 1) := by decide +kernel
theorem dX3_leastReaching_46 : decode cX3_leastReaching 46 = .ok (.iload_n 2, 1) := by decide +kernel
theorem dX3_leastReaching_47 : decode cX3_leastReaching 47 = .ok (.if_icmp .ge 22, 3) := by decide +kernel
theorem dX3_leastReaching_50 : decode cX3_leastReaching 50 = .ok (.aload_n 0, 1) := by decide +kernel
theorem dX3_leastReaching_51 : decode cX3_leastReaching 51 = .ok (.aload 4, 2) := by decide +kernel
theorem dX3_leastReaching_53 : decode cX3_leastReaching 53 = .ok (.iload 5, 2) := by decide +kernel
theorem dX3_leastReaching_55 : decode cX3_leastReaching 55 = .ok (.iaload, 1) := by decide +kernel
theorem dX3_leastReaching_56 : decode cX3_leastReaching 56 = .ok (.invokevirtual 39, 3) := by decide +kernel
theorem dX3_leastReaching_59 : decode cX3_leastReaching 59 = .ok (.iload_n 1, 1) := by decide +kernel
theorem dX3_leastReaching_60 : decode cX3_leastReaching 60 = .ok (.if_icmp .lt 9, 3) := by decide +kernel
theorem dX3_leastReaching_63 : decode cX3_leastReaching 63 = .ok (.aload 4, 2) := by decide +kernel
theorem dX3_leastReaching_65 : decode cX3_leastReaching 65 = .ok (.iload 5, 2) := by decide +kernel
theorem dX3_leastReaching_67 : decode cX3_leastReaching 67 = .ok (.iaload, 1) := by decide +kernel
theorem dX3_leastReaching_68 : decode cX3_leastReaching 68 = .ok (.istore_n 2, 1) := by decide +kernel
theorem dX3_leastReaching_69 : decode cX3_leastReaching 69 = .ok (.iinc 5 1, 3) := by decide +kernel
theorem dX3_leastReaching_72 : decode cX3_leastReaching 72 = .ok (.goto (-50), 3) := by decide +kernel
theorem dX3_leastReaching_75 : decode cX3_leastReaching 75 = .ok (.iinc 3 1, 3) := by decide +kernel
theorem dX3_leastReaching_78 : decode cX3_leastReaching 78 = .ok (.goto (-72), 3) := by decide +kernel
theorem dX3_leastReaching_81 : decode cX3_leastReaching 81 = .ok (.iload_n 2, 1) := by decide +kernel
theorem dX3_leastReaching_82 : decode cX3_leastReaching 82 = .ok (.ireturn, 1) := by decide +kernel
theorem dX4_init_0 : decode cX4_init 0 = .ok (.aload_n 0, 1) := by decide +kernel
theorem dX4_init_1 : decode cX4_init 1 = .ok (.invokespecial 3, 3) := by decide +kernel
theorem dX4_init_4 : decode cX4_init 4 = .ok (.return_, 1) := by decide +kernel
theorem dX4_clear_0 : decode cX4_clear 0 = .ok (.aload_n 0, 1) := by decide +kernel
theorem dX4_clear_1 : decode cX4_clear 1 = .ok (.iconst 0, 1) := by decide +kernel
theorem dX4_clear_2 : decode cX4_clear 2 = .ok (.putfield 9, 3) := by decide +kernel
theorem dX4_clear_5 : decode cX4_clear 5 = .ok (.aload_n 0, 1) := by decide +kernel
theorem dX4_clear_6 : decode cX4_clear 6 = .ok (.lconst 0, 1) := by decide +kernel
theorem dX4_clear_7 : decode cX4_clear 7 = .ok (.putfield 15, 3) := by decide +kernel
theorem dX4_clear_10 : decode cX4_clear 10 = .ok (.aload_n 0, 1) := by decide +kernel
theorem dX4_clear_11 : decode cX4_clear 11 = .ok (.sipush (-10000), 3) := by decide +kernel
theorem dX4_clear_14 : decode cX4_clear 14 = .ok (.putfield 19, 3) := by decide +kernel
theorem dX4_clear_17 : decode cX4_clear 17 = .ok (.return_, 1) := by decide +kernel
theorem dX4_take_0 : decode cX4_take 0 = .ok (.aload_n 0, 1) := by decide +kernel
theorem dX4_take_1 : decode cX4_take 1 = .ok (.dup, 1) := by decide +kernel
theorem dX4_take_2 : decode cX4_take 2 = .ok (.getfield 9, 3) := by decide +kernel
theorem dX4_take_5 : decode cX4_take 5 = .ok (.iconst 1, 1) := by decide +kernel
theorem dX4_take_6 : decode cX4_take 6 = .ok (.iadd, 1) := by decide +kernel
theorem dX4_take_7 : decode cX4_take 7 = .ok (.putfield 9, 3) := by decide +kernel
theorem dX4_take_10 : decode cX4_take 10 = .ok (.aload_n 0, 1) := by decide +kernel
theorem dX4_take_11 : decode cX4_take 11 = .ok (.dup, 1) := by decide +kernel
theorem dX4_take_12 : decode cX4_take 12 = .ok (.getfield 15, 3) := by decide +kernel
theorem dX4_take_15 : decode cX4_take 15 = .ok (.iload_n 1, 1) := by decide +kernel
theorem dX4_take_16 : decode cX4_take 16 = .ok (.i2l, 1) := by decide +kernel
theorem dX4_take_17 : decode cX4_take 17 = .ok (.ladd, 1) := by decide +kernel
theorem dX4_take_18 : decode cX4_take 18 = .ok (.putfield 15, 3) := by decide +kernel
theorem dX4_take_21 : decode cX4_take 21 = .ok (.aload_n 0, 1) := by decide +kernel
theorem dX4_take_22 : decode cX4_take 22 = .ok (.aload_n 0, 1) := by decide +kernel
theorem dX4_take_23 : decode cX4_take 23 = .ok (.getfield 19, 3) := by decide +kernel
theorem dX4_take_26 : decode cX4_take 26 = .ok (.iload_n 1, 1) := by decide +kernel
theorem dX4_take_27 : decode cX4_take 27 = .ok (.invokestatic 22, 3) := by decide +kernel
theorem dX4_take_30 : decode cX4_take 30 = .ok (.putfield 19, 3) := by decide +kernel
theorem dX4_take_33 : decode cX4_take 33 = .ok (.return_, 1) := by decide +kernel
theorem dX5_init_0 : decode cX5_init 0 = .ok (.aload_n 0, 1) := by decide +kernel
theorem dX5_init_1 : decode cX5_init 1 = .ok (.invokespecial 1, 3) := by decide +kernel
theorem dX5_init_4 : decode cX5_init 4 = .ok (.aload_n 0, 1) := by decide +kernel
theorem dX5_init_5 : decode cX5_init 5 = .ok (.bipush 10, 2) := by decide +kernel
theorem dX5_init_7 : decode cX5_init 7 = .ok (.anewarray 9, 3) := by decide +kernel
theorem dX5_init_10 : decode cX5_init 10 = .ok (.putfield 11, 3) := by decide +kernel
theorem dX5_init_13 : decode cX5_init 13 = .ok (.aload_n 0, 1) := by decide +kernel
theorem dX5_init_14 : decode cX5_init 14 = .ok (.new 15, 3) := by decide +kernel
theorem dX5_init_17 : decode cX5_init 17 = .ok (.dup, 1) := by decide +kernel
theorem dX5_init_18 : decode cX5_init 18 = .ok (.invokespecial 17, 3) := by decide +kernel
theorem dX5_init_21 : decode cX5_init 21 = .ok (.putfield 18, 3) := by decide +kernel
theorem dX5_init_24 : decode cX5_init 24 = .ok (.aload_n 0, 1) := by decide +kernel
theorem dX5_init_25 : decode cX5_init 25 = .ok (.iconst 0, 1) := by decide +kernel
theorem dX5_init_26 : decode cX5_init 26 = .ok (.putfield 22, 3) := by decide +kernel
theorem dX5_init_29 : decode cX5_init 29 = .ok (.aload_n 0, 1) := by decide +kernel
theorem dX5_init_30 : decode cX5_init 30 = .ok (.lconst 0, 1) := by decide +kernel
theorem dX5_init_31 : decode cX5_init 31 = .ok (.putfield 26, 3) := by decide +kernel
theorem dX5_init_34 : decode cX5_init 34 = .ok (.return_, 1) := by decide +kernel
theorem dX5_open_0 : decode cX5_open 0 = .ok (.iload_n 1, 1) := by decide +kernel
theorem dX5_open_1 : decode cX5_open 1 = .ok (.invokestatic 30, 3) := by decide +kernel
theorem dX5_open_4 : decode cX5_open 4 = .ok (.ifCond .eq 10, 3) := by decide +kernel
theorem dX5_open_7 : decode cX5_open 7 = .ok (.iload_n 2, 1) := by decide +kernel
theorem dX5_open_8 : decode cX5_open 8 = .ok (.invokestatic 30, 3) := by decide +kernel
theorem dX5_open_11 : decode cX5_open 11 = .ok (.ifCond .ne 13, 3) := by decide +kernel
theorem dX5_open_14 : decode cX5_open 14 = .ok (.new 34, 3) := by decide +kernel
theorem dX5_open_17 : decode cX5_open 17 = .ok (.dup, 1) := by decide +kernel
theorem dX5_open_18 : decode cX5_open 18 = .ok (.ldc 36, 2) := by decide +kernel
theorem dX5_open_20 : decode cX5_open 20 = .ok (.invokespecial 38, 3) := by decide +kernel
theorem dX5_open_23 : decode cX5_open 23 = .ok (.athrow, 1) := by decide +kernel
theorem dX5_open_24 : decode cX5_open 24 = .ok (.aload_n 0, 1) := by decide +kernel
theorem dX5_open_25 : decode cX5_open 25 = .ok (.iload_n 1, 1) := by decide +kernel
theorem dX5_open_26 : decode cX5_open 26 = .ok (.iload_n 2, 1) := by decide +kernel
theorem dX5_open_27 : decode cX5_open 27 = .ok (.invokevirtual 41, 3) := by decide +kernel
theorem dX5_open_30 : decode cX5_open 30 = .ok (.ifCond .lt 13, 3) := by decide +kernel
theorem dX5_open_33 : decode cX5_open 33 = .ok (.new 45, 3) := by decide +kernel
theorem dX5_open_36 : decode cX5_open 36 = .ok (.dup, 1) := by decide +kernel
theorem dX5_open_37 : decode cX5_open 37 = .ok (.ldc 47, 2) := by decide +kernel
theorem dX5_open_39 : decode cX5_open 39 = .ok (.invokespecial 49, 3) := by decide +kernel
theorem dX5_open_42 : decode cX5_open 42 = .ok (.athrow, 1) := by decide +kernel
theorem dX5_open_43 : decode cX5_open 43 = .ok (.aload_n 0, 1) := by decide +kernel
theorem dX5_open_44 : decode cX5_open 44 = .ok (.getfield 22, 3) := by decide +kernel
theorem dX5_open_47 : decode cX5_open 47 = .ok (.aload_n 0, 1) := by decide +kernel
theorem dX5_open_48 : decode cX5_open 48 = .ok (.getfield 11, 3) := by decide +kernel
theorem dX5_open_51 : decode cX5_open 51 = .ok (.arraylength, 1) := by decide +kernel
theorem dX5_open_52 : decode cX5_open 52 = .ok (.if_icmp .lt 13, 3) := by decide +kernel
theorem dX5_open_55 : decode cX5_open 55 = .ok (.new 45, 3) := by decide +kernel
theorem dX5_open_58 : decode cX5_open 58 = .ok (.dup, 1) := by decide +kernel
theorem dX5_open_59 : decode cX5_open 59 = .ok (.ldc 50, 2) := by decide +kernel
theorem dX5_open_61 : decode cX5_open 61 = .ok (.invokespecial 49, 3) := by decide +kernel
theorem dX5_open_64 : decode cX5_open 64 = .ok (.athrow, 1) := by decide +kernel
theorem dX5_open_65 : decode cX5_open 65 = .ok (.aload_n 0, 1) := by decide +kernel
theorem dX5_open_66 : decode cX5_open 66 = .ok (.getfield 11, 3) := by decide +kernel
theorem dX5_open_69 : decode cX5_open 69 = .ok (.aload_n 0, 1) := by decide +kernel
theorem dX5_open_70 : decode cX5_open 70 = .ok (.getfield 22, 3) := by decide +kernel
theorem dX5_open_73 : decode cX5_open 73 = .ok (.new 9, 3) := by decide +kernel
theorem dX5_open_76 : decode cX5_open 76 = .ok (.dup, 1) := by decide +kernel
theorem dX5_open_77 : decode cX5_open 77 = .ok (.iload_n 1, 1) := by decide +kernel
theorem dX5_open_78 : decode cX5_open 78 = .ok (.iload_n 2, 1) := by decide +kernel
theorem dX5_open_79 : decode cX5_open 79 = .ok (.invokespecial 52, 3) := by decide +kernel
theorem dX5_open_82 : decode cX5_open 82 = .ok (.aastore, 1) := by decide +kernel
theorem dX5_open_83 : decode cX5_open 83 = .ok (.aload_n 0, 1) := by decide +kernel
theorem dX5_open_84 : decode cX5_open 84 = .ok (.dup, 1) := by decide +kernel
theorem dX5_open_85 : decode cX5_open 85 = .ok (.getfield 22, 3) := by decide +kernel
theorem dX5_open_88 : decode cX5_open 88 = .ok (.iconst 1, 1) := by decide +kernel
theorem dX5_open_89 : decode cX5_open 89 = .ok (.iadd, 1) := by decide +kernel
theorem dX5_open_90 : decode cX5_open 90 = .ok (.putfield 22, 3) := by decide +kernel
theorem dX5_open_93 : decode cX5_open 93 = .ok (.aload_n 0, 1) := by decide +kernel
theorem dX5_open_94 : decode cX5_open 94 = .ok (.getfield 22, 3) := by decide +kernel
theorem dX5_open_97 : decode cX5_open 97 = .ok (.iconst 1, 1) := by decide +kernel
theorem dX5_open_98 : decode cX5_open 98 = .ok (.isub, 1) := by decide +kernel
theorem dX5_open_99 : decode cX5_open 99 = .ok (.ireturn, 1) := by decide +kernel
theorem dX5_pass_0 : decode cX5_pass 0 = .ok (.iload_n 1, 1) := by decide +kernel
theorem dX5_pass_1 : decode cX5_pass 1 = .ok (.iconst 1, 1) := by decide +kernel
theorem dX5_pass_2 : decode cX5_pass 2 = .ok (.if_icmp .lt 10, 3) := by decide +kernel
theorem dX5_pass_5 : decode cX5_pass 5 = .ok (.iload_n 1, 1) := by decide +kernel
theorem dX5_pass_6 : decode cX5_pass 6 = .ok (.sipush 600, 3) := by decide +kernel
theorem dX5_pass_9 : decode cX5_pass 9 = .ok (.if_icmp .le 13, 3) := by decide +kernel
theorem dX5_pass_12 : decode cX5_pass 12 = .ok (.new 34, 3) := by decide +kernel
theorem dX5_pass_15 : decode cX5_pass 15 = .ok (.dup, 1) := by decide +kernel
theorem dX5_pass_16 : decode cX5_pass 16 = .ok (.ldc 55, 2) := by decide +kernel
theorem dX5_pass_18 : decode cX5_pass 18 = .ok (.invokespecial 38, 3) := by decide +kernel
theorem dX5_pass_21 : decode cX5_pass 21 = .ok (.athrow, 1) := by decide +kernel
theorem dX5_pass_22 : decode cX5_pass 22 = .ok (.aload_n 0, 1) := by decide +kernel
theorem dX5_pass_23 : decode cX5_pass 23 = .ok (.dup, 1) := by decide +kernel
theorem dX5_pass_24 : decode cX5_pass 24 = .ok (.getfield 26, 3) := by decide +kernel
theorem dX5_pass_27 : decode cX5_pass 27 = .ok (.iload_n 1, 1) := by decide +kernel
theorem dX5_pass_28 : decode cX5_pass 28 = .ok (.i2l, 1) := by decide +kernel
theorem dX5_pass_29 : decode cX5_pass 29 = .ok (.ladd, 1) := by decide +kernel
theorem dX5_pass_30 : decode cX5_pass 30 = .ok (.putfield 26, 3) := by decide +kernel
theorem dX5_pass_33 : decode cX5_pass 33 = .ok (.aload_n 0, 1) := by decide +kernel
theorem dX5_pass_34 : decode cX5_pass 34 = .ok (.getfield 26, 3) := by decide +kernel
theorem dX5_pass_37 : decode cX5_pass 37 = .ok (.lreturn, 1) := by decide +kernel
theorem dX5_add_0 : decode cX5_add 0 = .ok (.aload_n 0, 1) := by decide +kernel
theorem dX5_add_1 : decode cX5_add 1 = .ok (.iload_n 1, 1) := by decide +kernel
theorem dX5_add_2 : decode cX5_add 2 = .ok (.invokevirtual 57, 3) := by decide +kernel
theorem dX5_add_5 : decode cX5_add 5 = .ok (.astore_n 3, 1) := by decide +kernel
theorem dX5_add_6 : decode cX5_add 6 = .ok (.iload_n 2, 1) := by decide +kernel
theorem dX5_add_7 : decode cX5_add 7 = .ok (.invokestatic 61, 3) := by decide +kernel
theorem dX5_add_10 : decode cX5_add 10 = .ok (.ifCond .ne 13, 3) := by decide +kernel
theorem dX5_add_13 : decode cX5_add 13 = .ok (.new 34, 3) := by decide +kernel
theorem dX5_add_16 : decode cX5_add 16 = .ok (.dup, 1) := by decide +kernel
theorem dX5_add_17 : decode cX5_add 17 = .ok (.ldc 64, 2) := by decide +kernel
theorem dX5_add_19 : decode cX5_add 19 = .ok (.invokespecial 38, 3) := by decide +kernel
theorem dX5_add_22 : decode cX5_add 22 = .ok (.athrow, 1) := by decide +kernel
theorem dX5_add_23 : decode cX5_add 23 = .ok (.aload_n 3, 1) := by decide +kernel
theorem dX5_add_24 : decode cX5_add 24 = .ok (.invokevirtual 66, 3) := by decide +kernel
theorem dX5_add_27 : decode cX5_add 27 = .ok (.ifCond .eq 13, 3) := by decide +kernel
theorem dX5_add_30 : decode cX5_add 30 = .ok (.new 45, 3) := by decide +kernel
theorem dX5_add_33 : decode cX5_add 33 = .ok (.dup, 1) := by decide +kernel
theorem dX5_add_34 : decode cX5_add 34 = .ok (.ldc 70, 2) := by decide +kernel
theorem dX5_add_36 : decode cX5_add 36 = .ok (.invokespecial 49, 3) := by decide +kernel
theorem dX5_add_39 : decode cX5_add 39 = .ok (.athrow, 1) := by decide +kernel
theorem dX5_add_40 : decode cX5_add 40 = .ok (.aload_n 3, 1) := by decide +kernel
theorem dX5_add_41 : decode cX5_add 41 = .ok (.aload_n 0, 1) := by decide +kernel
theorem dX5_add_42 : decode cX5_add 42 = .ok (.getfield 26, 3) := by decide +kernel
theorem dX5_add_45 : decode cX5_add 45 = .ok (.invokevirtual 72, 3) := by decide +kernel
theorem dX5_add_48 : decode cX5_add 48 = .ok (.ifCond .eq 13, 3) := by decide +kernel
theorem dX5_add_51 : decode cX5_add 51 = .ok (.new 45, 3) := by decide +kernel
theorem dX5_add_54 : decode cX5_add 54 = .ok (.dup, 1) := by decide +kernel
theorem dX5_add_55 : decode cX5_add 55 = .ok (.ldc 76, 2) := by decide +kernel
theorem dX5_add_57 : decode cX5_add 57 = .ok (.invokespecial 49, 3) := by decide +kernel
theorem dX5_add_60 : decode cX5_add 60 = .ok (.athrow, 1) := by decide +kernel
theorem dX5_add_61 : decode cX5_add 61 = .ok (.aload_n 3, 1) := by decide +kernel
theorem dX5_add_62 : decode cX5_add 62 = .ok (.aload_n 0, 1) := by decide +kernel
theorem dX5_add_63 : decode cX5_add 63 = .ok (.getfield 26, 3) := by decide +kernel
theorem dX5_add_66 : decode cX5_add 66 = .ok (.iload_n 2, 1) := by decide +kernel
theorem dX5_add_67 : decode cX5_add 67 = .ok (.invokevirtual 78, 3) := by decide +kernel
theorem dX5_add_70 : decode cX5_add 70 = .ok (.aload_n 3, 1) := by decide +kernel
theorem dX5_add_71 : decode cX5_add 71 = .ok (.getfield 82, 3) := by decide +kernel
theorem dX5_add_74 : decode cX5_add 74 = .ok (.ireturn, 1) := by decide +kernel
theorem dX5_time_0 : decode cX5_time 0 = .ok (.aload_n 0, 1) := by decide +kernel
theorem dX5_time_1 : decode cX5_time 1 = .ok (.getfield 26, 3) := by decide +kernel
theorem dX5_time_4 : decode cX5_time 4 = .ok (.lreturn, 1) := by decide +kernel
theorem dX5_seriesCount_0 : decode cX5_seriesCount 0 = .ok (.aload_n 0, 1) := by decide +kernel
theorem dX5_seriesCount_1 : decode cX5_seriesCount 1 = .ok (.getfield 22, 3) := by decide +kernel
theorem dX5_seriesCount_4 : decode cX5_seriesCount 4 = .ok (.ireturn, 1) := by decide +kernel
theorem dX5_find_0 : decode cX5_find 0 = .ok (.aload_n 0, 1) := by decide +kernel
theorem dX5_find_1 : decode cX5_find 1 = .ok (.iload_n 1, 1) := by decide +kernel
theorem dX5_find_2 : decode cX5_find 2 = .ok (.iload_n 2, 1) := by decide +kernel
theorem dX5_find_3 : decode cX5_find 3 = .ok (.invokevirtual 41, 3) := by decide +kernel
theorem dX5_find_6 : decode cX5_find 6 = .ok (.istore_n 3, 1) := by decide +kernel
theorem dX5_find_7 : decode cX5_find 7 = .ok (.iload_n 3, 1) := by decide +kernel
theorem dX5_find_8 : decode cX5_find 8 = .ok (.ifCond .ge 13, 3) := by decide +kernel
theorem dX5_find_11 : decode cX5_find 11 = .ok (.new 85, 3) := by decide +kernel
theorem dX5_find_14 : decode cX5_find 14 = .ok (.dup, 1) := by decide +kernel
theorem dX5_find_15 : decode cX5_find 15 = .ok (.ldc 87, 2) := by decide +kernel
theorem dX5_find_17 : decode cX5_find 17 = .ok (.invokespecial 89, 3) := by decide +kernel
theorem dX5_find_20 : decode cX5_find 20 = .ok (.athrow, 1) := by decide +kernel
theorem dX5_find_21 : decode cX5_find 21 = .ok (.iload_n 3, 1) := by decide +kernel
theorem dX5_find_22 : decode cX5_find 22 = .ok (.ireturn, 1) := by decide +kernel
theorem dX5_nameOf_0 : decode cX5_nameOf 0 = .ok (.aload_n 0, 1) := by decide +kernel
theorem dX5_nameOf_1 : decode cX5_nameOf 1 = .ok (.iload_n 1, 1) := by decide +kernel
theorem dX5_nameOf_2 : decode cX5_nameOf 2 = .ok (.invokevirtual 57, 3) := by decide +kernel
theorem dX5_nameOf_5 : decode cX5_nameOf 5 = .ok (.getfield 90, 3) := by decide +kernel
theorem dX5_nameOf_8 : decode cX5_nameOf 8 = .ok (.ireturn, 1) := by decide +kernel
theorem dX5_hostOf_0 : decode cX5_hostOf 0 = .ok (.aload_n 0, 1) := by decide +kernel
theorem dX5_hostOf_1 : decode cX5_hostOf 1 = .ok (.iload_n 1, 1) := by decide +kernel
theorem dX5_hostOf_2 : decode cX5_hostOf 2 = .ok (.invokevirtual 57, 3) := by decide +kernel
theorem dX5_hostOf_5 : decode cX5_hostOf 5 = .ok (.getfield 93, 3) := by decide +kernel
theorem dX5_hostOf_8 : decode cX5_hostOf 8 = .ok (.ireturn, 1) := by decide +kernel
theorem dX5_samples_0 : decode cX5_samples 0 = .ok (.aload_n 0, 1) := by decide +kernel
theorem dX5_samples_1 : decode cX5_samples 1 = .ok (.iload_n 1, 1) := by decide +kernel
theorem dX5_samples_2 : decode cX5_samples 2 = .ok (.invokevirtual 57, 3) := by decide +kernel
theorem dX5_samples_5 : decode cX5_samples 5 = .ok (.getfield 82, 3) := by decide +kernel
theorem dX5_samples_8 : decode cX5_samples 8 = .ok (.ireturn, 1) := by decide +kernel
theorem dX5_latest_0 : decode cX5_latest 0 = .ok (.aload_n 0, 1) := by decide +kernel
theorem dX5_latest_1 : decode cX5_latest 1 = .ok (.iload_n 1, 1) := by decide +kernel
theorem dX5_latest_2 : decode cX5_latest 2 = .ok (.invokevirtual 57, 3) := by decide +kernel
theorem dX5_latest_5 : decode cX5_latest 5 = .ok (.astore_n 2, 1) := by decide +kernel
theorem dX5_latest_6 : decode cX5_latest 6 = .ok (.aload_n 2, 1) := by decide +kernel
theorem dX5_latest_7 : decode cX5_latest 7 = .ok (.invokestatic 96, 3) := by decide +kernel
theorem dX5_latest_10 : decode cX5_latest 10 = .ok (.aload_n 2, 1) := by decide +kernel
theorem dX5_latest_11 : decode cX5_latest 11 = .ok (.invokevirtual 100, 3) := by decide +kernel
theorem dX5_latest_14 : decode cX5_latest 14 = .ok (.ireturn, 1) := by decide +kernel
theorem dX5_blocks_0 : decode cX5_blocks 0 = .ok (.aload_n 0, 1) := by decide +kernel
theorem dX5_blocks_1 : decode cX5_blocks 1 = .ok (.iload_n 1, 1) := by decide +kernel
theorem dX5_blocks_2 : decode cX5_blocks 2 = .ok (.invokevirtual 57, 3) := by decide +kernel
theorem dX5_blocks_5 : decode cX5_blocks 5 = .ok (.invokevirtual 104, 3) := by decide +kernel
theorem dX5_blocks_8 : decode cX5_blocks 8 = .ok (.ireturn, 1) := by decide +kernel
theorem dX5_bitsOf_0 : decode cX5_bitsOf 0 = .ok (.aload_n 0, 1) := by decide +kernel
theorem dX5_bitsOf_1 : decode cX5_bitsOf 1 = .ok (.iload_n 1, 1) := by decide +kernel
theorem dX5_bitsOf_2 : decode cX5_bitsOf 2 = .ok (.invokevirtual 57, 3) := by decide +kernel
theorem dX5_bitsOf_5 : decode cX5_bitsOf 5 = .ok (.iload_n 2, 1) := by decide +kernel
theorem dX5_bitsOf_6 : decode cX5_bitsOf 6 = .ok (.invokevirtual 107, 3) := by decide +kernel
theorem dX5_bitsOf_9 : decode cX5_bitsOf 9 = .ok (.astore_n 3, 1) := by decide +kernel
theorem dX5_bitsOf_10 : decode cX5_bitsOf 10 = .ok (.aload_n 3, 1) := by decide +kernel
theorem dX5_bitsOf_11 : decode cX5_bitsOf 11 = .ok (.ifnonnull 13, 3) := by decide +kernel
theorem dX5_bitsOf_14 : decode cX5_bitsOf 14 = .ok (.new 111, 3) := by decide +kernel
theorem dX5_bitsOf_17 : decode cX5_bitsOf 17 = .ok (.dup, 1) := by decide +kernel
theorem dX5_bitsOf_18 : decode cX5_bitsOf 18 = .ok (.ldc 113, 2) := by decide +kernel
theorem dX5_bitsOf_20 : decode cX5_bitsOf 20 = .ok (.invokespecial 115, 3) := by decide +kernel
theorem dX5_bitsOf_23 : decode cX5_bitsOf 23 = .ok (.athrow, 1) := by decide +kernel
theorem dX5_bitsOf_24 : decode cX5_bitsOf 24 = .ok (.aload_n 3, 1) := by decide +kernel
theorem dX5_bitsOf_25 : decode cX5_bitsOf 25 = .ok (.getfield 116, 3) := by decide +kernel
theorem dX5_bitsOf_28 : decode cX5_bitsOf 28 = .ok (.ireturn, 1) := by decide +kernel
theorem dX5_timeAt_0 : decode cX5_timeAt 0 = .ok (.aload_n 0, 1) := by decide +kernel
theorem dX5_timeAt_1 : decode cX5_timeAt 1 = .ok (.iload_n 1, 1) := by decide +kernel
theorem dX5_timeAt_2 : decode cX5_timeAt 2 = .ok (.invokevirtual 57, 3) := by decide +kernel
theorem dX5_timeAt_5 : decode cX5_timeAt 5 = .ok (.iload_n 2, 1) := by decide +kernel
theorem dX5_timeAt_6 : decode cX5_timeAt 6 = .ok (.invokestatic 121, 3) := by decide +kernel
theorem dX5_timeAt_9 : decode cX5_timeAt 9 = .ok (.iload_n 2, 1) := by decide +kernel
theorem dX5_timeAt_10 : decode cX5_timeAt 10 = .ok (.bipush 8, 2) := by decide +kernel
theorem dX5_timeAt_12 : decode cX5_timeAt 12 = .ok (.irem, 1) := by decide +kernel
theorem dX5_timeAt_13 : decode cX5_timeAt 13 = .ok (.invokevirtual 125, 3) := by decide +kernel
theorem dX5_timeAt_16 : decode cX5_timeAt 16 = .ok (.lreturn, 1) := by decide +kernel
theorem dX5_valueAt_0 : decode cX5_valueAt 0 = .ok (.aload_n 0, 1) := by decide +kernel
theorem dX5_valueAt_1 : decode cX5_valueAt 1 = .ok (.iload_n 1, 1) := by decide +kernel
theorem dX5_valueAt_2 : decode cX5_valueAt 2 = .ok (.invokevirtual 57, 3) := by decide +kernel
theorem dX5_valueAt_5 : decode cX5_valueAt 5 = .ok (.iload_n 2, 1) := by decide +kernel
theorem dX5_valueAt_6 : decode cX5_valueAt 6 = .ok (.invokestatic 121, 3) := by decide +kernel
theorem dX5_valueAt_9 : decode cX5_valueAt 9 = .ok (.iload_n 2, 1) := by decide +kernel
theorem dX5_valueAt_10 : decode cX5_valueAt 10 = .ok (.bipush 8, 2) := by decide +kernel
theorem dX5_valueAt_12 : decode cX5_valueAt 12 = .ok (.irem, 1) := by decide +kernel
theorem dX5_valueAt_13 : decode cX5_valueAt 13 = .ok (.invokevirtual 129, 3) := by decide +kernel
theorem dX5_valueAt_16 : decode cX5_valueAt 16 = .ok (.ireturn, 1) := by decide +kernel
theorem dX5_allBits_0 : decode cX5_allBits 0 = .ok (.lconst 0, 1) := by decide +kernel
theorem dX5_allBits_1 : decode cX5_allBits 1 = .ok (.lstore_n 1, 1) := by decide +kernel
theorem dX5_allBits_2 : decode cX5_allBits 2 = .ok (.aload_n 0, 1) := by decide +kernel
theorem dX5_allBits_3 : decode cX5_allBits 3 = .ok (.getfield 11, 3) := by decide +kernel
theorem dX5_allBits_6 : decode cX5_allBits 6 = .ok (.astore_n 3, 1) := by decide +kernel
theorem dX5_allBits_7 : decode cX5_allBits 7 = .ok (.aload_n 3, 1) := by decide +kernel
theorem dX5_allBits_8 : decode cX5_allBits 8 = .ok (.arraylength, 1) := by decide +kernel
theorem dX5_allBits_9 : decode cX5_allBits 9 = .ok (.istore 4, 2) := by decide +kernel
theorem dX5_allBits_11 : decode cX5_allBits 11 = .ok (.iconst 0, 1) := by decide +kernel
theorem dX5_allBits_12 : decode cX5_allBits 12 = .ok (.istore 5, 2) := by decide +kernel
theorem dX5_allBits_14 : decode cX5_allBits 14 = .ok (.iload 5, 2) := by decide +kernel
theorem dX5_allBits_16 : decode cX5_allBits 16 = .ok (.iload 4, 2) := by decide +kernel
theorem dX5_allBits_18 : decode cX5_allBits 18 = .ok (.if_icmp .ge 28, 3) := by decide +kernel
theorem dX5_allBits_21 : decode cX5_allBits 21 = .ok (.aload_n 3, 1) := by decide +kernel
theorem dX5_allBits_22 : decode cX5_allBits 22 = .ok (.iload 5, 2) := by decide +kernel
theorem dX5_allBits_24 : decode cX5_allBits 24 = .ok (.aaload, 1) := by decide +kernel
theorem dX5_allBits_25 : decode cX5_allBits 25 = .ok (.astore 6, 2) := by decide +kernel
theorem dX5_allBits_27 : decode cX5_allBits 27 = .ok (.aload 6, 2) := by decide +kernel
theorem dX5_allBits_29 : decode cX5_allBits 29 = .ok (.ifnull 11, 3) := by decide +kernel
theorem dX5_allBits_32 : decode cX5_allBits 32 = .ok (.lload_n 1, 1) := by decide +kernel
theorem dX5_allBits_33 : decode cX5_allBits 33 = .ok (.aload 6, 2) := by decide +kernel
theorem dX5_allBits_35 : decode cX5_allBits 35 = .ok (.invokevirtual 133, 3) := by decide +kernel
theorem dX5_allBits_38 : decode cX5_allBits 38 = .ok (.ladd, 1) := by decide +kernel
theorem dX5_allBits_39 : decode cX5_allBits 39 = .ok (.lstore_n 1, 1) := by decide +kernel
theorem dX5_allBits_40 : decode cX5_allBits 40 = .ok (.iinc 5 1, 3) := by decide +kernel
theorem dX5_allBits_43 : decode cX5_allBits 43 = .ok (.goto (-29), 3) := by decide +kernel
theorem dX5_allBits_46 : decode cX5_allBits 46 = .ok (.lload_n 1, 1) := by decide +kernel
theorem dX5_allBits_47 : decode cX5_allBits 47 = .ok (.lreturn, 1) := by decide +kernel
theorem dX5_count_0 : decode cX5_count 0 = .ok (.aload_n 0, 1) := by decide +kernel
theorem dX5_count_1 : decode cX5_count 1 = .ok (.iload_n 1, 1) := by decide +kernel
theorem dX5_count_2 : decode cX5_count 2 = .ok (.lload_n 2, 1) := by decide +kernel
theorem dX5_count_3 : decode cX5_count 3 = .ok (.lload 4, 2) := by decide +kernel
theorem dX5_count_5 : decode cX5_count 5 = .ok (.invokevirtual 137, 3) := by decide +kernel
theorem dX5_count_8 : decode cX5_count 8 = .ok (.aload_n 0, 1) := by decide +kernel
theorem dX5_count_9 : decode cX5_count 9 = .ok (.getfield 18, 3) := by decide +kernel
theorem dX5_count_12 : decode cX5_count 12 = .ok (.getfield 141, 3) := by decide +kernel
theorem dX5_count_15 : decode cX5_count 15 = .ok (.ireturn, 1) := by decide +kernel
theorem dX5_sum_0 : decode cX5_sum 0 = .ok (.aload_n 0, 1) := by decide +kernel
theorem dX5_sum_1 : decode cX5_sum 1 = .ok (.iload_n 1, 1) := by decide +kernel
theorem dX5_sum_2 : decode cX5_sum 2 = .ok (.lload_n 2, 1) := by decide +kernel
theorem dX5_sum_3 : decode cX5_sum 3 = .ok (.lload 4, 2) := by decide +kernel
theorem dX5_sum_5 : decode cX5_sum 5 = .ok (.invokevirtual 137, 3) := by decide +kernel
theorem dX5_sum_8 : decode cX5_sum 8 = .ok (.aload_n 0, 1) := by decide +kernel
theorem dX5_sum_9 : decode cX5_sum 9 = .ok (.getfield 18, 3) := by decide +kernel
theorem dX5_sum_12 : decode cX5_sum 12 = .ok (.getfield 144, 3) := by decide +kernel
theorem dX5_sum_15 : decode cX5_sum 15 = .ok (.lreturn, 1) := by decide +kernel
theorem dX5_sumByReading_0 : decode cX5_sumByReading 0 = .ok (.aload_n 0, 1) := by decide +kernel
theorem dX5_sumByReading_1 : decode cX5_sumByReading 1 = .ok (.iload_n 1, 1) := by decide +kernel
theorem dX5_sumByReading_2 : decode cX5_sumByReading 2 = .ok (.invokevirtual 57, 3) := by decide +kernel
theorem dX5_sumByReading_5 : decode cX5_sumByReading 5 = .ok (.astore 6, 2) := by decide +kernel
theorem dX5_sumByReading_7 : decode cX5_sumByReading 7 = .ok (.lload_n 2, 1) := by decide +kernel
theorem dX5_sumByReading_8 : decode cX5_sumByReading 8 = .ok (.lload 4, 2) := by decide +kernel
theorem dX5_sumByReading_10 : decode cX5_sumByReading 10 = .ok (.invokestatic 147, 3) := by decide +kernel
theorem dX5_sumByReading_13 : decode cX5_sumByReading 13 = .ok (.aload 6, 2) := by decide +kernel
theorem dX5_sumByReading_15 : decode cX5_sumByReading 15 = .ok (.aload_n 0, 1) := by decide +kernel
theorem dX5_sumByReading_16 : decode cX5_sumByReading 16 = .ok (.getfield 18, 3) := by decide +kernel
theorem dX5_sumByReading_19 : decode cX5_sumByReading 19 = .ok (.lload_n 2, 1) := by decide +kernel
theorem dX5_sumByReading_20 : decode cX5_sumByReading 20 = .ok (.lload 4, 2) := by decide +kernel
theorem dX5_sumByReading_22 : decode cX5_sumByReading 22 = .ok (.invokevirtual 151, 3) := by decide +kernel
theorem dX5_sumByReading_25 : decode cX5_sumByReading 25 = .ok (.aload_n 0, 1) := by decide +kernel
theorem dX5_sumByReading_26 : decode cX5_sumByReading 26 = .ok (.getfield 18, 3) := by decide +kernel
theorem dX5_sumByReading_29 : decode cX5_sumByReading 29 = .ok (.getfield 144, 3) := by decide +kernel
theorem dX5_sumByReading_32 : decode cX5_sumByReading 32 = .ok (.lreturn, 1) := by decide +kernel
theorem dX5_maximum_0 : decode cX5_maximum 0 = .ok (.aload_n 0, 1) := by decide +kernel
theorem dX5_maximum_1 : decode cX5_maximum 1 = .ok (.iload_n 1, 1) := by decide +kernel
theorem dX5_maximum_2 : decode cX5_maximum 2 = .ok (.lload_n 2, 1) := by decide +kernel
theorem dX5_maximum_3 : decode cX5_maximum 3 = .ok (.lload 4, 2) := by decide +kernel
theorem dX5_maximum_5 : decode cX5_maximum 5 = .ok (.invokevirtual 137, 3) := by decide +kernel
theorem dX5_maximum_8 : decode cX5_maximum 8 = .ok (.aload_n 0, 1) := by decide +kernel
theorem dX5_maximum_9 : decode cX5_maximum 9 = .ok (.getfield 18, 3) := by decide +kernel
theorem dX5_maximum_12 : decode cX5_maximum 12 = .ok (.getfield 141, 3) := by decide +kernel
theorem dX5_maximum_15 : decode cX5_maximum 15 = .ok (.ifCond .ne 13, 3) := by decide +kernel
theorem dX5_maximum_18 : decode cX5_maximum 18 = .ok (.new 45, 3) := by decide +kernel
theorem dX5_maximum_21 : decode cX5_maximum 21 = .ok (.dup, 1) := by decide +kernel
theorem dX5_maximum_22 : decode cX5_maximum 22 = .ok (.ldc 155, 2) := by decide +kernel
theorem dX5_maximum_24 : decode cX5_maximum 24 = .ok (.invokespecial 49, 3) := by decide +kernel
theorem dX5_maximum_27 : decode cX5_maximum 27 = .ok (.athrow, 1) := by decide +kernel
theorem dX5_maximum_28 : decode cX5_maximum 28 = .ok (.aload_n 0, 1) := by decide +kernel
theorem dX5_maximum_29 : decode cX5_maximum 29 = .ok (.getfield 18, 3) := by decide +kernel
theorem dX5_maximum_32 : decode cX5_maximum 32 = .ok (.getfield 157, 3) := by decide +kernel
theorem dX5_maximum_35 : decode cX5_maximum 35 = .ok (.ireturn, 1) := by decide +kernel
theorem dX5_mean_0 : decode cX5_mean 0 = .ok (.aload_n 0, 1) := by decide +kernel
theorem dX5_mean_1 : decode cX5_mean 1 = .ok (.iload_n 1, 1) := by decide +kernel
theorem dX5_mean_2 : decode cX5_mean 2 = .ok (.lload_n 2, 1) := by decide +kernel
theorem dX5_mean_3 : decode cX5_mean 3 = .ok (.lload 4, 2) := by decide +kernel
theorem dX5_mean_5 : decode cX5_mean 5 = .ok (.invokevirtual 137, 3) := by decide +kernel
theorem dX5_mean_8 : decode cX5_mean 8 = .ok (.aload_n 0, 1) := by decide +kernel
theorem dX5_mean_9 : decode cX5_mean 9 = .ok (.getfield 18, 3) := by decide +kernel
theorem dX5_mean_12 : decode cX5_mean 12 = .ok (.getfield 141, 3) := by decide +kernel
theorem dX5_mean_15 : decode cX5_mean 15 = .ok (.ifCond .ne 13, 3) := by decide +kernel
theorem dX5_mean_18 : decode cX5_mean 18 = .ok (.new 160, 3) := by decide +kernel
theorem dX5_mean_21 : decode cX5_mean 21 = .ok (.dup, 1) := by decide +kernel
theorem dX5_mean_22 : decode cX5_mean 22 = .ok (.ldc 155, 2) := by decide +kernel
theorem dX5_mean_24 : decode cX5_mean 24 = .ok (.invokespecial 162, 3) := by decide +kernel
theorem dX5_mean_27 : decode cX5_mean 27 = .ok (.athrow, 1) := by decide +kernel
theorem dX5_mean_28 : decode cX5_mean 28 = .ok (.aload_n 0, 1) := by decide +kernel
theorem dX5_mean_29 : decode cX5_mean 29 = .ok (.getfield 18, 3) := by decide +kernel
theorem dX5_mean_32 : decode cX5_mean 32 = .ok (.getfield 144, 3) := by decide +kernel
theorem dX5_mean_35 : decode cX5_mean 35 = .ok (.l2d, 1) := by decide +kernel
theorem dX5_mean_36 : decode cX5_mean 36 = .ok (.aload_n 0, 1) := by decide +kernel
theorem dX5_mean_37 : decode cX5_mean 37 = .ok (.getfield 18, 3) := by decide +kernel
theorem dX5_mean_40 : decode cX5_mean 40 = .ok (.getfield 141, 3) := by decide +kernel
theorem dX5_mean_43 : decode cX5_mean 43 = .ok (.i2d, 1) := by decide +kernel
theorem dX5_mean_44 : decode cX5_mean 44 = .ok (.ddiv, 1) := by decide +kernel
theorem dX5_mean_45 : decode cX5_mean 45 = .ok (.dreturn, 1) := by decide +kernel
theorem dX5_rollupCount_0 : decode cX5_rollupCount 0 = .ok (.aload_n 0, 1) := by decide +kernel
theorem dX5_rollupCount_1 : decode cX5_rollupCount 1 = .ok (.iload_n 1, 1) := by decide +kernel
theorem dX5_rollupCount_2 : decode cX5_rollupCount 2 = .ok (.invokevirtual 57, 3) := by decide +kernel
theorem dX5_rollupCount_5 : decode cX5_rollupCount 5 = .ok (.astore_n 3, 1) := by decide +kernel
theorem dX5_rollupCount_6 : decode cX5_rollupCount 6 = .ok (.iload_n 2, 1) := by decide +kernel
theorem dX5_rollupCount_7 : decode cX5_rollupCount 7 = .ok (.ifCond .ge 13, 3) := by decide +kernel
theorem dX5_rollupCount_10 : decode cX5_rollupCount 10 = .ok (.new 34, 3) := by decide +kernel
theorem dX5_rollupCount_13 : decode cX5_rollupCount 13 = .ok (.dup, 1) := by decide +kernel
theorem dX5_rollupCount_14 : decode cX5_rollupCount 14 = .ok (.ldc 163, 2) := by decide +kernel
theorem dX5_rollupCount_16 : decode cX5_rollupCount 16 = .ok (.invokespecial 38, 3) := by decide +kernel
theorem dX5_rollupCount_19 : decode cX5_rollupCount 19 = .ok (.athrow, 1) := by decide +kernel
theorem dX5_rollupCount_20 : decode cX5_rollupCount 20 = .ok (.iload_n 2, 1) := by decide +kernel
theorem dX5_rollupCount_21 : decode cX5_rollupCount 21 = .ok (.i2l, 1) := by decide +kernel
theorem dX5_rollupCount_22 : decode cX5_rollupCount 22 = .ok (.ldc2_w 165, 3) := by decide +kernel
theorem dX5_rollupCount_25 : decode cX5_rollupCount 25 = .ok (.lmul, 1) := by decide +kernel
theorem dX5_rollupCount_26 : decode cX5_rollupCount 26 = .ok (.lstore 4, 2) := by decide +kernel
theorem dX5_rollupCount_28 : decode cX5_rollupCount 28 = .ok (.aload_n 3, 1) := by decide +kernel
theorem dX5_rollupCount_29 : decode cX5_rollupCount 29 = .ok (.aload_n 0, 1) := by decide +kernel
theorem dX5_rollupCount_30 : decode cX5_rollupCount 30 = .ok (.getfield 18, 3) := by decide +kernel
theorem dX5_rollupCount_33 : decode cX5_rollupCount 33 = .ok (.lload 4, 2) := by decide +kernel
theorem dX5_rollupCount_35 : decode cX5_rollupCount 35 = .ok (.lload 4, 2) := by decide +kernel
theorem dX5_rollupCount_37 : decode cX5_rollupCount 37 = .ok (.ldc2_w 165, 3) := by decide +kernel
theorem dX5_rollupCount_40 : decode cX5_rollupCount 40 = .ok (.ladd, 1) := by decide +kernel
theorem dX5_rollupCount_41 : decode cX5_rollupCount 41 = .ok (.lconst 1, 1) := by decide +kernel
theorem dX5_rollupCount_42 : decode cX5_rollupCount 42 = .ok (.lsub, 1) := by decide +kernel
theorem dX5_rollupCount_43 : decode cX5_rollupCount 43 = .ok (.invokevirtual 151, 3) := by decide +kernel
theorem dX5_rollupCount_46 : decode cX5_rollupCount 46 = .ok (.aload_n 0, 1) := by decide +kernel
theorem dX5_rollupCount_47 : decode cX5_rollupCount 47 = .ok (.getfield 18, 3) := by decide +kernel
theorem dX5_rollupCount_50 : decode cX5_rollupCount 50 = .ok (.getfield 141, 3) := by decide +kernel
theorem dX5_rollupCount_53 : decode cX5_rollupCount 53 = .ok (.ireturn, 1) := by decide +kernel
theorem dX5_countLow_0 : decode cX5_countLow 0 = .ok (.aload_n 0, 1) := by decide +kernel
theorem dX5_countLow_1 : decode cX5_countLow 1 = .ok (.iload_n 1, 1) := by decide +kernel
theorem dX5_countLow_2 : decode cX5_countLow 2 = .ok (.invokevirtual 57, 3) := by decide +kernel
theorem dX5_countLow_5 : decode cX5_countLow 5 = .ok (.astore 6, 2) := by decide +kernel
theorem dX5_countLow_7 : decode cX5_countLow 7 = .ok (.lload_n 2, 1) := by decide +kernel
theorem dX5_countLow_8 : decode cX5_countLow 8 = .ok (.lload 4, 2) := by decide +kernel
theorem dX5_countLow_10 : decode cX5_countLow 10 = .ok (.invokestatic 147, 3) := by decide +kernel
theorem dX5_countLow_13 : decode cX5_countLow 13 = .ok (.aload 6, 2) := by decide +kernel
theorem dX5_countLow_15 : decode cX5_countLow 15 = .ok (.aload_n 0, 1) := by decide +kernel
theorem dX5_countLow_16 : decode cX5_countLow 16 = .ok (.getfield 18, 3) := by decide +kernel
theorem dX5_countLow_19 : decode cX5_countLow 19 = .ok (.lload_n 2, 1) := by decide +kernel
theorem dX5_countLow_20 : decode cX5_countLow 20 = .ok (.lload 4, 2) := by decide +kernel
theorem dX5_countLow_22 : decode cX5_countLow 22 = .ok (.invokevirtual 167, 3) := by decide +kernel
theorem dX5_countLow_25 : decode cX5_countLow 25 = .ok (.aload_n 0, 1) := by decide +kernel
theorem dX5_countLow_26 : decode cX5_countLow 26 = .ok (.getfield 18, 3) := by decide +kernel
theorem dX5_countLow_29 : decode cX5_countLow 29 = .ok (.getfield 141, 3) := by decide +kernel
theorem dX5_countLow_32 : decode cX5_countLow 32 = .ok (.ireturn, 1) := by decide +kernel
theorem dX5_countHigh_0 : decode cX5_countHigh 0 = .ok (.aload_n 0, 1) := by decide +kernel
theorem dX5_countHigh_1 : decode cX5_countHigh 1 = .ok (.iload_n 1, 1) := by decide +kernel
theorem dX5_countHigh_2 : decode cX5_countHigh 2 = .ok (.lload_n 2, 1) := by decide +kernel
theorem dX5_countHigh_3 : decode cX5_countHigh 3 = .ok (.lload 4, 2) := by decide +kernel
theorem dX5_countHigh_5 : decode cX5_countHigh 5 = .ok (.invokevirtual 170, 3) := by decide +kernel
theorem dX5_countHigh_8 : decode cX5_countHigh 8 = .ok (.aload_n 0, 1) := by decide +kernel
theorem dX5_countHigh_9 : decode cX5_countHigh 9 = .ok (.getfield 18, 3) := by decide +kernel
theorem dX5_countHigh_12 : decode cX5_countHigh 12 = .ok (.getfield 141, 3) := by decide +kernel
theorem dX5_countHigh_15 : decode cX5_countHigh 15 = .ok (.ireturn, 1) := by decide +kernel
theorem dX5_maximumHigh_0 : decode cX5_maximumHigh 0 = .ok (.aload_n 0, 1) := by decide +kernel
theorem dX5_maximumHigh_1 : decode cX5_maximumHigh 1 = .ok (.iload_n 1, 1) := by decide +kernel
theorem dX5_maximumHigh_2 : decode cX5_maximumHigh 2 = .ok (.lload_n 2, 1) := by decide +kernel
theorem dX5_maximumHigh_3 : decode cX5_maximumHigh 3 = .ok (.lload 4, 2) := by decide +kernel
theorem dX5_maximumHigh_5 : decode cX5_maximumHigh 5 = .ok (.invokevirtual 170, 3) := by decide +kernel
theorem dX5_maximumHigh_8 : decode cX5_maximumHigh 8 = .ok (.aload_n 0, 1) := by decide +kernel
theorem dX5_maximumHigh_9 : decode cX5_maximumHigh 9 = .ok (.getfield 18, 3) := by decide +kernel
theorem dX5_maximumHigh_12 : decode cX5_maximumHigh 12 = .ok (.getfield 141, 3) := by decide +kernel
theorem dX5_maximumHigh_15 : decode cX5_maximumHigh 15 = .ok (.ifCond .ne 13, 3) := by decide +kernel
theorem dX5_maximumHigh_18 : decode cX5_maximumHigh 18 = .ok (.new 45, 3) := by decide +kernel
theorem dX5_maximumHigh_21 : decode cX5_maximumHigh 21 = .ok (.dup, 1) := by decide +kernel
theorem dX5_maximumHigh_22 : decode cX5_maximumHigh 22 = .ok (.ldc 173, 2) := by decide +kernel
theorem dX5_maximumHigh_24 : decode cX5_maximumHigh 24 = .ok (.invokespecial 49, 3) := by decide +kernel
theorem dX5_maximumHigh_27 : decode cX5_maximumHigh 27 = .ok (.athrow, 1) := by decide +kernel
theorem dX5_maximumHigh_28 : decode cX5_maximumHigh 28 = .ok (.aload_n 0, 1) := by decide +kernel
theorem dX5_maximumHigh_29 : decode cX5_maximumHigh 29 = .ok (.getfield 18, 3) := by decide +kernel
theorem dX5_maximumHigh_32 : decode cX5_maximumHigh 32 = .ok (.getfield 157, 3) := by decide +kernel
theorem dX5_maximumHigh_35 : decode cX5_maximumHigh 35 = .ok (.ireturn, 1) := by decide +kernel
theorem dX5_quantile_0 : decode cX5_quantile 0 = .ok (.aload_n 0, 1) := by decide +kernel
theorem dX5_quantile_1 : decode cX5_quantile 1 = .ok (.iload_n 1, 1) := by decide +kernel
theorem dX5_quantile_2 : decode cX5_quantile 2 = .ok (.iload_n 2, 1) := by decide +kernel
theorem dX5_quantile_3 : decode cX5_quantile 3 = .ok (.invokevirtual 175, 3) := by decide +kernel
theorem dX5_quantile_6 : decode cX5_quantile 6 = .ok (.astore_n 3, 1) := by decide +kernel
theorem dX5_quantile_7 : decode cX5_quantile 7 = .ok (.aload_n 3, 1) := by decide +kernel
theorem dX5_quantile_8 : decode cX5_quantile 8 = .ok (.getfield 179, 3) := by decide +kernel
theorem dX5_quantile_11 : decode cX5_quantile 11 = .ok (.aload_n 3, 1) := by decide +kernel
theorem dX5_quantile_12 : decode cX5_quantile 12 = .ok (.iload_n 2, 1) := by decide +kernel
theorem dX5_quantile_13 : decode cX5_quantile 13 = .ok (.invokevirtual 183, 3) := by decide +kernel
theorem dX5_quantile_16 : decode cX5_quantile 16 = .ok (.invokevirtual 186, 3) := by decide +kernel
theorem dX5_quantile_19 : decode cX5_quantile 19 = .ok (.ireturn, 1) := by decide +kernel
theorem dX5_exactQuantile_0 : decode cX5_exactQuantile 0 = .ok (.aload_n 0, 1) := by decide +kernel
theorem dX5_exactQuantile_1 : decode cX5_exactQuantile 1 = .ok (.iload_n 1, 1) := by decide +kernel
theorem dX5_exactQuantile_2 : decode cX5_exactQuantile 2 = .ok (.iload_n 2, 1) := by decide +kernel
theorem dX5_exactQuantile_3 : decode cX5_exactQuantile 3 = .ok (.invokevirtual 175, 3) := by decide +kernel
theorem dX5_exactQuantile_6 : decode cX5_exactQuantile 6 = .ok (.astore_n 3, 1) := by decide +kernel
theorem dX5_exactQuantile_7 : decode cX5_exactQuantile 7 = .ok (.aload_n 3, 1) := by decide +kernel
theorem dX5_exactQuantile_8 : decode cX5_exactQuantile 8 = .ok (.aload_n 3, 1) := by decide +kernel
theorem dX5_exactQuantile_9 : decode cX5_exactQuantile 9 = .ok (.iload_n 2, 1) := by decide +kernel
theorem dX5_exactQuantile_10 : decode cX5_exactQuantile 10 = .ok (.invokevirtual 183, 3) := by decide +kernel
theorem dX5_exactQuantile_13 : decode cX5_exactQuantile 13 = .ok (.invokevirtual 191, 3) := by decide +kernel
theorem dX5_exactQuantile_16 : decode cX5_exactQuantile 16 = .ok (.ireturn, 1) := by decide +kernel
theorem dX5_bound_0 : decode cX5_bound 0 = .ok (.aload_n 0, 1) := by decide +kernel
theorem dX5_bound_1 : decode cX5_bound 1 = .ok (.iload_n 1, 1) := by decide +kernel
theorem dX5_bound_2 : decode cX5_bound 2 = .ok (.invokevirtual 57, 3) := by decide +kernel
theorem dX5_bound_5 : decode cX5_bound 5 = .ok (.getfield 179, 3) := by decide +kernel
theorem dX5_bound_8 : decode cX5_bound 8 = .ok (.getfield 192, 3) := by decide +kernel
theorem dX5_bound_11 : decode cX5_bound 11 = .ok (.ireturn, 1) := by decide +kernel
theorem dX5_held_0 : decode cX5_held 0 = .ok (.aload_n 0, 1) := by decide +kernel
theorem dX5_held_1 : decode cX5_held 1 = .ok (.iload_n 1, 1) := by decide +kernel
theorem dX5_held_2 : decode cX5_held 2 = .ok (.invokevirtual 57, 3) := by decide +kernel
theorem dX5_held_5 : decode cX5_held 5 = .ok (.getfield 179, 3) := by decide +kernel
theorem dX5_held_8 : decode cX5_held 8 = .ok (.invokevirtual 195, 3) := by decide +kernel
theorem dX5_held_11 : decode cX5_held 11 = .ok (.ireturn, 1) := by decide +kernel
theorem dX5_isWithin_0 : decode cX5_isWithin 0 = .ok (.aload_n 0, 1) := by decide +kernel
theorem dX5_isWithin_1 : decode cX5_isWithin 1 = .ok (.iload_n 1, 1) := by decide +kernel
theorem dX5_isWithin_2 : decode cX5_isWithin 2 = .ok (.iload_n 2, 1) := by decide +kernel
theorem dX5_isWithin_3 : decode cX5_isWithin 3 = .ok (.invokevirtual 175, 3) := by decide +kernel
theorem dX5_isWithin_6 : decode cX5_isWithin 6 = .ok (.iload_n 2, 1) := by decide +kernel
theorem dX5_isWithin_7 : decode cX5_isWithin 7 = .ok (.invokevirtual 198, 3) := by decide +kernel
theorem dX5_isWithin_10 : decode cX5_isWithin 10 = .ok (.ireturn, 1) := by decide +kernel
theorem dX5_setAlert_0 : decode cX5_setAlert 0 = .ok (.aload_n 0, 1) := by decide +kernel
theorem dX5_setAlert_1 : decode cX5_setAlert 1 = .ok (.iload_n 1, 1) := by decide +kernel
theorem dX5_setAlert_2 : decode cX5_setAlert 2 = .ok (.invokevirtual 57, 3) := by decide +kernel
theorem dX5_setAlert_5 : decode cX5_setAlert 5 = .ok (.astore 4, 2) := by decide +kernel
theorem dX5_setAlert_7 : decode cX5_setAlert 7 = .ok (.iload_n 2, 1) := by decide +kernel
theorem dX5_setAlert_8 : decode cX5_setAlert 8 = .ok (.invokestatic 61, 3) := by decide +kernel
theorem dX5_setAlert_11 : decode cX5_setAlert 11 = .ok (.ifCond .ne 13, 3) := by decide +kernel
theorem dX5_setAlert_14 : decode cX5_setAlert 14 = .ok (.new 34, 3) := by decide +kernel
theorem dX5_setAlert_17 : decode cX5_setAlert 17 = .ok (.dup, 1) := by decide +kernel
theorem dX5_setAlert_18 : decode cX5_setAlert 18 = .ok (.ldc 201, 2) := by decide +kernel
theorem dX5_setAlert_20 : decode cX5_setAlert 20 = .ok (.invokespecial 38, 3) := by decide +kernel
theorem dX5_setAlert_23 : decode cX5_setAlert 23 = .ok (.athrow, 1) := by decide +kernel
theorem dX5_setAlert_24 : decode cX5_setAlert 24 = .ok (.iload_n 3, 1) := by decide +kernel
theorem dX5_setAlert_25 : decode cX5_setAlert 25 = .ok (.ifCond .lt 10, 3) := by decide +kernel
theorem dX5_setAlert_28 : decode cX5_setAlert 28 = .ok (.iload_n 3, 1) := by decide +kernel
theorem dX5_setAlert_29 : decode cX5_setAlert 29 = .ok (.sipush 600, 3) := by decide +kernel
theorem dX5_setAlert_32 : decode cX5_setAlert 32 = .ok (.if_icmp .le 13, 3) := by decide +kernel
theorem dX5_setAlert_35 : decode cX5_setAlert 35 = .ok (.new 34, 3) := by decide +kernel
theorem dX5_setAlert_38 : decode cX5_setAlert 38 = .ok (.dup, 1) := by decide +kernel
theorem dX5_setAlert_39 : decode cX5_setAlert 39 = .ok (.ldc 203, 2) := by decide +kernel
theorem dX5_setAlert_41 : decode cX5_setAlert 41 = .ok (.invokespecial 38, 3) := by decide +kernel
theorem dX5_setAlert_44 : decode cX5_setAlert 44 = .ok (.athrow, 1) := by decide +kernel
theorem dX5_setAlert_45 : decode cX5_setAlert 45 = .ok (.new 205, 3) := by decide +kernel
theorem dX5_setAlert_48 : decode cX5_setAlert 48 = .ok (.dup, 1) := by decide +kernel
theorem dX5_setAlert_49 : decode cX5_setAlert 49 = .ok (.iload_n 2, 1) := by decide +kernel
theorem dX5_setAlert_50 : decode cX5_setAlert 50 = .ok (.iload_n 3, 1) := by decide +kernel
theorem dX5_setAlert_51 : decode cX5_setAlert 51 = .ok (.invokespecial 207, 3) := by decide +kernel
theorem dX5_setAlert_54 : decode cX5_setAlert 54 = .ok (.astore 5, 2) := by decide +kernel
theorem dX5_setAlert_56 : decode cX5_setAlert 56 = .ok (.aload 4, 2) := by decide +kernel
theorem dX5_setAlert_58 : decode cX5_setAlert 58 = .ok (.getfield 82, 3) := by decide +kernel
theorem dX5_setAlert_61 : decode cX5_setAlert 61 = .ok (.ifCond .le 17, 3) := by decide +kernel
theorem dX5_setAlert_64 : decode cX5_setAlert 64 = .ok (.aload 5, 2) := by decide +kernel
theorem dX5_setAlert_66 : decode cX5_setAlert 66 = .ok (.aload_n 0, 1) := by decide +kernel
theorem dX5_setAlert_67 : decode cX5_setAlert 67 = .ok (.getfield 26, 3) := by decide +kernel
theorem dX5_setAlert_70 : decode cX5_setAlert 70 = .ok (.aload 4, 2) := by decide +kernel
theorem dX5_setAlert_72 : decode cX5_setAlert 72 = .ok (.invokevirtual 100, 3) := by decide +kernel
theorem dX5_setAlert_75 : decode cX5_setAlert 75 = .ok (.invokevirtual 208, 3) := by decide +kernel
theorem dX5_setAlert_78 : decode cX5_setAlert 78 = .ok (.aload 4, 2) := by decide +kernel
theorem dX5_setAlert_80 : decode cX5_setAlert 80 = .ok (.aload 5, 2) := by decide +kernel
theorem dX5_setAlert_82 : decode cX5_setAlert 82 = .ok (.putfield 211, 3) := by decide +kernel
theorem dX5_setAlert_85 : decode cX5_setAlert 85 = .ok (.aload 5, 2) := by decide +kernel
theorem dX5_setAlert_87 : decode cX5_setAlert 87 = .ok (.aload_n 0, 1) := by decide +kernel
theorem dX5_setAlert_88 : decode cX5_setAlert 88 = .ok (.getfield 26, 3) := by decide +kernel
theorem dX5_setAlert_91 : decode cX5_setAlert 91 = .ok (.invokevirtual 215, 3) := by decide +kernel
theorem dX5_setAlert_94 : decode cX5_setAlert 94 = .ok (.ireturn, 1) := by decide +kernel
theorem dX5_removeAlert_0 : decode cX5_removeAlert 0 = .ok (.aload_n 0, 1) := by decide +kernel
theorem dX5_removeAlert_1 : decode cX5_removeAlert 1 = .ok (.iload_n 1, 1) := by decide +kernel
theorem dX5_removeAlert_2 : decode cX5_removeAlert 2 = .ok (.invokevirtual 57, 3) := by decide +kernel
theorem dX5_removeAlert_5 : decode cX5_removeAlert 5 = .ok (.astore_n 2, 1) := by decide +kernel
theorem dX5_removeAlert_6 : decode cX5_removeAlert 6 = .ok (.aload_n 0, 1) := by decide +kernel
theorem dX5_removeAlert_7 : decode cX5_removeAlert 7 = .ok (.aload_n 2, 1) := by decide +kernel
theorem dX5_removeAlert_8 : decode cX5_removeAlert 8 = .ok (.invokevirtual 219, 3) := by decide +kernel
theorem dX5_removeAlert_11 : decode cX5_removeAlert 11 = .ok (.istore_n 3, 1) := by decide +kernel
theorem dX5_removeAlert_12 : decode cX5_removeAlert 12 = .ok (.aload_n 2, 1) := by decide +kernel
theorem dX5_removeAlert_13 : decode cX5_removeAlert 13 = .ok (.aconst_null, 1) := by decide +kernel
theorem dX5_removeAlert_14 : decode cX5_removeAlert 14 = .ok (.putfield 211, 3) := by decide +kernel
theorem dX5_removeAlert_17 : decode cX5_removeAlert 17 = .ok (.iload_n 3, 1) := by decide +kernel
theorem dX5_removeAlert_18 : decode cX5_removeAlert 18 = .ok (.ireturn, 1) := by decide +kernel
theorem dX5_alertOf_0 : decode cX5_alertOf 0 = .ok (.aload_n 0, 1) := by decide +kernel
theorem dX5_alertOf_1 : decode cX5_alertOf 1 = .ok (.aload_n 0, 1) := by decide +kernel
theorem dX5_alertOf_2 : decode cX5_alertOf 2 = .ok (.iload_n 1, 1) := by decide +kernel
theorem dX5_alertOf_3 : decode cX5_alertOf 3 = .ok (.invokevirtual 57, 3) := by decide +kernel
theorem dX5_alertOf_6 : decode cX5_alertOf 6 = .ok (.invokevirtual 219, 3) := by decide +kernel
theorem dX5_alertOf_9 : decode cX5_alertOf 9 = .ok (.ireturn, 1) := by decide +kernel
theorem dX5_firing_0 : decode cX5_firing 0 = .ok (.aload_n 0, 1) := by decide +kernel
theorem dX5_firing_1 : decode cX5_firing 1 = .ok (.invokevirtual 223, 3) := by decide +kernel
theorem dX5_firing_4 : decode cX5_firing 4 = .ok (.ireturn, 1) := by decide +kernel
theorem dX5_joinCount_0 : decode cX5_joinCount 0 = .ok (.iload_n 1, 1) := by decide +kernel
theorem dX5_joinCount_1 : decode cX5_joinCount 1 = .ok (.iload_n 2, 1) := by decide +kernel
theorem dX5_joinCount_2 : decode cX5_joinCount 2 = .ok (.invokestatic 226, 3) := by decide +kernel
theorem dX5_joinCount_5 : decode cX5_joinCount 5 = .ok (.iconst 0, 1) := by decide +kernel
theorem dX5_joinCount_6 : decode cX5_joinCount 6 = .ok (.istore_n 3, 1) := by decide +kernel
theorem dX5_joinCount_7 : decode cX5_joinCount 7 = .ok (.iconst 0, 1) := by decide +kernel
theorem dX5_joinCount_8 : decode cX5_joinCount 8 = .ok (.istore 4, 2) := by decide +kernel
theorem dX5_joinCount_10 : decode cX5_joinCount 10 = .ok (.iload 4, 2) := by decide +kernel
theorem dX5_joinCount_12 : decode cX5_joinCount 12 = .ok (.bipush 10, 2) := by decide +kernel
theorem dX5_joinCount_14 : decode cX5_joinCount 14 = .ok (.if_icmp .ge 32, 3) := by decide +kernel
theorem dX5_joinCount_17 : decode cX5_joinCount 17 = .ok (.aload_n 0, 1) := by decide +kernel
theorem dX5_joinCount_18 : decode cX5_joinCount 18 = .ok (.iload_n 1, 1) := by decide +kernel
theorem dX5_joinCount_19 : decode cX5_joinCount 19 = .ok (.iload 4, 2) := by decide +kernel
theorem dX5_joinCount_21 : decode cX5_joinCount 21 = .ok (.invokevirtual 229, 3) := by decide +kernel
theorem dX5_joinCount_24 : decode cX5_joinCount 24 = .ok (.ifnull 16, 3) := by decide +kernel
theorem dX5_joinCount_27 : decode cX5_joinCount 27 = .ok (.aload_n 0, 1) := by decide +kernel
theorem dX5_joinCount_28 : decode cX5_joinCount 28 = .ok (.iload_n 2, 1) := by decide +kernel
theorem dX5_joinCount_29 : decode cX5_joinCount 29 = .ok (.iload 4, 2) := by decide +kernel
theorem dX5_joinCount_31 : decode cX5_joinCount 31 = .ok (.invokevirtual 229, 3) := by decide +kernel
theorem dX5_joinCount_34 : decode cX5_joinCount 34 = .ok (.ifnull 6, 3) := by decide +kernel
theorem dX5_joinCount_37 : decode cX5_joinCount 37 = .ok (.iinc 3 1, 3) := by decide +kernel
theorem dX5_joinCount_40 : decode cX5_joinCount 40 = .ok (.iinc 4 1, 3) := by decide +kernel
theorem dX5_joinCount_43 : decode cX5_joinCount 43 = .ok (.goto (-33), 3) := by decide +kernel
theorem dX5_joinCount_46 : decode cX5_joinCount 46 = .ok (.iload_n 3, 1) := by decide +kernel
theorem dX5_joinCount_47 : decode cX5_joinCount 47 = .ok (.ireturn, 1) := by decide +kernel
theorem dX5_joinSum_0 : decode cX5_joinSum 0 = .ok (.iload_n 1, 1) := by decide +kernel
theorem dX5_joinSum_1 : decode cX5_joinSum 1 = .ok (.iload_n 2, 1) := by decide +kernel
theorem dX5_joinSum_2 : decode cX5_joinSum 2 = .ok (.invokestatic 226, 3) := by decide +kernel
theorem dX5_joinSum_5 : decode cX5_joinSum 5 = .ok (.lconst 0, 1) := by decide +kernel
theorem dX5_joinSum_6 : decode cX5_joinSum 6 = .ok (.lstore_n 3, 1) := by decide +kernel
theorem dX5_joinSum_7 : decode cX5_joinSum 7 = .ok (.iconst 0, 1) := by decide +kernel
theorem dX5_joinSum_8 : decode cX5_joinSum 8 = .ok (.istore 5, 2) := by decide +kernel
theorem dX5_joinSum_10 : decode cX5_joinSum 10 = .ok (.iload 5, 2) := by decide +kernel
theorem dX5_joinSum_12 : decode cX5_joinSum 12 = .ok (.bipush 10, 2) := by decide +kernel
theorem dX5_joinSum_14 : decode cX5_joinSum 14 = .ok (.if_icmp .ge 53, 3) := by decide +kernel
theorem dX5_joinSum_17 : decode cX5_joinSum 17 = .ok (.aload_n 0, 1) := by decide +kernel
theorem dX5_joinSum_18 : decode cX5_joinSum 18 = .ok (.iload_n 1, 1) := by decide +kernel
theorem dX5_joinSum_19 : decode cX5_joinSum 19 = .ok (.iload 5, 2) := by decide +kernel
theorem dX5_joinSum_21 : decode cX5_joinSum 21 = .ok (.invokevirtual 229, 3) := by decide +kernel
theorem dX5_joinSum_24 : decode cX5_joinSum 24 = .ok (.astore 6, 2) := by decide +kernel
theorem dX5_joinSum_26 : decode cX5_joinSum 26 = .ok (.aload_n 0, 1) := by decide +kernel
theorem dX5_joinSum_27 : decode cX5_joinSum 27 = .ok (.iload_n 2, 1) := by decide +kernel
theorem dX5_joinSum_28 : decode cX5_joinSum 28 = .ok (.iload 5, 2) := by decide +kernel
theorem dX5_joinSum_30 : decode cX5_joinSum 30 = .ok (.invokevirtual 229, 3) := by decide +kernel
theorem dX5_joinSum_33 : decode cX5_joinSum 33 = .ok (.astore 7, 2) := by decide +kernel
theorem dX5_joinSum_35 : decode cX5_joinSum 35 = .ok (.aload 6, 2) := by decide +kernel
theorem dX5_joinSum_37 : decode cX5_joinSum 37 = .ok (.ifnull 24, 3) := by decide +kernel
theorem dX5_joinSum_40 : decode cX5_joinSum 40 = .ok (.aload 7, 2) := by decide +kernel
theorem dX5_joinSum_42 : decode cX5_joinSum 42 = .ok (.ifnull 19, 3) := by decide +kernel
theorem dX5_joinSum_45 : decode cX5_joinSum 45 = .ok (.lload_n 3, 1) := by decide +kernel
theorem dX5_joinSum_46 : decode cX5_joinSum 46 = .ok (.aload 6, 2) := by decide +kernel
theorem dX5_joinSum_48 : decode cX5_joinSum 48 = .ok (.invokevirtual 100, 3) := by decide +kernel
theorem dX5_joinSum_51 : decode cX5_joinSum 51 = .ok (.i2l, 1) := by decide +kernel
theorem dX5_joinSum_52 : decode cX5_joinSum 52 = .ok (.aload 7, 2) := by decide +kernel
theorem dX5_joinSum_54 : decode cX5_joinSum 54 = .ok (.invokevirtual 100, 3) := by decide +kernel
theorem dX5_joinSum_57 : decode cX5_joinSum 57 = .ok (.i2l, 1) := by decide +kernel
theorem dX5_joinSum_58 : decode cX5_joinSum 58 = .ok (.lmul, 1) := by decide +kernel
theorem dX5_joinSum_59 : decode cX5_joinSum 59 = .ok (.ladd, 1) := by decide +kernel
theorem dX5_joinSum_60 : decode cX5_joinSum 60 = .ok (.lstore_n 3, 1) := by decide +kernel
theorem dX5_joinSum_61 : decode cX5_joinSum 61 = .ok (.iinc 5 1, 3) := by decide +kernel
theorem dX5_joinSum_64 : decode cX5_joinSum 64 = .ok (.goto (-54), 3) := by decide +kernel
theorem dX5_joinSum_67 : decode cX5_joinSum 67 = .ok (.lload_n 3, 1) := by decide +kernel
theorem dX5_joinSum_68 : decode cX5_joinSum 68 = .ok (.lreturn, 1) := by decide +kernel
theorem dX5_firingShare_0 : decode cX5_firingShare 0 = .ok (.aload_n 0, 1) := by decide +kernel
theorem dX5_firingShare_1 : decode cX5_firingShare 1 = .ok (.getfield 22, 3) := by decide +kernel
theorem dX5_firingShare_4 : decode cX5_firingShare 4 = .ok (.ifCond .ne 13, 3) := by decide +kernel
theorem dX5_firingShare_7 : decode cX5_firingShare 7 = .ok (.new 160, 3) := by decide +kernel
theorem dX5_firingShare_10 : decode cX5_firingShare 10 = .ok (.dup, 1) := by decide +kernel
theorem dX5_firingShare_11 : decode cX5_firingShare 11 = .ok (.ldc 232, 2) := by decide +kernel
theorem dX5_firingShare_13 : decode cX5_firingShare 13 = .ok (.invokespecial 162, 3) := by decide +kernel
theorem dX5_firingShare_16 : decode cX5_firingShare 16 = .ok (.athrow, 1) := by decide +kernel
theorem dX5_firingShare_17 : decode cX5_firingShare 17 = .ok (.aload_n 0, 1) := by decide +kernel
theorem dX5_firingShare_18 : decode cX5_firingShare 18 = .ok (.invokevirtual 223, 3) := by decide +kernel
theorem dX5_firingShare_21 : decode cX5_firingShare 21 = .ok (.i2f, 1) := by decide +kernel
theorem dX5_firingShare_22 : decode cX5_firingShare 22 = .ok (.aload_n 0, 1) := by decide +kernel
theorem dX5_firingShare_23 : decode cX5_firingShare 23 = .ok (.getfield 22, 3) := by decide +kernel
theorem dX5_firingShare_26 : decode cX5_firingShare 26 = .ok (.i2f, 1) := by decide +kernel
theorem dX5_firingShare_27 : decode cX5_firingShare 27 = .ok (.fdiv, 1) := by decide +kernel
theorem dX5_firingShare_28 : decode cX5_firingShare 28 = .ok (.freturn, 1) := by decide +kernel
theorem dX5_isConsistent_0 : decode cX5_isConsistent 0 = .ok (.aload_n 0, 1) := by decide +kernel
theorem dX5_isConsistent_1 : decode cX5_isConsistent 1 = .ok (.getfield 11, 3) := by decide +kernel
theorem dX5_isConsistent_4 : decode cX5_isConsistent 4 = .ok (.astore_n 1, 1) := by decide +kernel
theorem dX5_isConsistent_5 : decode cX5_isConsistent 5 = .ok (.aload_n 1, 1) := by decide +kernel
theorem dX5_isConsistent_6 : decode cX5_isConsistent 6 = .ok (.arraylength, 1) := by decide +kernel
theorem dX5_isConsistent_7 : decode cX5_isConsistent 7 = .ok (.istore_n 2, 1) := by decide +kernel
theorem dX5_isConsistent_8 : decode cX5_isConsistent 8 = .ok (.iconst 0, 1) := by decide +kernel
theorem dX5_isConsistent_9 : decode cX5_isConsistent 9 = .ok (.istore_n 3, 1) := by decide +kernel
theorem dX5_isConsistent_10 : decode cX5_isConsistent 10 = .ok (.iload_n 3, 1) := by decide +kernel
theorem dX5_isConsistent_11 : decode cX5_isConsistent 11 = .ok (.iload_n 2, 1) := by decide +kernel
theorem dX5_isConsistent_12 : decode cX5_isConsistent 12 = .ok (.if_icmp .ge 29, 3) := by decide +kernel
theorem dX5_isConsistent_15 : decode cX5_isConsistent 15 = .ok (.aload_n 1, 1) := by decide +kernel
theorem dX5_isConsistent_16 : decode cX5_isConsistent 16 = .ok (.iload_n 3, 1) := by decide +kernel
theorem dX5_isConsistent_17 : decode cX5_isConsistent 17 = .ok (.aaload, 1) := by decide +kernel
theorem dX5_isConsistent_18 : decode cX5_isConsistent 18 = .ok (.astore 4, 2) := by decide +kernel
theorem dX5_isConsistent_20 : decode cX5_isConsistent 20 = .ok (.aload 4, 2) := by decide +kernel
theorem dX5_isConsistent_22 : decode cX5_isConsistent 22 = .ok (.ifnull 13, 3) := by decide +kernel
theorem dX5_isConsistent_25 : decode cX5_isConsistent 25 = .ok (.aload 4, 2) := by decide +kernel
theorem dX5_isConsistent_27 : decode cX5_isConsistent 27 = .ok (.invokevirtual 234, 3) := by decide +kernel
theorem dX5_isConsistent_30 : decode cX5_isConsistent 30 = .ok (.ifCond .ne 5, 3) := by decide +kernel
theorem dX5_isConsistent_33 : decode cX5_isConsistent 33 = .ok (.iconst 0, 1) := by decide +kernel
theorem dX5_isConsistent_34 : decode cX5_isConsistent 34 = .ok (.ireturn, 1) := by decide +kernel
theorem dX5_isConsistent_35 : decode cX5_isConsistent 35 = .ok (.iinc 3 1, 3) := by decide +kernel
theorem dX5_isConsistent_38 : decode cX5_isConsistent 38 = .ok (.goto (-28), 3) := by decide +kernel
theorem dX5_isConsistent_41 : decode cX5_isConsistent 41 = .ok (.iconst 1, 1) := by decide +kernel
theorem dX5_isConsistent_42 : decode cX5_isConsistent 42 = .ok (.ireturn, 1) := by decide +kernel
theorem dX5_isLabel_0 : decode cX5_isLabel 0 = .ok (.iload_n 0, 1) := by decide +kernel
theorem dX5_isLabel_1 : decode cX5_isLabel 1 = .ok (.ifCond .lt 13, 3) := by decide +kernel
theorem dX5_isLabel_4 : decode cX5_isLabel 4 = .ok (.iload_n 0, 1) := by decide +kernel
theorem dX5_isLabel_5 : decode cX5_isLabel 5 = .ok (.bipush 10, 2) := by decide +kernel
theorem dX5_isLabel_7 : decode cX5_isLabel 7 = .ok (.if_icmp .ge 7, 3) := by decide +kernel
theorem dX5_isLabel_10 : decode cX5_isLabel 10 = .ok (.iconst 1, 1) := by decide +kernel
theorem dX5_isLabel_11 : decode cX5_isLabel 11 = .ok (.goto 4, 3) := by decide +kernel
theorem dX5_isLabel_14 : decode cX5_isLabel 14 = .ok (.iconst 0, 1) := by decide +kernel
theorem dX5_isLabel_15 : decode cX5_isLabel 15 = .ok (.ireturn, 1) := by decide +kernel
theorem dX5_isValue_0 : decode cX5_isValue 0 = .ok (.iload_n 0, 1) := by decide +kernel
theorem dX5_isValue_1 : decode cX5_isValue 1 = .ok (.sipush (-10000), 3) := by decide +kernel
theorem dX5_isValue_4 : decode cX5_isValue 4 = .ok (.if_icmp .lt 14, 3) := by decide +kernel
theorem dX5_isValue_7 : decode cX5_isValue 7 = .ok (.iload_n 0, 1) := by decide +kernel
theorem dX5_isValue_8 : decode cX5_isValue 8 = .ok (.sipush 10000, 3) := by decide +kernel
theorem dX5_isValue_11 : decode cX5_isValue 11 = .ok (.if_icmp .gt 7, 3) := by decide +kernel
theorem dX5_isValue_14 : decode cX5_isValue 14 = .ok (.iconst 1, 1) := by decide +kernel
theorem dX5_isValue_15 : decode cX5_isValue 15 = .ok (.goto 4, 3) := by decide +kernel
theorem dX5_isValue_18 : decode cX5_isValue 18 = .ok (.iconst 0, 1) := by decide +kernel
theorem dX5_isValue_19 : decode cX5_isValue 19 = .ok (.ireturn, 1) := by decide +kernel
theorem dX5_refuseBadNames_0 : decode cX5_refuseBadNames 0 = .ok (.iload_n 0, 1) := by decide +kernel
theorem dX5_refuseBadNames_1 : decode cX5_refuseBadNames 1 = .ok (.invokestatic 30, 3) := by decide +kernel
theorem dX5_refuseBadNames_4 : decode cX5_refuseBadNames 4 = .ok (.ifCond .eq 10, 3) := by decide +kernel
theorem dX5_refuseBadNames_7 : decode cX5_refuseBadNames 7 = .ok (.iload_n 1, 1) := by decide +kernel
theorem dX5_refuseBadNames_8 : decode cX5_refuseBadNames 8 = .ok (.invokestatic 30, 3) := by decide +kernel
theorem dX5_refuseBadNames_11 : decode cX5_refuseBadNames 11 = .ok (.ifCond .ne 13, 3) := by decide +kernel
theorem dX5_refuseBadNames_14 : decode cX5_refuseBadNames 14 = .ok (.new 34, 3) := by decide +kernel
theorem dX5_refuseBadNames_17 : decode cX5_refuseBadNames 17 = .ok (.dup, 1) := by decide +kernel
theorem dX5_refuseBadNames_18 : decode cX5_refuseBadNames 18 = .ok (.ldc 237, 2) := by decide +kernel
theorem dX5_refuseBadNames_20 : decode cX5_refuseBadNames 20 = .ok (.invokespecial 38, 3) := by decide +kernel
theorem dX5_refuseBadNames_23 : decode cX5_refuseBadNames 23 = .ok (.athrow, 1) := by decide +kernel
theorem dX5_refuseBadNames_24 : decode cX5_refuseBadNames 24 = .ok (.return_, 1) := by decide +kernel
theorem dX5_refuseBadRange_0 : decode cX5_refuseBadRange 0 = .ok (.lload_n 0, 1) := by decide +kernel
theorem dX5_refuseBadRange_1 : decode cX5_refuseBadRange 1 = .ok (.lconst 0, 1) := by decide +kernel
theorem dX5_refuseBadRange_2 : decode cX5_refuseBadRange 2 = .ok (.lcmp, 1) := by decide +kernel
theorem dX5_refuseBadRange_3 : decode cX5_refuseBadRange 3 = .ok (.ifCond .lt 9, 3) := by decide +kernel
theorem dX5_refuseBadRange_6 : decode cX5_refuseBadRange 6 = .ok (.lload_n 0, 1) := by decide +kernel
theorem dX5_refuseBadRange_7 : decode cX5_refuseBadRange 7 = .ok (.lload_n 2, 1) := by decide +kernel
theorem dX5_refuseBadRange_8 : decode cX5_refuseBadRange 8 = .ok (.lcmp, 1) := by decide +kernel
theorem dX5_refuseBadRange_9 : decode cX5_refuseBadRange 9 = .ok (.ifCond .le 13, 3) := by decide +kernel
theorem dX5_refuseBadRange_12 : decode cX5_refuseBadRange 12 = .ok (.new 34, 3) := by decide +kernel
theorem dX5_refuseBadRange_15 : decode cX5_refuseBadRange 15 = .ok (.dup, 1) := by decide +kernel
theorem dX5_refuseBadRange_16 : decode cX5_refuseBadRange 16 = .ok (.ldc 239, 2) := by decide +kernel
theorem dX5_refuseBadRange_18 : decode cX5_refuseBadRange 18 = .ok (.invokespecial 38, 3) := by decide +kernel
theorem dX5_refuseBadRange_21 : decode cX5_refuseBadRange 21 = .ok (.athrow, 1) := by decide +kernel
theorem dX5_refuseBadRange_22 : decode cX5_refuseBadRange 22 = .ok (.return_, 1) := by decide +kernel
theorem dX5_refuseEmpty_0 : decode cX5_refuseEmpty 0 = .ok (.aload_n 0, 1) := by decide +kernel
theorem dX5_refuseEmpty_1 : decode cX5_refuseEmpty 1 = .ok (.getfield 82, 3) := by decide +kernel
theorem dX5_refuseEmpty_4 : decode cX5_refuseEmpty 4 = .ok (.ifCond .ne 13, 3) := by decide +kernel
theorem dX5_refuseEmpty_7 : decode cX5_refuseEmpty 7 = .ok (.new 45, 3) := by decide +kernel
theorem dX5_refuseEmpty_10 : decode cX5_refuseEmpty 10 = .ok (.dup, 1) := by decide +kernel
theorem dX5_refuseEmpty_11 : decode cX5_refuseEmpty 11 = .ok (.ldc 241, 2) := by decide +kernel
theorem dX5_refuseEmpty_13 : decode cX5_refuseEmpty 13 = .ok (.invokespecial 49, 3) := by decide +kernel
theorem dX5_refuseEmpty_16 : decode cX5_refuseEmpty 16 = .ok (.athrow, 1) := by decide +kernel
theorem dX5_refuseEmpty_17 : decode cX5_refuseEmpty 17 = .ok (.return_, 1) := by decide +kernel
theorem dX5_rowOf_0 : decode cX5_rowOf 0 = .ok (.iload_n 1, 1) := by decide +kernel
theorem dX5_rowOf_1 : decode cX5_rowOf 1 = .ok (.ifCond .lt 21, 3) := by decide +kernel
theorem dX5_rowOf_4 : decode cX5_rowOf 4 = .ok (.iload_n 1, 1) := by decide +kernel
theorem dX5_rowOf_5 : decode cX5_rowOf 5 = .ok (.aload_n 0, 1) := by decide +kernel
theorem dX5_rowOf_6 : decode cX5_rowOf 6 = .ok (.getfield 11, 3) := by decide +kernel
theorem dX5_rowOf_9 : decode cX5_rowOf 9 = .ok (.arraylength, 1) := by decide +kernel
theorem dX5_rowOf_10 : decode cX5_rowOf 10 = .ok (.if_icmp .ge 12, 3) := by decide +kernel
theorem dX5_rowOf_13 : decode cX5_rowOf 13 = .ok (.aload_n 0, 1) := by decide +kernel
theorem dX5_rowOf_14 : decode cX5_rowOf 14 = .ok (.getfield 11, 3) := by decide +kernel
theorem dX5_rowOf_17 : decode cX5_rowOf 17 = .ok (.iload_n 1, 1) := by decide +kernel
theorem dX5_rowOf_18 : decode cX5_rowOf 18 = .ok (.aaload, 1) := by decide +kernel
theorem dX5_rowOf_19 : decode cX5_rowOf 19 = .ok (.goto 4, 3) := by decide +kernel
theorem dX5_rowOf_22 : decode cX5_rowOf 22 = .ok (.aconst_null, 1) := by decide +kernel
theorem dX5_rowOf_23 : decode cX5_rowOf 23 = .ok (.astore_n 2, 1) := by decide +kernel
theorem dX5_rowOf_24 : decode cX5_rowOf 24 = .ok (.aload_n 2, 1) := by decide +kernel
theorem dX5_rowOf_25 : decode cX5_rowOf 25 = .ok (.ifnonnull 13, 3) := by decide +kernel
theorem dX5_rowOf_28 : decode cX5_rowOf 28 = .ok (.new 85, 3) := by decide +kernel
theorem dX5_rowOf_31 : decode cX5_rowOf 31 = .ok (.dup, 1) := by decide +kernel
theorem dX5_rowOf_32 : decode cX5_rowOf 32 = .ok (.ldc 243, 2) := by decide +kernel
theorem dX5_rowOf_34 : decode cX5_rowOf 34 = .ok (.invokespecial 89, 3) := by decide +kernel
theorem dX5_rowOf_37 : decode cX5_rowOf 37 = .ok (.athrow, 1) := by decide +kernel
theorem dX5_rowOf_38 : decode cX5_rowOf 38 = .ok (.aload_n 2, 1) := by decide +kernel
theorem dX5_rowOf_39 : decode cX5_rowOf 39 = .ok (.areturn, 1) := by decide +kernel
theorem dX5_rowForQuantile_0 : decode cX5_rowForQuantile 0 = .ok (.aload_n 0, 1) := by decide +kernel
theorem dX5_rowForQuantile_1 : decode cX5_rowForQuantile 1 = .ok (.iload_n 1, 1) := by decide +kernel
theorem dX5_rowForQuantile_2 : decode cX5_rowForQuantile 2 = .ok (.invokevirtual 57, 3) := by decide +kernel
theorem dX5_rowForQuantile_5 : decode cX5_rowForQuantile 5 = .ok (.astore_n 3, 1) := by decide +kernel
theorem dX5_rowForQuantile_6 : decode cX5_rowForQuantile 6 = .ok (.iload_n 2, 1) := by decide +kernel
theorem dX5_rowForQuantile_7 : decode cX5_rowForQuantile 7 = .ok (.iconst 1, 1) := by decide +kernel
theorem dX5_rowForQuantile_8 : decode cX5_rowForQuantile 8 = .ok (.if_icmp .lt 9, 3) := by decide +kernel
theorem dX5_rowForQuantile_11 : decode cX5_rowForQuantile 11 = .ok (.iload_n 2, 1) := by decide +kernel
theorem dX5_rowForQuantile_12 : decode cX5_rowForQuantile 12 = .ok (.bipush 100, 2) := by decide +kernel
theorem dX5_rowForQuantile_14 : decode cX5_rowForQuantile 14 = .ok (.if_icmp .le 13, 3) := by decide +kernel
theorem dX5_rowForQuantile_17 : decode cX5_rowForQuantile 17 = .ok (.new 34, 3) := by decide +kernel
theorem dX5_rowForQuantile_20 : decode cX5_rowForQuantile 20 = .ok (.dup, 1) := by decide +kernel
theorem dX5_rowForQuantile_21 : decode cX5_rowForQuantile 21 = .ok (.ldc 245, 2) := by decide +kernel
theorem dX5_rowForQuantile_23 : decode cX5_rowForQuantile 23 = .ok (.invokespecial 38, 3) := by decide +kernel
theorem dX5_rowForQuantile_26 : decode cX5_rowForQuantile 26 = .ok (.athrow, 1) := by decide +kernel
theorem dX5_rowForQuantile_27 : decode cX5_rowForQuantile 27 = .ok (.aload_n 3, 1) := by decide +kernel
theorem dX5_rowForQuantile_28 : decode cX5_rowForQuantile 28 = .ok (.invokestatic 96, 3) := by decide +kernel
theorem dX5_rowForQuantile_31 : decode cX5_rowForQuantile 31 = .ok (.aload_n 3, 1) := by decide +kernel
theorem dX5_rowForQuantile_32 : decode cX5_rowForQuantile 32 = .ok (.areturn, 1) := by decide +kernel
theorem dX5_numberWith_0 : decode cX5_numberWith 0 = .ok (.iconst 0, 1) := by decide +kernel
theorem dX5_numberWith_1 : decode cX5_numberWith 1 = .ok (.istore_n 3, 1) := by decide +kernel
theorem dX5_numberWith_2 : decode cX5_numberWith 2 = .ok (.iload_n 3, 1) := by decide +kernel
theorem dX5_numberWith_3 : decode cX5_numberWith 3 = .ok (.aload_n 0, 1) := by decide +kernel
theorem dX5_numberWith_4 : decode cX5_numberWith 4 = .ok (.getfield 11, 3) := by decide +kernel
theorem dX5_numberWith_7 : decode cX5_numberWith 7 = .ok (.arraylength, 1) := by decide +kernel
theorem dX5_numberWith_8 : decode cX5_numberWith 8 = .ok (.if_icmp .ge 42, 3) := by decide +kernel
theorem dX5_numberWith_11 : decode cX5_numberWith 11 = .ok (.aload_n 0, 1) := by decide +kernel
theorem dX5_numberWith_12 : decode cX5_numberWith 12 = .ok (.getfield 11, 3) := by decide +kernel
theorem dX5_numberWith_15 : decode cX5_numberWith 15 = .ok (.iload_n 3, 1) := by decide +kernel
theorem dX5_numberWith_16 : decode cX5_numberWith 16 = .ok (.aaload, 1) := by decide +kernel
theorem dX5_numberWith_17 : decode cX5_numberWith 17 = .ok (.astore 4, 2) := by decide +kernel
theorem dX5_numberWith_19 : decode cX5_numberWith 19 = .ok (.aload 4, 2) := by decide +kernel
theorem dX5_numberWith_21 : decode cX5_numberWith 21 = .ok (.ifnull 23, 3) := by decide +kernel
theorem dX5_numberWith_24 : decode cX5_numberWith 24 = .ok (.aload 4, 2) := by decide +kernel
theorem dX5_numberWith_26 : decode cX5_numberWith 26 = .ok (.getfield 90, 3) := by decide +kernel
theorem dX5_numberWith_29 : decode cX5_numberWith 29 = .ok (.iload_n 1, 1) := by decide +kernel
theorem dX5_numberWith_30 : decode cX5_numberWith 30 = .ok (.if_icmp .ne 14, 3) := by decide +kernel
theorem dX5_numberWith_33 : decode cX5_numberWith 33 = .ok (.aload 4, 2) := by decide +kernel
theorem dX5_numberWith_35 : decode cX5_numberWith 35 = .ok (.getfield 93, 3) := by decide +kernel
theorem dX5_numberWith_38 : decode cX5_numberWith 38 = .ok (.iload_n 2, 1) := by decide +kernel
theorem dX5_numberWith_39 : decode cX5_numberWith 39 = .ok (.if_icmp .ne 5, 3) := by decide +kernel
theorem dX5_numberWith_42 : decode cX5_numberWith 42 = .ok (.iload_n 3, 1) := by decide +kernel
theorem dX5_numberWith_43 : decode cX5_numberWith 43 = .ok (.ireturn, 1) := by decide +kernel
theorem dX5_numberWith_44 : decode cX5_numberWith 44 = .ok (.iinc 3 1, 3) := by decide +kernel
theorem dX5_numberWith_47 : decode cX5_numberWith 47 = .ok (.goto (-45), 3) := by decide +kernel
theorem dX5_numberWith_50 : decode cX5_numberWith 50 = .ok (.iconst (-1), 1) := by decide +kernel
theorem dX5_numberWith_51 : decode cX5_numberWith 51 = .ok (.ireturn, 1) := by decide +kernel
theorem dX5_rowWithSamples_0 : decode cX5_rowWithSamples 0 = .ok (.aload_n 0, 1) := by decide +kernel
theorem dX5_rowWithSamples_1 : decode cX5_rowWithSamples 1 = .ok (.iload_n 1, 1) := by decide +kernel
theorem dX5_rowWithSamples_2 : decode cX5_rowWithSamples 2 = .ok (.iload_n 2, 1) := by decide +kernel
theorem dX5_rowWithSamples_3 : decode cX5_rowWithSamples 3 = .ok (.invokevirtual 41, 3) := by decide +kernel
theorem dX5_rowWithSamples_6 : decode cX5_rowWithSamples 6 = .ok (.istore_n 3, 1) := by decide +kernel
theorem dX5_rowWithSamples_7 : decode cX5_rowWithSamples 7 = .ok (.iload_n 3, 1) := by decide +kernel
theorem dX5_rowWithSamples_8 : decode cX5_rowWithSamples 8 = .ok (.ifCond .lt 21, 3) := by decide +kernel
theorem dX5_rowWithSamples_11 : decode cX5_rowWithSamples 11 = .ok (.iload_n 3, 1) := by decide +kernel
theorem dX5_rowWithSamples_12 : decode cX5_rowWithSamples 12 = .ok (.aload_n 0, 1) := by decide +kernel
theorem dX5_rowWithSamples_13 : decode cX5_rowWithSamples 13 = .ok (.getfield 11, 3) := by decide +kernel
theorem dX5_rowWithSamples_16 : decode cX5_rowWithSamples 16 = .ok (.arraylength, 1) := by decide +kernel
theorem dX5_rowWithSamples_17 : decode cX5_rowWithSamples 17 = .ok (.if_icmp .ge 12, 3) := by decide +kernel
theorem dX5_rowWithSamples_20 : decode cX5_rowWithSamples 20 = .ok (.aload_n 0, 1) := by decide +kernel
theorem dX5_rowWithSamples_21 : decode cX5_rowWithSamples 21 = .ok (.getfield 11, 3) := by decide +kernel
theorem dX5_rowWithSamples_24 : decode cX5_rowWithSamples 24 = .ok (.iload_n 3, 1) := by decide +kernel
theorem dX5_rowWithSamples_25 : decode cX5_rowWithSamples 25 = .ok (.aaload, 1) := by decide +kernel
theorem dX5_rowWithSamples_26 : decode cX5_rowWithSamples 26 = .ok (.goto 4, 3) := by decide +kernel
theorem dX5_rowWithSamples_29 : decode cX5_rowWithSamples 29 = .ok (.aconst_null, 1) := by decide +kernel
theorem dX5_rowWithSamples_30 : decode cX5_rowWithSamples 30 = .ok (.astore 4, 2) := by decide +kernel
theorem dX5_rowWithSamples_32 : decode cX5_rowWithSamples 32 = .ok (.aload 4, 2) := by decide +kernel
theorem dX5_rowWithSamples_34 : decode cX5_rowWithSamples 34 = .ok (.ifnull 16, 3) := by decide +kernel
theorem dX5_rowWithSamples_37 : decode cX5_rowWithSamples 37 = .ok (.aload 4, 2) := by decide +kernel
theorem dX5_rowWithSamples_39 : decode cX5_rowWithSamples 39 = .ok (.getfield 82, 3) := by decide +kernel
theorem dX5_rowWithSamples_42 : decode cX5_rowWithSamples 42 = .ok (.ifCond .le 8, 3) := by decide +kernel
theorem dX5_rowWithSamples_45 : decode cX5_rowWithSamples 45 = .ok (.aload 4, 2) := by decide +kernel
theorem dX5_rowWithSamples_47 : decode cX5_rowWithSamples 47 = .ok (.goto 4, 3) := by decide +kernel
theorem dX5_rowWithSamples_50 : decode cX5_rowWithSamples 50 = .ok (.aconst_null, 1) := by decide +kernel
theorem dX5_rowWithSamples_51 : decode cX5_rowWithSamples 51 = .ok (.areturn, 1) := by decide +kernel
theorem dX5_blockOfSample_0 : decode cX5_blockOfSample 0 = .ok (.iload_n 1, 1) := by decide +kernel
theorem dX5_blockOfSample_1 : decode cX5_blockOfSample 1 = .ok (.ifCond .lt 22, 3) := by decide +kernel
theorem dX5_blockOfSample_4 : decode cX5_blockOfSample 4 = .ok (.iload_n 1, 1) := by decide +kernel
theorem dX5_blockOfSample_5 : decode cX5_blockOfSample 5 = .ok (.aload_n 0, 1) := by decide +kernel
theorem dX5_blockOfSample_6 : decode cX5_blockOfSample 6 = .ok (.getfield 82, 3) := by decide +kernel
theorem dX5_blockOfSample_9 : decode cX5_blockOfSample 9 = .ok (.if_icmp .ge 14, 3) := by decide +kernel
theorem dX5_blockOfSample_12 : decode cX5_blockOfSample 12 = .ok (.aload_n 0, 1) := by decide +kernel
theorem dX5_blockOfSample_13 : decode cX5_blockOfSample 13 = .ok (.iload_n 1, 1) := by decide +kernel
theorem dX5_blockOfSample_14 : decode cX5_blockOfSample 14 = .ok (.bipush 8, 2) := by decide +kernel
theorem dX5_blockOfSample_16 : decode cX5_blockOfSample 16 = .ok (.idiv, 1) := by decide +kernel
theorem dX5_blockOfSample_17 : decode cX5_blockOfSample 17 = .ok (.invokevirtual 107, 3) := by decide +kernel
theorem dX5_blockOfSample_20 : decode cX5_blockOfSample 20 = .ok (.goto 4, 3) := by decide +kernel
theorem dX5_blockOfSample_23 : decode cX5_blockOfSample 23 = .ok (.aconst_null, 1) := by decide +kernel
theorem dX5_blockOfSample_24 : decode cX5_blockOfSample 24 = .ok (.astore_n 2, 1) := by decide +kernel
theorem dX5_blockOfSample_25 : decode cX5_blockOfSample 25 = .ok (.aload_n 2, 1) := by decide +kernel
theorem dX5_blockOfSample_26 : decode cX5_blockOfSample 26 = .ok (.ifnonnull 13, 3) := by decide +kernel
theorem dX5_blockOfSample_29 : decode cX5_blockOfSample 29 = .ok (.new 111, 3) := by decide +kernel
theorem dX5_blockOfSample_32 : decode cX5_blockOfSample 32 = .ok (.dup, 1) := by decide +kernel
theorem dX5_blockOfSample_33 : decode cX5_blockOfSample 33 = .ok (.ldc 247, 2) := by decide +kernel
theorem dX5_blockOfSample_35 : decode cX5_blockOfSample 35 = .ok (.invokespecial 115, 3) := by decide +kernel
theorem dX5_blockOfSample_38 : decode cX5_blockOfSample 38 = .ok (.athrow, 1) := by decide +kernel
theorem dX5_blockOfSample_39 : decode cX5_blockOfSample 39 = .ok (.aload_n 2, 1) := by decide +kernel
theorem dX5_blockOfSample_40 : decode cX5_blockOfSample 40 = .ok (.areturn, 1) := by decide +kernel
theorem dX5_readBlocks_0 : decode cX5_readBlocks 0 = .ok (.aload_n 0, 1) := by decide +kernel
theorem dX5_readBlocks_1 : decode cX5_readBlocks 1 = .ok (.iload_n 1, 1) := by decide +kernel
theorem dX5_readBlocks_2 : decode cX5_readBlocks 2 = .ok (.invokevirtual 57, 3) := by decide +kernel
end
section
theorem dX5_readBlocks_5 : decode cX5_readBlocks 5 = .ok (.astore 6, 2) := by decide +kernel
theorem dX5_readBlocks_7 : decode cX5_readBlocks 7 = .ok (.lload_n 2, 1) := by decide +kernel
theorem dX5_readBlocks_8 : decode cX5_readBlocks 8 = .ok (.lload 4, 2) := by decide +kernel
theorem dX5_readBlocks_10 : decode cX5_readBlocks 10 = .ok (.invokestatic 147, 3) := by decide +kernel
theorem dX5_readBlocks_13 : decode cX5_readBlocks 13 = .ok (.aload 6, 2) := by decide +kernel
theorem dX5_readBlocks_15 : decode cX5_readBlocks 15 = .ok (.aload_n 0, 1) := by decide +kernel
theorem dX5_readBlocks_16 : decode cX5_readBlocks 16 = .ok (.getfield 18, 3) := by decide +kernel
theorem dX5_readBlocks_19 : decode cX5_readBlocks 19 = .ok (.lload_n 2, 1) := by decide +kernel
theorem dX5_readBlocks_20 : decode cX5_readBlocks 20 = .ok (.lload 4, 2) := by decide +kernel
theorem dX5_readBlocks_22 : decode cX5_readBlocks 22 = .ok (.invokevirtual 249, 3) := by decide +kernel
theorem dX5_readBlocks_25 : decode cX5_readBlocks 25 = .ok (.return_, 1) := by decide +kernel
theorem dX5_readTouchingRollups_0 : decode cX5_readTouchingRollups 0 = .ok (.aload_n 0, 1) := by decide +kernel
theorem dX5_readTouchingRollups_1 : decode cX5_readTouchingRollups 1 = .ok (.iload_n 1, 1) := by decide +kernel
theorem dX5_readTouchingRollups_2 : decode cX5_readTouchingRollups 2 = .ok (.invokevirtual 57, 3) := by decide +kernel
theorem dX5_readTouchingRollups_5 : decode cX5_readTouchingRollups 5 = .ok (.astore 6, 2) := by decide +kernel
theorem dX5_readTouchingRollups_7 : decode cX5_readTouchingRollups 7 = .ok (.lload_n 2, 1) := by decide +kernel
theorem dX5_readTouchingRollups_8 : decode cX5_readTouchingRollups 8 = .ok (.lload 4, 2) := by decide +kernel
theorem dX5_readTouchingRollups_10 : decode cX5_readTouchingRollups 10 = .ok (.invokestatic 147, 3) := by decide +kernel
theorem dX5_readTouchingRollups_13 : decode cX5_readTouchingRollups 13 = .ok (.aload 6, 2) := by decide +kernel
theorem dX5_readTouchingRollups_15 : decode cX5_readTouchingRollups 15 = .ok (.aload_n 0, 1) := by decide +kernel
theorem dX5_readTouchingRollups_16 : decode cX5_readTouchingRollups 16 = .ok (.getfield 18, 3) := by decide +kernel
theorem dX5_readTouchingRollups_19 : decode cX5_readTouchingRollups 19 = .ok (.lload_n 2, 1) := by decide +kernel
theorem dX5_readTouchingRollups_20 : decode cX5_readTouchingRollups 20 = .ok (.lload 4, 2) := by decide +kernel
theorem dX5_readTouchingRollups_22 : decode cX5_readTouchingRollups 22 = .ok (.invokevirtual 251, 3) := by decide +kernel
theorem dX5_readTouchingRollups_25 : decode cX5_readTouchingRollups 25 = .ok (.return_, 1) := by decide +kernel
theorem dX5_stateOfAlert_0 : decode cX5_stateOfAlert 0 = .ok (.aload_n 1, 1) := by decide +kernel
theorem dX5_stateOfAlert_1 : decode cX5_stateOfAlert 1 = .ok (.getfield 211, 3) := by decide +kernel
theorem dX5_stateOfAlert_4 : decode cX5_stateOfAlert 4 = .ok (.astore_n 2, 1) := by decide +kernel
theorem dX5_stateOfAlert_5 : decode cX5_stateOfAlert 5 = .ok (.aload_n 2, 1) := by decide +kernel
theorem dX5_stateOfAlert_6 : decode cX5_stateOfAlert 6 = .ok (.ifnonnull 13, 3) := by decide +kernel
theorem dX5_stateOfAlert_9 : decode cX5_stateOfAlert 9 = .ok (.new 45, 3) := by decide +kernel
theorem dX5_stateOfAlert_12 : decode cX5_stateOfAlert 12 = .ok (.dup, 1) := by decide +kernel
theorem dX5_stateOfAlert_13 : decode cX5_stateOfAlert 13 = .ok (.ldc 254, 2) := by decide +kernel
theorem dX5_stateOfAlert_15 : decode cX5_stateOfAlert 15 = .ok (.invokespecial 49, 3) := by decide +kernel
theorem dX5_stateOfAlert_18 : decode cX5_stateOfAlert 18 = .ok (.athrow, 1) := by decide +kernel
theorem dX5_stateOfAlert_19 : decode cX5_stateOfAlert 19 = .ok (.aload_n 2, 1) := by decide +kernel
theorem dX5_stateOfAlert_20 : decode cX5_stateOfAlert 20 = .ok (.aload_n 0, 1) := by decide +kernel
theorem dX5_stateOfAlert_21 : decode cX5_stateOfAlert 21 = .ok (.getfield 26, 3) := by decide +kernel
theorem dX5_stateOfAlert_24 : decode cX5_stateOfAlert 24 = .ok (.invokevirtual 215, 3) := by decide +kernel
theorem dX5_stateOfAlert_27 : decode cX5_stateOfAlert 27 = .ok (.ireturn, 1) := by decide +kernel
theorem dX5_firingAlerts_0 : decode cX5_firingAlerts 0 = .ok (.iconst 0, 1) := by decide +kernel
theorem dX5_firingAlerts_1 : decode cX5_firingAlerts 1 = .ok (.istore_n 1, 1) := by decide +kernel
theorem dX5_firingAlerts_2 : decode cX5_firingAlerts 2 = .ok (.aload_n 0, 1) := by decide +kernel
theorem dX5_firingAlerts_3 : decode cX5_firingAlerts 3 = .ok (.getfield 11, 3) := by decide +kernel
theorem dX5_firingAlerts_6 : decode cX5_firingAlerts 6 = .ok (.astore_n 2, 1) := by decide +kernel
theorem dX5_firingAlerts_7 : decode cX5_firingAlerts 7 = .ok (.aload_n 2, 1) := by decide +kernel
theorem dX5_firingAlerts_8 : decode cX5_firingAlerts 8 = .ok (.arraylength, 1) := by decide +kernel
theorem dX5_firingAlerts_9 : decode cX5_firingAlerts 9 = .ok (.istore_n 3, 1) := by decide +kernel
theorem dX5_firingAlerts_10 : decode cX5_firingAlerts 10 = .ok (.iconst 0, 1) := by decide +kernel
theorem dX5_firingAlerts_11 : decode cX5_firingAlerts 11 = .ok (.istore 4, 2) := by decide +kernel
theorem dX5_firingAlerts_13 : decode cX5_firingAlerts 13 = .ok (.iload 4, 2) := by decide +kernel
theorem dX5_firingAlerts_15 : decode cX5_firingAlerts 15 = .ok (.iload_n 3, 1) := by decide +kernel
theorem dX5_firingAlerts_16 : decode cX5_firingAlerts 16 = .ok (.if_icmp .ge 48, 3) := by decide +kernel
theorem dX5_firingAlerts_19 : decode cX5_firingAlerts 19 = .ok (.aload_n 2, 1) := by decide +kernel
theorem dX5_firingAlerts_20 : decode cX5_firingAlerts 20 = .ok (.iload 4, 2) := by decide +kernel
theorem dX5_firingAlerts_22 : decode cX5_firingAlerts 22 = .ok (.aaload, 1) := by decide +kernel
theorem dX5_firingAlerts_23 : decode cX5_firingAlerts 23 = .ok (.astore 5, 2) := by decide +kernel
theorem dX5_firingAlerts_25 : decode cX5_firingAlerts 25 = .ok (.aload 5, 2) := by decide +kernel
theorem dX5_firingAlerts_27 : decode cX5_firingAlerts 27 = .ok (.ifnull 31, 3) := by decide +kernel
theorem dX5_firingAlerts_30 : decode cX5_firingAlerts 30 = .ok (.aload 5, 2) := by decide +kernel
theorem dX5_firingAlerts_32 : decode cX5_firingAlerts 32 = .ok (.getfield 211, 3) := by decide +kernel
theorem dX5_firingAlerts_35 : decode cX5_firingAlerts 35 = .ok (.ifnull 23, 3) := by decide +kernel
theorem dX5_firingAlerts_38 : decode cX5_firingAlerts 38 = .ok (.aload 5, 2) := by decide +kernel
theorem dX5_firingAlerts_40 : decode cX5_firingAlerts 40 = .ok (.getfield 211, 3) := by decide +kernel
theorem dX5_firingAlerts_43 : decode cX5_firingAlerts 43 = .ok (.aload_n 0, 1) := by decide +kernel
theorem dX5_firingAlerts_44 : decode cX5_firingAlerts 44 = .ok (.getfield 26, 3) := by decide +kernel
theorem dX5_firingAlerts_47 : decode cX5_firingAlerts 47 = .ok (.invokevirtual 215, 3) := by decide +kernel
theorem dX5_firingAlerts_50 : decode cX5_firingAlerts 50 = .ok (.bipush 102, 2) := by decide +kernel
theorem dX5_firingAlerts_52 : decode cX5_firingAlerts 52 = .ok (.if_icmp .ne 6, 3) := by decide +kernel
theorem dX5_firingAlerts_55 : decode cX5_firingAlerts 55 = .ok (.iinc 1 1, 3) := by decide +kernel
theorem dX5_firingAlerts_58 : decode cX5_firingAlerts 58 = .ok (.iinc 4 1, 3) := by decide +kernel
theorem dX5_firingAlerts_61 : decode cX5_firingAlerts 61 = .ok (.goto (-48), 3) := by decide +kernel
theorem dX5_firingAlerts_64 : decode cX5_firingAlerts 64 = .ok (.iload_n 1, 1) := by decide +kernel
theorem dX5_firingAlerts_65 : decode cX5_firingAlerts 65 = .ok (.ireturn, 1) := by decide +kernel
theorem dX6_init_0 : decode cX6_init 0 = .ok (.aload_n 0, 1) := by decide +kernel
theorem dX6_init_1 : decode cX6_init 1 = .ok (.invokespecial 1, 3) := by decide +kernel
theorem dX6_init_4 : decode cX6_init 4 = .ok (.aload_n 0, 1) := by decide +kernel
theorem dX6_init_5 : decode cX6_init 5 = .ok (.bipush 10, 2) := by decide +kernel
theorem dX6_init_7 : decode cX6_init 7 = .ok (.newarray .int, 2) := by decide +kernel
theorem dX6_init_9 : decode cX6_init 9 = .ok (.putfield 7, 3) := by decide +kernel
theorem dX6_init_12 : decode cX6_init 12 = .ok (.aload_n 0, 1) := by decide +kernel
theorem dX6_init_13 : decode cX6_init 13 = .ok (.bipush 10, 2) := by decide +kernel
theorem dX6_init_15 : decode cX6_init 15 = .ok (.newarray .int, 2) := by decide +kernel
theorem dX6_init_17 : decode cX6_init 17 = .ok (.putfield 13, 3) := by decide +kernel
theorem dX6_init_20 : decode cX6_init 20 = .ok (.aload_n 0, 1) := by decide +kernel
theorem dX6_init_21 : decode cX6_init 21 = .ok (.bipush 10, 2) := by decide +kernel
theorem dX6_init_23 : decode cX6_init 23 = .ok (.newarray .int, 2) := by decide +kernel
theorem dX6_init_25 : decode cX6_init 25 = .ok (.putfield 16, 3) := by decide +kernel
theorem dX6_init_28 : decode cX6_init 28 = .ok (.aload_n 0, 1) := by decide +kernel
theorem dX6_init_29 : decode cX6_init 29 = .ok (.sipush 1200, 3) := by decide +kernel
theorem dX6_init_32 : decode cX6_init 32 = .ok (.newarray .int, 2) := by decide +kernel
theorem dX6_init_34 : decode cX6_init 34 = .ok (.putfield 19, 3) := by decide +kernel
theorem dX6_init_37 : decode cX6_init 37 = .ok (.aload_n 0, 1) := by decide +kernel
theorem dX6_init_38 : decode cX6_init 38 = .ok (.bipush 10, 2) := by decide +kernel
theorem dX6_init_40 : decode cX6_init 40 = .ok (.newarray .int, 2) := by decide +kernel
theorem dX6_init_42 : decode cX6_init 42 = .ok (.putfield 22, 3) := by decide +kernel
theorem dX6_init_45 : decode cX6_init 45 = .ok (.aload_n 0, 1) := by decide +kernel
theorem dX6_init_46 : decode cX6_init 46 = .ok (.sipush 1200, 3) := by decide +kernel
theorem dX6_init_49 : decode cX6_init 49 = .ok (.newarray .long, 2) := by decide +kernel
theorem dX6_init_51 : decode cX6_init 51 = .ok (.putfield 25, 3) := by decide +kernel
theorem dX6_init_54 : decode cX6_init 54 = .ok (.aload_n 0, 1) := by decide +kernel
theorem dX6_init_55 : decode cX6_init 55 = .ok (.sipush 480, 3) := by decide +kernel
theorem dX6_init_58 : decode cX6_init 58 = .ok (.newarray .int, 2) := by decide +kernel
theorem dX6_init_60 : decode cX6_init 60 = .ok (.putfield 29, 3) := by decide +kernel
theorem dX6_init_63 : decode cX6_init 63 = .ok (.aload_n 0, 1) := by decide +kernel
theorem dX6_init_64 : decode cX6_init 64 = .ok (.bipush 60, 2) := by decide +kernel
theorem dX6_init_66 : decode cX6_init 66 = .ok (.newarray .int, 2) := by decide +kernel
theorem dX6_init_68 : decode cX6_init 68 = .ok (.putfield 32, 3) := by decide +kernel
theorem dX6_init_71 : decode cX6_init 71 = .ok (.aload_n 0, 1) := by decide +kernel
theorem dX6_init_72 : decode cX6_init 72 = .ok (.bipush 60, 2) := by decide +kernel
theorem dX6_init_74 : decode cX6_init 74 = .ok (.newarray .int, 2) := by decide +kernel
theorem dX6_init_76 : decode cX6_init 76 = .ok (.putfield 35, 3) := by decide +kernel
theorem dX6_init_79 : decode cX6_init 79 = .ok (.aload_n 0, 1) := by decide +kernel
theorem dX6_init_80 : decode cX6_init 80 = .ok (.bipush 10, 2) := by decide +kernel
theorem dX6_init_82 : decode cX6_init 82 = .ok (.newarray .int, 2) := by decide +kernel
theorem dX6_init_84 : decode cX6_init 84 = .ok (.putfield 38, 3) := by decide +kernel
theorem dX6_init_87 : decode cX6_init 87 = .ok (.aload_n 0, 1) := by decide +kernel
theorem dX6_init_88 : decode cX6_init 88 = .ok (.bipush 10, 2) := by decide +kernel
theorem dX6_init_90 : decode cX6_init 90 = .ok (.newarray .int, 2) := by decide +kernel
theorem dX6_init_92 : decode cX6_init 92 = .ok (.putfield 41, 3) := by decide +kernel
theorem dX6_init_95 : decode cX6_init 95 = .ok (.aload_n 0, 1) := by decide +kernel
theorem dX6_init_96 : decode cX6_init 96 = .ok (.bipush 10, 2) := by decide +kernel
theorem dX6_init_98 : decode cX6_init 98 = .ok (.newarray .int, 2) := by decide +kernel
theorem dX6_init_100 : decode cX6_init 100 = .ok (.putfield 44, 3) := by decide +kernel
theorem dX6_init_103 : decode cX6_init 103 = .ok (.aload_n 0, 1) := by decide +kernel
theorem dX6_init_104 : decode cX6_init 104 = .ok (.bipush 10, 2) := by decide +kernel
theorem dX6_init_106 : decode cX6_init 106 = .ok (.newarray .int, 2) := by decide +kernel
theorem dX6_init_108 : decode cX6_init 108 = .ok (.putfield 47, 3) := by decide +kernel
theorem dX6_init_111 : decode cX6_init 111 = .ok (.aload_n 0, 1) := by decide +kernel
theorem dX6_init_112 : decode cX6_init 112 = .ok (.bipush 10, 2) := by decide +kernel
theorem dX6_init_114 : decode cX6_init 114 = .ok (.newarray .long, 2) := by decide +kernel
theorem dX6_init_116 : decode cX6_init 116 = .ok (.putfield 50, 3) := by decide +kernel
theorem dX6_init_119 : decode cX6_init 119 = .ok (.return_, 1) := by decide +kernel
theorem dX6_thrown_0 : decode cX6_thrown 0 = .ok (.aload_n 0, 1) := by decide +kernel
theorem dX6_thrown_1 : decode cX6_thrown 1 = .ok (.getfield 53, 3) := by decide +kernel
theorem dX6_thrown_4 : decode cX6_thrown 4 = .ok (.ireturn, 1) := by decide +kernel
theorem dX6_fail_0 : decode cX6_fail 0 = .ok (.aload_n 0, 1) := by decide +kernel
theorem dX6_fail_1 : decode cX6_fail 1 = .ok (.iload_n 1, 1) := by decide +kernel
theorem dX6_fail_2 : decode cX6_fail 2 = .ok (.putfield 53, 3) := by decide +kernel
theorem dX6_fail_5 : decode cX6_fail 5 = .ok (.iconst 0, 1) := by decide +kernel
theorem dX6_fail_6 : decode cX6_fail 6 = .ok (.ireturn, 1) := by decide +kernel
theorem dX6_isIn_0 : decode cX6_isIn 0 = .ok (.iload_n 0, 1) := by decide +kernel
theorem dX6_isIn_1 : decode cX6_isIn 1 = .ok (.iload_n 1, 1) := by decide +kernel
theorem dX6_isIn_2 : decode cX6_isIn 2 = .ok (.if_icmp .lt 12, 3) := by decide +kernel
theorem dX6_isIn_5 : decode cX6_isIn 5 = .ok (.iload_n 0, 1) := by decide +kernel
theorem dX6_isIn_6 : decode cX6_isIn 6 = .ok (.iload_n 2, 1) := by decide +kernel
theorem dX6_isIn_7 : decode cX6_isIn 7 = .ok (.if_icmp .gt 7, 3) := by decide +kernel
theorem dX6_isIn_10 : decode cX6_isIn 10 = .ok (.iconst 1, 1) := by decide +kernel
theorem dX6_isIn_11 : decode cX6_isIn 11 = .ok (.goto 4, 3) := by decide +kernel
theorem dX6_isIn_14 : decode cX6_isIn 14 = .ok (.iconst 0, 1) := by decide +kernel
theorem dX6_isIn_15 : decode cX6_isIn 15 = .ok (.ireturn, 1) := by decide +kernel
theorem dX6_looks_0 : decode cX6_looks 0 = .ok (.aload_n 0, 1) := by decide +kernel
theorem dX6_looks_1 : decode cX6_looks 1 = .ok (.iload_n 1, 1) := by decide +kernel
theorem dX6_looks_2 : decode cX6_looks 2 = .ok (.iconst 0, 1) := by decide +kernel
theorem dX6_looks_3 : decode cX6_looks 3 = .ok (.aload_n 0, 1) := by decide +kernel
theorem dX6_looks_4 : decode cX6_looks 4 = .ok (.getfield 57, 3) := by decide +kernel
theorem dX6_looks_7 : decode cX6_looks 7 = .ok (.iconst 1, 1) := by decide +kernel
theorem dX6_looks_8 : decode cX6_looks 8 = .ok (.isub, 1) := by decide +kernel
theorem dX6_looks_9 : decode cX6_looks 9 = .ok (.invokestatic 60, 3) := by decide +kernel
theorem dX6_looks_12 : decode cX6_looks 12 = .ok (.ifCond .eq 7, 3) := by decide +kernel
theorem dX6_looks_15 : decode cX6_looks 15 = .ok (.iconst 0, 1) := by decide +kernel
theorem dX6_looks_16 : decode cX6_looks 16 = .ok (.goto 4, 3) := by decide +kernel
theorem dX6_looks_19 : decode cX6_looks 19 = .ok (.iconst 1, 1) := by decide +kernel
theorem dX6_looks_20 : decode cX6_looks 20 = .ok (.putfield 53, 3) := by decide +kernel
theorem dX6_looks_23 : decode cX6_looks 23 = .ok (.aload_n 0, 1) := by decide +kernel
theorem dX6_looks_24 : decode cX6_looks 24 = .ok (.getfield 53, 3) := by decide +kernel
theorem dX6_looks_27 : decode cX6_looks 27 = .ok (.ifCond .ne 7, 3) := by decide +kernel
theorem dX6_looks_30 : decode cX6_looks 30 = .ok (.iconst 1, 1) := by decide +kernel
theorem dX6_looks_31 : decode cX6_looks 31 = .ok (.goto 4, 3) := by decide +kernel
theorem dX6_looks_34 : decode cX6_looks 34 = .ok (.iconst 0, 1) := by decide +kernel
theorem dX6_looks_35 : decode cX6_looks 35 = .ok (.ireturn, 1) := by decide +kernel
theorem dX6_search_0 : decode cX6_search 0 = .ok (.iconst 0, 1) := by decide +kernel
theorem dX6_search_1 : decode cX6_search 1 = .ok (.istore_n 3, 1) := by decide +kernel
theorem dX6_search_2 : decode cX6_search 2 = .ok (.iload_n 3, 1) := by decide +kernel
theorem dX6_search_3 : decode cX6_search 3 = .ok (.aload_n 0, 1) := by decide +kernel
theorem dX6_search_4 : decode cX6_search 4 = .ok (.getfield 57, 3) := by decide +kernel
theorem dX6_search_7 : decode cX6_search 7 = .ok (.if_icmp .ge 31, 3) := by decide +kernel
theorem dX6_search_10 : decode cX6_search 10 = .ok (.aload_n 0, 1) := by decide +kernel
theorem dX6_search_11 : decode cX6_search 11 = .ok (.getfield 7, 3) := by decide +kernel
theorem dX6_search_14 : decode cX6_search 14 = .ok (.iload_n 3, 1) := by decide +kernel
theorem dX6_search_15 : decode cX6_search 15 = .ok (.iaload, 1) := by decide +kernel
theorem dX6_search_16 : decode cX6_search 16 = .ok (.iload_n 1, 1) := by decide +kernel
theorem dX6_search_17 : decode cX6_search 17 = .ok (.if_icmp .ne 15, 3) := by decide +kernel
theorem dX6_search_20 : decode cX6_search 20 = .ok (.aload_n 0, 1) := by decide +kernel
theorem dX6_search_21 : decode cX6_search 21 = .ok (.getfield 13, 3) := by decide +kernel
theorem dX6_search_24 : decode cX6_search 24 = .ok (.iload_n 3, 1) := by decide +kernel
theorem dX6_search_25 : decode cX6_search 25 = .ok (.iaload, 1) := by decide +kernel
theorem dX6_search_26 : decode cX6_search 26 = .ok (.iload_n 2, 1) := by decide +kernel
theorem dX6_search_27 : decode cX6_search 27 = .ok (.if_icmp .ne 5, 3) := by decide +kernel
theorem dX6_search_30 : decode cX6_search 30 = .ok (.iload_n 3, 1) := by decide +kernel
theorem dX6_search_31 : decode cX6_search 31 = .ok (.ireturn, 1) := by decide +kernel
theorem dX6_search_32 : decode cX6_search 32 = .ok (.iinc 3 1, 3) := by decide +kernel
theorem dX6_search_35 : decode cX6_search 35 = .ok (.goto (-33), 3) := by decide +kernel
theorem dX6_search_38 : decode cX6_search 38 = .ok (.iconst (-1), 1) := by decide +kernel
theorem dX6_search_39 : decode cX6_search 39 = .ok (.ireturn, 1) := by decide +kernel
theorem dX6_value_0 : decode cX6_value 0 = .ok (.aload_n 0, 1) := by decide +kernel
theorem dX6_value_1 : decode cX6_value 1 = .ok (.getfield 19, 3) := by decide +kernel
theorem dX6_value_4 : decode cX6_value 4 = .ok (.bipush 120, 2) := by decide +kernel
theorem dX6_value_6 : decode cX6_value 6 = .ok (.iload_n 1, 1) := by decide +kernel
theorem dX6_value_7 : decode cX6_value 7 = .ok (.imul, 1) := by decide +kernel
theorem dX6_value_8 : decode cX6_value 8 = .ok (.iload_n 2, 1) := by decide +kernel
theorem dX6_value_9 : decode cX6_value 9 = .ok (.iadd, 1) := by decide +kernel
theorem dX6_value_10 : decode cX6_value 10 = .ok (.iaload, 1) := by decide +kernel
theorem dX6_value_11 : decode cX6_value 11 = .ok (.ireturn, 1) := by decide +kernel
theorem dX6_time_0 : decode cX6_time 0 = .ok (.aload_n 0, 1) := by decide +kernel
theorem dX6_time_1 : decode cX6_time 1 = .ok (.getfield 25, 3) := by decide +kernel
theorem dX6_time_4 : decode cX6_time 4 = .ok (.bipush 120, 2) := by decide +kernel
theorem dX6_time_6 : decode cX6_time 6 = .ok (.iload_n 1, 1) := by decide +kernel
theorem dX6_time_7 : decode cX6_time 7 = .ok (.imul, 1) := by decide +kernel
theorem dX6_time_8 : decode cX6_time 8 = .ok (.iload_n 2, 1) := by decide +kernel
theorem dX6_time_9 : decode cX6_time 9 = .ok (.iadd, 1) := by decide +kernel
theorem dX6_time_10 : decode cX6_time 10 = .ok (.laload, 1) := by decide +kernel
theorem dX6_time_11 : decode cX6_time 11 = .ok (.lreturn, 1) := by decide +kernel
theorem dX6_last_0 : decode cX6_last 0 = .ok (.aload_n 0, 1) := by decide +kernel
theorem dX6_last_1 : decode cX6_last 1 = .ok (.iload_n 1, 1) := by decide +kernel
theorem dX6_last_2 : decode cX6_last 2 = .ok (.aload_n 0, 1) := by decide +kernel
theorem dX6_last_3 : decode cX6_last 3 = .ok (.getfield 16, 3) := by decide +kernel
theorem dX6_last_6 : decode cX6_last 6 = .ok (.iload_n 1, 1) := by decide +kernel
theorem dX6_last_7 : decode cX6_last 7 = .ok (.iaload, 1) := by decide +kernel
theorem dX6_last_8 : decode cX6_last 8 = .ok (.iconst 1, 1) := by decide +kernel
theorem dX6_last_9 : decode cX6_last 9 = .ok (.isub, 1) := by decide +kernel
theorem dX6_last_10 : decode cX6_last 10 = .ok (.invokevirtual 64, 3) := by decide +kernel
theorem dX6_last_13 : decode cX6_last 13 = .ok (.ireturn, 1) := by decide +kernel
theorem dX6_open_0 : decode cX6_open 0 = .ok (.iload_n 1, 1) := by decide +kernel
theorem dX6_open_1 : decode cX6_open 1 = .ok (.iconst 0, 1) := by decide +kernel
theorem dX6_open_2 : decode cX6_open 2 = .ok (.bipush 9, 2) := by decide +kernel
theorem dX6_open_4 : decode cX6_open 4 = .ok (.invokestatic 60, 3) := by decide +kernel
theorem dX6_open_7 : decode cX6_open 7 = .ok (.ifCond .eq 13, 3) := by decide +kernel
theorem dX6_open_10 : decode cX6_open 10 = .ok (.iload_n 2, 1) := by decide +kernel
theorem dX6_open_11 : decode cX6_open 11 = .ok (.iconst 0, 1) := by decide +kernel
theorem dX6_open_12 : decode cX6_open 12 = .ok (.bipush 9, 2) := by decide +kernel
theorem dX6_open_14 : decode cX6_open 14 = .ok (.invokestatic 60, 3) := by decide +kernel
theorem dX6_open_17 : decode cX6_open 17 = .ok (.ifCond .ne 9, 3) := by decide +kernel
theorem dX6_open_20 : decode cX6_open 20 = .ok (.aload_n 0, 1) := by decide +kernel
theorem dX6_open_21 : decode cX6_open 21 = .ok (.iconst 1, 1) := by decide +kernel
theorem dX6_open_22 : decode cX6_open 22 = .ok (.invokevirtual 68, 3) := by decide +kernel
theorem dX6_open_25 : decode cX6_open 25 = .ok (.ireturn, 1) := by decide +kernel
theorem dX6_open_26 : decode cX6_open 26 = .ok (.aload_n 0, 1) := by decide +kernel
theorem dX6_open_27 : decode cX6_open 27 = .ok (.iload_n 1, 1) := by decide +kernel
theorem dX6_open_28 : decode cX6_open 28 = .ok (.iload_n 2, 1) := by decide +kernel
theorem dX6_open_29 : decode cX6_open 29 = .ok (.invokevirtual 72, 3) := by decide +kernel
theorem dX6_open_32 : decode cX6_open 32 = .ok (.ifCond .ge 12, 3) := by decide +kernel
theorem dX6_open_35 : decode cX6_open 35 = .ok (.aload_n 0, 1) := by decide +kernel
theorem dX6_open_36 : decode cX6_open 36 = .ok (.getfield 57, 3) := by decide +kernel
theorem dX6_open_39 : decode cX6_open 39 = .ok (.bipush 10, 2) := by decide +kernel
theorem dX6_open_41 : decode cX6_open 41 = .ok (.if_icmp .ne 9, 3) := by decide +kernel
theorem dX6_open_44 : decode cX6_open 44 = .ok (.aload_n 0, 1) := by decide +kernel
theorem dX6_open_45 : decode cX6_open 45 = .ok (.iconst 2, 1) := by decide +kernel
theorem dX6_open_46 : decode cX6_open 46 = .ok (.invokevirtual 68, 3) := by decide +kernel
theorem dX6_open_49 : decode cX6_open 49 = .ok (.ireturn, 1) := by decide +kernel
theorem dX6_open_50 : decode cX6_open 50 = .ok (.aload_n 0, 1) := by decide +kernel
theorem dX6_open_51 : decode cX6_open 51 = .ok (.iconst 0, 1) := by decide +kernel
theorem dX6_open_52 : decode cX6_open 52 = .ok (.putfield 53, 3) := by decide +kernel
theorem dX6_open_55 : decode cX6_open 55 = .ok (.aload_n 0, 1) := by decide +kernel
theorem dX6_open_56 : decode cX6_open 56 = .ok (.getfield 7, 3) := by decide +kernel
theorem dX6_open_59 : decode cX6_open 59 = .ok (.aload_n 0, 1) := by decide +kernel
theorem dX6_open_60 : decode cX6_open 60 = .ok (.getfield 57, 3) := by decide +kernel
theorem dX6_open_63 : decode cX6_open 63 = .ok (.iload_n 1, 1) := by decide +kernel
theorem dX6_open_64 : decode cX6_open 64 = .ok (.iastore, 1) := by decide +kernel
theorem dX6_open_65 : decode cX6_open 65 = .ok (.aload_n 0, 1) := by decide +kernel
theorem dX6_open_66 : decode cX6_open 66 = .ok (.getfield 13, 3) := by decide +kernel
theorem dX6_open_69 : decode cX6_open 69 = .ok (.aload_n 0, 1) := by decide +kernel
theorem dX6_open_70 : decode cX6_open 70 = .ok (.getfield 57, 3) := by decide +kernel
theorem dX6_open_73 : decode cX6_open 73 = .ok (.iload_n 2, 1) := by decide +kernel
theorem dX6_open_74 : decode cX6_open 74 = .ok (.iastore, 1) := by decide +kernel
theorem dX6_open_75 : decode cX6_open 75 = .ok (.aload_n 0, 1) := by decide +kernel
theorem dX6_open_76 : decode cX6_open 76 = .ok (.dup, 1) := by decide +kernel
theorem dX6_open_77 : decode cX6_open 77 = .ok (.getfield 57, 3) := by decide +kernel
theorem dX6_open_80 : decode cX6_open 80 = .ok (.iconst 1, 1) := by decide +kernel
theorem dX6_open_81 : decode cX6_open 81 = .ok (.iadd, 1) := by decide +kernel
theorem dX6_open_82 : decode cX6_open 82 = .ok (.putfield 57, 3) := by decide +kernel
theorem dX6_open_85 : decode cX6_open 85 = .ok (.aload_n 0, 1) := by decide +kernel
theorem dX6_open_86 : decode cX6_open 86 = .ok (.getfield 57, 3) := by decide +kernel
theorem dX6_open_89 : decode cX6_open 89 = .ok (.iconst 1, 1) := by decide +kernel
theorem dX6_open_90 : decode cX6_open 90 = .ok (.isub, 1) := by decide +kernel
theorem dX6_open_91 : decode cX6_open 91 = .ok (.ireturn, 1) := by decide +kernel
theorem dX6_pass_0 : decode cX6_pass 0 = .ok (.iload_n 1, 1) := by decide +kernel
theorem dX6_pass_1 : decode cX6_pass 1 = .ok (.iconst 1, 1) := by decide +kernel
theorem dX6_pass_2 : decode cX6_pass 2 = .ok (.sipush 600, 3) := by decide +kernel
theorem dX6_pass_5 : decode cX6_pass 5 = .ok (.invokestatic 60, 3) := by decide +kernel
theorem dX6_pass_8 : decode cX6_pass 8 = .ok (.ifCond .ne 10, 3) := by decide +kernel
theorem dX6_pass_11 : decode cX6_pass 11 = .ok (.aload_n 0, 1) := by decide +kernel
theorem dX6_pass_12 : decode cX6_pass 12 = .ok (.iconst 1, 1) := by decide +kernel
theorem dX6_pass_13 : decode cX6_pass 13 = .ok (.invokevirtual 68, 3) := by decide +kernel
theorem dX6_pass_16 : decode cX6_pass 16 = .ok (.i2l, 1) := by decide +kernel
theorem dX6_pass_17 : decode cX6_pass 17 = .ok (.lreturn, 1) := by decide +kernel
theorem dX6_pass_18 : decode cX6_pass 18 = .ok (.aload_n 0, 1) := by decide +kernel
theorem dX6_pass_19 : decode cX6_pass 19 = .ok (.iconst 0, 1) := by decide +kernel
theorem dX6_pass_20 : decode cX6_pass 20 = .ok (.putfield 53, 3) := by decide +kernel
theorem dX6_pass_23 : decode cX6_pass 23 = .ok (.aload_n 0, 1) := by decide +kernel
theorem dX6_pass_24 : decode cX6_pass 24 = .ok (.dup, 1) := by decide +kernel
theorem dX6_pass_25 : decode cX6_pass 25 = .ok (.getfield 75, 3) := by decide +kernel
theorem dX6_pass_28 : decode cX6_pass 28 = .ok (.iload_n 1, 1) := by decide +kernel
theorem dX6_pass_29 : decode cX6_pass 29 = .ok (.i2l, 1) := by decide +kernel
theorem dX6_pass_30 : decode cX6_pass 30 = .ok (.ladd, 1) := by decide +kernel
theorem dX6_pass_31 : decode cX6_pass 31 = .ok (.putfield 75, 3) := by decide +kernel
theorem dX6_pass_34 : decode cX6_pass 34 = .ok (.aload_n 0, 1) := by decide +kernel
theorem dX6_pass_35 : decode cX6_pass 35 = .ok (.getfield 75, 3) := by decide +kernel
theorem dX6_pass_38 : decode cX6_pass 38 = .ok (.lreturn, 1) := by decide +kernel
theorem dX6_holds_0 : decode cX6_holds 0 = .ok (.bipush 6, 2) := by decide +kernel
theorem dX6_holds_2 : decode cX6_holds 2 = .ok (.iload_n 1, 1) := by decide +kernel
theorem dX6_holds_3 : decode cX6_holds 3 = .ok (.imul, 1) := by decide +kernel
theorem dX6_holds_4 : decode cX6_holds 4 = .ok (.iload_n 2, 1) := by decide +kernel
theorem dX6_holds_5 : decode cX6_holds 5 = .ok (.iadd, 1) := by decide +kernel
theorem dX6_holds_6 : decode cX6_holds 6 = .ok (.istore 4, 2) := by decide +kernel
theorem dX6_holds_8 : decode cX6_holds 8 = .ok (.aload_n 0, 1) := by decide +kernel
theorem dX6_holds_9 : decode cX6_holds 9 = .ok (.getfield 29, 3) := by decide +kernel
theorem dX6_holds_12 : decode cX6_holds 12 = .ok (.bipush 8, 2) := by decide +kernel
theorem dX6_holds_14 : decode cX6_holds 14 = .ok (.iload 4, 2) := by decide +kernel
theorem dX6_holds_16 : decode cX6_holds 16 = .ok (.imul, 1) := by decide +kernel
theorem dX6_holds_17 : decode cX6_holds 17 = .ok (.aload_n 0, 1) := by decide +kernel
theorem dX6_holds_18 : decode cX6_holds 18 = .ok (.getfield 32, 3) := by decide +kernel
theorem dX6_holds_21 : decode cX6_holds 21 = .ok (.iload 4, 2) := by decide +kernel
theorem dX6_holds_23 : decode cX6_holds 23 = .ok (.iaload, 1) := by decide +kernel
theorem dX6_holds_24 : decode cX6_holds 24 = .ok (.iadd, 1) := by decide +kernel
theorem dX6_holds_25 : decode cX6_holds 25 = .ok (.iload_n 3, 1) := by decide +kernel
theorem dX6_holds_26 : decode cX6_holds 26 = .ok (.iastore, 1) := by decide +kernel
theorem dX6_holds_27 : decode cX6_holds 27 = .ok (.aload_n 0, 1) := by decide +kernel
theorem dX6_holds_28 : decode cX6_holds 28 = .ok (.getfield 32, 3) := by decide +kernel
theorem dX6_holds_31 : decode cX6_holds 31 = .ok (.iload 4, 2) := by decide +kernel
theorem dX6_holds_33 : decode cX6_holds 33 = .ok (.dup2, 1) := by decide +kernel
theorem dX6_holds_34 : decode cX6_holds 34 = .ok (.iaload, 1) := by decide +kernel
theorem dX6_holds_35 : decode cX6_holds 35 = .ok (.iconst 1, 1) := by decide +kernel
theorem dX6_holds_36 : decode cX6_holds 36 = .ok (.iadd, 1) := by decide +kernel
theorem dX6_holds_37 : decode cX6_holds 37 = .ok (.iastore, 1) := by decide +kernel
theorem dX6_holds_38 : decode cX6_holds 38 = .ok (.return_, 1) := by decide +kernel
theorem dX6_halves_0 : decode cX6_halves 0 = .ok (.bipush 6, 2) := by decide +kernel
theorem dX6_halves_2 : decode cX6_halves 2 = .ok (.iload_n 1, 1) := by decide +kernel
theorem dX6_halves_3 : decode cX6_halves 3 = .ok (.imul, 1) := by decide +kernel
theorem dX6_halves_4 : decode cX6_halves 4 = .ok (.iload_n 2, 1) := by decide +kernel
theorem dX6_halves_5 : decode cX6_halves 5 = .ok (.iadd, 1) := by decide +kernel
theorem dX6_halves_6 : decode cX6_halves 6 = .ok (.istore_n 3, 1) := by decide +kernel
theorem dX6_halves_7 : decode cX6_halves 7 = .ok (.iconst 1, 1) := by decide +kernel
theorem dX6_halves_8 : decode cX6_halves 8 = .ok (.istore 4, 2) := by decide +kernel
theorem dX6_halves_10 : decode cX6_halves 10 = .ok (.iload 4, 2) := by decide +kernel
theorem dX6_halves_12 : decode cX6_halves 12 = .ok (.bipush 8, 2) := by decide +kernel
theorem dX6_halves_14 : decode cX6_halves 14 = .ok (.if_icmp .ge 97, 3) := by decide +kernel
theorem dX6_halves_17 : decode cX6_halves 17 = .ok (.aload_n 0, 1) := by decide +kernel
theorem dX6_halves_18 : decode cX6_halves 18 = .ok (.getfield 29, 3) := by decide +kernel
theorem dX6_halves_21 : decode cX6_halves 21 = .ok (.bipush 8, 2) := by decide +kernel
theorem dX6_halves_23 : decode cX6_halves 23 = .ok (.iload_n 3, 1) := by decide +kernel
theorem dX6_halves_24 : decode cX6_halves 24 = .ok (.imul, 1) := by decide +kernel
theorem dX6_halves_25 : decode cX6_halves 25 = .ok (.iload 4, 2) := by decide +kernel
theorem dX6_halves_27 : decode cX6_halves 27 = .ok (.iadd, 1) := by decide +kernel
theorem dX6_halves_28 : decode cX6_halves 28 = .ok (.iaload, 1) := by decide +kernel
theorem dX6_halves_29 : decode cX6_halves 29 = .ok (.istore 5, 2) := by decide +kernel
theorem dX6_halves_31 : decode cX6_halves 31 = .ok (.iload 4, 2) := by decide +kernel
theorem dX6_halves_33 : decode cX6_halves 33 = .ok (.istore 6, 2) := by decide +kernel
theorem dX6_halves_35 : decode cX6_halves 35 = .ok (.iload 6, 2) := by decide +kernel
theorem dX6_halves_37 : decode cX6_halves 37 = .ok (.ifCond .le 54, 3) := by decide +kernel
theorem dX6_halves_40 : decode cX6_halves 40 = .ok (.aload_n 0, 1) := by decide +kernel
theorem dX6_halves_41 : decode cX6_halves 41 = .ok (.getfield 29, 3) := by decide +kernel
theorem dX6_halves_44 : decode cX6_halves 44 = .ok (.bipush 8, 2) := by decide +kernel
theorem dX6_halves_46 : decode cX6_halves 46 = .ok (.iload_n 3, 1) := by decide +kernel
theorem dX6_halves_47 : decode cX6_halves 47 = .ok (.imul, 1) := by decide +kernel
theorem dX6_halves_48 : decode cX6_halves 48 = .ok (.iload 6, 2) := by decide +kernel
theorem dX6_halves_50 : decode cX6_halves 50 = .ok (.iadd, 1) := by decide +kernel
theorem dX6_halves_51 : decode cX6_halves 51 = .ok (.iconst 1, 1) := by decide +kernel
theorem dX6_halves_52 : decode cX6_halves 52 = .ok (.isub, 1) := by decide +kernel
theorem dX6_halves_53 : decode cX6_halves 53 = .ok (.iaload, 1) := by decide +kernel
theorem dX6_halves_54 : decode cX6_halves 54 = .ok (.iload 5, 2) := by decide +kernel
theorem dX6_halves_56 : decode cX6_halves 56 = .ok (.if_icmp .le 35, 3) := by decide +kernel
theorem dX6_halves_59 : decode cX6_halves 59 = .ok (.aload_n 0, 1) := by decide +kernel
theorem dX6_halves_60 : decode cX6_halves 60 = .ok (.getfield 29, 3) := by decide +kernel
theorem dX6_halves_63 : decode cX6_halves 63 = .ok (.bipush 8, 2) := by decide +kernel
theorem dX6_halves_65 : decode cX6_halves 65 = .ok (.iload_n 3, 1) := by decide +kernel
theorem dX6_halves_66 : decode cX6_halves 66 = .ok (.imul, 1) := by decide +kernel
theorem dX6_halves_67 : decode cX6_halves 67 = .ok (.iload 6, 2) := by decide +kernel
theorem dX6_halves_69 : decode cX6_halves 69 = .ok (.iadd, 1) := by decide +kernel
theorem dX6_halves_70 : decode cX6_halves 70 = .ok (.aload_n 0, 1) := by decide +kernel
theorem dX6_halves_71 : decode cX6_halves 71 = .ok (.getfield 29, 3) := by decide +kernel
theorem dX6_halves_74 : decode cX6_halves 74 = .ok (.bipush 8, 2) := by decide +kernel
theorem dX6_halves_76 : decode cX6_halves 76 = .ok (.iload_n 3, 1) := by decide +kernel
theorem dX6_halves_77 : decode cX6_halves 77 = .ok (.imul, 1) := by decide +kernel
theorem dX6_halves_78 : decode cX6_halves 78 = .ok (.iload 6, 2) := by decide +kernel
theorem dX6_halves_80 : decode cX6_halves 80 = .ok (.iadd, 1) := by decide +kernel
theorem dX6_halves_81 : decode cX6_halves 81 = .ok (.iconst 1, 1) := by decide +kernel
theorem dX6_halves_82 : decode cX6_halves 82 = .ok (.isub, 1) := by decide +kernel
theorem dX6_halves_83 : decode cX6_halves 83 = .ok (.iaload, 1) := by decide +kernel
theorem dX6_halves_84 : decode cX6_halves 84 = .ok (.iastore, 1) := by decide +kernel
theorem dX6_halves_85 : decode cX6_halves 85 = .ok (.iinc 6 (-1), 3) := by decide +kernel
theorem dX6_halves_88 : decode cX6_halves 88 = .ok (.goto (-53), 3) := by decide +kernel
theorem dX6_halves_91 : decode cX6_halves 91 = .ok (.aload_n 0, 1) := by decide +kernel
theorem dX6_halves_92 : decode cX6_halves 92 = .ok (.getfield 29, 3) := by decide +kernel
theorem dX6_halves_95 : decode cX6_halves 95 = .ok (.bipush 8, 2) := by decide +kernel
theorem dX6_halves_97 : decode cX6_halves 97 = .ok (.iload_n 3, 1) := by decide +kernel
theorem dX6_halves_98 : decode cX6_halves 98 = .ok (.imul, 1) := by decide +kernel
theorem dX6_halves_99 : decode cX6_halves 99 = .ok (.iload 6, 2) := by decide +kernel
theorem dX6_halves_101 : decode cX6_halves 101 = .ok (.iadd, 1) := by decide +kernel
theorem dX6_halves_102 : decode cX6_halves 102 = .ok (.iload 5, 2) := by decide +kernel
theorem dX6_halves_104 : decode cX6_halves 104 = .ok (.iastore, 1) := by decide +kernel
theorem dX6_halves_105 : decode cX6_halves 105 = .ok (.iinc 4 1, 3) := by decide +kernel
theorem dX6_halves_108 : decode cX6_halves 108 = .ok (.goto (-98), 3) := by decide +kernel
theorem dX6_halves_111 : decode cX6_halves 111 = .ok (.aload_n 0, 1) := by decide +kernel
theorem dX6_halves_112 : decode cX6_halves 112 = .ok (.getfield 35, 3) := by decide +kernel
theorem dX6_halves_115 : decode cX6_halves 115 = .ok (.iload_n 3, 1) := by decide +kernel
theorem dX6_halves_116 : decode cX6_halves 116 = .ok (.iaload, 1) := by decide +kernel
theorem dX6_halves_117 : decode cX6_halves 117 = .ok (.iconst 2, 1) := by decide +kernel
theorem dX6_halves_118 : decode cX6_halves 118 = .ok (.irem, 1) := by decide +kernel
theorem dX6_halves_119 : decode cX6_halves 119 = .ok (.ifCond .ne 7, 3) := by decide +kernel
theorem dX6_halves_122 : decode cX6_halves 122 = .ok (.iconst 1, 1) := by decide +kernel
theorem dX6_halves_123 : decode cX6_halves 123 = .ok (.goto 4, 3) := by decide +kernel
theorem dX6_halves_126 : decode cX6_halves 126 = .ok (.iconst 0, 1) := by decide +kernel
theorem dX6_halves_127 : decode cX6_halves 127 = .ok (.istore 4, 2) := by decide +kernel
theorem dX6_halves_129 : decode cX6_halves 129 = .ok (.iload 4, 2) := by decide +kernel
theorem dX6_halves_131 : decode cX6_halves 131 = .ok (.bipush 8, 2) := by decide +kernel
theorem dX6_halves_133 : decode cX6_halves 133 = .ok (.if_icmp .ge 29, 3) := by decide +kernel
theorem dX6_halves_136 : decode cX6_halves 136 = .ok (.aload_n 0, 1) := by decide +kernel
theorem dX6_halves_137 : decode cX6_halves 137 = .ok (.iload_n 1, 1) := by decide +kernel
theorem dX6_halves_138 : decode cX6_halves 138 = .ok (.iload_n 2, 1) := by decide +kernel
theorem dX6_halves_139 : decode cX6_halves 139 = .ok (.iconst 1, 1) := by decide +kernel
theorem dX6_halves_140 : decode cX6_halves 140 = .ok (.iadd, 1) := by decide +kernel
theorem dX6_halves_141 : decode cX6_halves 141 = .ok (.aload_n 0, 1) := by decide +kernel
theorem dX6_halves_142 : decode cX6_halves 142 = .ok (.getfield 29, 3) := by decide +kernel
theorem dX6_halves_145 : decode cX6_halves 145 = .ok (.bipush 8, 2) := by decide +kernel
theorem dX6_halves_147 : decode cX6_halves 147 = .ok (.iload_n 3, 1) := by decide +kernel
theorem dX6_halves_148 : decode cX6_halves 148 = .ok (.imul, 1) := by decide +kernel
theorem dX6_halves_149 : decode cX6_halves 149 = .ok (.iload 4, 2) := by decide +kernel
theorem dX6_halves_151 : decode cX6_halves 151 = .ok (.iadd, 1) := by decide +kernel
theorem dX6_halves_152 : decode cX6_halves 152 = .ok (.iaload, 1) := by decide +kernel
theorem dX6_halves_153 : decode cX6_halves 153 = .ok (.invokevirtual 79, 3) := by decide +kernel
theorem dX6_halves_156 : decode cX6_halves 156 = .ok (.iinc 4 2, 3) := by decide +kernel
theorem dX6_halves_159 : decode cX6_halves 159 = .ok (.goto (-30), 3) := by decide +kernel
theorem dX6_halves_162 : decode cX6_halves 162 = .ok (.aload_n 0, 1) := by decide +kernel
theorem dX6_halves_163 : decode cX6_halves 163 = .ok (.getfield 32, 3) := by decide +kernel
theorem dX6_halves_166 : decode cX6_halves 166 = .ok (.iload_n 3, 1) := by decide +kernel
theorem dX6_halves_167 : decode cX6_halves 167 = .ok (.iconst 0, 1) := by decide +kernel
theorem dX6_halves_168 : decode cX6_halves 168 = .ok (.iastore, 1) := by decide +kernel
theorem dX6_halves_169 : decode cX6_halves 169 = .ok (.aload_n 0, 1) := by decide +kernel
theorem dX6_halves_170 : decode cX6_halves 170 = .ok (.getfield 35, 3) := by decide +kernel
theorem dX6_halves_173 : decode cX6_halves 173 = .ok (.iload_n 3, 1) := by decide +kernel
theorem dX6_halves_174 : decode cX6_halves 174 = .ok (.dup2, 1) := by decide +kernel
theorem dX6_halves_175 : decode cX6_halves 175 = .ok (.iaload, 1) := by decide +kernel
theorem dX6_halves_176 : decode cX6_halves 176 = .ok (.iconst 1, 1) := by decide +kernel
theorem dX6_halves_177 : decode cX6_halves 177 = .ok (.iadd, 1) := by decide +kernel
theorem dX6_halves_178 : decode cX6_halves 178 = .ok (.iastore, 1) := by decide +kernel
theorem dX6_halves_179 : decode cX6_halves 179 = .ok (.aload_n 0, 1) := by decide +kernel
theorem dX6_halves_180 : decode cX6_halves 180 = .ok (.getfield 22, 3) := by decide +kernel
theorem dX6_halves_183 : decode cX6_halves 183 = .ok (.iload_n 1, 1) := by decide +kernel
theorem dX6_halves_184 : decode cX6_halves 184 = .ok (.dup2, 1) := by decide +kernel
theorem dX6_halves_185 : decode cX6_halves 185 = .ok (.iaload, 1) := by decide +kernel
theorem dX6_halves_186 : decode cX6_halves 186 = .ok (.iconst 1, 1) := by decide +kernel
theorem dX6_halves_187 : decode cX6_halves 187 = .ok (.iload_n 2, 1) := by decide +kernel
theorem dX6_halves_188 : decode cX6_halves 188 = .ok (.ishl, 1) := by decide +kernel
theorem dX6_halves_189 : decode cX6_halves 189 = .ok (.iadd, 1) := by decide +kernel
theorem dX6_halves_190 : decode cX6_halves 190 = .ok (.iastore, 1) := by decide +kernel
theorem dX6_halves_191 : decode cX6_halves 191 = .ok (.return_, 1) := by decide +kernel
theorem dX6_add_0 : decode cX6_add 0 = .ok (.aload_n 0, 1) := by decide +kernel
theorem dX6_add_1 : decode cX6_add 1 = .ok (.iload_n 1, 1) := by decide +kernel
theorem dX6_add_2 : decode cX6_add 2 = .ok (.invokevirtual 83, 3) := by decide +kernel
theorem dX6_add_5 : decode cX6_add 5 = .ok (.ifCond .ne 5, 3) := by decide +kernel
theorem dX6_add_8 : decode cX6_add 8 = .ok (.iconst 0, 1) := by decide +kernel
theorem dX6_add_9 : decode cX6_add 9 = .ok (.ireturn, 1) := by decide +kernel
theorem dX6_add_10 : decode cX6_add 10 = .ok (.iload_n 2, 1) := by decide +kernel
theorem dX6_add_11 : decode cX6_add 11 = .ok (.sipush (-10000), 3) := by decide +kernel
theorem dX6_add_14 : decode cX6_add 14 = .ok (.sipush 10000, 3) := by decide +kernel
theorem dX6_add_17 : decode cX6_add 17 = .ok (.invokestatic 60, 3) := by decide +kernel
theorem dX6_add_20 : decode cX6_add 20 = .ok (.ifCond .ne 9, 3) := by decide +kernel
theorem dX6_add_23 : decode cX6_add 23 = .ok (.aload_n 0, 1) := by decide +kernel
theorem dX6_add_24 : decode cX6_add 24 = .ok (.iconst 2, 1) := by decide +kernel
theorem dX6_add_25 : decode cX6_add 25 = .ok (.invokevirtual 68, 3) := by decide +kernel
theorem dX6_add_28 : decode cX6_add 28 = .ok (.ireturn, 1) := by decide +kernel
theorem dX6_add_29 : decode cX6_add 29 = .ok (.aload_n 0, 1) := by decide +kernel
theorem dX6_add_30 : decode cX6_add 30 = .ok (.getfield 16, 3) := by decide +kernel
theorem dX6_add_33 : decode cX6_add 33 = .ok (.iload_n 1, 1) := by decide +kernel
theorem dX6_add_34 : decode cX6_add 34 = .ok (.iaload, 1) := by decide +kernel
theorem dX6_add_35 : decode cX6_add 35 = .ok (.bipush 120, 2) := by decide +kernel
theorem dX6_add_37 : decode cX6_add 37 = .ok (.if_icmp .eq 33, 3) := by decide +kernel
theorem dX6_add_40 : decode cX6_add 40 = .ok (.aload_n 0, 1) := by decide +kernel
theorem dX6_add_41 : decode cX6_add 41 = .ok (.getfield 16, 3) := by decide +kernel
theorem dX6_add_44 : decode cX6_add 44 = .ok (.iload_n 1, 1) := by decide +kernel
theorem dX6_add_45 : decode cX6_add 45 = .ok (.iaload, 1) := by decide +kernel
theorem dX6_add_46 : decode cX6_add 46 = .ok (.ifCond .le 30, 3) := by decide +kernel
theorem dX6_add_49 : decode cX6_add 49 = .ok (.aload_n 0, 1) := by decide +kernel
theorem dX6_add_50 : decode cX6_add 50 = .ok (.iload_n 1, 1) := by decide +kernel
theorem dX6_add_51 : decode cX6_add 51 = .ok (.aload_n 0, 1) := by decide +kernel
theorem dX6_add_52 : decode cX6_add 52 = .ok (.getfield 16, 3) := by decide +kernel
theorem dX6_add_55 : decode cX6_add 55 = .ok (.iload_n 1, 1) := by decide +kernel
theorem dX6_add_56 : decode cX6_add 56 = .ok (.iaload, 1) := by decide +kernel
theorem dX6_add_57 : decode cX6_add 57 = .ok (.iconst 1, 1) := by decide +kernel
theorem dX6_add_58 : decode cX6_add 58 = .ok (.isub, 1) := by decide +kernel
theorem dX6_add_59 : decode cX6_add 59 = .ok (.invokevirtual 87, 3) := by decide +kernel
theorem dX6_add_62 : decode cX6_add 62 = .ok (.aload_n 0, 1) := by decide +kernel
theorem dX6_add_63 : decode cX6_add 63 = .ok (.getfield 75, 3) := by decide +kernel
theorem dX6_add_66 : decode cX6_add 66 = .ok (.lcmp, 1) := by decide +kernel
theorem dX6_add_67 : decode cX6_add 67 = .ok (.ifCond .ne 9, 3) := by decide +kernel
theorem dX6_add_70 : decode cX6_add 70 = .ok (.aload_n 0, 1) := by decide +kernel
theorem dX6_add_71 : decode cX6_add 71 = .ok (.iconst 3, 1) := by decide +kernel
theorem dX6_add_72 : decode cX6_add 72 = .ok (.invokevirtual 68, 3) := by decide +kernel
theorem dX6_add_75 : decode cX6_add 75 = .ok (.ireturn, 1) := by decide +kernel
theorem dX6_add_76 : decode cX6_add 76 = .ok (.aload_n 0, 1) := by decide +kernel
theorem dX6_add_77 : decode cX6_add 77 = .ok (.getfield 25, 3) := by decide +kernel
theorem dX6_add_80 : decode cX6_add 80 = .ok (.bipush 120, 2) := by decide +kernel
theorem dX6_add_82 : decode cX6_add 82 = .ok (.iload_n 1, 1) := by decide +kernel
theorem dX6_add_83 : decode cX6_add 83 = .ok (.imul, 1) := by decide +kernel
theorem dX6_add_84 : decode cX6_add 84 = .ok (.aload_n 0, 1) := by decide +kernel
theorem dX6_add_85 : decode cX6_add 85 = .ok (.getfield 16, 3) := by decide +kernel
theorem dX6_add_88 : decode cX6_add 88 = .ok (.iload_n 1, 1) := by decide +kernel
theorem dX6_add_89 : decode cX6_add 89 = .ok (.iaload, 1) := by decide +kernel
theorem dX6_add_90 : decode cX6_add 90 = .ok (.iadd, 1) := by decide +kernel
theorem dX6_add_91 : decode cX6_add 91 = .ok (.aload_n 0, 1) := by decide +kernel
theorem dX6_add_92 : decode cX6_add 92 = .ok (.getfield 75, 3) := by decide +kernel
theorem dX6_add_95 : decode cX6_add 95 = .ok (.lastore, 1) := by decide +kernel
theorem dX6_add_96 : decode cX6_add 96 = .ok (.aload_n 0, 1) := by decide +kernel
theorem dX6_add_97 : decode cX6_add 97 = .ok (.getfield 19, 3) := by decide +kernel
theorem dX6_add_100 : decode cX6_add 100 = .ok (.bipush 120, 2) := by decide +kernel
theorem dX6_add_102 : decode cX6_add 102 = .ok (.iload_n 1, 1) := by decide +kernel
theorem dX6_add_103 : decode cX6_add 103 = .ok (.imul, 1) := by decide +kernel
theorem dX6_add_104 : decode cX6_add 104 = .ok (.aload_n 0, 1) := by decide +kernel
theorem dX6_add_105 : decode cX6_add 105 = .ok (.getfield 16, 3) := by decide +kernel
theorem dX6_add_108 : decode cX6_add 108 = .ok (.iload_n 1, 1) := by decide +kernel
theorem dX6_add_109 : decode cX6_add 109 = .ok (.iaload, 1) := by decide +kernel
theorem dX6_add_110 : decode cX6_add 110 = .ok (.iadd, 1) := by decide +kernel
theorem dX6_add_111 : decode cX6_add 111 = .ok (.iload_n 2, 1) := by decide +kernel
theorem dX6_add_112 : decode cX6_add 112 = .ok (.iastore, 1) := by decide +kernel
theorem dX6_add_113 : decode cX6_add 113 = .ok (.aload_n 0, 1) := by decide +kernel
theorem dX6_add_114 : decode cX6_add 114 = .ok (.getfield 16, 3) := by decide +kernel
theorem dX6_add_117 : decode cX6_add 117 = .ok (.iload_n 1, 1) := by decide +kernel
theorem dX6_add_118 : decode cX6_add 118 = .ok (.dup2, 1) := by decide +kernel
theorem dX6_add_119 : decode cX6_add 119 = .ok (.iaload, 1) := by decide +kernel
theorem dX6_add_120 : decode cX6_add 120 = .ok (.iconst 1, 1) := by decide +kernel
theorem dX6_add_121 : decode cX6_add 121 = .ok (.iadd, 1) := by decide +kernel
theorem dX6_add_122 : decode cX6_add 122 = .ok (.iastore, 1) := by decide +kernel
theorem dX6_add_123 : decode cX6_add 123 = .ok (.aload_n 0, 1) := by decide +kernel
theorem dX6_add_124 : decode cX6_add 124 = .ok (.iload_n 1, 1) := by decide +kernel
theorem dX6_add_125 : decode cX6_add 125 = .ok (.iconst 0, 1) := by decide +kernel
theorem dX6_add_126 : decode cX6_add 126 = .ok (.iload_n 2, 1) := by decide +kernel
theorem dX6_add_127 : decode cX6_add 127 = .ok (.invokevirtual 79, 3) := by decide +kernel
theorem dX6_add_130 : decode cX6_add 130 = .ok (.iconst 0, 1) := by decide +kernel
theorem dX6_add_131 : decode cX6_add 131 = .ok (.istore_n 3, 1) := by decide +kernel
theorem dX6_add_132 : decode cX6_add 132 = .ok (.iload_n 3, 1) := by decide +kernel
theorem dX6_add_133 : decode cX6_add 133 = .ok (.bipush 6, 2) := by decide +kernel
theorem dX6_add_135 : decode cX6_add 135 = .ok (.if_icmp .ge 31, 3) := by decide +kernel
theorem dX6_add_138 : decode cX6_add 138 = .ok (.aload_n 0, 1) := by decide +kernel
theorem dX6_add_139 : decode cX6_add 139 = .ok (.getfield 32, 3) := by decide +kernel
theorem dX6_add_142 : decode cX6_add 142 = .ok (.bipush 6, 2) := by decide +kernel
theorem dX6_add_144 : decode cX6_add 144 = .ok (.iload_n 1, 1) := by decide +kernel
theorem dX6_add_145 : decode cX6_add 145 = .ok (.imul, 1) := by decide +kernel
theorem dX6_add_146 : decode cX6_add 146 = .ok (.iload_n 3, 1) := by decide +kernel
theorem dX6_add_147 : decode cX6_add 147 = .ok (.iadd, 1) := by decide +kernel
theorem dX6_add_148 : decode cX6_add 148 = .ok (.iaload, 1) := by decide +kernel
theorem dX6_add_149 : decode cX6_add 149 = .ok (.bipush 8, 2) := by decide +kernel
theorem dX6_add_151 : decode cX6_add 151 = .ok (.if_icmp .ne 9, 3) := by decide +kernel
theorem dX6_add_154 : decode cX6_add 154 = .ok (.aload_n 0, 1) := by decide +kernel
theorem dX6_add_155 : decode cX6_add 155 = .ok (.iload_n 1, 1) := by decide +kernel
theorem dX6_add_156 : decode cX6_add 156 = .ok (.iload_n 3, 1) := by decide +kernel
theorem dX6_add_157 : decode cX6_add 157 = .ok (.invokevirtual 91, 3) := by decide +kernel
theorem dX6_add_160 : decode cX6_add 160 = .ok (.iinc 3 1, 3) := by decide +kernel
theorem dX6_add_163 : decode cX6_add 163 = .ok (.goto (-31), 3) := by decide +kernel
theorem dX6_add_166 : decode cX6_add 166 = .ok (.aload_n 0, 1) := by decide +kernel
theorem dX6_add_167 : decode cX6_add 167 = .ok (.getfield 38, 3) := by decide +kernel
theorem dX6_add_170 : decode cX6_add 170 = .ok (.iload_n 1, 1) := by decide +kernel
theorem dX6_add_171 : decode cX6_add 171 = .ok (.iaload, 1) := by decide +kernel
theorem dX6_add_172 : decode cX6_add 172 = .ok (.iconst 1, 1) := by decide +kernel
theorem dX6_add_173 : decode cX6_add 173 = .ok (.if_icmp .ne 17, 3) := by decide +kernel
theorem dX6_add_176 : decode cX6_add 176 = .ok (.iload_n 2, 1) := by decide +kernel
theorem dX6_add_177 : decode cX6_add 177 = .ok (.aload_n 0, 1) := by decide +kernel
theorem dX6_add_178 : decode cX6_add 178 = .ok (.getfield 41, 3) := by decide +kernel
theorem dX6_add_181 : decode cX6_add 181 = .ok (.iload_n 1, 1) := by decide +kernel
theorem dX6_add_182 : decode cX6_add 182 = .ok (.iaload, 1) := by decide +kernel
theorem dX6_add_183 : decode cX6_add 183 = .ok (.if_icmp .le 7, 3) := by decide +kernel
theorem dX6_add_186 : decode cX6_add 186 = .ok (.iconst 1, 1) := by decide +kernel
theorem dX6_add_187 : decode cX6_add 187 = .ok (.goto 4, 3) := by decide +kernel
theorem dX6_add_190 : decode cX6_add 190 = .ok (.iconst 0, 1) := by decide +kernel
theorem dX6_add_191 : decode cX6_add 191 = .ok (.istore_n 3, 1) := by decide +kernel
theorem dX6_add_192 : decode cX6_add 192 = .ok (.iload_n 3, 1) := by decide +kernel
theorem dX6_add_193 : decode cX6_add 193 = .ok (.ifCond .eq 22, 3) := by decide +kernel
theorem dX6_add_196 : decode cX6_add 196 = .ok (.aload_n 0, 1) := by decide +kernel
theorem dX6_add_197 : decode cX6_add 197 = .ok (.getfield 47, 3) := by decide +kernel
theorem dX6_add_200 : decode cX6_add 200 = .ok (.iload_n 1, 1) := by decide +kernel
theorem dX6_add_201 : decode cX6_add 201 = .ok (.iaload, 1) := by decide +kernel
theorem dX6_add_202 : decode cX6_add 202 = .ok (.ifCond .ne 13, 3) := by decide +kernel
theorem dX6_add_205 : decode cX6_add 205 = .ok (.aload_n 0, 1) := by decide +kernel
theorem dX6_add_206 : decode cX6_add 206 = .ok (.getfield 50, 3) := by decide +kernel
theorem dX6_add_209 : decode cX6_add 209 = .ok (.iload_n 1, 1) := by decide +kernel
theorem dX6_add_210 : decode cX6_add 210 = .ok (.aload_n 0, 1) := by decide +kernel
theorem dX6_add_211 : decode cX6_add 211 = .ok (.getfield 75, 3) := by decide +kernel
theorem dX6_add_214 : decode cX6_add 214 = .ok (.lastore, 1) := by decide +kernel
theorem dX6_add_215 : decode cX6_add 215 = .ok (.aload_n 0, 1) := by decide +kernel
theorem dX6_add_216 : decode cX6_add 216 = .ok (.getfield 47, 3) := by decide +kernel
theorem dX6_add_219 : decode cX6_add 219 = .ok (.iload_n 1, 1) := by decide +kernel
theorem dX6_add_220 : decode cX6_add 220 = .ok (.iload_n 3, 1) := by decide +kernel
theorem dX6_add_221 : decode cX6_add 221 = .ok (.ifCond .eq 7, 3) := by decide +kernel
theorem dX6_add_224 : decode cX6_add 224 = .ok (.iconst 1, 1) := by decide +kernel
theorem dX6_add_225 : decode cX6_add 225 = .ok (.goto 4, 3) := by decide +kernel
theorem dX6_add_228 : decode cX6_add 228 = .ok (.iconst 0, 1) := by decide +kernel
theorem dX6_add_229 : decode cX6_add 229 = .ok (.iastore, 1) := by decide +kernel
theorem dX6_add_230 : decode cX6_add 230 = .ok (.aload_n 0, 1) := by decide +kernel
theorem dX6_add_231 : decode cX6_add 231 = .ok (.getfield 16, 3) := by decide +kernel
theorem dX6_add_234 : decode cX6_add 234 = .ok (.iload_n 1, 1) := by decide +kernel
theorem dX6_add_235 : decode cX6_add 235 = .ok (.iaload, 1) := by decide +kernel
theorem dX6_add_236 : decode cX6_add 236 = .ok (.ireturn, 1) := by decide +kernel
theorem dX6_time__0 : decode cX6_time_ 0 = .ok (.aload_n 0, 1) := by decide +kernel
theorem dX6_time__1 : decode cX6_time_ 1 = .ok (.iconst 0, 1) := by decide +kernel
theorem dX6_time__2 : decode cX6_time_ 2 = .ok (.putfield 53, 3) := by decide +kernel
theorem dX6_time__5 : decode cX6_time_ 5 = .ok (.aload_n 0, 1) := by decide +kernel
theorem dX6_time__6 : decode cX6_time_ 6 = .ok (.getfield 75, 3) := by decide +kernel
theorem dX6_time__9 : decode cX6_time_ 9 = .ok (.lreturn, 1) := by decide +kernel
theorem dX6_seriesCount_0 : decode cX6_seriesCount 0 = .ok (.aload_n 0, 1) := by decide +kernel
theorem dX6_seriesCount_1 : decode cX6_seriesCount 1 = .ok (.iconst 0, 1) := by decide +kernel
theorem dX6_seriesCount_2 : decode cX6_seriesCount 2 = .ok (.putfield 53, 3) := by decide +kernel
theorem dX6_seriesCount_5 : decode cX6_seriesCount 5 = .ok (.aload_n 0, 1) := by decide +kernel
theorem dX6_seriesCount_6 : decode cX6_seriesCount 6 = .ok (.getfield 57, 3) := by decide +kernel
theorem dX6_seriesCount_9 : decode cX6_seriesCount 9 = .ok (.ireturn, 1) := by decide +kernel
theorem dX6_find_0 : decode cX6_find 0 = .ok (.aload_n 0, 1) := by decide +kernel
theorem dX6_find_1 : decode cX6_find 1 = .ok (.iload_n 1, 1) := by decide +kernel
theorem dX6_find_2 : decode cX6_find 2 = .ok (.iload_n 2, 1) := by decide +kernel
theorem dX6_find_3 : decode cX6_find 3 = .ok (.invokevirtual 72, 3) := by decide +kernel
theorem dX6_find_6 : decode cX6_find 6 = .ok (.istore_n 3, 1) := by decide +kernel
theorem dX6_find_7 : decode cX6_find 7 = .ok (.aload_n 0, 1) := by decide +kernel
theorem dX6_find_8 : decode cX6_find 8 = .ok (.iload_n 3, 1) := by decide +kernel
theorem dX6_find_9 : decode cX6_find 9 = .ok (.ifCond .ge 7, 3) := by decide +kernel
theorem dX6_find_12 : decode cX6_find 12 = .ok (.iconst 1, 1) := by decide +kernel
theorem dX6_find_13 : decode cX6_find 13 = .ok (.goto 4, 3) := by decide +kernel
theorem dX6_find_16 : decode cX6_find 16 = .ok (.iconst 0, 1) := by decide +kernel
theorem dX6_find_17 : decode cX6_find 17 = .ok (.putfield 53, 3) := by decide +kernel
theorem dX6_find_20 : decode cX6_find 20 = .ok (.iload_n 3, 1) := by decide +kernel
theorem dX6_find_21 : decode cX6_find 21 = .ok (.ifCond .ge 7, 3) := by decide +kernel
theorem dX6_find_24 : decode cX6_find 24 = .ok (.iconst 0, 1) := by decide +kernel
theorem dX6_find_25 : decode cX6_find 25 = .ok (.goto 4, 3) := by decide +kernel
theorem dX6_find_28 : decode cX6_find 28 = .ok (.iload_n 3, 1) := by decide +kernel
theorem dX6_find_29 : decode cX6_find 29 = .ok (.ireturn, 1) := by decide +kernel
theorem dX6_nameOf_0 : decode cX6_nameOf 0 = .ok (.aload_n 0, 1) := by decide +kernel
theorem dX6_nameOf_1 : decode cX6_nameOf 1 = .ok (.iload_n 1, 1) := by decide +kernel
theorem dX6_nameOf_2 : decode cX6_nameOf 2 = .ok (.invokevirtual 83, 3) := by decide +kernel
theorem dX6_nameOf_5 : decode cX6_nameOf 5 = .ok (.ifCond .eq 12, 3) := by decide +kernel
theorem dX6_nameOf_8 : decode cX6_nameOf 8 = .ok (.aload_n 0, 1) := by decide +kernel
theorem dX6_nameOf_9 : decode cX6_nameOf 9 = .ok (.getfield 7, 3) := by decide +kernel
theorem dX6_nameOf_12 : decode cX6_nameOf 12 = .ok (.iload_n 1, 1) := by decide +kernel
theorem dX6_nameOf_13 : decode cX6_nameOf 13 = .ok (.iaload, 1) := by decide +kernel
theorem dX6_nameOf_14 : decode cX6_nameOf 14 = .ok (.goto 4, 3) := by decide +kernel
theorem dX6_nameOf_17 : decode cX6_nameOf 17 = .ok (.iconst 0, 1) := by decide +kernel
theorem dX6_nameOf_18 : decode cX6_nameOf 18 = .ok (.ireturn, 1) := by decide +kernel
theorem dX6_hostOf_0 : decode cX6_hostOf 0 = .ok (.aload_n 0, 1) := by decide +kernel
theorem dX6_hostOf_1 : decode cX6_hostOf 1 = .ok (.iload_n 1, 1) := by decide +kernel
theorem dX6_hostOf_2 : decode cX6_hostOf 2 = .ok (.invokevirtual 83, 3) := by decide +kernel
theorem dX6_hostOf_5 : decode cX6_hostOf 5 = .ok (.ifCond .eq 12, 3) := by decide +kernel
theorem dX6_hostOf_8 : decode cX6_hostOf 8 = .ok (.aload_n 0, 1) := by decide +kernel
theorem dX6_hostOf_9 : decode cX6_hostOf 9 = .ok (.getfield 13, 3) := by decide +kernel
theorem dX6_hostOf_12 : decode cX6_hostOf 12 = .ok (.iload_n 1, 1) := by decide +kernel
theorem dX6_hostOf_13 : decode cX6_hostOf 13 = .ok (.iaload, 1) := by decide +kernel
theorem dX6_hostOf_14 : decode cX6_hostOf 14 = .ok (.goto 4, 3) := by decide +kernel
theorem dX6_hostOf_17 : decode cX6_hostOf 17 = .ok (.iconst 0, 1) := by decide +kernel
theorem dX6_hostOf_18 : decode cX6_hostOf 18 = .ok (.ireturn, 1) := by decide +kernel
theorem dX6_samples_0 : decode cX6_samples 0 = .ok (.aload_n 0, 1) := by decide +kernel
theorem dX6_samples_1 : decode cX6_samples 1 = .ok (.iload_n 1, 1) := by decide +kernel
theorem dX6_samples_2 : decode cX6_samples 2 = .ok (.invokevirtual 83, 3) := by decide +kernel
theorem dX6_samples_5 : decode cX6_samples 5 = .ok (.ifCond .eq 12, 3) := by decide +kernel
theorem dX6_samples_8 : decode cX6_samples 8 = .ok (.aload_n 0, 1) := by decide +kernel
theorem dX6_samples_9 : decode cX6_samples 9 = .ok (.getfield 16, 3) := by decide +kernel
theorem dX6_samples_12 : decode cX6_samples 12 = .ok (.iload_n 1, 1) := by decide +kernel
theorem dX6_samples_13 : decode cX6_samples 13 = .ok (.iaload, 1) := by decide +kernel
theorem dX6_samples_14 : decode cX6_samples 14 = .ok (.goto 4, 3) := by decide +kernel
theorem dX6_samples_17 : decode cX6_samples 17 = .ok (.iconst 0, 1) := by decide +kernel
theorem dX6_samples_18 : decode cX6_samples 18 = .ok (.ireturn, 1) := by decide +kernel
theorem dX6_latest_0 : decode cX6_latest 0 = .ok (.aload_n 0, 1) := by decide +kernel
theorem dX6_latest_1 : decode cX6_latest 1 = .ok (.iload_n 1, 1) := by decide +kernel
theorem dX6_latest_2 : decode cX6_latest 2 = .ok (.invokevirtual 83, 3) := by decide +kernel
theorem dX6_latest_5 : decode cX6_latest 5 = .ok (.ifCond .ne 5, 3) := by decide +kernel
theorem dX6_latest_8 : decode cX6_latest 8 = .ok (.iconst 0, 1) := by decide +kernel
theorem dX6_latest_9 : decode cX6_latest 9 = .ok (.ireturn, 1) := by decide +kernel
theorem dX6_latest_10 : decode cX6_latest 10 = .ok (.aload_n 0, 1) := by decide +kernel
theorem dX6_latest_11 : decode cX6_latest 11 = .ok (.aload_n 0, 1) := by decide +kernel
theorem dX6_latest_12 : decode cX6_latest 12 = .ok (.getfield 16, 3) := by decide +kernel
theorem dX6_latest_15 : decode cX6_latest 15 = .ok (.iload_n 1, 1) := by decide +kernel
theorem dX6_latest_16 : decode cX6_latest 16 = .ok (.iaload, 1) := by decide +kernel
theorem dX6_latest_17 : decode cX6_latest 17 = .ok (.ifCond .ne 7, 3) := by decide +kernel
theorem dX6_latest_20 : decode cX6_latest 20 = .ok (.iconst 2, 1) := by decide +kernel
theorem dX6_latest_21 : decode cX6_latest 21 = .ok (.goto 4, 3) := by decide +kernel
theorem dX6_latest_24 : decode cX6_latest 24 = .ok (.iconst 0, 1) := by decide +kernel
theorem dX6_latest_25 : decode cX6_latest 25 = .ok (.putfield 53, 3) := by decide +kernel
theorem dX6_latest_28 : decode cX6_latest 28 = .ok (.aload_n 0, 1) := by decide +kernel
theorem dX6_latest_29 : decode cX6_latest 29 = .ok (.getfield 53, 3) := by decide +kernel
theorem dX6_latest_32 : decode cX6_latest 32 = .ok (.ifCond .ne 11, 3) := by decide +kernel
theorem dX6_latest_35 : decode cX6_latest 35 = .ok (.aload_n 0, 1) := by decide +kernel
theorem dX6_latest_36 : decode cX6_latest 36 = .ok (.iload_n 1, 1) := by decide +kernel
theorem dX6_latest_37 : decode cX6_latest 37 = .ok (.invokevirtual 95, 3) := by decide +kernel
theorem dX6_latest_40 : decode cX6_latest 40 = .ok (.goto 4, 3) := by decide +kernel
theorem dX6_latest_43 : decode cX6_latest 43 = .ok (.iconst 0, 1) := by decide +kernel
theorem dX6_latest_44 : decode cX6_latest 44 = .ok (.ireturn, 1) := by decide +kernel
theorem dX6_many_0 : decode cX6_many 0 = .ok (.aload_n 0, 1) := by decide +kernel
theorem dX6_many_1 : decode cX6_many 1 = .ok (.getfield 16, 3) := by decide +kernel
theorem dX6_many_4 : decode cX6_many 4 = .ok (.iload_n 1, 1) := by decide +kernel
theorem dX6_many_5 : decode cX6_many 5 = .ok (.iaload, 1) := by decide +kernel
theorem dX6_many_6 : decode cX6_many 6 = .ok (.bipush 8, 2) := by decide +kernel
theorem dX6_many_8 : decode cX6_many 8 = .ok (.iadd, 1) := by decide +kernel
theorem dX6_many_9 : decode cX6_many 9 = .ok (.iconst 1, 1) := by decide +kernel
theorem dX6_many_10 : decode cX6_many 10 = .ok (.isub, 1) := by decide +kernel
theorem dX6_many_11 : decode cX6_many 11 = .ok (.bipush 8, 2) := by decide +kernel
theorem dX6_many_13 : decode cX6_many 13 = .ok (.idiv, 1) := by decide +kernel
theorem dX6_many_14 : decode cX6_many 14 = .ok (.ireturn, 1) := by decide +kernel
theorem dX6_blocks_0 : decode cX6_blocks 0 = .ok (.aload_n 0, 1) := by decide +kernel
theorem dX6_blocks_1 : decode cX6_blocks 1 = .ok (.iload_n 1, 1) := by decide +kernel
theorem dX6_blocks_2 : decode cX6_blocks 2 = .ok (.invokevirtual 83, 3) := by decide +kernel
theorem dX6_blocks_5 : decode cX6_blocks 5 = .ok (.ifCond .eq 11, 3) := by decide +kernel
theorem dX6_blocks_8 : decode cX6_blocks 8 = .ok (.aload_n 0, 1) := by decide +kernel
theorem dX6_blocks_9 : decode cX6_blocks 9 = .ok (.iload_n 1, 1) := by decide +kernel
theorem dX6_blocks_10 : decode cX6_blocks 10 = .ok (.invokevirtual 98, 3) := by decide +kernel
theorem dX6_blocks_13 : decode cX6_blocks 13 = .ok (.goto 4, 3) := by decide +kernel
theorem dX6_blocks_16 : decode cX6_blocks 16 = .ok (.iconst 0, 1) := by decide +kernel
theorem dX6_blocks_17 : decode cX6_blocks 17 = .ok (.ireturn, 1) := by decide +kernel
theorem dX6_bits_0 : decode cX6_bits 0 = .ok (.bipush 64, 2) := by decide +kernel
theorem dX6_bits_2 : decode cX6_bits 2 = .ok (.istore_n 3, 1) := by decide +kernel
theorem dX6_bits_3 : decode cX6_bits 3 = .ok (.bipush 8, 2) := by decide +kernel
theorem dX6_bits_5 : decode cX6_bits 5 = .ok (.iload_n 2, 1) := by decide +kernel
theorem dX6_bits_6 : decode cX6_bits 6 = .ok (.imul, 1) := by decide +kernel
theorem dX6_bits_7 : decode cX6_bits 7 = .ok (.iconst 1, 1) := by decide +kernel
theorem dX6_bits_8 : decode cX6_bits 8 = .ok (.iadd, 1) := by decide +kernel
theorem dX6_bits_9 : decode cX6_bits 9 = .ok (.istore 4, 2) := by decide +kernel
theorem dX6_bits_11 : decode cX6_bits 11 = .ok (.iload 4, 2) := by decide +kernel
theorem dX6_bits_13 : decode cX6_bits 13 = .ok (.aload_n 0, 1) := by decide +kernel
theorem dX6_bits_14 : decode cX6_bits 14 = .ok (.getfield 16, 3) := by decide +kernel
theorem dX6_bits_17 : decode cX6_bits 17 = .ok (.iload_n 1, 1) := by decide +kernel
theorem dX6_bits_18 : decode cX6_bits 18 = .ok (.iaload, 1) := by decide +kernel
theorem dX6_bits_19 : decode cX6_bits 19 = .ok (.if_icmp .ge 164, 3) := by decide +kernel
theorem dX6_bits_22 : decode cX6_bits 22 = .ok (.iload 4, 2) := by decide +kernel
theorem dX6_bits_24 : decode cX6_bits 24 = .ok (.bipush 8, 2) := by decide +kernel
theorem dX6_bits_26 : decode cX6_bits 26 = .ok (.iload_n 2, 1) := by decide +kernel
theorem dX6_bits_27 : decode cX6_bits 27 = .ok (.imul, 1) := by decide +kernel
theorem dX6_bits_28 : decode cX6_bits 28 = .ok (.bipush 8, 2) := by decide +kernel
theorem dX6_bits_30 : decode cX6_bits 30 = .ok (.iadd, 1) := by decide +kernel
theorem dX6_bits_31 : decode cX6_bits 31 = .ok (.if_icmp .ge 152, 3) := by decide +kernel
theorem dX6_bits_34 : decode cX6_bits 34 = .ok (.aload_n 0, 1) := by decide +kernel
theorem dX6_bits_35 : decode cX6_bits 35 = .ok (.iload_n 1, 1) := by decide +kernel
theorem dX6_bits_36 : decode cX6_bits 36 = .ok (.iload 4, 2) := by decide +kernel
theorem dX6_bits_38 : decode cX6_bits 38 = .ok (.invokevirtual 87, 3) := by decide +kernel
theorem dX6_bits_41 : decode cX6_bits 41 = .ok (.aload_n 0, 1) := by decide +kernel
theorem dX6_bits_42 : decode cX6_bits 42 = .ok (.iload_n 1, 1) := by decide +kernel
theorem dX6_bits_43 : decode cX6_bits 43 = .ok (.iload 4, 2) := by decide +kernel
theorem dX6_bits_45 : decode cX6_bits 45 = .ok (.iconst 1, 1) := by decide +kernel
theorem dX6_bits_46 : decode cX6_bits 46 = .ok (.isub, 1) := by decide +kernel
theorem dX6_bits_47 : decode cX6_bits 47 = .ok (.invokevirtual 87, 3) := by decide +kernel
theorem dX6_bits_50 : decode cX6_bits 50 = .ok (.lsub, 1) := by decide +kernel
theorem dX6_bits_51 : decode cX6_bits 51 = .ok (.lstore 5, 2) := by decide +kernel
theorem dX6_bits_53 : decode cX6_bits 53 = .ok (.iload 4, 2) := by decide +kernel
theorem dX6_bits_55 : decode cX6_bits 55 = .ok (.bipush 8, 2) := by decide +kernel
theorem dX6_bits_57 : decode cX6_bits 57 = .ok (.iload_n 2, 1) := by decide +kernel
theorem dX6_bits_58 : decode cX6_bits 58 = .ok (.imul, 1) := by decide +kernel
theorem dX6_bits_59 : decode cX6_bits 59 = .ok (.iconst 1, 1) := by decide +kernel
theorem dX6_bits_60 : decode cX6_bits 60 = .ok (.iadd, 1) := by decide +kernel
theorem dX6_bits_61 : decode cX6_bits 61 = .ok (.if_icmp .le 27, 3) := by decide +kernel
theorem dX6_bits_64 : decode cX6_bits 64 = .ok (.lload 5, 2) := by decide +kernel
theorem dX6_bits_66 : decode cX6_bits 66 = .ok (.aload_n 0, 1) := by decide +kernel
theorem dX6_bits_67 : decode cX6_bits 67 = .ok (.iload_n 1, 1) := by decide +kernel
theorem dX6_bits_68 : decode cX6_bits 68 = .ok (.iload 4, 2) := by decide +kernel
theorem dX6_bits_70 : decode cX6_bits 70 = .ok (.iconst 1, 1) := by decide +kernel
theorem dX6_bits_71 : decode cX6_bits 71 = .ok (.isub, 1) := by decide +kernel
theorem dX6_bits_72 : decode cX6_bits 72 = .ok (.invokevirtual 87, 3) := by decide +kernel
theorem dX6_bits_75 : decode cX6_bits 75 = .ok (.aload_n 0, 1) := by decide +kernel
theorem dX6_bits_76 : decode cX6_bits 76 = .ok (.iload_n 1, 1) := by decide +kernel
theorem dX6_bits_77 : decode cX6_bits 77 = .ok (.iload 4, 2) := by decide +kernel
theorem dX6_bits_79 : decode cX6_bits 79 = .ok (.iconst 2, 1) := by decide +kernel
theorem dX6_bits_80 : decode cX6_bits 80 = .ok (.isub, 1) := by decide +kernel
theorem dX6_bits_81 : decode cX6_bits 81 = .ok (.invokevirtual 87, 3) := by decide +kernel
theorem dX6_bits_84 : decode cX6_bits 84 = .ok (.lsub, 1) := by decide +kernel
theorem dX6_bits_85 : decode cX6_bits 85 = .ok (.lsub, 1) := by decide +kernel
theorem dX6_bits_86 : decode cX6_bits 86 = .ok (.lstore 5, 2) := by decide +kernel
theorem dX6_bits_88 : decode cX6_bits 88 = .ok (.aload_n 0, 1) := by decide +kernel
theorem dX6_bits_89 : decode cX6_bits 89 = .ok (.iload_n 1, 1) := by decide +kernel
theorem dX6_bits_90 : decode cX6_bits 90 = .ok (.iload 4, 2) := by decide +kernel
theorem dX6_bits_92 : decode cX6_bits 92 = .ok (.invokevirtual 64, 3) := by decide +kernel
theorem dX6_bits_95 : decode cX6_bits 95 = .ok (.aload_n 0, 1) := by decide +kernel
theorem dX6_bits_96 : decode cX6_bits 96 = .ok (.iload_n 1, 1) := by decide +kernel
theorem dX6_bits_97 : decode cX6_bits 97 = .ok (.iload 4, 2) := by decide +kernel
theorem dX6_bits_99 : decode cX6_bits 99 = .ok (.iconst 1, 1) := by decide +kernel
theorem dX6_bits_100 : decode cX6_bits 100 = .ok (.isub, 1) := by decide +kernel
theorem dX6_bits_101 : decode cX6_bits 101 = .ok (.invokevirtual 64, 3) := by decide +kernel
theorem dX6_bits_104 : decode cX6_bits 104 = .ok (.isub, 1) := by decide +kernel
theorem dX6_bits_105 : decode cX6_bits 105 = .ok (.istore 7, 2) := by decide +kernel
theorem dX6_bits_107 : decode cX6_bits 107 = .ok (.iload_n 3, 1) := by decide +kernel
theorem dX6_bits_108 : decode cX6_bits 108 = .ok (.lload 5, 2) := by decide +kernel
theorem dX6_bits_110 : decode cX6_bits 110 = .ok (.lconst 0, 1) := by decide +kernel
theorem dX6_bits_111 : decode cX6_bits 111 = .ok (.lcmp, 1) := by decide +kernel
theorem dX6_bits_112 : decode cX6_bits 112 = .ok (.ifCond .ne 7, 3) := by decide +kernel
theorem dX6_bits_115 : decode cX6_bits 115 = .ok (.iconst 1, 1) := by decide +kernel
theorem dX6_bits_116 : decode cX6_bits 116 = .ok (.goto 28, 3) := by decide +kernel
theorem dX6_bits_119 : decode cX6_bits 119 = .ok (.lload 5, 2) := by decide +kernel
theorem dX6_bits_121 : decode cX6_bits 121 = .ok (.ldc2_w 100, 3) := by decide +kernel
theorem dX6_bits_124 : decode cX6_bits 124 = .ok (.lcmp, 1) := by decide +kernel
theorem dX6_bits_125 : decode cX6_bits 125 = .ok (.ifCond .lt 17, 3) := by decide +kernel
theorem dX6_bits_128 : decode cX6_bits 128 = .ok (.lload 5, 2) := by decide +kernel
theorem dX6_bits_130 : decode cX6_bits 130 = .ok (.ldc2_w 102, 3) := by decide +kernel
theorem dX6_bits_133 : decode cX6_bits 133 = .ok (.lcmp, 1) := by decide +kernel
theorem dX6_bits_134 : decode cX6_bits 134 = .ok (.ifCond .gt 8, 3) := by decide +kernel
theorem dX6_bits_137 : decode cX6_bits 137 = .ok (.bipush 6, 2) := by decide +kernel
theorem dX6_bits_139 : decode cX6_bits 139 = .ok (.goto 5, 3) := by decide +kernel
theorem dX6_bits_142 : decode cX6_bits 142 = .ok (.bipush 15, 2) := by decide +kernel
theorem dX6_bits_144 : decode cX6_bits 144 = .ok (.iadd, 1) := by decide +kernel
theorem dX6_bits_145 : decode cX6_bits 145 = .ok (.istore_n 3, 1) := by decide +kernel
theorem dX6_bits_146 : decode cX6_bits 146 = .ok (.iload_n 3, 1) := by decide +kernel
theorem dX6_bits_147 : decode cX6_bits 147 = .ok (.iload 7, 2) := by decide +kernel
theorem dX6_bits_149 : decode cX6_bits 149 = .ok (.ifCond .ne 7, 3) := by decide +kernel
theorem dX6_bits_152 : decode cX6_bits 152 = .ok (.iconst 1, 1) := by decide +kernel
theorem dX6_bits_153 : decode cX6_bits 153 = .ok (.goto 22, 3) := by decide +kernel
theorem dX6_bits_156 : decode cX6_bits 156 = .ok (.iload 7, 2) := by decide +kernel
theorem dX6_bits_158 : decode cX6_bits 158 = .ok (.bipush (-31), 2) := by decide +kernel
theorem dX6_bits_160 : decode cX6_bits 160 = .ok (.bipush 32, 2) := by decide +kernel
theorem dX6_bits_162 : decode cX6_bits 162 = .ok (.invokestatic 60, 3) := by decide +kernel
theorem dX6_bits_165 : decode cX6_bits 165 = .ok (.ifCond .eq 8, 3) := by decide +kernel
theorem dX6_bits_168 : decode cX6_bits 168 = .ok (.bipush 8, 2) := by decide +kernel
theorem dX6_bits_170 : decode cX6_bits 170 = .ok (.goto 5, 3) := by decide +kernel
theorem dX6_bits_173 : decode cX6_bits 173 = .ok (.bipush 18, 2) := by decide +kernel
theorem dX6_bits_175 : decode cX6_bits 175 = .ok (.iadd, 1) := by decide +kernel
theorem dX6_bits_176 : decode cX6_bits 176 = .ok (.istore_n 3, 1) := by decide +kernel
theorem dX6_bits_177 : decode cX6_bits 177 = .ok (.iinc 4 1, 3) := by decide +kernel
theorem dX6_bits_180 : decode cX6_bits 180 = .ok (.goto (-169), 3) := by decide +kernel
theorem dX6_bits_183 : decode cX6_bits 183 = .ok (.iload_n 3, 1) := by decide +kernel
theorem dX6_bits_184 : decode cX6_bits 184 = .ok (.ireturn, 1) := by decide +kernel
theorem dX6_bitsOf_0 : decode cX6_bitsOf 0 = .ok (.aload_n 0, 1) := by decide +kernel
theorem dX6_bitsOf_1 : decode cX6_bitsOf 1 = .ok (.iload_n 1, 1) := by decide +kernel
theorem dX6_bitsOf_2 : decode cX6_bitsOf 2 = .ok (.invokevirtual 83, 3) := by decide +kernel
theorem dX6_bitsOf_5 : decode cX6_bitsOf 5 = .ok (.ifCond .ne 5, 3) := by decide +kernel
theorem dX6_bitsOf_8 : decode cX6_bitsOf 8 = .ok (.iconst 0, 1) := by decide +kernel
theorem dX6_bitsOf_9 : decode cX6_bitsOf 9 = .ok (.ireturn, 1) := by decide +kernel
theorem dX6_bitsOf_10 : decode cX6_bitsOf 10 = .ok (.aload_n 0, 1) := by decide +kernel
theorem dX6_bitsOf_11 : decode cX6_bitsOf 11 = .ok (.iload_n 2, 1) := by decide +kernel
theorem dX6_bitsOf_12 : decode cX6_bitsOf 12 = .ok (.iconst 0, 1) := by decide +kernel
theorem dX6_bitsOf_13 : decode cX6_bitsOf 13 = .ok (.aload_n 0, 1) := by decide +kernel
theorem dX6_bitsOf_14 : decode cX6_bitsOf 14 = .ok (.iload_n 1, 1) := by decide +kernel
theorem dX6_bitsOf_15 : decode cX6_bitsOf 15 = .ok (.invokevirtual 98, 3) := by decide +kernel
theorem dX6_bitsOf_18 : decode cX6_bitsOf 18 = .ok (.iconst 1, 1) := by decide +kernel
theorem dX6_bitsOf_19 : decode cX6_bitsOf 19 = .ok (.isub, 1) := by decide +kernel
theorem dX6_bitsOf_20 : decode cX6_bitsOf 20 = .ok (.invokestatic 60, 3) := by decide +kernel
theorem dX6_bitsOf_23 : decode cX6_bitsOf 23 = .ok (.ifCond .eq 7, 3) := by decide +kernel
theorem dX6_bitsOf_26 : decode cX6_bitsOf 26 = .ok (.iconst 0, 1) := by decide +kernel
theorem dX6_bitsOf_27 : decode cX6_bitsOf 27 = .ok (.goto 4, 3) := by decide +kernel
theorem dX6_bitsOf_30 : decode cX6_bitsOf 30 = .ok (.iconst 2, 1) := by decide +kernel
theorem dX6_bitsOf_31 : decode cX6_bitsOf 31 = .ok (.putfield 53, 3) := by decide +kernel
theorem dX6_bitsOf_34 : decode cX6_bitsOf 34 = .ok (.aload_n 0, 1) := by decide +kernel
theorem dX6_bitsOf_35 : decode cX6_bitsOf 35 = .ok (.getfield 53, 3) := by decide +kernel
theorem dX6_bitsOf_38 : decode cX6_bitsOf 38 = .ok (.ifCond .ne 12, 3) := by decide +kernel
theorem dX6_bitsOf_41 : decode cX6_bitsOf 41 = .ok (.aload_n 0, 1) := by decide +kernel
theorem dX6_bitsOf_42 : decode cX6_bitsOf 42 = .ok (.iload_n 1, 1) := by decide +kernel
theorem dX6_bitsOf_43 : decode cX6_bitsOf 43 = .ok (.iload_n 2, 1) := by decide +kernel
theorem dX6_bitsOf_44 : decode cX6_bitsOf 44 = .ok (.invokevirtual 104, 3) := by decide +kernel
theorem dX6_bitsOf_47 : decode cX6_bitsOf 47 = .ok (.goto 4, 3) := by decide +kernel
theorem dX6_bitsOf_50 : decode cX6_bitsOf 50 = .ok (.iconst 0, 1) := by decide +kernel
theorem dX6_bitsOf_51 : decode cX6_bitsOf 51 = .ok (.ireturn, 1) := by decide +kernel
theorem dX6_isSample_0 : decode cX6_isSample 0 = .ok (.aload_n 0, 1) := by decide +kernel
theorem dX6_isSample_1 : decode cX6_isSample 1 = .ok (.iload_n 1, 1) := by decide +kernel
theorem dX6_isSample_2 : decode cX6_isSample 2 = .ok (.invokevirtual 83, 3) := by decide +kernel
theorem dX6_isSample_5 : decode cX6_isSample 5 = .ok (.ifCond .eq 24, 3) := by decide +kernel
theorem dX6_isSample_8 : decode cX6_isSample 8 = .ok (.iload_n 2, 1) := by decide +kernel
theorem dX6_isSample_9 : decode cX6_isSample 9 = .ok (.iconst 0, 1) := by decide +kernel
theorem dX6_isSample_10 : decode cX6_isSample 10 = .ok (.aload_n 0, 1) := by decide +kernel
theorem dX6_isSample_11 : decode cX6_isSample 11 = .ok (.getfield 16, 3) := by decide +kernel
theorem dX6_isSample_14 : decode cX6_isSample 14 = .ok (.iload_n 1, 1) := by decide +kernel
theorem dX6_isSample_15 : decode cX6_isSample 15 = .ok (.iaload, 1) := by decide +kernel
theorem dX6_isSample_16 : decode cX6_isSample 16 = .ok (.iconst 1, 1) := by decide +kernel
theorem dX6_isSample_17 : decode cX6_isSample 17 = .ok (.isub, 1) := by decide +kernel
theorem dX6_isSample_18 : decode cX6_isSample 18 = .ok (.invokestatic 60, 3) := by decide +kernel
theorem dX6_isSample_21 : decode cX6_isSample 21 = .ok (.ifCond .ne 8, 3) := by decide +kernel
theorem dX6_isSample_24 : decode cX6_isSample 24 = .ok (.aload_n 0, 1) := by decide +kernel
theorem dX6_isSample_25 : decode cX6_isSample 25 = .ok (.iconst 2, 1) := by decide +kernel
theorem dX6_isSample_26 : decode cX6_isSample 26 = .ok (.putfield 53, 3) := by decide +kernel
theorem dX6_isSample_29 : decode cX6_isSample 29 = .ok (.aload_n 0, 1) := by decide +kernel
theorem dX6_isSample_30 : decode cX6_isSample 30 = .ok (.getfield 53, 3) := by decide +kernel
theorem dX6_isSample_33 : decode cX6_isSample 33 = .ok (.ifCond .ne 7, 3) := by decide +kernel
theorem dX6_isSample_36 : decode cX6_isSample 36 = .ok (.iconst 1, 1) := by decide +kernel
theorem dX6_isSample_37 : decode cX6_isSample 37 = .ok (.goto 4, 3) := by decide +kernel
theorem dX6_isSample_40 : decode cX6_isSample 40 = .ok (.iconst 0, 1) := by decide +kernel
theorem dX6_isSample_41 : decode cX6_isSample 41 = .ok (.ireturn, 1) := by decide +kernel
theorem dX6_timeAt_0 : decode cX6_timeAt 0 = .ok (.aload_n 0, 1) := by decide +kernel
theorem dX6_timeAt_1 : decode cX6_timeAt 1 = .ok (.iload_n 1, 1) := by decide +kernel
theorem dX6_timeAt_2 : decode cX6_timeAt 2 = .ok (.iload_n 2, 1) := by decide +kernel
theorem dX6_timeAt_3 : decode cX6_timeAt 3 = .ok (.invokevirtual 107, 3) := by decide +kernel
theorem dX6_timeAt_6 : decode cX6_timeAt 6 = .ok (.ifCond .eq 12, 3) := by decide +kernel
theorem dX6_timeAt_9 : decode cX6_timeAt 9 = .ok (.aload_n 0, 1) := by decide +kernel
theorem dX6_timeAt_10 : decode cX6_timeAt 10 = .ok (.iload_n 1, 1) := by decide +kernel
theorem dX6_timeAt_11 : decode cX6_timeAt 11 = .ok (.iload_n 2, 1) := by decide +kernel
theorem dX6_timeAt_12 : decode cX6_timeAt 12 = .ok (.invokevirtual 87, 3) := by decide +kernel
theorem dX6_timeAt_15 : decode cX6_timeAt 15 = .ok (.goto 4, 3) := by decide +kernel
theorem dX6_timeAt_18 : decode cX6_timeAt 18 = .ok (.lconst 0, 1) := by decide +kernel
theorem dX6_timeAt_19 : decode cX6_timeAt 19 = .ok (.lreturn, 1) := by decide +kernel
theorem dX6_valueAt_0 : decode cX6_valueAt 0 = .ok (.aload_n 0, 1) := by decide +kernel
theorem dX6_valueAt_1 : decode cX6_valueAt 1 = .ok (.iload_n 1, 1) := by decide +kernel
theorem dX6_valueAt_2 : decode cX6_valueAt 2 = .ok (.iload_n 2, 1) := by decide +kernel
theorem dX6_valueAt_3 : decode cX6_valueAt 3 = .ok (.invokevirtual 107, 3) := by decide +kernel
theorem dX6_valueAt_6 : decode cX6_valueAt 6 = .ok (.ifCond .eq 12, 3) := by decide +kernel
theorem dX6_valueAt_9 : decode cX6_valueAt 9 = .ok (.aload_n 0, 1) := by decide +kernel
theorem dX6_valueAt_10 : decode cX6_valueAt 10 = .ok (.iload_n 1, 1) := by decide +kernel
theorem dX6_valueAt_11 : decode cX6_valueAt 11 = .ok (.iload_n 2, 1) := by decide +kernel
theorem dX6_valueAt_12 : decode cX6_valueAt 12 = .ok (.invokevirtual 64, 3) := by decide +kernel
theorem dX6_valueAt_15 : decode cX6_valueAt 15 = .ok (.goto 4, 3) := by decide +kernel
theorem dX6_valueAt_18 : decode cX6_valueAt 18 = .ok (.iconst 0, 1) := by decide +kernel
theorem dX6_valueAt_19 : decode cX6_valueAt 19 = .ok (.ireturn, 1) := by decide +kernel
theorem dX6_allBits_0 : decode cX6_allBits 0 = .ok (.aload_n 0, 1) := by decide +kernel
theorem dX6_allBits_1 : decode cX6_allBits 1 = .ok (.iconst 0, 1) := by decide +kernel
theorem dX6_allBits_2 : decode cX6_allBits 2 = .ok (.putfield 53, 3) := by decide +kernel
theorem dX6_allBits_5 : decode cX6_allBits 5 = .ok (.lconst 0, 1) := by decide +kernel
theorem dX6_allBits_6 : decode cX6_allBits 6 = .ok (.lstore_n 1, 1) := by decide +kernel
theorem dX6_allBits_7 : decode cX6_allBits 7 = .ok (.iconst 0, 1) := by decide +kernel
theorem dX6_allBits_8 : decode cX6_allBits 8 = .ok (.istore_n 3, 1) := by decide +kernel
theorem dX6_allBits_9 : decode cX6_allBits 9 = .ok (.iload_n 3, 1) := by decide +kernel
theorem dX6_allBits_10 : decode cX6_allBits 10 = .ok (.aload_n 0, 1) := by decide +kernel
theorem dX6_allBits_11 : decode cX6_allBits 11 = .ok (.getfield 57, 3) := by decide +kernel
theorem dX6_allBits_14 : decode cX6_allBits 14 = .ok (.if_icmp .ge 39, 3) := by decide +kernel
theorem dX6_allBits_17 : decode cX6_allBits 17 = .ok (.iconst 0, 1) := by decide +kernel
theorem dX6_allBits_18 : decode cX6_allBits 18 = .ok (.istore 4, 2) := by decide +kernel
theorem dX6_allBits_20 : decode cX6_allBits 20 = .ok (.iload 4, 2) := by decide +kernel
theorem dX6_allBits_22 : decode cX6_allBits 22 = .ok (.aload_n 0, 1) := by decide +kernel
theorem dX6_allBits_23 : decode cX6_allBits 23 = .ok (.iload_n 3, 1) := by decide +kernel
theorem dX6_allBits_24 : decode cX6_allBits 24 = .ok (.invokevirtual 98, 3) := by decide +kernel
theorem dX6_allBits_27 : decode cX6_allBits 27 = .ok (.if_icmp .ge 20, 3) := by decide +kernel
theorem dX6_allBits_30 : decode cX6_allBits 30 = .ok (.lload_n 1, 1) := by decide +kernel
theorem dX6_allBits_31 : decode cX6_allBits 31 = .ok (.aload_n 0, 1) := by decide +kernel
theorem dX6_allBits_32 : decode cX6_allBits 32 = .ok (.iload_n 3, 1) := by decide +kernel
theorem dX6_allBits_33 : decode cX6_allBits 33 = .ok (.iload 4, 2) := by decide +kernel
theorem dX6_allBits_35 : decode cX6_allBits 35 = .ok (.invokevirtual 104, 3) := by decide +kernel
theorem dX6_allBits_38 : decode cX6_allBits 38 = .ok (.i2l, 1) := by decide +kernel
theorem dX6_allBits_39 : decode cX6_allBits 39 = .ok (.ladd, 1) := by decide +kernel
theorem dX6_allBits_40 : decode cX6_allBits 40 = .ok (.lstore_n 1, 1) := by decide +kernel
theorem dX6_allBits_41 : decode cX6_allBits 41 = .ok (.iinc 4 1, 3) := by decide +kernel
theorem dX6_allBits_44 : decode cX6_allBits 44 = .ok (.goto (-24), 3) := by decide +kernel
theorem dX6_allBits_47 : decode cX6_allBits 47 = .ok (.iinc 3 1, 3) := by decide +kernel
theorem dX6_allBits_50 : decode cX6_allBits 50 = .ok (.goto (-41), 3) := by decide +kernel
theorem dX6_allBits_53 : decode cX6_allBits 53 = .ok (.lload_n 1, 1) := by decide +kernel
theorem dX6_allBits_54 : decode cX6_allBits 54 = .ok (.lreturn, 1) := by decide +kernel
theorem dX6_isRange_0 : decode cX6_isRange 0 = .ok (.aload_n 0, 1) := by decide +kernel
theorem dX6_isRange_1 : decode cX6_isRange 1 = .ok (.iload_n 1, 1) := by decide +kernel
theorem dX6_isRange_2 : decode cX6_isRange 2 = .ok (.invokevirtual 83, 3) := by decide +kernel
theorem dX6_isRange_5 : decode cX6_isRange 5 = .ok (.ifCond .eq 21, 3) := by decide +kernel
theorem dX6_isRange_8 : decode cX6_isRange 8 = .ok (.lload_n 2, 1) := by decide +kernel
theorem dX6_isRange_9 : decode cX6_isRange 9 = .ok (.lconst 0, 1) := by decide +kernel
theorem dX6_isRange_10 : decode cX6_isRange 10 = .ok (.lcmp, 1) := by decide +kernel
theorem dX6_isRange_11 : decode cX6_isRange 11 = .ok (.ifCond .lt 10, 3) := by decide +kernel
theorem dX6_isRange_14 : decode cX6_isRange 14 = .ok (.lload_n 2, 1) := by decide +kernel
theorem dX6_isRange_15 : decode cX6_isRange 15 = .ok (.lload 4, 2) := by decide +kernel
theorem dX6_isRange_17 : decode cX6_isRange 17 = .ok (.lcmp, 1) := by decide +kernel
theorem dX6_isRange_18 : decode cX6_isRange 18 = .ok (.ifCond .le 8, 3) := by decide +kernel
theorem dX6_isRange_21 : decode cX6_isRange 21 = .ok (.aload_n 0, 1) := by decide +kernel
theorem dX6_isRange_22 : decode cX6_isRange 22 = .ok (.iconst 2, 1) := by decide +kernel
theorem dX6_isRange_23 : decode cX6_isRange 23 = .ok (.putfield 53, 3) := by decide +kernel
theorem dX6_isRange_26 : decode cX6_isRange 26 = .ok (.aload_n 0, 1) := by decide +kernel
theorem dX6_isRange_27 : decode cX6_isRange 27 = .ok (.getfield 53, 3) := by decide +kernel
theorem dX6_isRange_30 : decode cX6_isRange 30 = .ok (.ifCond .ne 7, 3) := by decide +kernel
theorem dX6_isRange_33 : decode cX6_isRange 33 = .ok (.iconst 1, 1) := by decide +kernel
theorem dX6_isRange_34 : decode cX6_isRange 34 = .ok (.goto 4, 3) := by decide +kernel
theorem dX6_isRange_37 : decode cX6_isRange 37 = .ok (.iconst 0, 1) := by decide +kernel
theorem dX6_isRange_38 : decode cX6_isRange 38 = .ok (.ireturn, 1) := by decide +kernel
theorem dX6_isInside_0 : decode cX6_isInside 0 = .ok (.aload_n 0, 1) := by decide +kernel
theorem dX6_isInside_1 : decode cX6_isInside 1 = .ok (.iload_n 1, 1) := by decide +kernel
theorem dX6_isInside_2 : decode cX6_isInside 2 = .ok (.iload_n 2, 1) := by decide +kernel
theorem dX6_isInside_3 : decode cX6_isInside 3 = .ok (.invokevirtual 87, 3) := by decide +kernel
theorem dX6_isInside_6 : decode cX6_isInside 6 = .ok (.lload_n 3, 1) := by decide +kernel
theorem dX6_isInside_7 : decode cX6_isInside 7 = .ok (.lcmp, 1) := by decide +kernel
theorem dX6_isInside_8 : decode cX6_isInside 8 = .ok (.ifCond .lt 19, 3) := by decide +kernel
theorem dX6_isInside_11 : decode cX6_isInside 11 = .ok (.aload_n 0, 1) := by decide +kernel
theorem dX6_isInside_12 : decode cX6_isInside 12 = .ok (.iload_n 1, 1) := by decide +kernel
theorem dX6_isInside_13 : decode cX6_isInside 13 = .ok (.iload_n 2, 1) := by decide +kernel
theorem dX6_isInside_14 : decode cX6_isInside 14 = .ok (.invokevirtual 87, 3) := by decide +kernel
theorem dX6_isInside_17 : decode cX6_isInside 17 = .ok (.lload 5, 2) := by decide +kernel
theorem dX6_isInside_19 : decode cX6_isInside 19 = .ok (.lcmp, 1) := by decide +kernel
theorem dX6_isInside_20 : decode cX6_isInside 20 = .ok (.ifCond .gt 7, 3) := by decide +kernel
theorem dX6_isInside_23 : decode cX6_isInside 23 = .ok (.iconst 1, 1) := by decide +kernel
theorem dX6_isInside_24 : decode cX6_isInside 24 = .ok (.goto 4, 3) := by decide +kernel
theorem dX6_isInside_27 : decode cX6_isInside 27 = .ok (.iconst 0, 1) := by decide +kernel
theorem dX6_isInside_28 : decode cX6_isInside 28 = .ok (.ireturn, 1) := by decide +kernel
theorem dX6_counted_0 : decode cX6_counted 0 = .ok (.iconst 0, 1) := by decide +kernel
theorem dX6_counted_1 : decode cX6_counted 1 = .ok (.istore 6, 2) := by decide +kernel
theorem dX6_counted_3 : decode cX6_counted 3 = .ok (.iconst 0, 1) := by decide +kernel
theorem dX6_counted_4 : decode cX6_counted 4 = .ok (.istore 7, 2) := by decide +kernel
theorem dX6_counted_6 : decode cX6_counted 6 = .ok (.iload 7, 2) := by decide +kernel
theorem dX6_counted_8 : decode cX6_counted 8 = .ok (.aload_n 0, 1) := by decide +kernel
theorem dX6_counted_9 : decode cX6_counted 9 = .ok (.getfield 16, 3) := by decide +kernel
theorem dX6_counted_12 : decode cX6_counted 12 = .ok (.iload_n 1, 1) := by decide +kernel
theorem dX6_counted_13 : decode cX6_counted 13 = .ok (.iaload, 1) := by decide +kernel
theorem dX6_counted_14 : decode cX6_counted 14 = .ok (.if_icmp .ge 32, 3) := by decide +kernel
theorem dX6_counted_17 : decode cX6_counted 17 = .ok (.iload 6, 2) := by decide +kernel
theorem dX6_counted_19 : decode cX6_counted 19 = .ok (.aload_n 0, 1) := by decide +kernel
theorem dX6_counted_20 : decode cX6_counted 20 = .ok (.iload_n 1, 1) := by decide +kernel
theorem dX6_counted_21 : decode cX6_counted 21 = .ok (.iload 7, 2) := by decide +kernel
theorem dX6_counted_23 : decode cX6_counted 23 = .ok (.lload_n 2, 1) := by decide +kernel
theorem dX6_counted_24 : decode cX6_counted 24 = .ok (.lload 4, 2) := by decide +kernel
theorem dX6_counted_26 : decode cX6_counted 26 = .ok (.invokevirtual 111, 3) := by decide +kernel
theorem dX6_counted_29 : decode cX6_counted 29 = .ok (.ifCond .eq 7, 3) := by decide +kernel
theorem dX6_counted_32 : decode cX6_counted 32 = .ok (.iconst 1, 1) := by decide +kernel
theorem dX6_counted_33 : decode cX6_counted 33 = .ok (.goto 4, 3) := by decide +kernel
theorem dX6_counted_36 : decode cX6_counted 36 = .ok (.iconst 0, 1) := by decide +kernel
theorem dX6_counted_37 : decode cX6_counted 37 = .ok (.iadd, 1) := by decide +kernel
theorem dX6_counted_38 : decode cX6_counted 38 = .ok (.istore 6, 2) := by decide +kernel
theorem dX6_counted_40 : decode cX6_counted 40 = .ok (.iinc 7 1, 3) := by decide +kernel
theorem dX6_counted_43 : decode cX6_counted 43 = .ok (.goto (-37), 3) := by decide +kernel
theorem dX6_counted_46 : decode cX6_counted 46 = .ok (.iload 6, 2) := by decide +kernel
theorem dX6_counted_48 : decode cX6_counted 48 = .ok (.ireturn, 1) := by decide +kernel
theorem dX6_summed_0 : decode cX6_summed 0 = .ok (.lconst 0, 1) := by decide +kernel
theorem dX6_summed_1 : decode cX6_summed 1 = .ok (.lstore 6, 2) := by decide +kernel
theorem dX6_summed_3 : decode cX6_summed 3 = .ok (.iconst 0, 1) := by decide +kernel
theorem dX6_summed_4 : decode cX6_summed 4 = .ok (.istore 8, 2) := by decide +kernel
theorem dX6_summed_6 : decode cX6_summed 6 = .ok (.iload 8, 2) := by decide +kernel
theorem dX6_summed_8 : decode cX6_summed 8 = .ok (.aload_n 0, 1) := by decide +kernel
theorem dX6_summed_9 : decode cX6_summed 9 = .ok (.getfield 16, 3) := by decide +kernel
theorem dX6_summed_12 : decode cX6_summed 12 = .ok (.iload_n 1, 1) := by decide +kernel
theorem dX6_summed_13 : decode cX6_summed 13 = .ok (.iaload, 1) := by decide +kernel
theorem dX6_summed_14 : decode cX6_summed 14 = .ok (.if_icmp .ge 39, 3) := by decide +kernel
theorem dX6_summed_17 : decode cX6_summed 17 = .ok (.lload 6, 2) := by decide +kernel
theorem dX6_summed_19 : decode cX6_summed 19 = .ok (.aload_n 0, 1) := by decide +kernel
theorem dX6_summed_20 : decode cX6_summed 20 = .ok (.iload_n 1, 1) := by decide +kernel
theorem dX6_summed_21 : decode cX6_summed 21 = .ok (.iload 8, 2) := by decide +kernel
theorem dX6_summed_23 : decode cX6_summed 23 = .ok (.lload_n 2, 1) := by decide +kernel
theorem dX6_summed_24 : decode cX6_summed 24 = .ok (.lload 4, 2) := by decide +kernel
theorem dX6_summed_26 : decode cX6_summed 26 = .ok (.invokevirtual 111, 3) := by decide +kernel
theorem dX6_summed_29 : decode cX6_summed 29 = .ok (.ifCond .eq 14, 3) := by decide +kernel
theorem dX6_summed_32 : decode cX6_summed 32 = .ok (.aload_n 0, 1) := by decide +kernel
theorem dX6_summed_33 : decode cX6_summed 33 = .ok (.iload_n 1, 1) := by decide +kernel
theorem dX6_summed_34 : decode cX6_summed 34 = .ok (.iload 8, 2) := by decide +kernel
theorem dX6_summed_36 : decode cX6_summed 36 = .ok (.invokevirtual 64, 3) := by decide +kernel
theorem dX6_summed_39 : decode cX6_summed 39 = .ok (.i2l, 1) := by decide +kernel
theorem dX6_summed_40 : decode cX6_summed 40 = .ok (.goto 4, 3) := by decide +kernel
theorem dX6_summed_43 : decode cX6_summed 43 = .ok (.lconst 0, 1) := by decide +kernel
theorem dX6_summed_44 : decode cX6_summed 44 = .ok (.ladd, 1) := by decide +kernel
theorem dX6_summed_45 : decode cX6_summed 45 = .ok (.lstore 6, 2) := by decide +kernel
theorem dX6_summed_47 : decode cX6_summed 47 = .ok (.iinc 8 1, 3) := by decide +kernel
theorem dX6_summed_50 : decode cX6_summed 50 = .ok (.goto (-44), 3) := by decide +kernel
theorem dX6_summed_53 : decode cX6_summed 53 = .ok (.lload 6, 2) := by decide +kernel
theorem dX6_summed_55 : decode cX6_summed 55 = .ok (.lreturn, 1) := by decide +kernel
theorem dX6_count_0 : decode cX6_count 0 = .ok (.aload_n 0, 1) := by decide +kernel
theorem dX6_count_1 : decode cX6_count 1 = .ok (.iload_n 1, 1) := by decide +kernel
theorem dX6_count_2 : decode cX6_count 2 = .ok (.lload_n 2, 1) := by decide +kernel
theorem dX6_count_3 : decode cX6_count 3 = .ok (.lload 4, 2) := by decide +kernel
theorem dX6_count_5 : decode cX6_count 5 = .ok (.invokevirtual 115, 3) := by decide +kernel
theorem dX6_count_8 : decode cX6_count 8 = .ok (.ifCond .eq 14, 3) := by decide +kernel
theorem dX6_count_11 : decode cX6_count 11 = .ok (.aload_n 0, 1) := by decide +kernel
theorem dX6_count_12 : decode cX6_count 12 = .ok (.iload_n 1, 1) := by decide +kernel
theorem dX6_count_13 : decode cX6_count 13 = .ok (.lload_n 2, 1) := by decide +kernel
theorem dX6_count_14 : decode cX6_count 14 = .ok (.lload 4, 2) := by decide +kernel
theorem dX6_count_16 : decode cX6_count 16 = .ok (.invokevirtual 119, 3) := by decide +kernel
theorem dX6_count_19 : decode cX6_count 19 = .ok (.goto 4, 3) := by decide +kernel
theorem dX6_count_22 : decode cX6_count 22 = .ok (.iconst 0, 1) := by decide +kernel
theorem dX6_count_23 : decode cX6_count 23 = .ok (.ireturn, 1) := by decide +kernel
theorem dX6_sum_0 : decode cX6_sum 0 = .ok (.aload_n 0, 1) := by decide +kernel
theorem dX6_sum_1 : decode cX6_sum 1 = .ok (.iload_n 1, 1) := by decide +kernel
theorem dX6_sum_2 : decode cX6_sum 2 = .ok (.lload_n 2, 1) := by decide +kernel
theorem dX6_sum_3 : decode cX6_sum 3 = .ok (.lload 4, 2) := by decide +kernel
theorem dX6_sum_5 : decode cX6_sum 5 = .ok (.invokevirtual 115, 3) := by decide +kernel
theorem dX6_sum_8 : decode cX6_sum 8 = .ok (.ifCond .eq 14, 3) := by decide +kernel
theorem dX6_sum_11 : decode cX6_sum 11 = .ok (.aload_n 0, 1) := by decide +kernel
theorem dX6_sum_12 : decode cX6_sum 12 = .ok (.iload_n 1, 1) := by decide +kernel
theorem dX6_sum_13 : decode cX6_sum 13 = .ok (.lload_n 2, 1) := by decide +kernel
theorem dX6_sum_14 : decode cX6_sum 14 = .ok (.lload 4, 2) := by decide +kernel
theorem dX6_sum_16 : decode cX6_sum 16 = .ok (.invokevirtual 123, 3) := by decide +kernel
theorem dX6_sum_19 : decode cX6_sum 19 = .ok (.goto 4, 3) := by decide +kernel
theorem dX6_sum_22 : decode cX6_sum 22 = .ok (.lconst 0, 1) := by decide +kernel
theorem dX6_sum_23 : decode cX6_sum 23 = .ok (.lreturn, 1) := by decide +kernel
theorem dX6_sumByReading_0 : decode cX6_sumByReading 0 = .ok (.aload_n 0, 1) := by decide +kernel
theorem dX6_sumByReading_1 : decode cX6_sumByReading 1 = .ok (.iload_n 1, 1) := by decide +kernel
theorem dX6_sumByReading_2 : decode cX6_sumByReading 2 = .ok (.lload_n 2, 1) := by decide +kernel
theorem dX6_sumByReading_3 : decode cX6_sumByReading 3 = .ok (.lload 4, 2) := by decide +kernel
theorem dX6_sumByReading_5 : decode cX6_sumByReading 5 = .ok (.invokevirtual 127, 3) := by decide +kernel
theorem dX6_sumByReading_8 : decode cX6_sumByReading 8 = .ok (.lreturn, 1) := by decide +kernel
theorem dX6_maximum_0 : decode cX6_maximum 0 = .ok (.aload_n 0, 1) := by decide +kernel
theorem dX6_maximum_1 : decode cX6_maximum 1 = .ok (.iload_n 1, 1) := by decide +kernel
theorem dX6_maximum_2 : decode cX6_maximum 2 = .ok (.lload_n 2, 1) := by decide +kernel
theorem dX6_maximum_3 : decode cX6_maximum 3 = .ok (.lload 4, 2) := by decide +kernel
theorem dX6_maximum_5 : decode cX6_maximum 5 = .ok (.invokevirtual 115, 3) := by decide +kernel
theorem dX6_maximum_8 : decode cX6_maximum 8 = .ok (.ifCond .ne 5, 3) := by decide +kernel
theorem dX6_maximum_11 : decode cX6_maximum 11 = .ok (.iconst 0, 1) := by decide +kernel
theorem dX6_maximum_12 : decode cX6_maximum 12 = .ok (.ireturn, 1) := by decide +kernel
theorem dX6_maximum_13 : decode cX6_maximum 13 = .ok (.sipush (-20000), 3) := by decide +kernel
theorem dX6_maximum_16 : decode cX6_maximum 16 = .ok (.istore 6, 2) := by decide +kernel
theorem dX6_maximum_18 : decode cX6_maximum 18 = .ok (.iconst 0, 1) := by decide +kernel
theorem dX6_maximum_19 : decode cX6_maximum 19 = .ok (.istore 7, 2) := by decide +kernel
theorem dX6_maximum_21 : decode cX6_maximum 21 = .ok (.iload 7, 2) := by decide +kernel
theorem dX6_maximum_23 : decode cX6_maximum 23 = .ok (.aload_n 0, 1) := by decide +kernel
theorem dX6_maximum_24 : decode cX6_maximum 24 = .ok (.getfield 16, 3) := by decide +kernel
theorem dX6_maximum_27 : decode cX6_maximum 27 = .ok (.iload_n 1, 1) := by decide +kernel
theorem dX6_maximum_28 : decode cX6_maximum 28 = .ok (.iaload, 1) := by decide +kernel
theorem dX6_maximum_29 : decode cX6_maximum 29 = .ok (.if_icmp .ge 43, 3) := by decide +kernel
theorem dX6_maximum_32 : decode cX6_maximum 32 = .ok (.aload_n 0, 1) := by decide +kernel
theorem dX6_maximum_33 : decode cX6_maximum 33 = .ok (.iload_n 1, 1) := by decide +kernel
theorem dX6_maximum_34 : decode cX6_maximum 34 = .ok (.iload 7, 2) := by decide +kernel
theorem dX6_maximum_36 : decode cX6_maximum 36 = .ok (.lload_n 2, 1) := by decide +kernel
theorem dX6_maximum_37 : decode cX6_maximum 37 = .ok (.lload 4, 2) := by decide +kernel
theorem dX6_maximum_39 : decode cX6_maximum 39 = .ok (.invokevirtual 111, 3) := by decide +kernel
theorem dX6_maximum_42 : decode cX6_maximum 42 = .ok (.ifCond .eq 24, 3) := by decide +kernel
theorem dX6_maximum_45 : decode cX6_maximum 45 = .ok (.aload_n 0, 1) := by decide +kernel
theorem dX6_maximum_46 : decode cX6_maximum 46 = .ok (.iload_n 1, 1) := by decide +kernel
theorem dX6_maximum_47 : decode cX6_maximum 47 = .ok (.iload 7, 2) := by decide +kernel
theorem dX6_maximum_49 : decode cX6_maximum 49 = .ok (.invokevirtual 64, 3) := by decide +kernel
theorem dX6_maximum_52 : decode cX6_maximum 52 = .ok (.iload 6, 2) := by decide +kernel
theorem dX6_maximum_54 : decode cX6_maximum 54 = .ok (.if_icmp .le 12, 3) := by decide +kernel
theorem dX6_maximum_57 : decode cX6_maximum 57 = .ok (.aload_n 0, 1) := by decide +kernel
theorem dX6_maximum_58 : decode cX6_maximum 58 = .ok (.iload_n 1, 1) := by decide +kernel
theorem dX6_maximum_59 : decode cX6_maximum 59 = .ok (.iload 7, 2) := by decide +kernel
theorem dX6_maximum_61 : decode cX6_maximum 61 = .ok (.invokevirtual 64, 3) := by decide +kernel
theorem dX6_maximum_64 : decode cX6_maximum 64 = .ok (.istore 6, 2) := by decide +kernel
theorem dX6_maximum_66 : decode cX6_maximum 66 = .ok (.iinc 7 1, 3) := by decide +kernel
theorem dX6_maximum_69 : decode cX6_maximum 69 = .ok (.goto (-48), 3) := by decide +kernel
theorem dX6_maximum_72 : decode cX6_maximum 72 = .ok (.aload_n 0, 1) := by decide +kernel
theorem dX6_maximum_73 : decode cX6_maximum 73 = .ok (.iload 6, 2) := by decide +kernel
theorem dX6_maximum_75 : decode cX6_maximum 75 = .ok (.sipush (-20000), 3) := by decide +kernel
theorem dX6_maximum_78 : decode cX6_maximum 78 = .ok (.if_icmp .ne 7, 3) := by decide +kernel
theorem dX6_maximum_81 : decode cX6_maximum 81 = .ok (.iconst 3, 1) := by decide +kernel
theorem dX6_maximum_82 : decode cX6_maximum 82 = .ok (.goto 4, 3) := by decide +kernel
theorem dX6_maximum_85 : decode cX6_maximum 85 = .ok (.iconst 0, 1) := by decide +kernel
theorem dX6_maximum_86 : decode cX6_maximum 86 = .ok (.putfield 53, 3) := by decide +kernel
theorem dX6_maximum_89 : decode cX6_maximum 89 = .ok (.aload_n 0, 1) := by decide +kernel
theorem dX6_maximum_90 : decode cX6_maximum 90 = .ok (.getfield 53, 3) := by decide +kernel
theorem dX6_maximum_93 : decode cX6_maximum 93 = .ok (.ifCond .ne 8, 3) := by decide +kernel
theorem dX6_maximum_96 : decode cX6_maximum 96 = .ok (.iload 6, 2) := by decide +kernel
end
section
theorem dX6_maximum_98 : decode cX6_maximum 98 = .ok (.goto 4, 3) := by decide +kernel
theorem dX6_maximum_101 : decode cX6_maximum 101 = .ok (.iconst 0, 1) := by decide +kernel
theorem dX6_maximum_102 : decode cX6_maximum 102 = .ok (.ireturn, 1) := by decide +kernel
theorem dX6_mean_0 : decode cX6_mean 0 = .ok (.aload_n 0, 1) := by decide +kernel
theorem dX6_mean_1 : decode cX6_mean 1 = .ok (.iload_n 1, 1) := by decide +kernel
theorem dX6_mean_2 : decode cX6_mean 2 = .ok (.lload_n 2, 1) := by decide +kernel
theorem dX6_mean_3 : decode cX6_mean 3 = .ok (.lload 4, 2) := by decide +kernel
theorem dX6_mean_5 : decode cX6_mean 5 = .ok (.invokevirtual 115, 3) := by decide +kernel
theorem dX6_mean_8 : decode cX6_mean 8 = .ok (.ifCond .ne 5, 3) := by decide +kernel
theorem dX6_mean_11 : decode cX6_mean 11 = .ok (.dconst 0, 1) := by decide +kernel
theorem dX6_mean_12 : decode cX6_mean 12 = .ok (.dreturn, 1) := by decide +kernel
theorem dX6_mean_13 : decode cX6_mean 13 = .ok (.aload_n 0, 1) := by decide +kernel
theorem dX6_mean_14 : decode cX6_mean 14 = .ok (.iload_n 1, 1) := by decide +kernel
theorem dX6_mean_15 : decode cX6_mean 15 = .ok (.lload_n 2, 1) := by decide +kernel
theorem dX6_mean_16 : decode cX6_mean 16 = .ok (.lload 4, 2) := by decide +kernel
theorem dX6_mean_18 : decode cX6_mean 18 = .ok (.invokevirtual 119, 3) := by decide +kernel
theorem dX6_mean_21 : decode cX6_mean 21 = .ok (.istore 6, 2) := by decide +kernel
theorem dX6_mean_23 : decode cX6_mean 23 = .ok (.aload_n 0, 1) := by decide +kernel
theorem dX6_mean_24 : decode cX6_mean 24 = .ok (.iload 6, 2) := by decide +kernel
theorem dX6_mean_26 : decode cX6_mean 26 = .ok (.ifCond .ne 7, 3) := by decide +kernel
theorem dX6_mean_29 : decode cX6_mean 29 = .ok (.iconst 3, 1) := by decide +kernel
theorem dX6_mean_30 : decode cX6_mean 30 = .ok (.goto 4, 3) := by decide +kernel
theorem dX6_mean_33 : decode cX6_mean 33 = .ok (.iconst 0, 1) := by decide +kernel
theorem dX6_mean_34 : decode cX6_mean 34 = .ok (.putfield 53, 3) := by decide +kernel
theorem dX6_mean_37 : decode cX6_mean 37 = .ok (.aload_n 0, 1) := by decide +kernel
theorem dX6_mean_38 : decode cX6_mean 38 = .ok (.getfield 53, 3) := by decide +kernel
theorem dX6_mean_41 : decode cX6_mean 41 = .ok (.ifCond .ne 19, 3) := by decide +kernel
theorem dX6_mean_44 : decode cX6_mean 44 = .ok (.aload_n 0, 1) := by decide +kernel
theorem dX6_mean_45 : decode cX6_mean 45 = .ok (.iload_n 1, 1) := by decide +kernel
theorem dX6_mean_46 : decode cX6_mean 46 = .ok (.lload_n 2, 1) := by decide +kernel
theorem dX6_mean_47 : decode cX6_mean 47 = .ok (.lload 4, 2) := by decide +kernel
theorem dX6_mean_49 : decode cX6_mean 49 = .ok (.invokevirtual 123, 3) := by decide +kernel
theorem dX6_mean_52 : decode cX6_mean 52 = .ok (.l2d, 1) := by decide +kernel
theorem dX6_mean_53 : decode cX6_mean 53 = .ok (.iload 6, 2) := by decide +kernel
theorem dX6_mean_55 : decode cX6_mean 55 = .ok (.i2d, 1) := by decide +kernel
theorem dX6_mean_56 : decode cX6_mean 56 = .ok (.ddiv, 1) := by decide +kernel
theorem dX6_mean_57 : decode cX6_mean 57 = .ok (.goto 4, 3) := by decide +kernel
theorem dX6_mean_60 : decode cX6_mean 60 = .ok (.dconst 0, 1) := by decide +kernel
theorem dX6_mean_61 : decode cX6_mean 61 = .ok (.dreturn, 1) := by decide +kernel
theorem dX6_begin_0 : decode cX6_begin 0 = .ok (.aload_n 0, 1) := by decide +kernel
theorem dX6_begin_1 : decode cX6_begin 1 = .ok (.iload_n 1, 1) := by decide +kernel
theorem dX6_begin_2 : decode cX6_begin 2 = .ok (.iload_n 2, 1) := by decide +kernel
theorem dX6_begin_3 : decode cX6_begin 3 = .ok (.invokevirtual 87, 3) := by decide +kernel
theorem dX6_begin_6 : decode cX6_begin 6 = .ok (.ldc2_w 130, 3) := by decide +kernel
theorem dX6_begin_9 : decode cX6_begin 9 = .ok (.ldiv, 1) := by decide +kernel
theorem dX6_begin_10 : decode cX6_begin 10 = .ok (.ldc2_w 130, 3) := by decide +kernel
theorem dX6_begin_13 : decode cX6_begin 13 = .ok (.lmul, 1) := by decide +kernel
theorem dX6_begin_14 : decode cX6_begin 14 = .ok (.lreturn, 1) := by decide +kernel
theorem dX6_rollupCount_0 : decode cX6_rollupCount 0 = .ok (.aload_n 0, 1) := by decide +kernel
theorem dX6_rollupCount_1 : decode cX6_rollupCount 1 = .ok (.iload_n 1, 1) := by decide +kernel
theorem dX6_rollupCount_2 : decode cX6_rollupCount 2 = .ok (.invokevirtual 83, 3) := by decide +kernel
theorem dX6_rollupCount_5 : decode cX6_rollupCount 5 = .ok (.ifCond .ne 5, 3) := by decide +kernel
theorem dX6_rollupCount_8 : decode cX6_rollupCount 8 = .ok (.iconst 0, 1) := by decide +kernel
theorem dX6_rollupCount_9 : decode cX6_rollupCount 9 = .ok (.ireturn, 1) := by decide +kernel
theorem dX6_rollupCount_10 : decode cX6_rollupCount 10 = .ok (.iload_n 2, 1) := by decide +kernel
theorem dX6_rollupCount_11 : decode cX6_rollupCount 11 = .ok (.ifCond .ge 9, 3) := by decide +kernel
theorem dX6_rollupCount_14 : decode cX6_rollupCount 14 = .ok (.aload_n 0, 1) := by decide +kernel
theorem dX6_rollupCount_15 : decode cX6_rollupCount 15 = .ok (.iconst 2, 1) := by decide +kernel
theorem dX6_rollupCount_16 : decode cX6_rollupCount 16 = .ok (.invokevirtual 68, 3) := by decide +kernel
theorem dX6_rollupCount_19 : decode cX6_rollupCount 19 = .ok (.ireturn, 1) := by decide +kernel
theorem dX6_rollupCount_20 : decode cX6_rollupCount 20 = .ok (.iconst 0, 1) := by decide +kernel
theorem dX6_rollupCount_21 : decode cX6_rollupCount 21 = .ok (.istore_n 3, 1) := by decide +kernel
theorem dX6_rollupCount_22 : decode cX6_rollupCount 22 = .ok (.iconst 0, 1) := by decide +kernel
theorem dX6_rollupCount_23 : decode cX6_rollupCount 23 = .ok (.istore 4, 2) := by decide +kernel
theorem dX6_rollupCount_25 : decode cX6_rollupCount 25 = .ok (.iload 4, 2) := by decide +kernel
theorem dX6_rollupCount_27 : decode cX6_rollupCount 27 = .ok (.aload_n 0, 1) := by decide +kernel
theorem dX6_rollupCount_28 : decode cX6_rollupCount 28 = .ok (.getfield 16, 3) := by decide +kernel
theorem dX6_rollupCount_31 : decode cX6_rollupCount 31 = .ok (.iload_n 1, 1) := by decide +kernel
theorem dX6_rollupCount_32 : decode cX6_rollupCount 32 = .ok (.iaload, 1) := by decide +kernel
theorem dX6_rollupCount_33 : decode cX6_rollupCount 33 = .ok (.if_icmp .ge 34, 3) := by decide +kernel
theorem dX6_rollupCount_36 : decode cX6_rollupCount 36 = .ok (.iload_n 3, 1) := by decide +kernel
theorem dX6_rollupCount_37 : decode cX6_rollupCount 37 = .ok (.aload_n 0, 1) := by decide +kernel
theorem dX6_rollupCount_38 : decode cX6_rollupCount 38 = .ok (.iload_n 1, 1) := by decide +kernel
theorem dX6_rollupCount_39 : decode cX6_rollupCount 39 = .ok (.iload 4, 2) := by decide +kernel
theorem dX6_rollupCount_41 : decode cX6_rollupCount 41 = .ok (.invokevirtual 132, 3) := by decide +kernel
theorem dX6_rollupCount_44 : decode cX6_rollupCount 44 = .ok (.ldc2_w 130, 3) := by decide +kernel
theorem dX6_rollupCount_47 : decode cX6_rollupCount 47 = .ok (.iload_n 2, 1) := by decide +kernel
theorem dX6_rollupCount_48 : decode cX6_rollupCount 48 = .ok (.i2l, 1) := by decide +kernel
theorem dX6_rollupCount_49 : decode cX6_rollupCount 49 = .ok (.lmul, 1) := by decide +kernel
theorem dX6_rollupCount_50 : decode cX6_rollupCount 50 = .ok (.lcmp, 1) := by decide +kernel
theorem dX6_rollupCount_51 : decode cX6_rollupCount 51 = .ok (.ifCond .ne 7, 3) := by decide +kernel
theorem dX6_rollupCount_54 : decode cX6_rollupCount 54 = .ok (.iconst 1, 1) := by decide +kernel
theorem dX6_rollupCount_55 : decode cX6_rollupCount 55 = .ok (.goto 4, 3) := by decide +kernel
theorem dX6_rollupCount_58 : decode cX6_rollupCount 58 = .ok (.iconst 0, 1) := by decide +kernel
theorem dX6_rollupCount_59 : decode cX6_rollupCount 59 = .ok (.iadd, 1) := by decide +kernel
theorem dX6_rollupCount_60 : decode cX6_rollupCount 60 = .ok (.istore_n 3, 1) := by decide +kernel
theorem dX6_rollupCount_61 : decode cX6_rollupCount 61 = .ok (.iinc 4 1, 3) := by decide +kernel
theorem dX6_rollupCount_64 : decode cX6_rollupCount 64 = .ok (.goto (-39), 3) := by decide +kernel
theorem dX6_rollupCount_67 : decode cX6_rollupCount 67 = .ok (.iload_n 3, 1) := by decide +kernel
theorem dX6_rollupCount_68 : decode cX6_rollupCount 68 = .ok (.ireturn, 1) := by decide +kernel
theorem dX6_countLow_0 : decode cX6_countLow 0 = .ok (.aload_n 0, 1) := by decide +kernel
theorem dX6_countLow_1 : decode cX6_countLow 1 = .ok (.iload_n 1, 1) := by decide +kernel
theorem dX6_countLow_2 : decode cX6_countLow 2 = .ok (.lload_n 2, 1) := by decide +kernel
theorem dX6_countLow_3 : decode cX6_countLow 3 = .ok (.lload 4, 2) := by decide +kernel
theorem dX6_countLow_5 : decode cX6_countLow 5 = .ok (.invokevirtual 115, 3) := by decide +kernel
theorem dX6_countLow_8 : decode cX6_countLow 8 = .ok (.ifCond .ne 5, 3) := by decide +kernel
theorem dX6_countLow_11 : decode cX6_countLow 11 = .ok (.iconst 0, 1) := by decide +kernel
theorem dX6_countLow_12 : decode cX6_countLow 12 = .ok (.ireturn, 1) := by decide +kernel
theorem dX6_countLow_13 : decode cX6_countLow 13 = .ok (.iconst 0, 1) := by decide +kernel
theorem dX6_countLow_14 : decode cX6_countLow 14 = .ok (.istore 6, 2) := by decide +kernel
theorem dX6_countLow_16 : decode cX6_countLow 16 = .ok (.iconst 0, 1) := by decide +kernel
theorem dX6_countLow_17 : decode cX6_countLow 17 = .ok (.istore 7, 2) := by decide +kernel
theorem dX6_countLow_19 : decode cX6_countLow 19 = .ok (.iload 7, 2) := by decide +kernel
theorem dX6_countLow_21 : decode cX6_countLow 21 = .ok (.aload_n 0, 1) := by decide +kernel
theorem dX6_countLow_22 : decode cX6_countLow 22 = .ok (.getfield 16, 3) := by decide +kernel
theorem dX6_countLow_25 : decode cX6_countLow 25 = .ok (.iload_n 1, 1) := by decide +kernel
theorem dX6_countLow_26 : decode cX6_countLow 26 = .ok (.iaload, 1) := by decide +kernel
theorem dX6_countLow_27 : decode cX6_countLow 27 = .ok (.if_icmp .ge 48, 3) := by decide +kernel
theorem dX6_countLow_30 : decode cX6_countLow 30 = .ok (.iload 6, 2) := by decide +kernel
theorem dX6_countLow_32 : decode cX6_countLow 32 = .ok (.aload_n 0, 1) := by decide +kernel
theorem dX6_countLow_33 : decode cX6_countLow 33 = .ok (.iload_n 1, 1) := by decide +kernel
theorem dX6_countLow_34 : decode cX6_countLow 34 = .ok (.iload 7, 2) := by decide +kernel
theorem dX6_countLow_36 : decode cX6_countLow 36 = .ok (.invokevirtual 132, 3) := by decide +kernel
theorem dX6_countLow_39 : decode cX6_countLow 39 = .ok (.lload_n 2, 1) := by decide +kernel
theorem dX6_countLow_40 : decode cX6_countLow 40 = .ok (.lcmp, 1) := by decide +kernel
theorem dX6_countLow_41 : decode cX6_countLow 41 = .ok (.ifCond .lt 24, 3) := by decide +kernel
theorem dX6_countLow_44 : decode cX6_countLow 44 = .ok (.aload_n 0, 1) := by decide +kernel
theorem dX6_countLow_45 : decode cX6_countLow 45 = .ok (.iload_n 1, 1) := by decide +kernel
theorem dX6_countLow_46 : decode cX6_countLow 46 = .ok (.iload 7, 2) := by decide +kernel
theorem dX6_countLow_48 : decode cX6_countLow 48 = .ok (.invokevirtual 132, 3) := by decide +kernel
theorem dX6_countLow_51 : decode cX6_countLow 51 = .ok (.ldc2_w 135, 3) := by decide +kernel
theorem dX6_countLow_54 : decode cX6_countLow 54 = .ok (.ladd, 1) := by decide +kernel
theorem dX6_countLow_55 : decode cX6_countLow 55 = .ok (.lload 4, 2) := by decide +kernel
theorem dX6_countLow_57 : decode cX6_countLow 57 = .ok (.lcmp, 1) := by decide +kernel
theorem dX6_countLow_58 : decode cX6_countLow 58 = .ok (.ifCond .gt 7, 3) := by decide +kernel
theorem dX6_countLow_61 : decode cX6_countLow 61 = .ok (.iconst 1, 1) := by decide +kernel
theorem dX6_countLow_62 : decode cX6_countLow 62 = .ok (.goto 4, 3) := by decide +kernel
theorem dX6_countLow_65 : decode cX6_countLow 65 = .ok (.iconst 0, 1) := by decide +kernel
theorem dX6_countLow_66 : decode cX6_countLow 66 = .ok (.iadd, 1) := by decide +kernel
theorem dX6_countLow_67 : decode cX6_countLow 67 = .ok (.istore 6, 2) := by decide +kernel
theorem dX6_countLow_69 : decode cX6_countLow 69 = .ok (.iinc 7 1, 3) := by decide +kernel
theorem dX6_countLow_72 : decode cX6_countLow 72 = .ok (.goto (-53), 3) := by decide +kernel
theorem dX6_countLow_75 : decode cX6_countLow 75 = .ok (.iload 6, 2) := by decide +kernel
theorem dX6_countLow_77 : decode cX6_countLow 77 = .ok (.ireturn, 1) := by decide +kernel
theorem dX6_isTouched_0 : decode cX6_isTouched 0 = .ok (.aload_n 0, 1) := by decide +kernel
theorem dX6_isTouched_1 : decode cX6_isTouched 1 = .ok (.iload_n 1, 1) := by decide +kernel
theorem dX6_isTouched_2 : decode cX6_isTouched 2 = .ok (.iload_n 2, 1) := by decide +kernel
theorem dX6_isTouched_3 : decode cX6_isTouched 3 = .ok (.invokevirtual 132, 3) := by decide +kernel
theorem dX6_isTouched_6 : decode cX6_isTouched 6 = .ok (.lload 5, 2) := by decide +kernel
theorem dX6_isTouched_8 : decode cX6_isTouched 8 = .ok (.lcmp, 1) := by decide +kernel
theorem dX6_isTouched_9 : decode cX6_isTouched 9 = .ok (.ifCond .gt 22, 3) := by decide +kernel
theorem dX6_isTouched_12 : decode cX6_isTouched 12 = .ok (.aload_n 0, 1) := by decide +kernel
theorem dX6_isTouched_13 : decode cX6_isTouched 13 = .ok (.iload_n 1, 1) := by decide +kernel
theorem dX6_isTouched_14 : decode cX6_isTouched 14 = .ok (.iload_n 2, 1) := by decide +kernel
theorem dX6_isTouched_15 : decode cX6_isTouched 15 = .ok (.invokevirtual 132, 3) := by decide +kernel
theorem dX6_isTouched_18 : decode cX6_isTouched 18 = .ok (.ldc2_w 135, 3) := by decide +kernel
theorem dX6_isTouched_21 : decode cX6_isTouched 21 = .ok (.ladd, 1) := by decide +kernel
theorem dX6_isTouched_22 : decode cX6_isTouched 22 = .ok (.lload_n 3, 1) := by decide +kernel
theorem dX6_isTouched_23 : decode cX6_isTouched 23 = .ok (.lcmp, 1) := by decide +kernel
theorem dX6_isTouched_24 : decode cX6_isTouched 24 = .ok (.ifCond .lt 7, 3) := by decide +kernel
theorem dX6_isTouched_27 : decode cX6_isTouched 27 = .ok (.iconst 1, 1) := by decide +kernel
theorem dX6_isTouched_28 : decode cX6_isTouched 28 = .ok (.goto 4, 3) := by decide +kernel
theorem dX6_isTouched_31 : decode cX6_isTouched 31 = .ok (.iconst 0, 1) := by decide +kernel
theorem dX6_isTouched_32 : decode cX6_isTouched 32 = .ok (.ireturn, 1) := by decide +kernel
theorem dX6_countHigh_0 : decode cX6_countHigh 0 = .ok (.aload_n 0, 1) := by decide +kernel
theorem dX6_countHigh_1 : decode cX6_countHigh 1 = .ok (.iload_n 1, 1) := by decide +kernel
theorem dX6_countHigh_2 : decode cX6_countHigh 2 = .ok (.lload_n 2, 1) := by decide +kernel
theorem dX6_countHigh_3 : decode cX6_countHigh 3 = .ok (.lload 4, 2) := by decide +kernel
theorem dX6_countHigh_5 : decode cX6_countHigh 5 = .ok (.invokevirtual 115, 3) := by decide +kernel
theorem dX6_countHigh_8 : decode cX6_countHigh 8 = .ok (.ifCond .ne 5, 3) := by decide +kernel
theorem dX6_countHigh_11 : decode cX6_countHigh 11 = .ok (.iconst 0, 1) := by decide +kernel
theorem dX6_countHigh_12 : decode cX6_countHigh 12 = .ok (.ireturn, 1) := by decide +kernel
theorem dX6_countHigh_13 : decode cX6_countHigh 13 = .ok (.iconst 0, 1) := by decide +kernel
theorem dX6_countHigh_14 : decode cX6_countHigh 14 = .ok (.istore 6, 2) := by decide +kernel
theorem dX6_countHigh_16 : decode cX6_countHigh 16 = .ok (.iconst 0, 1) := by decide +kernel
theorem dX6_countHigh_17 : decode cX6_countHigh 17 = .ok (.istore 7, 2) := by decide +kernel
theorem dX6_countHigh_19 : decode cX6_countHigh 19 = .ok (.iload 7, 2) := by decide +kernel
theorem dX6_countHigh_21 : decode cX6_countHigh 21 = .ok (.aload_n 0, 1) := by decide +kernel
theorem dX6_countHigh_22 : decode cX6_countHigh 22 = .ok (.getfield 16, 3) := by decide +kernel
theorem dX6_countHigh_25 : decode cX6_countHigh 25 = .ok (.iload_n 1, 1) := by decide +kernel
theorem dX6_countHigh_26 : decode cX6_countHigh 26 = .ok (.iaload, 1) := by decide +kernel
theorem dX6_countHigh_27 : decode cX6_countHigh 27 = .ok (.if_icmp .ge 32, 3) := by decide +kernel
theorem dX6_countHigh_30 : decode cX6_countHigh 30 = .ok (.iload 6, 2) := by decide +kernel
theorem dX6_countHigh_32 : decode cX6_countHigh 32 = .ok (.aload_n 0, 1) := by decide +kernel
theorem dX6_countHigh_33 : decode cX6_countHigh 33 = .ok (.iload_n 1, 1) := by decide +kernel
theorem dX6_countHigh_34 : decode cX6_countHigh 34 = .ok (.iload 7, 2) := by decide +kernel
theorem dX6_countHigh_36 : decode cX6_countHigh 36 = .ok (.lload_n 2, 1) := by decide +kernel
theorem dX6_countHigh_37 : decode cX6_countHigh 37 = .ok (.lload 4, 2) := by decide +kernel
theorem dX6_countHigh_39 : decode cX6_countHigh 39 = .ok (.invokevirtual 137, 3) := by decide +kernel
theorem dX6_countHigh_42 : decode cX6_countHigh 42 = .ok (.ifCond .eq 7, 3) := by decide +kernel
theorem dX6_countHigh_45 : decode cX6_countHigh 45 = .ok (.iconst 1, 1) := by decide +kernel
theorem dX6_countHigh_46 : decode cX6_countHigh 46 = .ok (.goto 4, 3) := by decide +kernel
theorem dX6_countHigh_49 : decode cX6_countHigh 49 = .ok (.iconst 0, 1) := by decide +kernel
theorem dX6_countHigh_50 : decode cX6_countHigh 50 = .ok (.iadd, 1) := by decide +kernel
theorem dX6_countHigh_51 : decode cX6_countHigh 51 = .ok (.istore 6, 2) := by decide +kernel
theorem dX6_countHigh_53 : decode cX6_countHigh 53 = .ok (.iinc 7 1, 3) := by decide +kernel
theorem dX6_countHigh_56 : decode cX6_countHigh 56 = .ok (.goto (-37), 3) := by decide +kernel
theorem dX6_countHigh_59 : decode cX6_countHigh 59 = .ok (.iload 6, 2) := by decide +kernel
theorem dX6_countHigh_61 : decode cX6_countHigh 61 = .ok (.ireturn, 1) := by decide +kernel
theorem dX6_maximumHigh_0 : decode cX6_maximumHigh 0 = .ok (.aload_n 0, 1) := by decide +kernel
theorem dX6_maximumHigh_1 : decode cX6_maximumHigh 1 = .ok (.iload_n 1, 1) := by decide +kernel
theorem dX6_maximumHigh_2 : decode cX6_maximumHigh 2 = .ok (.lload_n 2, 1) := by decide +kernel
theorem dX6_maximumHigh_3 : decode cX6_maximumHigh 3 = .ok (.lload 4, 2) := by decide +kernel
theorem dX6_maximumHigh_5 : decode cX6_maximumHigh 5 = .ok (.invokevirtual 115, 3) := by decide +kernel
theorem dX6_maximumHigh_8 : decode cX6_maximumHigh 8 = .ok (.ifCond .ne 5, 3) := by decide +kernel
theorem dX6_maximumHigh_11 : decode cX6_maximumHigh 11 = .ok (.iconst 0, 1) := by decide +kernel
theorem dX6_maximumHigh_12 : decode cX6_maximumHigh 12 = .ok (.ireturn, 1) := by decide +kernel
theorem dX6_maximumHigh_13 : decode cX6_maximumHigh 13 = .ok (.sipush (-20000), 3) := by decide +kernel
theorem dX6_maximumHigh_16 : decode cX6_maximumHigh 16 = .ok (.istore 6, 2) := by decide +kernel
theorem dX6_maximumHigh_18 : decode cX6_maximumHigh 18 = .ok (.iconst 0, 1) := by decide +kernel
theorem dX6_maximumHigh_19 : decode cX6_maximumHigh 19 = .ok (.istore 7, 2) := by decide +kernel
theorem dX6_maximumHigh_21 : decode cX6_maximumHigh 21 = .ok (.iload 7, 2) := by decide +kernel
theorem dX6_maximumHigh_23 : decode cX6_maximumHigh 23 = .ok (.aload_n 0, 1) := by decide +kernel
theorem dX6_maximumHigh_24 : decode cX6_maximumHigh 24 = .ok (.getfield 16, 3) := by decide +kernel
theorem dX6_maximumHigh_27 : decode cX6_maximumHigh 27 = .ok (.iload_n 1, 1) := by decide +kernel
theorem dX6_maximumHigh_28 : decode cX6_maximumHigh 28 = .ok (.iaload, 1) := by decide +kernel
theorem dX6_maximumHigh_29 : decode cX6_maximumHigh 29 = .ok (.if_icmp .ge 43, 3) := by decide +kernel
theorem dX6_maximumHigh_32 : decode cX6_maximumHigh 32 = .ok (.aload_n 0, 1) := by decide +kernel
theorem dX6_maximumHigh_33 : decode cX6_maximumHigh 33 = .ok (.iload_n 1, 1) := by decide +kernel
theorem dX6_maximumHigh_34 : decode cX6_maximumHigh 34 = .ok (.iload 7, 2) := by decide +kernel
theorem dX6_maximumHigh_36 : decode cX6_maximumHigh 36 = .ok (.lload_n 2, 1) := by decide +kernel
theorem dX6_maximumHigh_37 : decode cX6_maximumHigh 37 = .ok (.lload 4, 2) := by decide +kernel
theorem dX6_maximumHigh_39 : decode cX6_maximumHigh 39 = .ok (.invokevirtual 137, 3) := by decide +kernel
theorem dX6_maximumHigh_42 : decode cX6_maximumHigh 42 = .ok (.ifCond .eq 24, 3) := by decide +kernel
theorem dX6_maximumHigh_45 : decode cX6_maximumHigh 45 = .ok (.aload_n 0, 1) := by decide +kernel
theorem dX6_maximumHigh_46 : decode cX6_maximumHigh 46 = .ok (.iload_n 1, 1) := by decide +kernel
theorem dX6_maximumHigh_47 : decode cX6_maximumHigh 47 = .ok (.iload 7, 2) := by decide +kernel
theorem dX6_maximumHigh_49 : decode cX6_maximumHigh 49 = .ok (.invokevirtual 64, 3) := by decide +kernel
theorem dX6_maximumHigh_52 : decode cX6_maximumHigh 52 = .ok (.iload 6, 2) := by decide +kernel
theorem dX6_maximumHigh_54 : decode cX6_maximumHigh 54 = .ok (.if_icmp .le 12, 3) := by decide +kernel
theorem dX6_maximumHigh_57 : decode cX6_maximumHigh 57 = .ok (.aload_n 0, 1) := by decide +kernel
theorem dX6_maximumHigh_58 : decode cX6_maximumHigh 58 = .ok (.iload_n 1, 1) := by decide +kernel
theorem dX6_maximumHigh_59 : decode cX6_maximumHigh 59 = .ok (.iload 7, 2) := by decide +kernel
theorem dX6_maximumHigh_61 : decode cX6_maximumHigh 61 = .ok (.invokevirtual 64, 3) := by decide +kernel
theorem dX6_maximumHigh_64 : decode cX6_maximumHigh 64 = .ok (.istore 6, 2) := by decide +kernel
theorem dX6_maximumHigh_66 : decode cX6_maximumHigh 66 = .ok (.iinc 7 1, 3) := by decide +kernel
theorem dX6_maximumHigh_69 : decode cX6_maximumHigh 69 = .ok (.goto (-48), 3) := by decide +kernel
theorem dX6_maximumHigh_72 : decode cX6_maximumHigh 72 = .ok (.aload_n 0, 1) := by decide +kernel
theorem dX6_maximumHigh_73 : decode cX6_maximumHigh 73 = .ok (.iload 6, 2) := by decide +kernel
theorem dX6_maximumHigh_75 : decode cX6_maximumHigh 75 = .ok (.sipush (-20000), 3) := by decide +kernel
theorem dX6_maximumHigh_78 : decode cX6_maximumHigh 78 = .ok (.if_icmp .ne 7, 3) := by decide +kernel
theorem dX6_maximumHigh_81 : decode cX6_maximumHigh 81 = .ok (.iconst 3, 1) := by decide +kernel
theorem dX6_maximumHigh_82 : decode cX6_maximumHigh 82 = .ok (.goto 4, 3) := by decide +kernel
theorem dX6_maximumHigh_85 : decode cX6_maximumHigh 85 = .ok (.iconst 0, 1) := by decide +kernel
theorem dX6_maximumHigh_86 : decode cX6_maximumHigh 86 = .ok (.putfield 53, 3) := by decide +kernel
theorem dX6_maximumHigh_89 : decode cX6_maximumHigh 89 = .ok (.aload_n 0, 1) := by decide +kernel
theorem dX6_maximumHigh_90 : decode cX6_maximumHigh 90 = .ok (.getfield 53, 3) := by decide +kernel
theorem dX6_maximumHigh_93 : decode cX6_maximumHigh 93 = .ok (.ifCond .ne 8, 3) := by decide +kernel
theorem dX6_maximumHigh_96 : decode cX6_maximumHigh 96 = .ok (.iload 6, 2) := by decide +kernel
theorem dX6_maximumHigh_98 : decode cX6_maximumHigh 98 = .ok (.goto 4, 3) := by decide +kernel
theorem dX6_maximumHigh_101 : decode cX6_maximumHigh 101 = .ok (.iconst 0, 1) := by decide +kernel
theorem dX6_maximumHigh_102 : decode cX6_maximumHigh 102 = .ok (.ireturn, 1) := by decide +kernel
theorem dX6_isPart_0 : decode cX6_isPart 0 = .ok (.aload_n 0, 1) := by decide +kernel
theorem dX6_isPart_1 : decode cX6_isPart 1 = .ok (.iload_n 1, 1) := by decide +kernel
theorem dX6_isPart_2 : decode cX6_isPart 2 = .ok (.invokevirtual 83, 3) := by decide +kernel
theorem dX6_isPart_5 : decode cX6_isPart 5 = .ok (.ifCond .eq 35, 3) := by decide +kernel
theorem dX6_isPart_8 : decode cX6_isPart 8 = .ok (.aload_n 0, 1) := by decide +kernel
theorem dX6_isPart_9 : decode cX6_isPart 9 = .ok (.iload_n 2, 1) := by decide +kernel
theorem dX6_isPart_10 : decode cX6_isPart 10 = .ok (.iconst 1, 1) := by decide +kernel
theorem dX6_isPart_11 : decode cX6_isPart 11 = .ok (.bipush 100, 2) := by decide +kernel
theorem dX6_isPart_13 : decode cX6_isPart 13 = .ok (.invokestatic 60, 3) := by decide +kernel
theorem dX6_isPart_16 : decode cX6_isPart 16 = .ok (.ifCond .ne 7, 3) := by decide +kernel
theorem dX6_isPart_19 : decode cX6_isPart 19 = .ok (.iconst 2, 1) := by decide +kernel
theorem dX6_isPart_20 : decode cX6_isPart 20 = .ok (.goto 17, 3) := by decide +kernel
theorem dX6_isPart_23 : decode cX6_isPart 23 = .ok (.aload_n 0, 1) := by decide +kernel
theorem dX6_isPart_24 : decode cX6_isPart 24 = .ok (.getfield 16, 3) := by decide +kernel
theorem dX6_isPart_27 : decode cX6_isPart 27 = .ok (.iload_n 1, 1) := by decide +kernel
theorem dX6_isPart_28 : decode cX6_isPart 28 = .ok (.iaload, 1) := by decide +kernel
theorem dX6_isPart_29 : decode cX6_isPart 29 = .ok (.ifCond .ne 7, 3) := by decide +kernel
theorem dX6_isPart_32 : decode cX6_isPart 32 = .ok (.iconst 3, 1) := by decide +kernel
theorem dX6_isPart_33 : decode cX6_isPart 33 = .ok (.goto 4, 3) := by decide +kernel
theorem dX6_isPart_36 : decode cX6_isPart 36 = .ok (.iconst 0, 1) := by decide +kernel
theorem dX6_isPart_37 : decode cX6_isPart 37 = .ok (.putfield 53, 3) := by decide +kernel
theorem dX6_isPart_40 : decode cX6_isPart 40 = .ok (.aload_n 0, 1) := by decide +kernel
theorem dX6_isPart_41 : decode cX6_isPart 41 = .ok (.getfield 53, 3) := by decide +kernel
theorem dX6_isPart_44 : decode cX6_isPart 44 = .ok (.ifCond .ne 7, 3) := by decide +kernel
theorem dX6_isPart_47 : decode cX6_isPart 47 = .ok (.iconst 1, 1) := by decide +kernel
theorem dX6_isPart_48 : decode cX6_isPart 48 = .ok (.goto 4, 3) := by decide +kernel
theorem dX6_isPart_51 : decode cX6_isPart 51 = .ok (.iconst 0, 1) := by decide +kernel
theorem dX6_isPart_52 : decode cX6_isPart 52 = .ok (.ireturn, 1) := by decide +kernel
theorem dX6_target_0 : decode cX6_target 0 = .ok (.aload_n 0, 1) := by decide +kernel
theorem dX6_target_1 : decode cX6_target 1 = .ok (.getfield 16, 3) := by decide +kernel
theorem dX6_target_4 : decode cX6_target 4 = .ok (.iload_n 1, 1) := by decide +kernel
theorem dX6_target_5 : decode cX6_target 5 = .ok (.iaload, 1) := by decide +kernel
theorem dX6_target_6 : decode cX6_target 6 = .ok (.iload_n 2, 1) := by decide +kernel
theorem dX6_target_7 : decode cX6_target 7 = .ok (.imul, 1) := by decide +kernel
theorem dX6_target_8 : decode cX6_target 8 = .ok (.bipush 99, 2) := by decide +kernel
theorem dX6_target_10 : decode cX6_target 10 = .ok (.iadd, 1) := by decide +kernel
theorem dX6_target_11 : decode cX6_target 11 = .ok (.bipush 100, 2) := by decide +kernel
theorem dX6_target_13 : decode cX6_target 13 = .ok (.idiv, 1) := by decide +kernel
theorem dX6_target_14 : decode cX6_target 14 = .ok (.ireturn, 1) := by decide +kernel
theorem dX6_standing_0 : decode cX6_standing 0 = .ok (.iconst 0, 1) := by decide +kernel
theorem dX6_standing_1 : decode cX6_standing 1 = .ok (.istore_n 3, 1) := by decide +kernel
theorem dX6_standing_2 : decode cX6_standing 2 = .ok (.iconst 0, 1) := by decide +kernel
theorem dX6_standing_3 : decode cX6_standing 3 = .ok (.istore 4, 2) := by decide +kernel
theorem dX6_standing_5 : decode cX6_standing 5 = .ok (.iload 4, 2) := by decide +kernel
theorem dX6_standing_7 : decode cX6_standing 7 = .ok (.bipush 6, 2) := by decide +kernel
theorem dX6_standing_9 : decode cX6_standing 9 = .ok (.if_icmp .ge 67, 3) := by decide +kernel
theorem dX6_standing_12 : decode cX6_standing 12 = .ok (.bipush 6, 2) := by decide +kernel
theorem dX6_standing_14 : decode cX6_standing 14 = .ok (.iload_n 1, 1) := by decide +kernel
theorem dX6_standing_15 : decode cX6_standing 15 = .ok (.imul, 1) := by decide +kernel
theorem dX6_standing_16 : decode cX6_standing 16 = .ok (.iload 4, 2) := by decide +kernel
theorem dX6_standing_18 : decode cX6_standing 18 = .ok (.iadd, 1) := by decide +kernel
theorem dX6_standing_19 : decode cX6_standing 19 = .ok (.istore 5, 2) := by decide +kernel
theorem dX6_standing_21 : decode cX6_standing 21 = .ok (.iconst 0, 1) := by decide +kernel
theorem dX6_standing_22 : decode cX6_standing 22 = .ok (.istore 6, 2) := by decide +kernel
theorem dX6_standing_24 : decode cX6_standing 24 = .ok (.iload 6, 2) := by decide +kernel
theorem dX6_standing_26 : decode cX6_standing 26 = .ok (.aload_n 0, 1) := by decide +kernel
theorem dX6_standing_27 : decode cX6_standing 27 = .ok (.getfield 32, 3) := by decide +kernel
theorem dX6_standing_30 : decode cX6_standing 30 = .ok (.iload 5, 2) := by decide +kernel
theorem dX6_standing_32 : decode cX6_standing 32 = .ok (.iaload, 1) := by decide +kernel
theorem dX6_standing_33 : decode cX6_standing 33 = .ok (.if_icmp .ge 37, 3) := by decide +kernel
theorem dX6_standing_36 : decode cX6_standing 36 = .ok (.iload_n 3, 1) := by decide +kernel
theorem dX6_standing_37 : decode cX6_standing 37 = .ok (.aload_n 0, 1) := by decide +kernel
theorem dX6_standing_38 : decode cX6_standing 38 = .ok (.getfield 29, 3) := by decide +kernel
theorem dX6_standing_41 : decode cX6_standing 41 = .ok (.bipush 8, 2) := by decide +kernel
theorem dX6_standing_43 : decode cX6_standing 43 = .ok (.iload 5, 2) := by decide +kernel
theorem dX6_standing_45 : decode cX6_standing 45 = .ok (.imul, 1) := by decide +kernel
theorem dX6_standing_46 : decode cX6_standing 46 = .ok (.iload 6, 2) := by decide +kernel
theorem dX6_standing_48 : decode cX6_standing 48 = .ok (.iadd, 1) := by decide +kernel
theorem dX6_standing_49 : decode cX6_standing 49 = .ok (.iaload, 1) := by decide +kernel
theorem dX6_standing_50 : decode cX6_standing 50 = .ok (.iload_n 2, 1) := by decide +kernel
theorem dX6_standing_51 : decode cX6_standing 51 = .ok (.if_icmp .gt 10, 3) := by decide +kernel
theorem dX6_standing_54 : decode cX6_standing 54 = .ok (.iconst 1, 1) := by decide +kernel
theorem dX6_standing_55 : decode cX6_standing 55 = .ok (.iload 4, 2) := by decide +kernel
theorem dX6_standing_57 : decode cX6_standing 57 = .ok (.ishl, 1) := by decide +kernel
theorem dX6_standing_58 : decode cX6_standing 58 = .ok (.goto 4, 3) := by decide +kernel
theorem dX6_standing_61 : decode cX6_standing 61 = .ok (.iconst 0, 1) := by decide +kernel
theorem dX6_standing_62 : decode cX6_standing 62 = .ok (.iadd, 1) := by decide +kernel
theorem dX6_standing_63 : decode cX6_standing 63 = .ok (.istore_n 3, 1) := by decide +kernel
theorem dX6_standing_64 : decode cX6_standing 64 = .ok (.iinc 6 1, 3) := by decide +kernel
theorem dX6_standing_67 : decode cX6_standing 67 = .ok (.goto (-43), 3) := by decide +kernel
theorem dX6_standing_70 : decode cX6_standing 70 = .ok (.iinc 4 1, 3) := by decide +kernel
theorem dX6_standing_73 : decode cX6_standing 73 = .ok (.goto (-68), 3) := by decide +kernel
theorem dX6_standing_76 : decode cX6_standing 76 = .ok (.iload_n 3, 1) := by decide +kernel
theorem dX6_standing_77 : decode cX6_standing 77 = .ok (.ireturn, 1) := by decide +kernel
theorem dX6_sketched_0 : decode cX6_sketched 0 = .ok (.sipush 20000, 3) := by decide +kernel
theorem dX6_sketched_3 : decode cX6_sketched 3 = .ok (.istore_n 3, 1) := by decide +kernel
theorem dX6_sketched_4 : decode cX6_sketched 4 = .ok (.iconst 0, 1) := by decide +kernel
theorem dX6_sketched_5 : decode cX6_sketched 5 = .ok (.istore 4, 2) := by decide +kernel
theorem dX6_sketched_7 : decode cX6_sketched 7 = .ok (.iload 4, 2) := by decide +kernel
theorem dX6_sketched_9 : decode cX6_sketched 9 = .ok (.bipush 6, 2) := by decide +kernel
theorem dX6_sketched_11 : decode cX6_sketched 11 = .ok (.if_icmp .ge 79, 3) := by decide +kernel
theorem dX6_sketched_14 : decode cX6_sketched 14 = .ok (.bipush 6, 2) := by decide +kernel
theorem dX6_sketched_16 : decode cX6_sketched 16 = .ok (.iload_n 1, 1) := by decide +kernel
theorem dX6_sketched_17 : decode cX6_sketched 17 = .ok (.imul, 1) := by decide +kernel
theorem dX6_sketched_18 : decode cX6_sketched 18 = .ok (.iload 4, 2) := by decide +kernel
theorem dX6_sketched_20 : decode cX6_sketched 20 = .ok (.iadd, 1) := by decide +kernel
theorem dX6_sketched_21 : decode cX6_sketched 21 = .ok (.istore 5, 2) := by decide +kernel
theorem dX6_sketched_23 : decode cX6_sketched 23 = .ok (.iconst 0, 1) := by decide +kernel
theorem dX6_sketched_24 : decode cX6_sketched 24 = .ok (.istore 6, 2) := by decide +kernel
theorem dX6_sketched_26 : decode cX6_sketched 26 = .ok (.iload 6, 2) := by decide +kernel
theorem dX6_sketched_28 : decode cX6_sketched 28 = .ok (.aload_n 0, 1) := by decide +kernel
theorem dX6_sketched_29 : decode cX6_sketched 29 = .ok (.getfield 32, 3) := by decide +kernel
theorem dX6_sketched_32 : decode cX6_sketched 32 = .ok (.iload 5, 2) := by decide +kernel
theorem dX6_sketched_34 : decode cX6_sketched 34 = .ok (.iaload, 1) := by decide +kernel
theorem dX6_sketched_35 : decode cX6_sketched 35 = .ok (.if_icmp .ge 49, 3) := by decide +kernel
theorem dX6_sketched_38 : decode cX6_sketched 38 = .ok (.aload_n 0, 1) := by decide +kernel
theorem dX6_sketched_39 : decode cX6_sketched 39 = .ok (.getfield 29, 3) := by decide +kernel
theorem dX6_sketched_42 : decode cX6_sketched 42 = .ok (.bipush 8, 2) := by decide +kernel
theorem dX6_sketched_44 : decode cX6_sketched 44 = .ok (.iload 5, 2) := by decide +kernel
theorem dX6_sketched_46 : decode cX6_sketched 46 = .ok (.imul, 1) := by decide +kernel
theorem dX6_sketched_47 : decode cX6_sketched 47 = .ok (.iload 6, 2) := by decide +kernel
theorem dX6_sketched_49 : decode cX6_sketched 49 = .ok (.iadd, 1) := by decide +kernel
theorem dX6_sketched_50 : decode cX6_sketched 50 = .ok (.iaload, 1) := by decide +kernel
theorem dX6_sketched_51 : decode cX6_sketched 51 = .ok (.istore 7, 2) := by decide +kernel
theorem dX6_sketched_53 : decode cX6_sketched 53 = .ok (.iload 7, 2) := by decide +kernel
theorem dX6_sketched_55 : decode cX6_sketched 55 = .ok (.iload_n 3, 1) := by decide +kernel
theorem dX6_sketched_56 : decode cX6_sketched 56 = .ok (.if_icmp .ge 22, 3) := by decide +kernel
theorem dX6_sketched_59 : decode cX6_sketched 59 = .ok (.aload_n 0, 1) := by decide +kernel
theorem dX6_sketched_60 : decode cX6_sketched 60 = .ok (.iload_n 1, 1) := by decide +kernel
theorem dX6_sketched_61 : decode cX6_sketched 61 = .ok (.iload 7, 2) := by decide +kernel
theorem dX6_sketched_63 : decode cX6_sketched 63 = .ok (.invokevirtual 140, 3) := by decide +kernel
theorem dX6_sketched_66 : decode cX6_sketched 66 = .ok (.aload_n 0, 1) := by decide +kernel
theorem dX6_sketched_67 : decode cX6_sketched 67 = .ok (.iload_n 1, 1) := by decide +kernel
theorem dX6_sketched_68 : decode cX6_sketched 68 = .ok (.iload_n 2, 1) := by decide +kernel
theorem dX6_sketched_69 : decode cX6_sketched 69 = .ok (.invokevirtual 143, 3) := by decide +kernel
theorem dX6_sketched_72 : decode cX6_sketched 72 = .ok (.if_icmp .lt 6, 3) := by decide +kernel
theorem dX6_sketched_75 : decode cX6_sketched 75 = .ok (.iload 7, 2) := by decide +kernel
theorem dX6_sketched_77 : decode cX6_sketched 77 = .ok (.istore_n 3, 1) := by decide +kernel
theorem dX6_sketched_78 : decode cX6_sketched 78 = .ok (.iinc 6 1, 3) := by decide +kernel
theorem dX6_sketched_81 : decode cX6_sketched 81 = .ok (.goto (-55), 3) := by decide +kernel
theorem dX6_sketched_84 : decode cX6_sketched 84 = .ok (.iinc 4 1, 3) := by decide +kernel
theorem dX6_sketched_87 : decode cX6_sketched 87 = .ok (.goto (-80), 3) := by decide +kernel
theorem dX6_sketched_90 : decode cX6_sketched 90 = .ok (.iload_n 3, 1) := by decide +kernel
theorem dX6_sketched_91 : decode cX6_sketched 91 = .ok (.ireturn, 1) := by decide +kernel
theorem dX6_upTo_0 : decode cX6_upTo 0 = .ok (.iconst 0, 1) := by decide +kernel
theorem dX6_upTo_1 : decode cX6_upTo 1 = .ok (.istore_n 3, 1) := by decide +kernel
theorem dX6_upTo_2 : decode cX6_upTo 2 = .ok (.iconst 0, 1) := by decide +kernel
theorem dX6_upTo_3 : decode cX6_upTo 3 = .ok (.istore 4, 2) := by decide +kernel
theorem dX6_upTo_5 : decode cX6_upTo 5 = .ok (.iload 4, 2) := by decide +kernel
theorem dX6_upTo_7 : decode cX6_upTo 7 = .ok (.aload_n 0, 1) := by decide +kernel
theorem dX6_upTo_8 : decode cX6_upTo 8 = .ok (.getfield 16, 3) := by decide +kernel
theorem dX6_upTo_11 : decode cX6_upTo 11 = .ok (.iload_n 1, 1) := by decide +kernel
theorem dX6_upTo_12 : decode cX6_upTo 12 = .ok (.iaload, 1) := by decide +kernel
theorem dX6_upTo_13 : decode cX6_upTo 13 = .ok (.if_icmp .ge 28, 3) := by decide +kernel
theorem dX6_upTo_16 : decode cX6_upTo 16 = .ok (.iload_n 3, 1) := by decide +kernel
theorem dX6_upTo_17 : decode cX6_upTo 17 = .ok (.aload_n 0, 1) := by decide +kernel
theorem dX6_upTo_18 : decode cX6_upTo 18 = .ok (.iload_n 1, 1) := by decide +kernel
theorem dX6_upTo_19 : decode cX6_upTo 19 = .ok (.iload 4, 2) := by decide +kernel
theorem dX6_upTo_21 : decode cX6_upTo 21 = .ok (.invokevirtual 64, 3) := by decide +kernel
theorem dX6_upTo_24 : decode cX6_upTo 24 = .ok (.iload_n 2, 1) := by decide +kernel
theorem dX6_upTo_25 : decode cX6_upTo 25 = .ok (.if_icmp .gt 7, 3) := by decide +kernel
theorem dX6_upTo_28 : decode cX6_upTo 28 = .ok (.iconst 1, 1) := by decide +kernel
theorem dX6_upTo_29 : decode cX6_upTo 29 = .ok (.goto 4, 3) := by decide +kernel
theorem dX6_upTo_32 : decode cX6_upTo 32 = .ok (.iconst 0, 1) := by decide +kernel
theorem dX6_upTo_33 : decode cX6_upTo 33 = .ok (.iadd, 1) := by decide +kernel
theorem dX6_upTo_34 : decode cX6_upTo 34 = .ok (.istore_n 3, 1) := by decide +kernel
theorem dX6_upTo_35 : decode cX6_upTo 35 = .ok (.iinc 4 1, 3) := by decide +kernel
theorem dX6_upTo_38 : decode cX6_upTo 38 = .ok (.goto (-33), 3) := by decide +kernel
theorem dX6_upTo_41 : decode cX6_upTo 41 = .ok (.iload_n 3, 1) := by decide +kernel
theorem dX6_upTo_42 : decode cX6_upTo 42 = .ok (.ireturn, 1) := by decide +kernel
theorem dX6_quantile_0 : decode cX6_quantile 0 = .ok (.aload_n 0, 1) := by decide +kernel
theorem dX6_quantile_1 : decode cX6_quantile 1 = .ok (.iload_n 1, 1) := by decide +kernel
theorem dX6_quantile_2 : decode cX6_quantile 2 = .ok (.iload_n 2, 1) := by decide +kernel
theorem dX6_quantile_3 : decode cX6_quantile 3 = .ok (.invokevirtual 146, 3) := by decide +kernel
theorem dX6_quantile_6 : decode cX6_quantile 6 = .ok (.ifCond .eq 12, 3) := by decide +kernel
theorem dX6_quantile_9 : decode cX6_quantile 9 = .ok (.aload_n 0, 1) := by decide +kernel
theorem dX6_quantile_10 : decode cX6_quantile 10 = .ok (.iload_n 1, 1) := by decide +kernel
theorem dX6_quantile_11 : decode cX6_quantile 11 = .ok (.iload_n 2, 1) := by decide +kernel
theorem dX6_quantile_12 : decode cX6_quantile 12 = .ok (.invokevirtual 149, 3) := by decide +kernel
theorem dX6_quantile_15 : decode cX6_quantile 15 = .ok (.goto 4, 3) := by decide +kernel
theorem dX6_quantile_18 : decode cX6_quantile 18 = .ok (.iconst 0, 1) := by decide +kernel
theorem dX6_quantile_19 : decode cX6_quantile 19 = .ok (.ireturn, 1) := by decide +kernel
theorem dX6_exactQuantile_0 : decode cX6_exactQuantile 0 = .ok (.aload_n 0, 1) := by decide +kernel
theorem dX6_exactQuantile_1 : decode cX6_exactQuantile 1 = .ok (.iload_n 1, 1) := by decide +kernel
theorem dX6_exactQuantile_2 : decode cX6_exactQuantile 2 = .ok (.iload_n 2, 1) := by decide +kernel
theorem dX6_exactQuantile_3 : decode cX6_exactQuantile 3 = .ok (.invokevirtual 146, 3) := by decide +kernel
theorem dX6_exactQuantile_6 : decode cX6_exactQuantile 6 = .ok (.ifCond .ne 5, 3) := by decide +kernel
theorem dX6_exactQuantile_9 : decode cX6_exactQuantile 9 = .ok (.iconst 0, 1) := by decide +kernel
theorem dX6_exactQuantile_10 : decode cX6_exactQuantile 10 = .ok (.ireturn, 1) := by decide +kernel
theorem dX6_exactQuantile_11 : decode cX6_exactQuantile 11 = .ok (.sipush 20000, 3) := by decide +kernel
theorem dX6_exactQuantile_14 : decode cX6_exactQuantile 14 = .ok (.istore_n 3, 1) := by decide +kernel
theorem dX6_exactQuantile_15 : decode cX6_exactQuantile 15 = .ok (.iconst 0, 1) := by decide +kernel
theorem dX6_exactQuantile_16 : decode cX6_exactQuantile 16 = .ok (.istore 4, 2) := by decide +kernel
theorem dX6_exactQuantile_18 : decode cX6_exactQuantile 18 = .ok (.iload 4, 2) := by decide +kernel
theorem dX6_exactQuantile_20 : decode cX6_exactQuantile 20 = .ok (.aload_n 0, 1) := by decide +kernel
theorem dX6_exactQuantile_21 : decode cX6_exactQuantile 21 = .ok (.getfield 16, 3) := by decide +kernel
theorem dX6_exactQuantile_24 : decode cX6_exactQuantile 24 = .ok (.iload_n 1, 1) := by decide +kernel
theorem dX6_exactQuantile_25 : decode cX6_exactQuantile 25 = .ok (.iaload, 1) := by decide +kernel
theorem dX6_exactQuantile_26 : decode cX6_exactQuantile 26 = .ok (.if_icmp .ge 43, 3) := by decide +kernel
theorem dX6_exactQuantile_29 : decode cX6_exactQuantile 29 = .ok (.aload_n 0, 1) := by decide +kernel
theorem dX6_exactQuantile_30 : decode cX6_exactQuantile 30 = .ok (.iload_n 1, 1) := by decide +kernel
theorem dX6_exactQuantile_31 : decode cX6_exactQuantile 31 = .ok (.iload 4, 2) := by decide +kernel
theorem dX6_exactQuantile_33 : decode cX6_exactQuantile 33 = .ok (.invokevirtual 64, 3) := by decide +kernel
theorem dX6_exactQuantile_36 : decode cX6_exactQuantile 36 = .ok (.istore 5, 2) := by decide +kernel
theorem dX6_exactQuantile_38 : decode cX6_exactQuantile 38 = .ok (.iload 5, 2) := by decide +kernel
theorem dX6_exactQuantile_40 : decode cX6_exactQuantile 40 = .ok (.iload_n 3, 1) := by decide +kernel
theorem dX6_exactQuantile_41 : decode cX6_exactQuantile 41 = .ok (.if_icmp .ge 22, 3) := by decide +kernel
theorem dX6_exactQuantile_44 : decode cX6_exactQuantile 44 = .ok (.aload_n 0, 1) := by decide +kernel
theorem dX6_exactQuantile_45 : decode cX6_exactQuantile 45 = .ok (.iload_n 1, 1) := by decide +kernel
theorem dX6_exactQuantile_46 : decode cX6_exactQuantile 46 = .ok (.iload 5, 2) := by decide +kernel
theorem dX6_exactQuantile_48 : decode cX6_exactQuantile 48 = .ok (.invokevirtual 152, 3) := by decide +kernel
theorem dX6_exactQuantile_51 : decode cX6_exactQuantile 51 = .ok (.aload_n 0, 1) := by decide +kernel
theorem dX6_exactQuantile_52 : decode cX6_exactQuantile 52 = .ok (.iload_n 1, 1) := by decide +kernel
theorem dX6_exactQuantile_53 : decode cX6_exactQuantile 53 = .ok (.iload_n 2, 1) := by decide +kernel
theorem dX6_exactQuantile_54 : decode cX6_exactQuantile 54 = .ok (.invokevirtual 143, 3) := by decide +kernel
theorem dX6_exactQuantile_57 : decode cX6_exactQuantile 57 = .ok (.if_icmp .lt 6, 3) := by decide +kernel
theorem dX6_exactQuantile_60 : decode cX6_exactQuantile 60 = .ok (.iload 5, 2) := by decide +kernel
theorem dX6_exactQuantile_62 : decode cX6_exactQuantile 62 = .ok (.istore_n 3, 1) := by decide +kernel
theorem dX6_exactQuantile_63 : decode cX6_exactQuantile 63 = .ok (.iinc 4 1, 3) := by decide +kernel
theorem dX6_exactQuantile_66 : decode cX6_exactQuantile 66 = .ok (.goto (-48), 3) := by decide +kernel
theorem dX6_exactQuantile_69 : decode cX6_exactQuantile 69 = .ok (.iload_n 3, 1) := by decide +kernel
theorem dX6_exactQuantile_70 : decode cX6_exactQuantile 70 = .ok (.ireturn, 1) := by decide +kernel
theorem dX6_bound_0 : decode cX6_bound 0 = .ok (.aload_n 0, 1) := by decide +kernel
theorem dX6_bound_1 : decode cX6_bound 1 = .ok (.iload_n 1, 1) := by decide +kernel
theorem dX6_bound_2 : decode cX6_bound 2 = .ok (.invokevirtual 83, 3) := by decide +kernel
theorem dX6_bound_5 : decode cX6_bound 5 = .ok (.ifCond .eq 12, 3) := by decide +kernel
theorem dX6_bound_8 : decode cX6_bound 8 = .ok (.aload_n 0, 1) := by decide +kernel
theorem dX6_bound_9 : decode cX6_bound 9 = .ok (.getfield 22, 3) := by decide +kernel
theorem dX6_bound_12 : decode cX6_bound 12 = .ok (.iload_n 1, 1) := by decide +kernel
theorem dX6_bound_13 : decode cX6_bound 13 = .ok (.iaload, 1) := by decide +kernel
theorem dX6_bound_14 : decode cX6_bound 14 = .ok (.goto 4, 3) := by decide +kernel
theorem dX6_bound_17 : decode cX6_bound 17 = .ok (.iconst 0, 1) := by decide +kernel
theorem dX6_bound_18 : decode cX6_bound 18 = .ok (.ireturn, 1) := by decide +kernel
theorem dX6_held_0 : decode cX6_held 0 = .ok (.aload_n 0, 1) := by decide +kernel
theorem dX6_held_1 : decode cX6_held 1 = .ok (.iload_n 1, 1) := by decide +kernel
theorem dX6_held_2 : decode cX6_held 2 = .ok (.invokevirtual 83, 3) := by decide +kernel
theorem dX6_held_5 : decode cX6_held 5 = .ok (.ifCond .ne 5, 3) := by decide +kernel
theorem dX6_held_8 : decode cX6_held 8 = .ok (.iconst 0, 1) := by decide +kernel
theorem dX6_held_9 : decode cX6_held 9 = .ok (.ireturn, 1) := by decide +kernel
theorem dX6_held_10 : decode cX6_held 10 = .ok (.iconst 0, 1) := by decide +kernel
theorem dX6_held_11 : decode cX6_held 11 = .ok (.istore_n 2, 1) := by decide +kernel
theorem dX6_held_12 : decode cX6_held 12 = .ok (.iconst 0, 1) := by decide +kernel
theorem dX6_held_13 : decode cX6_held 13 = .ok (.istore_n 3, 1) := by decide +kernel
theorem dX6_held_14 : decode cX6_held 14 = .ok (.iload_n 3, 1) := by decide +kernel
theorem dX6_held_15 : decode cX6_held 15 = .ok (.bipush 6, 2) := by decide +kernel
theorem dX6_held_17 : decode cX6_held 17 = .ok (.if_icmp .ge 23, 3) := by decide +kernel
theorem dX6_held_20 : decode cX6_held 20 = .ok (.iload_n 2, 1) := by decide +kernel
theorem dX6_held_21 : decode cX6_held 21 = .ok (.aload_n 0, 1) := by decide +kernel
theorem dX6_held_22 : decode cX6_held 22 = .ok (.getfield 32, 3) := by decide +kernel
theorem dX6_held_25 : decode cX6_held 25 = .ok (.bipush 6, 2) := by decide +kernel
theorem dX6_held_27 : decode cX6_held 27 = .ok (.iload_n 1, 1) := by decide +kernel
theorem dX6_held_28 : decode cX6_held 28 = .ok (.imul, 1) := by decide +kernel
theorem dX6_held_29 : decode cX6_held 29 = .ok (.iload_n 3, 1) := by decide +kernel
theorem dX6_held_30 : decode cX6_held 30 = .ok (.iadd, 1) := by decide +kernel
theorem dX6_held_31 : decode cX6_held 31 = .ok (.iaload, 1) := by decide +kernel
theorem dX6_held_32 : decode cX6_held 32 = .ok (.iadd, 1) := by decide +kernel
theorem dX6_held_33 : decode cX6_held 33 = .ok (.istore_n 2, 1) := by decide +kernel
theorem dX6_held_34 : decode cX6_held 34 = .ok (.iinc 3 1, 3) := by decide +kernel
theorem dX6_held_37 : decode cX6_held 37 = .ok (.goto (-23), 3) := by decide +kernel
theorem dX6_held_40 : decode cX6_held 40 = .ok (.iload_n 2, 1) := by decide +kernel
theorem dX6_held_41 : decode cX6_held 41 = .ok (.ireturn, 1) := by decide +kernel
theorem dX6_isWithin_0 : decode cX6_isWithin 0 = .ok (.aload_n 0, 1) := by decide +kernel
theorem dX6_isWithin_1 : decode cX6_isWithin 1 = .ok (.iload_n 1, 1) := by decide +kernel
theorem dX6_isWithin_2 : decode cX6_isWithin 2 = .ok (.iload_n 2, 1) := by decide +kernel
theorem dX6_isWithin_3 : decode cX6_isWithin 3 = .ok (.invokevirtual 146, 3) := by decide +kernel
theorem dX6_isWithin_6 : decode cX6_isWithin 6 = .ok (.ifCond .ne 5, 3) := by decide +kernel
theorem dX6_isWithin_9 : decode cX6_isWithin 9 = .ok (.iconst 0, 1) := by decide +kernel
theorem dX6_isWithin_10 : decode cX6_isWithin 10 = .ok (.ireturn, 1) := by decide +kernel
theorem dX6_isWithin_11 : decode cX6_isWithin 11 = .ok (.aload_n 0, 1) := by decide +kernel
theorem dX6_isWithin_12 : decode cX6_isWithin 12 = .ok (.iload_n 1, 1) := by decide +kernel
theorem dX6_isWithin_13 : decode cX6_isWithin 13 = .ok (.iload_n 2, 1) := by decide +kernel
theorem dX6_isWithin_14 : decode cX6_isWithin 14 = .ok (.invokevirtual 149, 3) := by decide +kernel
theorem dX6_isWithin_17 : decode cX6_isWithin 17 = .ok (.istore_n 3, 1) := by decide +kernel
theorem dX6_isWithin_18 : decode cX6_isWithin 18 = .ok (.aload_n 0, 1) := by decide +kernel
theorem dX6_isWithin_19 : decode cX6_isWithin 19 = .ok (.iload_n 1, 1) := by decide +kernel
theorem dX6_isWithin_20 : decode cX6_isWithin 20 = .ok (.iload_n 2, 1) := by decide +kernel
theorem dX6_isWithin_21 : decode cX6_isWithin 21 = .ok (.invokevirtual 143, 3) := by decide +kernel
theorem dX6_isWithin_24 : decode cX6_isWithin 24 = .ok (.istore 4, 2) := by decide +kernel
theorem dX6_isWithin_26 : decode cX6_isWithin 26 = .ok (.aload_n 0, 1) := by decide +kernel
theorem dX6_isWithin_27 : decode cX6_isWithin 27 = .ok (.iload_n 1, 1) := by decide +kernel
theorem dX6_isWithin_28 : decode cX6_isWithin 28 = .ok (.iload_n 3, 1) := by decide +kernel
theorem dX6_isWithin_29 : decode cX6_isWithin 29 = .ok (.invokevirtual 152, 3) := by decide +kernel
theorem dX6_isWithin_32 : decode cX6_isWithin 32 = .ok (.iload 4, 2) := by decide +kernel
theorem dX6_isWithin_34 : decode cX6_isWithin 34 = .ok (.aload_n 0, 1) := by decide +kernel
theorem dX6_isWithin_35 : decode cX6_isWithin 35 = .ok (.getfield 22, 3) := by decide +kernel
theorem dX6_isWithin_38 : decode cX6_isWithin 38 = .ok (.iload_n 1, 1) := by decide +kernel
theorem dX6_isWithin_39 : decode cX6_isWithin 39 = .ok (.iaload, 1) := by decide +kernel
theorem dX6_isWithin_40 : decode cX6_isWithin 40 = .ok (.isub, 1) := by decide +kernel
theorem dX6_isWithin_41 : decode cX6_isWithin 41 = .ok (.if_icmp .lt 27, 3) := by decide +kernel
theorem dX6_isWithin_44 : decode cX6_isWithin 44 = .ok (.aload_n 0, 1) := by decide +kernel
theorem dX6_isWithin_45 : decode cX6_isWithin 45 = .ok (.iload_n 1, 1) := by decide +kernel
theorem dX6_isWithin_46 : decode cX6_isWithin 46 = .ok (.iload_n 3, 1) := by decide +kernel
theorem dX6_isWithin_47 : decode cX6_isWithin 47 = .ok (.iconst 1, 1) := by decide +kernel
theorem dX6_isWithin_48 : decode cX6_isWithin 48 = .ok (.isub, 1) := by decide +kernel
theorem dX6_isWithin_49 : decode cX6_isWithin 49 = .ok (.invokevirtual 152, 3) := by decide +kernel
theorem dX6_isWithin_52 : decode cX6_isWithin 52 = .ok (.iload 4, 2) := by decide +kernel
theorem dX6_isWithin_54 : decode cX6_isWithin 54 = .ok (.aload_n 0, 1) := by decide +kernel
theorem dX6_isWithin_55 : decode cX6_isWithin 55 = .ok (.getfield 22, 3) := by decide +kernel
theorem dX6_isWithin_58 : decode cX6_isWithin 58 = .ok (.iload_n 1, 1) := by decide +kernel
theorem dX6_isWithin_59 : decode cX6_isWithin 59 = .ok (.iaload, 1) := by decide +kernel
theorem dX6_isWithin_60 : decode cX6_isWithin 60 = .ok (.iadd, 1) := by decide +kernel
theorem dX6_isWithin_61 : decode cX6_isWithin 61 = .ok (.if_icmp .ge 7, 3) := by decide +kernel
theorem dX6_isWithin_64 : decode cX6_isWithin 64 = .ok (.iconst 1, 1) := by decide +kernel
theorem dX6_isWithin_65 : decode cX6_isWithin 65 = .ok (.goto 4, 3) := by decide +kernel
theorem dX6_isWithin_68 : decode cX6_isWithin 68 = .ok (.iconst 0, 1) := by decide +kernel
theorem dX6_isWithin_69 : decode cX6_isWithin 69 = .ok (.ireturn, 1) := by decide +kernel
theorem dX6_state_0 : decode cX6_state 0 = .ok (.aload_n 0, 1) := by decide +kernel
theorem dX6_state_1 : decode cX6_state 1 = .ok (.getfield 47, 3) := by decide +kernel
theorem dX6_state_4 : decode cX6_state 4 = .ok (.iload_n 1, 1) := by decide +kernel
theorem dX6_state_5 : decode cX6_state 5 = .ok (.iaload, 1) := by decide +kernel
theorem dX6_state_6 : decode cX6_state 6 = .ok (.ifCond .ne 8, 3) := by decide +kernel
theorem dX6_state_9 : decode cX6_state 9 = .ok (.bipush 111, 2) := by decide +kernel
theorem dX6_state_11 : decode cX6_state 11 = .ok (.goto 32, 3) := by decide +kernel
theorem dX6_state_14 : decode cX6_state 14 = .ok (.aload_n 0, 1) := by decide +kernel
theorem dX6_state_15 : decode cX6_state 15 = .ok (.getfield 75, 3) := by decide +kernel
theorem dX6_state_18 : decode cX6_state 18 = .ok (.aload_n 0, 1) := by decide +kernel
theorem dX6_state_19 : decode cX6_state 19 = .ok (.getfield 50, 3) := by decide +kernel
theorem dX6_state_22 : decode cX6_state 22 = .ok (.iload_n 1, 1) := by decide +kernel
theorem dX6_state_23 : decode cX6_state 23 = .ok (.laload, 1) := by decide +kernel
theorem dX6_state_24 : decode cX6_state 24 = .ok (.lsub, 1) := by decide +kernel
theorem dX6_state_25 : decode cX6_state 25 = .ok (.aload_n 0, 1) := by decide +kernel
theorem dX6_state_26 : decode cX6_state 26 = .ok (.getfield 44, 3) := by decide +kernel
theorem dX6_state_29 : decode cX6_state 29 = .ok (.iload_n 1, 1) := by decide +kernel
theorem dX6_state_30 : decode cX6_state 30 = .ok (.iaload, 1) := by decide +kernel
theorem dX6_state_31 : decode cX6_state 31 = .ok (.i2l, 1) := by decide +kernel
theorem dX6_state_32 : decode cX6_state 32 = .ok (.lcmp, 1) := by decide +kernel
theorem dX6_state_33 : decode cX6_state 33 = .ok (.ifCond .lt 8, 3) := by decide +kernel
theorem dX6_state_36 : decode cX6_state 36 = .ok (.bipush 102, 2) := by decide +kernel
theorem dX6_state_38 : decode cX6_state 38 = .ok (.goto 5, 3) := by decide +kernel
theorem dX6_state_41 : decode cX6_state 41 = .ok (.bipush 112, 2) := by decide +kernel
theorem dX6_state_43 : decode cX6_state 43 = .ok (.ireturn, 1) := by decide +kernel
theorem dX6_setAlert_0 : decode cX6_setAlert 0 = .ok (.aload_n 0, 1) := by decide +kernel
theorem dX6_setAlert_1 : decode cX6_setAlert 1 = .ok (.iload_n 1, 1) := by decide +kernel
theorem dX6_setAlert_2 : decode cX6_setAlert 2 = .ok (.invokevirtual 83, 3) := by decide +kernel
theorem dX6_setAlert_5 : decode cX6_setAlert 5 = .ok (.ifCond .ne 6, 3) := by decide +kernel
theorem dX6_setAlert_8 : decode cX6_setAlert 8 = .ok (.bipush 111, 2) := by decide +kernel
theorem dX6_setAlert_10 : decode cX6_setAlert 10 = .ok (.ireturn, 1) := by decide +kernel
theorem dX6_setAlert_11 : decode cX6_setAlert 11 = .ok (.aload_n 0, 1) := by decide +kernel
theorem dX6_setAlert_12 : decode cX6_setAlert 12 = .ok (.iload_n 2, 1) := by decide +kernel
theorem dX6_setAlert_13 : decode cX6_setAlert 13 = .ok (.sipush (-10000), 3) := by decide +kernel
theorem dX6_setAlert_16 : decode cX6_setAlert 16 = .ok (.sipush 10000, 3) := by decide +kernel
theorem dX6_setAlert_19 : decode cX6_setAlert 19 = .ok (.invokestatic 60, 3) := by decide +kernel
theorem dX6_setAlert_22 : decode cX6_setAlert 22 = .ok (.ifCond .eq 18, 3) := by decide +kernel
theorem dX6_setAlert_25 : decode cX6_setAlert 25 = .ok (.iload_n 3, 1) := by decide +kernel
theorem dX6_setAlert_26 : decode cX6_setAlert 26 = .ok (.iconst 0, 1) := by decide +kernel
theorem dX6_setAlert_27 : decode cX6_setAlert 27 = .ok (.sipush 600, 3) := by decide +kernel
theorem dX6_setAlert_30 : decode cX6_setAlert 30 = .ok (.invokestatic 60, 3) := by decide +kernel
theorem dX6_setAlert_33 : decode cX6_setAlert 33 = .ok (.ifCond .eq 7, 3) := by decide +kernel
theorem dX6_setAlert_36 : decode cX6_setAlert 36 = .ok (.iconst 0, 1) := by decide +kernel
theorem dX6_setAlert_37 : decode cX6_setAlert 37 = .ok (.goto 4, 3) := by decide +kernel
theorem dX6_setAlert_40 : decode cX6_setAlert 40 = .ok (.iconst 2, 1) := by decide +kernel
theorem dX6_setAlert_41 : decode cX6_setAlert 41 = .ok (.putfield 53, 3) := by decide +kernel
theorem dX6_setAlert_44 : decode cX6_setAlert 44 = .ok (.aload_n 0, 1) := by decide +kernel
theorem dX6_setAlert_45 : decode cX6_setAlert 45 = .ok (.getfield 53, 3) := by decide +kernel
theorem dX6_setAlert_48 : decode cX6_setAlert 48 = .ok (.ifCond .eq 6, 3) := by decide +kernel
theorem dX6_setAlert_51 : decode cX6_setAlert 51 = .ok (.bipush 111, 2) := by decide +kernel
theorem dX6_setAlert_53 : decode cX6_setAlert 53 = .ok (.ireturn, 1) := by decide +kernel
theorem dX6_setAlert_54 : decode cX6_setAlert 54 = .ok (.aload_n 0, 1) := by decide +kernel
theorem dX6_setAlert_55 : decode cX6_setAlert 55 = .ok (.getfield 38, 3) := by decide +kernel
theorem dX6_setAlert_58 : decode cX6_setAlert 58 = .ok (.iload_n 1, 1) := by decide +kernel
theorem dX6_setAlert_59 : decode cX6_setAlert 59 = .ok (.iconst 1, 1) := by decide +kernel
theorem dX6_setAlert_60 : decode cX6_setAlert 60 = .ok (.iastore, 1) := by decide +kernel
theorem dX6_setAlert_61 : decode cX6_setAlert 61 = .ok (.aload_n 0, 1) := by decide +kernel
theorem dX6_setAlert_62 : decode cX6_setAlert 62 = .ok (.getfield 41, 3) := by decide +kernel
theorem dX6_setAlert_65 : decode cX6_setAlert 65 = .ok (.iload_n 1, 1) := by decide +kernel
theorem dX6_setAlert_66 : decode cX6_setAlert 66 = .ok (.iload_n 2, 1) := by decide +kernel
theorem dX6_setAlert_67 : decode cX6_setAlert 67 = .ok (.iastore, 1) := by decide +kernel
theorem dX6_setAlert_68 : decode cX6_setAlert 68 = .ok (.aload_n 0, 1) := by decide +kernel
theorem dX6_setAlert_69 : decode cX6_setAlert 69 = .ok (.getfield 44, 3) := by decide +kernel
theorem dX6_setAlert_72 : decode cX6_setAlert 72 = .ok (.iload_n 1, 1) := by decide +kernel
theorem dX6_setAlert_73 : decode cX6_setAlert 73 = .ok (.iload_n 3, 1) := by decide +kernel
theorem dX6_setAlert_74 : decode cX6_setAlert 74 = .ok (.iastore, 1) := by decide +kernel
theorem dX6_setAlert_75 : decode cX6_setAlert 75 = .ok (.aload_n 0, 1) := by decide +kernel
theorem dX6_setAlert_76 : decode cX6_setAlert 76 = .ok (.getfield 47, 3) := by decide +kernel
theorem dX6_setAlert_79 : decode cX6_setAlert 79 = .ok (.iload_n 1, 1) := by decide +kernel
theorem dX6_setAlert_80 : decode cX6_setAlert 80 = .ok (.aload_n 0, 1) := by decide +kernel
theorem dX6_setAlert_81 : decode cX6_setAlert 81 = .ok (.getfield 16, 3) := by decide +kernel
theorem dX6_setAlert_84 : decode cX6_setAlert 84 = .ok (.iload_n 1, 1) := by decide +kernel
theorem dX6_setAlert_85 : decode cX6_setAlert 85 = .ok (.iaload, 1) := by decide +kernel
theorem dX6_setAlert_86 : decode cX6_setAlert 86 = .ok (.ifCond .le 16, 3) := by decide +kernel
theorem dX6_setAlert_89 : decode cX6_setAlert 89 = .ok (.aload_n 0, 1) := by decide +kernel
theorem dX6_setAlert_90 : decode cX6_setAlert 90 = .ok (.iload_n 1, 1) := by decide +kernel
theorem dX6_setAlert_91 : decode cX6_setAlert 91 = .ok (.invokevirtual 95, 3) := by decide +kernel
theorem dX6_setAlert_94 : decode cX6_setAlert 94 = .ok (.iload_n 2, 1) := by decide +kernel
theorem dX6_setAlert_95 : decode cX6_setAlert 95 = .ok (.if_icmp .le 7, 3) := by decide +kernel
theorem dX6_setAlert_98 : decode cX6_setAlert 98 = .ok (.iconst 1, 1) := by decide +kernel
theorem dX6_setAlert_99 : decode cX6_setAlert 99 = .ok (.goto 4, 3) := by decide +kernel
theorem dX6_setAlert_102 : decode cX6_setAlert 102 = .ok (.iconst 0, 1) := by decide +kernel
theorem dX6_setAlert_103 : decode cX6_setAlert 103 = .ok (.iastore, 1) := by decide +kernel
theorem dX6_setAlert_104 : decode cX6_setAlert 104 = .ok (.aload_n 0, 1) := by decide +kernel
theorem dX6_setAlert_105 : decode cX6_setAlert 105 = .ok (.getfield 50, 3) := by decide +kernel
theorem dX6_setAlert_108 : decode cX6_setAlert 108 = .ok (.iload_n 1, 1) := by decide +kernel
theorem dX6_setAlert_109 : decode cX6_setAlert 109 = .ok (.aload_n 0, 1) := by decide +kernel
theorem dX6_setAlert_110 : decode cX6_setAlert 110 = .ok (.getfield 75, 3) := by decide +kernel
theorem dX6_setAlert_113 : decode cX6_setAlert 113 = .ok (.lastore, 1) := by decide +kernel
theorem dX6_setAlert_114 : decode cX6_setAlert 114 = .ok (.aload_n 0, 1) := by decide +kernel
theorem dX6_setAlert_115 : decode cX6_setAlert 115 = .ok (.iload_n 1, 1) := by decide +kernel
theorem dX6_setAlert_116 : decode cX6_setAlert 116 = .ok (.invokevirtual 155, 3) := by decide +kernel
theorem dX6_setAlert_119 : decode cX6_setAlert 119 = .ok (.ireturn, 1) := by decide +kernel
theorem dX6_isSet_0 : decode cX6_isSet 0 = .ok (.aload_n 0, 1) := by decide +kernel
theorem dX6_isSet_1 : decode cX6_isSet 1 = .ok (.iload_n 1, 1) := by decide +kernel
theorem dX6_isSet_2 : decode cX6_isSet 2 = .ok (.invokevirtual 83, 3) := by decide +kernel
theorem dX6_isSet_5 : decode cX6_isSet 5 = .ok (.ifCond .eq 17, 3) := by decide +kernel
theorem dX6_isSet_8 : decode cX6_isSet 8 = .ok (.aload_n 0, 1) := by decide +kernel
theorem dX6_isSet_9 : decode cX6_isSet 9 = .ok (.getfield 38, 3) := by decide +kernel
theorem dX6_isSet_12 : decode cX6_isSet 12 = .ok (.iload_n 1, 1) := by decide +kernel
theorem dX6_isSet_13 : decode cX6_isSet 13 = .ok (.iaload, 1) := by decide +kernel
theorem dX6_isSet_14 : decode cX6_isSet 14 = .ok (.ifCond .ne 8, 3) := by decide +kernel
theorem dX6_isSet_17 : decode cX6_isSet 17 = .ok (.aload_n 0, 1) := by decide +kernel
theorem dX6_isSet_18 : decode cX6_isSet 18 = .ok (.iconst 2, 1) := by decide +kernel
theorem dX6_isSet_19 : decode cX6_isSet 19 = .ok (.putfield 53, 3) := by decide +kernel
theorem dX6_isSet_22 : decode cX6_isSet 22 = .ok (.aload_n 0, 1) := by decide +kernel
theorem dX6_isSet_23 : decode cX6_isSet 23 = .ok (.getfield 53, 3) := by decide +kernel
theorem dX6_isSet_26 : decode cX6_isSet 26 = .ok (.ifCond .ne 7, 3) := by decide +kernel
theorem dX6_isSet_29 : decode cX6_isSet 29 = .ok (.iconst 1, 1) := by decide +kernel
theorem dX6_isSet_30 : decode cX6_isSet 30 = .ok (.goto 4, 3) := by decide +kernel
theorem dX6_isSet_33 : decode cX6_isSet 33 = .ok (.iconst 0, 1) := by decide +kernel
theorem dX6_isSet_34 : decode cX6_isSet 34 = .ok (.ireturn, 1) := by decide +kernel
theorem dX6_removeAlert_0 : decode cX6_removeAlert 0 = .ok (.aload_n 0, 1) := by decide +kernel
theorem dX6_removeAlert_1 : decode cX6_removeAlert 1 = .ok (.iload_n 1, 1) := by decide +kernel
theorem dX6_removeAlert_2 : decode cX6_removeAlert 2 = .ok (.invokevirtual 159, 3) := by decide +kernel
theorem dX6_removeAlert_5 : decode cX6_removeAlert 5 = .ok (.ifCond .ne 6, 3) := by decide +kernel
theorem dX6_removeAlert_8 : decode cX6_removeAlert 8 = .ok (.bipush 111, 2) := by decide +kernel
theorem dX6_removeAlert_10 : decode cX6_removeAlert 10 = .ok (.ireturn, 1) := by decide +kernel
theorem dX6_removeAlert_11 : decode cX6_removeAlert 11 = .ok (.aload_n 0, 1) := by decide +kernel
theorem dX6_removeAlert_12 : decode cX6_removeAlert 12 = .ok (.iload_n 1, 1) := by decide +kernel
theorem dX6_removeAlert_13 : decode cX6_removeAlert 13 = .ok (.invokevirtual 155, 3) := by decide +kernel
theorem dX6_removeAlert_16 : decode cX6_removeAlert 16 = .ok (.istore_n 2, 1) := by decide +kernel
theorem dX6_removeAlert_17 : decode cX6_removeAlert 17 = .ok (.aload_n 0, 1) := by decide +kernel
theorem dX6_removeAlert_18 : decode cX6_removeAlert 18 = .ok (.getfield 38, 3) := by decide +kernel
theorem dX6_removeAlert_21 : decode cX6_removeAlert 21 = .ok (.iload_n 1, 1) := by decide +kernel
theorem dX6_removeAlert_22 : decode cX6_removeAlert 22 = .ok (.iconst 0, 1) := by decide +kernel
theorem dX6_removeAlert_23 : decode cX6_removeAlert 23 = .ok (.iastore, 1) := by decide +kernel
theorem dX6_removeAlert_24 : decode cX6_removeAlert 24 = .ok (.aload_n 0, 1) := by decide +kernel
theorem dX6_removeAlert_25 : decode cX6_removeAlert 25 = .ok (.getfield 47, 3) := by decide +kernel
theorem dX6_removeAlert_28 : decode cX6_removeAlert 28 = .ok (.iload_n 1, 1) := by decide +kernel
theorem dX6_removeAlert_29 : decode cX6_removeAlert 29 = .ok (.iconst 0, 1) := by decide +kernel
theorem dX6_removeAlert_30 : decode cX6_removeAlert 30 = .ok (.iastore, 1) := by decide +kernel
theorem dX6_removeAlert_31 : decode cX6_removeAlert 31 = .ok (.iload_n 2, 1) := by decide +kernel
theorem dX6_removeAlert_32 : decode cX6_removeAlert 32 = .ok (.ireturn, 1) := by decide +kernel
theorem dX6_alertOf_0 : decode cX6_alertOf 0 = .ok (.aload_n 0, 1) := by decide +kernel
theorem dX6_alertOf_1 : decode cX6_alertOf 1 = .ok (.iload_n 1, 1) := by decide +kernel
theorem dX6_alertOf_2 : decode cX6_alertOf 2 = .ok (.invokevirtual 159, 3) := by decide +kernel
theorem dX6_alertOf_5 : decode cX6_alertOf 5 = .ok (.ifCond .eq 11, 3) := by decide +kernel
theorem dX6_alertOf_8 : decode cX6_alertOf 8 = .ok (.aload_n 0, 1) := by decide +kernel
theorem dX6_alertOf_9 : decode cX6_alertOf 9 = .ok (.iload_n 1, 1) := by decide +kernel
theorem dX6_alertOf_10 : decode cX6_alertOf 10 = .ok (.invokevirtual 155, 3) := by decide +kernel
theorem dX6_alertOf_13 : decode cX6_alertOf 13 = .ok (.goto 5, 3) := by decide +kernel
theorem dX6_alertOf_16 : decode cX6_alertOf 16 = .ok (.bipush 111, 2) := by decide +kernel
theorem dX6_alertOf_18 : decode cX6_alertOf 18 = .ok (.ireturn, 1) := by decide +kernel
theorem dX6_firing_0 : decode cX6_firing 0 = .ok (.aload_n 0, 1) := by decide +kernel
theorem dX6_firing_1 : decode cX6_firing 1 = .ok (.iconst 0, 1) := by decide +kernel
theorem dX6_firing_2 : decode cX6_firing 2 = .ok (.putfield 53, 3) := by decide +kernel
theorem dX6_firing_5 : decode cX6_firing 5 = .ok (.iconst 0, 1) := by decide +kernel
theorem dX6_firing_6 : decode cX6_firing 6 = .ok (.istore_n 1, 1) := by decide +kernel
theorem dX6_firing_7 : decode cX6_firing 7 = .ok (.iconst 0, 1) := by decide +kernel
theorem dX6_firing_8 : decode cX6_firing 8 = .ok (.istore_n 2, 1) := by decide +kernel
theorem dX6_firing_9 : decode cX6_firing 9 = .ok (.iload_n 2, 1) := by decide +kernel
theorem dX6_firing_10 : decode cX6_firing 10 = .ok (.aload_n 0, 1) := by decide +kernel
theorem dX6_firing_11 : decode cX6_firing 11 = .ok (.getfield 57, 3) := by decide +kernel
theorem dX6_firing_14 : decode cX6_firing 14 = .ok (.if_icmp .ge 37, 3) := by decide +kernel
theorem dX6_firing_17 : decode cX6_firing 17 = .ok (.iload_n 1, 1) := by decide +kernel
theorem dX6_firing_18 : decode cX6_firing 18 = .ok (.aload_n 0, 1) := by decide +kernel
theorem dX6_firing_19 : decode cX6_firing 19 = .ok (.getfield 38, 3) := by decide +kernel
theorem dX6_firing_22 : decode cX6_firing 22 = .ok (.iload_n 2, 1) := by decide +kernel
theorem dX6_firing_23 : decode cX6_firing 23 = .ok (.iaload, 1) := by decide +kernel
theorem dX6_firing_24 : decode cX6_firing 24 = .ok (.iconst 1, 1) := by decide +kernel
theorem dX6_firing_25 : decode cX6_firing 25 = .ok (.if_icmp .ne 17, 3) := by decide +kernel
theorem dX6_firing_28 : decode cX6_firing 28 = .ok (.aload_n 0, 1) := by decide +kernel
theorem dX6_firing_29 : decode cX6_firing 29 = .ok (.iload_n 2, 1) := by decide +kernel
theorem dX6_firing_30 : decode cX6_firing 30 = .ok (.invokevirtual 155, 3) := by decide +kernel
theorem dX6_firing_33 : decode cX6_firing 33 = .ok (.bipush 102, 2) := by decide +kernel
theorem dX6_firing_35 : decode cX6_firing 35 = .ok (.if_icmp .ne 7, 3) := by decide +kernel
theorem dX6_firing_38 : decode cX6_firing 38 = .ok (.iconst 1, 1) := by decide +kernel
theorem dX6_firing_39 : decode cX6_firing 39 = .ok (.goto 4, 3) := by decide +kernel
theorem dX6_firing_42 : decode cX6_firing 42 = .ok (.iconst 0, 1) := by decide +kernel
theorem dX6_firing_43 : decode cX6_firing 43 = .ok (.iadd, 1) := by decide +kernel
theorem dX6_firing_44 : decode cX6_firing 44 = .ok (.istore_n 1, 1) := by decide +kernel
theorem dX6_firing_45 : decode cX6_firing 45 = .ok (.iinc 2 1, 3) := by decide +kernel
theorem dX6_firing_48 : decode cX6_firing 48 = .ok (.goto (-39), 3) := by decide +kernel
theorem dX6_firing_51 : decode cX6_firing 51 = .ok (.iload_n 1, 1) := by decide +kernel
theorem dX6_firing_52 : decode cX6_firing 52 = .ok (.ireturn, 1) := by decide +kernel
theorem dX6_joined_0 : decode cX6_joined 0 = .ok (.lconst 0, 1) := by decide +kernel
theorem dX6_joined_1 : decode cX6_joined 1 = .ok (.lstore 4, 2) := by decide +kernel
theorem dX6_joined_3 : decode cX6_joined 3 = .ok (.iconst 0, 1) := by decide +kernel
theorem dX6_joined_4 : decode cX6_joined 4 = .ok (.istore 6, 2) := by decide +kernel
theorem dX6_joined_6 : decode cX6_joined 6 = .ok (.iload 6, 2) := by decide +kernel
theorem dX6_joined_8 : decode cX6_joined 8 = .ok (.bipush 10, 2) := by decide +kernel
theorem dX6_joined_10 : decode cX6_joined 10 = .ok (.if_icmp .ge 88, 3) := by decide +kernel
theorem dX6_joined_13 : decode cX6_joined 13 = .ok (.aload_n 0, 1) := by decide +kernel
theorem dX6_joined_14 : decode cX6_joined 14 = .ok (.iload_n 1, 1) := by decide +kernel
theorem dX6_joined_15 : decode cX6_joined 15 = .ok (.iload 6, 2) := by decide +kernel
theorem dX6_joined_17 : decode cX6_joined 17 = .ok (.invokevirtual 72, 3) := by decide +kernel
theorem dX6_joined_20 : decode cX6_joined 20 = .ok (.istore 7, 2) := by decide +kernel
theorem dX6_joined_22 : decode cX6_joined 22 = .ok (.aload_n 0, 1) := by decide +kernel
theorem dX6_joined_23 : decode cX6_joined 23 = .ok (.iload_n 2, 1) := by decide +kernel
theorem dX6_joined_24 : decode cX6_joined 24 = .ok (.iload 6, 2) := by decide +kernel
theorem dX6_joined_26 : decode cX6_joined 26 = .ok (.invokevirtual 72, 3) := by decide +kernel
theorem dX6_joined_29 : decode cX6_joined 29 = .ok (.istore 8, 2) := by decide +kernel
theorem dX6_joined_31 : decode cX6_joined 31 = .ok (.iload 7, 2) := by decide +kernel
theorem dX6_joined_33 : decode cX6_joined 33 = .ok (.ifCond .lt 59, 3) := by decide +kernel
theorem dX6_joined_36 : decode cX6_joined 36 = .ok (.iload 8, 2) := by decide +kernel
theorem dX6_joined_38 : decode cX6_joined 38 = .ok (.ifCond .lt 54, 3) := by decide +kernel
theorem dX6_joined_41 : decode cX6_joined 41 = .ok (.aload_n 0, 1) := by decide +kernel
theorem dX6_joined_42 : decode cX6_joined 42 = .ok (.getfield 16, 3) := by decide +kernel
theorem dX6_joined_45 : decode cX6_joined 45 = .ok (.iload 7, 2) := by decide +kernel
theorem dX6_joined_47 : decode cX6_joined 47 = .ok (.iaload, 1) := by decide +kernel
theorem dX6_joined_48 : decode cX6_joined 48 = .ok (.ifCond .eq 44, 3) := by decide +kernel
theorem dX6_joined_51 : decode cX6_joined 51 = .ok (.aload_n 0, 1) := by decide +kernel
theorem dX6_joined_52 : decode cX6_joined 52 = .ok (.getfield 16, 3) := by decide +kernel
theorem dX6_joined_55 : decode cX6_joined 55 = .ok (.iload 8, 2) := by decide +kernel
theorem dX6_joined_57 : decode cX6_joined 57 = .ok (.iaload, 1) := by decide +kernel
theorem dX6_joined_58 : decode cX6_joined 58 = .ok (.ifCond .ne 6, 3) := by decide +kernel
theorem dX6_joined_61 : decode cX6_joined 61 = .ok (.goto 31, 3) := by decide +kernel
theorem dX6_joined_64 : decode cX6_joined 64 = .ok (.lload 4, 2) := by decide +kernel
theorem dX6_joined_66 : decode cX6_joined 66 = .ok (.iload_n 3, 1) := by decide +kernel
theorem dX6_joined_67 : decode cX6_joined 67 = .ok (.ifCond .eq 21, 3) := by decide +kernel
theorem dX6_joined_70 : decode cX6_joined 70 = .ok (.aload_n 0, 1) := by decide +kernel
theorem dX6_joined_71 : decode cX6_joined 71 = .ok (.iload 7, 2) := by decide +kernel
theorem dX6_joined_73 : decode cX6_joined 73 = .ok (.invokevirtual 95, 3) := by decide +kernel
theorem dX6_joined_76 : decode cX6_joined 76 = .ok (.i2l, 1) := by decide +kernel
theorem dX6_joined_77 : decode cX6_joined 77 = .ok (.aload_n 0, 1) := by decide +kernel
theorem dX6_joined_78 : decode cX6_joined 78 = .ok (.iload 8, 2) := by decide +kernel
theorem dX6_joined_80 : decode cX6_joined 80 = .ok (.invokevirtual 95, 3) := by decide +kernel
theorem dX6_joined_83 : decode cX6_joined 83 = .ok (.i2l, 1) := by decide +kernel
theorem dX6_joined_84 : decode cX6_joined 84 = .ok (.lmul, 1) := by decide +kernel
theorem dX6_joined_85 : decode cX6_joined 85 = .ok (.goto 4, 3) := by decide +kernel
theorem dX6_joined_88 : decode cX6_joined 88 = .ok (.lconst 1, 1) := by decide +kernel
theorem dX6_joined_89 : decode cX6_joined 89 = .ok (.ladd, 1) := by decide +kernel
theorem dX6_joined_90 : decode cX6_joined 90 = .ok (.lstore 4, 2) := by decide +kernel
theorem dX6_joined_92 : decode cX6_joined 92 = .ok (.iinc 6 1, 3) := by decide +kernel
theorem dX6_joined_95 : decode cX6_joined 95 = .ok (.goto (-89), 3) := by decide +kernel
theorem dX6_joined_98 : decode cX6_joined 98 = .ok (.lload 4, 2) := by decide +kernel
theorem dX6_joined_100 : decode cX6_joined 100 = .ok (.lreturn, 1) := by decide +kernel
theorem dX6_areNames_0 : decode cX6_areNames 0 = .ok (.aload_n 0, 1) := by decide +kernel
theorem dX6_areNames_1 : decode cX6_areNames 1 = .ok (.iload_n 1, 1) := by decide +kernel
theorem dX6_areNames_2 : decode cX6_areNames 2 = .ok (.iconst 0, 1) := by decide +kernel
theorem dX6_areNames_3 : decode cX6_areNames 3 = .ok (.bipush 9, 2) := by decide +kernel
theorem dX6_areNames_5 : decode cX6_areNames 5 = .ok (.invokestatic 60, 3) := by decide +kernel
theorem dX6_areNames_8 : decode cX6_areNames 8 = .ok (.ifCond .eq 17, 3) := by decide +kernel
theorem dX6_areNames_11 : decode cX6_areNames 11 = .ok (.iload_n 2, 1) := by decide +kernel
theorem dX6_areNames_12 : decode cX6_areNames 12 = .ok (.iconst 0, 1) := by decide +kernel
theorem dX6_areNames_13 : decode cX6_areNames 13 = .ok (.bipush 9, 2) := by decide +kernel
theorem dX6_areNames_15 : decode cX6_areNames 15 = .ok (.invokestatic 60, 3) := by decide +kernel
theorem dX6_areNames_18 : decode cX6_areNames 18 = .ok (.ifCond .eq 7, 3) := by decide +kernel
theorem dX6_areNames_21 : decode cX6_areNames 21 = .ok (.iconst 0, 1) := by decide +kernel
theorem dX6_areNames_22 : decode cX6_areNames 22 = .ok (.goto 4, 3) := by decide +kernel
theorem dX6_areNames_25 : decode cX6_areNames 25 = .ok (.iconst 1, 1) := by decide +kernel
theorem dX6_areNames_26 : decode cX6_areNames 26 = .ok (.putfield 53, 3) := by decide +kernel
theorem dX6_areNames_29 : decode cX6_areNames 29 = .ok (.aload_n 0, 1) := by decide +kernel
theorem dX6_areNames_30 : decode cX6_areNames 30 = .ok (.getfield 53, 3) := by decide +kernel
theorem dX6_areNames_33 : decode cX6_areNames 33 = .ok (.ifCond .ne 7, 3) := by decide +kernel
theorem dX6_areNames_36 : decode cX6_areNames 36 = .ok (.iconst 1, 1) := by decide +kernel
theorem dX6_areNames_37 : decode cX6_areNames 37 = .ok (.goto 4, 3) := by decide +kernel
theorem dX6_areNames_40 : decode cX6_areNames 40 = .ok (.iconst 0, 1) := by decide +kernel
theorem dX6_areNames_41 : decode cX6_areNames 41 = .ok (.ireturn, 1) := by decide +kernel
theorem dX6_joinCount_0 : decode cX6_joinCount 0 = .ok (.aload_n 0, 1) := by decide +kernel
theorem dX6_joinCount_1 : decode cX6_joinCount 1 = .ok (.iload_n 1, 1) := by decide +kernel
theorem dX6_joinCount_2 : decode cX6_joinCount 2 = .ok (.iload_n 2, 1) := by decide +kernel
theorem dX6_joinCount_3 : decode cX6_joinCount 3 = .ok (.invokevirtual 162, 3) := by decide +kernel
theorem dX6_joinCount_6 : decode cX6_joinCount 6 = .ok (.ifCond .eq 14, 3) := by decide +kernel
theorem dX6_joinCount_9 : decode cX6_joinCount 9 = .ok (.aload_n 0, 1) := by decide +kernel
theorem dX6_joinCount_10 : decode cX6_joinCount 10 = .ok (.iload_n 1, 1) := by decide +kernel
theorem dX6_joinCount_11 : decode cX6_joinCount 11 = .ok (.iload_n 2, 1) := by decide +kernel
theorem dX6_joinCount_12 : decode cX6_joinCount 12 = .ok (.iconst 0, 1) := by decide +kernel
theorem dX6_joinCount_13 : decode cX6_joinCount 13 = .ok (.invokevirtual 165, 3) := by decide +kernel
theorem dX6_joinCount_16 : decode cX6_joinCount 16 = .ok (.l2i, 1) := by decide +kernel
theorem dX6_joinCount_17 : decode cX6_joinCount 17 = .ok (.goto 4, 3) := by decide +kernel
theorem dX6_joinCount_20 : decode cX6_joinCount 20 = .ok (.iconst 0, 1) := by decide +kernel
theorem dX6_joinCount_21 : decode cX6_joinCount 21 = .ok (.ireturn, 1) := by decide +kernel
theorem dX6_joinSum_0 : decode cX6_joinSum 0 = .ok (.aload_n 0, 1) := by decide +kernel
theorem dX6_joinSum_1 : decode cX6_joinSum 1 = .ok (.iload_n 1, 1) := by decide +kernel
theorem dX6_joinSum_2 : decode cX6_joinSum 2 = .ok (.iload_n 2, 1) := by decide +kernel
theorem dX6_joinSum_3 : decode cX6_joinSum 3 = .ok (.invokevirtual 162, 3) := by decide +kernel
theorem dX6_joinSum_6 : decode cX6_joinSum 6 = .ok (.ifCond .eq 13, 3) := by decide +kernel
theorem dX6_joinSum_9 : decode cX6_joinSum 9 = .ok (.aload_n 0, 1) := by decide +kernel
theorem dX6_joinSum_10 : decode cX6_joinSum 10 = .ok (.iload_n 1, 1) := by decide +kernel
theorem dX6_joinSum_11 : decode cX6_joinSum 11 = .ok (.iload_n 2, 1) := by decide +kernel
theorem dX6_joinSum_12 : decode cX6_joinSum 12 = .ok (.iconst 1, 1) := by decide +kernel
theorem dX6_joinSum_13 : decode cX6_joinSum 13 = .ok (.invokevirtual 165, 3) := by decide +kernel
theorem dX6_joinSum_16 : decode cX6_joinSum 16 = .ok (.goto 4, 3) := by decide +kernel
theorem dX6_joinSum_19 : decode cX6_joinSum 19 = .ok (.lconst 0, 1) := by decide +kernel
theorem dX6_joinSum_20 : decode cX6_joinSum 20 = .ok (.lreturn, 1) := by decide +kernel
theorem dX6_firingShare_0 : decode cX6_firingShare 0 = .ok (.aload_n 0, 1) := by decide +kernel
theorem dX6_firingShare_1 : decode cX6_firingShare 1 = .ok (.invokevirtual 169, 3) := by decide +kernel
theorem dX6_firingShare_4 : decode cX6_firingShare 4 = .ok (.istore_n 1, 1) := by decide +kernel
theorem dX6_firingShare_5 : decode cX6_firingShare 5 = .ok (.aload_n 0, 1) := by decide +kernel
theorem dX6_firingShare_6 : decode cX6_firingShare 6 = .ok (.aload_n 0, 1) := by decide +kernel
theorem dX6_firingShare_7 : decode cX6_firingShare 7 = .ok (.getfield 57, 3) := by decide +kernel
theorem dX6_firingShare_10 : decode cX6_firingShare 10 = .ok (.ifCond .ne 7, 3) := by decide +kernel
theorem dX6_firingShare_13 : decode cX6_firingShare 13 = .ok (.iconst 1, 1) := by decide +kernel
theorem dX6_firingShare_14 : decode cX6_firingShare 14 = .ok (.goto 4, 3) := by decide +kernel
theorem dX6_firingShare_17 : decode cX6_firingShare 17 = .ok (.iconst 0, 1) := by decide +kernel
theorem dX6_firingShare_18 : decode cX6_firingShare 18 = .ok (.putfield 53, 3) := by decide +kernel
theorem dX6_firingShare_21 : decode cX6_firingShare 21 = .ok (.aload_n 0, 1) := by decide +kernel
theorem dX6_firingShare_22 : decode cX6_firingShare 22 = .ok (.getfield 53, 3) := by decide +kernel
theorem dX6_firingShare_25 : decode cX6_firingShare 25 = .ok (.ifCond .ne 14, 3) := by decide +kernel
theorem dX6_firingShare_28 : decode cX6_firingShare 28 = .ok (.iload_n 1, 1) := by decide +kernel
theorem dX6_firingShare_29 : decode cX6_firingShare 29 = .ok (.i2f, 1) := by decide +kernel
theorem dX6_firingShare_30 : decode cX6_firingShare 30 = .ok (.aload_n 0, 1) := by decide +kernel
theorem dX6_firingShare_31 : decode cX6_firingShare 31 = .ok (.getfield 57, 3) := by decide +kernel
theorem dX6_firingShare_34 : decode cX6_firingShare 34 = .ok (.i2f, 1) := by decide +kernel
theorem dX6_firingShare_35 : decode cX6_firingShare 35 = .ok (.fdiv, 1) := by decide +kernel
theorem dX6_firingShare_36 : decode cX6_firingShare 36 = .ok (.goto 4, 3) := by decide +kernel
theorem dX6_firingShare_39 : decode cX6_firingShare 39 = .ok (.fconst 0, 1) := by decide +kernel
theorem dX6_firingShare_40 : decode cX6_firingShare 40 = .ok (.freturn, 1) := by decide +kernel
theorem dX6_isConsistent_0 : decode cX6_isConsistent 0 = .ok (.aload_n 0, 1) := by decide +kernel
theorem dX6_isConsistent_1 : decode cX6_isConsistent 1 = .ok (.iconst 0, 1) := by decide +kernel
theorem dX6_isConsistent_2 : decode cX6_isConsistent 2 = .ok (.putfield 53, 3) := by decide +kernel
theorem dX6_isConsistent_5 : decode cX6_isConsistent 5 = .ok (.iconst 1, 1) := by decide +kernel
theorem dX6_isConsistent_6 : decode cX6_isConsistent 6 = .ok (.ireturn, 1) := by decide +kernel
end
section
theorem dL_open_0 : decode cL_open 0 = .ok (.aload_n 3, 1) := by decide +kernel
theorem dL_open_1 : decode cL_open 1 = .ok (.iconst 0, 1) := by decide +kernel
theorem dL_open_2 : decode cL_open 2 = .ok (.aload_n 0, 1) := by decide +kernel
theorem dL_open_3 : decode cL_open 3 = .ok (.iload_n 1, 1) := by decide +kernel
theorem dL_open_4 : decode cL_open 4 = .ok (.iload_n 2, 1) := by decide +kernel
theorem dL_open_5 : decode cL_open 5 = .ok (.invokevirtual 7, 3) := by decide +kernel
theorem dL_open_8 : decode cL_open 8 = .ok (.i2l, 1) := by decide +kernel
theorem dL_open_9 : decode cL_open 9 = .ok (.lastore, 1) := by decide +kernel
theorem dL_open_10 : decode cL_open 10 = .ok (.goto 11, 3) := by decide +kernel
theorem dL_open_13 : decode cL_open 13 = .ok (.astore 4, 2) := by decide +kernel
theorem dL_open_15 : decode cL_open 15 = .ok (.iconst 1, 1) := by decide +kernel
theorem dL_open_16 : decode cL_open 16 = .ok (.ireturn, 1) := by decide +kernel
theorem dL_open_17 : decode cL_open 17 = .ok (.astore 4, 2) := by decide +kernel
theorem dL_open_19 : decode cL_open 19 = .ok (.iconst 2, 1) := by decide +kernel
theorem dL_open_20 : decode cL_open 20 = .ok (.ireturn, 1) := by decide +kernel
theorem dL_open_21 : decode cL_open 21 = .ok (.iconst 0, 1) := by decide +kernel
theorem dL_open_22 : decode cL_open 22 = .ok (.ireturn, 1) := by decide +kernel
theorem dL_pass_0 : decode cL_pass 0 = .ok (.aload_n 2, 1) := by decide +kernel
theorem dL_pass_1 : decode cL_pass 1 = .ok (.iconst 0, 1) := by decide +kernel
theorem dL_pass_2 : decode cL_pass 2 = .ok (.aload_n 0, 1) := by decide +kernel
theorem dL_pass_3 : decode cL_pass 3 = .ok (.iload_n 1, 1) := by decide +kernel
theorem dL_pass_4 : decode cL_pass 4 = .ok (.invokevirtual 17, 3) := by decide +kernel
theorem dL_pass_7 : decode cL_pass 7 = .ok (.lastore, 1) := by decide +kernel
theorem dL_pass_8 : decode cL_pass 8 = .ok (.goto 6, 3) := by decide +kernel
theorem dL_pass_11 : decode cL_pass 11 = .ok (.astore_n 3, 1) := by decide +kernel
theorem dL_pass_12 : decode cL_pass 12 = .ok (.iconst 1, 1) := by decide +kernel
theorem dL_pass_13 : decode cL_pass 13 = .ok (.ireturn, 1) := by decide +kernel
theorem dL_pass_14 : decode cL_pass 14 = .ok (.iconst 0, 1) := by decide +kernel
theorem dL_pass_15 : decode cL_pass 15 = .ok (.ireturn, 1) := by decide +kernel
theorem dL_add_0 : decode cL_add 0 = .ok (.aload_n 3, 1) := by decide +kernel
theorem dL_add_1 : decode cL_add 1 = .ok (.iconst 0, 1) := by decide +kernel
theorem dL_add_2 : decode cL_add 2 = .ok (.aload_n 0, 1) := by decide +kernel
theorem dL_add_3 : decode cL_add 3 = .ok (.iload_n 1, 1) := by decide +kernel
theorem dL_add_4 : decode cL_add 4 = .ok (.iload_n 2, 1) := by decide +kernel
theorem dL_add_5 : decode cL_add 5 = .ok (.invokevirtual 21, 3) := by decide +kernel
theorem dL_add_8 : decode cL_add 8 = .ok (.i2l, 1) := by decide +kernel
theorem dL_add_9 : decode cL_add 9 = .ok (.lastore, 1) := by decide +kernel
theorem dL_add_10 : decode cL_add 10 = .ok (.goto 15, 3) := by decide +kernel
theorem dL_add_13 : decode cL_add 13 = .ok (.astore 4, 2) := by decide +kernel
theorem dL_add_15 : decode cL_add 15 = .ok (.iconst 1, 1) := by decide +kernel
theorem dL_add_16 : decode cL_add 16 = .ok (.ireturn, 1) := by decide +kernel
theorem dL_add_17 : decode cL_add 17 = .ok (.astore 4, 2) := by decide +kernel
theorem dL_add_19 : decode cL_add 19 = .ok (.iconst 2, 1) := by decide +kernel
theorem dL_add_20 : decode cL_add 20 = .ok (.ireturn, 1) := by decide +kernel
theorem dL_add_21 : decode cL_add 21 = .ok (.astore 4, 2) := by decide +kernel
theorem dL_add_23 : decode cL_add 23 = .ok (.iconst 3, 1) := by decide +kernel
theorem dL_add_24 : decode cL_add 24 = .ok (.ireturn, 1) := by decide +kernel
theorem dL_add_25 : decode cL_add 25 = .ok (.iconst 0, 1) := by decide +kernel
theorem dL_add_26 : decode cL_add 26 = .ok (.ireturn, 1) := by decide +kernel
theorem dL_find_0 : decode cL_find 0 = .ok (.aload_n 3, 1) := by decide +kernel
theorem dL_find_1 : decode cL_find 1 = .ok (.iconst 0, 1) := by decide +kernel
theorem dL_find_2 : decode cL_find 2 = .ok (.aload_n 0, 1) := by decide +kernel
theorem dL_find_3 : decode cL_find 3 = .ok (.iload_n 1, 1) := by decide +kernel
theorem dL_find_4 : decode cL_find 4 = .ok (.iload_n 2, 1) := by decide +kernel
theorem dL_find_5 : decode cL_find 5 = .ok (.invokevirtual 26, 3) := by decide +kernel
theorem dL_find_8 : decode cL_find 8 = .ok (.i2l, 1) := by decide +kernel
theorem dL_find_9 : decode cL_find 9 = .ok (.lastore, 1) := by decide +kernel
theorem dL_find_10 : decode cL_find 10 = .ok (.goto 7, 3) := by decide +kernel
theorem dL_find_13 : decode cL_find 13 = .ok (.astore 4, 2) := by decide +kernel
theorem dL_find_15 : decode cL_find 15 = .ok (.iconst 1, 1) := by decide +kernel
theorem dL_find_16 : decode cL_find 16 = .ok (.ireturn, 1) := by decide +kernel
theorem dL_find_17 : decode cL_find 17 = .ok (.iconst 0, 1) := by decide +kernel
theorem dL_find_18 : decode cL_find 18 = .ok (.ireturn, 1) := by decide +kernel
theorem dL_nameOf_0 : decode cL_nameOf 0 = .ok (.aload_n 2, 1) := by decide +kernel
theorem dL_nameOf_1 : decode cL_nameOf 1 = .ok (.iconst 0, 1) := by decide +kernel
theorem dL_nameOf_2 : decode cL_nameOf 2 = .ok (.aload_n 0, 1) := by decide +kernel
theorem dL_nameOf_3 : decode cL_nameOf 3 = .ok (.iload_n 1, 1) := by decide +kernel
theorem dL_nameOf_4 : decode cL_nameOf 4 = .ok (.invokevirtual 29, 3) := by decide +kernel
theorem dL_nameOf_7 : decode cL_nameOf 7 = .ok (.i2l, 1) := by decide +kernel
theorem dL_nameOf_8 : decode cL_nameOf 8 = .ok (.lastore, 1) := by decide +kernel
theorem dL_nameOf_9 : decode cL_nameOf 9 = .ok (.goto 6, 3) := by decide +kernel
theorem dL_nameOf_12 : decode cL_nameOf 12 = .ok (.astore_n 3, 1) := by decide +kernel
theorem dL_nameOf_13 : decode cL_nameOf 13 = .ok (.iconst 1, 1) := by decide +kernel
theorem dL_nameOf_14 : decode cL_nameOf 14 = .ok (.ireturn, 1) := by decide +kernel
theorem dL_nameOf_15 : decode cL_nameOf 15 = .ok (.iconst 0, 1) := by decide +kernel
theorem dL_nameOf_16 : decode cL_nameOf 16 = .ok (.ireturn, 1) := by decide +kernel
theorem dL_hostOf_0 : decode cL_hostOf 0 = .ok (.aload_n 2, 1) := by decide +kernel
theorem dL_hostOf_1 : decode cL_hostOf 1 = .ok (.iconst 0, 1) := by decide +kernel
theorem dL_hostOf_2 : decode cL_hostOf 2 = .ok (.aload_n 0, 1) := by decide +kernel
theorem dL_hostOf_3 : decode cL_hostOf 3 = .ok (.iload_n 1, 1) := by decide +kernel
theorem dL_hostOf_4 : decode cL_hostOf 4 = .ok (.invokevirtual 33, 3) := by decide +kernel
theorem dL_hostOf_7 : decode cL_hostOf 7 = .ok (.i2l, 1) := by decide +kernel
theorem dL_hostOf_8 : decode cL_hostOf 8 = .ok (.lastore, 1) := by decide +kernel
theorem dL_hostOf_9 : decode cL_hostOf 9 = .ok (.goto 6, 3) := by decide +kernel
theorem dL_hostOf_12 : decode cL_hostOf 12 = .ok (.astore_n 3, 1) := by decide +kernel
theorem dL_hostOf_13 : decode cL_hostOf 13 = .ok (.iconst 1, 1) := by decide +kernel
theorem dL_hostOf_14 : decode cL_hostOf 14 = .ok (.ireturn, 1) := by decide +kernel
theorem dL_hostOf_15 : decode cL_hostOf 15 = .ok (.iconst 0, 1) := by decide +kernel
theorem dL_hostOf_16 : decode cL_hostOf 16 = .ok (.ireturn, 1) := by decide +kernel
theorem dL_samples_0 : decode cL_samples 0 = .ok (.aload_n 2, 1) := by decide +kernel
theorem dL_samples_1 : decode cL_samples 1 = .ok (.iconst 0, 1) := by decide +kernel
theorem dL_samples_2 : decode cL_samples 2 = .ok (.aload_n 0, 1) := by decide +kernel
theorem dL_samples_3 : decode cL_samples 3 = .ok (.iload_n 1, 1) := by decide +kernel
theorem dL_samples_4 : decode cL_samples 4 = .ok (.invokevirtual 36, 3) := by decide +kernel
theorem dL_samples_7 : decode cL_samples 7 = .ok (.i2l, 1) := by decide +kernel
theorem dL_samples_8 : decode cL_samples 8 = .ok (.lastore, 1) := by decide +kernel
theorem dL_samples_9 : decode cL_samples 9 = .ok (.goto 6, 3) := by decide +kernel
theorem dL_samples_12 : decode cL_samples 12 = .ok (.astore_n 3, 1) := by decide +kernel
theorem dL_samples_13 : decode cL_samples 13 = .ok (.iconst 1, 1) := by decide +kernel
theorem dL_samples_14 : decode cL_samples 14 = .ok (.ireturn, 1) := by decide +kernel
theorem dL_samples_15 : decode cL_samples 15 = .ok (.iconst 0, 1) := by decide +kernel
theorem dL_samples_16 : decode cL_samples 16 = .ok (.ireturn, 1) := by decide +kernel
theorem dL_latest_0 : decode cL_latest 0 = .ok (.aload_n 2, 1) := by decide +kernel
theorem dL_latest_1 : decode cL_latest 1 = .ok (.iconst 0, 1) := by decide +kernel
theorem dL_latest_2 : decode cL_latest 2 = .ok (.aload_n 0, 1) := by decide +kernel
theorem dL_latest_3 : decode cL_latest 3 = .ok (.iload_n 1, 1) := by decide +kernel
theorem dL_latest_4 : decode cL_latest 4 = .ok (.invokevirtual 39, 3) := by decide +kernel
theorem dL_latest_7 : decode cL_latest 7 = .ok (.i2l, 1) := by decide +kernel
theorem dL_latest_8 : decode cL_latest 8 = .ok (.lastore, 1) := by decide +kernel
theorem dL_latest_9 : decode cL_latest 9 = .ok (.goto 9, 3) := by decide +kernel
theorem dL_latest_12 : decode cL_latest 12 = .ok (.astore_n 3, 1) := by decide +kernel
theorem dL_latest_13 : decode cL_latest 13 = .ok (.iconst 1, 1) := by decide +kernel
theorem dL_latest_14 : decode cL_latest 14 = .ok (.ireturn, 1) := by decide +kernel
theorem dL_latest_15 : decode cL_latest 15 = .ok (.astore_n 3, 1) := by decide +kernel
theorem dL_latest_16 : decode cL_latest 16 = .ok (.iconst 2, 1) := by decide +kernel
theorem dL_latest_17 : decode cL_latest 17 = .ok (.ireturn, 1) := by decide +kernel
theorem dL_latest_18 : decode cL_latest 18 = .ok (.iconst 0, 1) := by decide +kernel
theorem dL_latest_19 : decode cL_latest 19 = .ok (.ireturn, 1) := by decide +kernel
theorem dL_blocks_0 : decode cL_blocks 0 = .ok (.aload_n 2, 1) := by decide +kernel
theorem dL_blocks_1 : decode cL_blocks 1 = .ok (.iconst 0, 1) := by decide +kernel
theorem dL_blocks_2 : decode cL_blocks 2 = .ok (.aload_n 0, 1) := by decide +kernel
theorem dL_blocks_3 : decode cL_blocks 3 = .ok (.iload_n 1, 1) := by decide +kernel
theorem dL_blocks_4 : decode cL_blocks 4 = .ok (.invokevirtual 42, 3) := by decide +kernel
theorem dL_blocks_7 : decode cL_blocks 7 = .ok (.i2l, 1) := by decide +kernel
theorem dL_blocks_8 : decode cL_blocks 8 = .ok (.lastore, 1) := by decide +kernel
theorem dL_blocks_9 : decode cL_blocks 9 = .ok (.goto 6, 3) := by decide +kernel
theorem dL_blocks_12 : decode cL_blocks 12 = .ok (.astore_n 3, 1) := by decide +kernel
theorem dL_blocks_13 : decode cL_blocks 13 = .ok (.iconst 1, 1) := by decide +kernel
theorem dL_blocks_14 : decode cL_blocks 14 = .ok (.ireturn, 1) := by decide +kernel
theorem dL_blocks_15 : decode cL_blocks 15 = .ok (.iconst 0, 1) := by decide +kernel
theorem dL_blocks_16 : decode cL_blocks 16 = .ok (.ireturn, 1) := by decide +kernel
theorem dL_bitsOf_0 : decode cL_bitsOf 0 = .ok (.aload_n 3, 1) := by decide +kernel
theorem dL_bitsOf_1 : decode cL_bitsOf 1 = .ok (.iconst 0, 1) := by decide +kernel
theorem dL_bitsOf_2 : decode cL_bitsOf 2 = .ok (.aload_n 0, 1) := by decide +kernel
theorem dL_bitsOf_3 : decode cL_bitsOf 3 = .ok (.iload_n 1, 1) := by decide +kernel
theorem dL_bitsOf_4 : decode cL_bitsOf 4 = .ok (.iload_n 2, 1) := by decide +kernel
theorem dL_bitsOf_5 : decode cL_bitsOf 5 = .ok (.invokevirtual 45, 3) := by decide +kernel
theorem dL_bitsOf_8 : decode cL_bitsOf 8 = .ok (.i2l, 1) := by decide +kernel
theorem dL_bitsOf_9 : decode cL_bitsOf 9 = .ok (.lastore, 1) := by decide +kernel
theorem dL_bitsOf_10 : decode cL_bitsOf 10 = .ok (.goto 11, 3) := by decide +kernel
theorem dL_bitsOf_13 : decode cL_bitsOf 13 = .ok (.astore 4, 2) := by decide +kernel
theorem dL_bitsOf_15 : decode cL_bitsOf 15 = .ok (.iconst 1, 1) := by decide +kernel
theorem dL_bitsOf_16 : decode cL_bitsOf 16 = .ok (.ireturn, 1) := by decide +kernel
theorem dL_bitsOf_17 : decode cL_bitsOf 17 = .ok (.astore 4, 2) := by decide +kernel
theorem dL_bitsOf_19 : decode cL_bitsOf 19 = .ok (.iconst 2, 1) := by decide +kernel
theorem dL_bitsOf_20 : decode cL_bitsOf 20 = .ok (.ireturn, 1) := by decide +kernel
theorem dL_bitsOf_21 : decode cL_bitsOf 21 = .ok (.iconst 0, 1) := by decide +kernel
theorem dL_bitsOf_22 : decode cL_bitsOf 22 = .ok (.ireturn, 1) := by decide +kernel
theorem dL_timeAt_0 : decode cL_timeAt 0 = .ok (.aload_n 3, 1) := by decide +kernel
theorem dL_timeAt_1 : decode cL_timeAt 1 = .ok (.iconst 0, 1) := by decide +kernel
theorem dL_timeAt_2 : decode cL_timeAt 2 = .ok (.aload_n 0, 1) := by decide +kernel
theorem dL_timeAt_3 : decode cL_timeAt 3 = .ok (.iload_n 1, 1) := by decide +kernel
theorem dL_timeAt_4 : decode cL_timeAt 4 = .ok (.iload_n 2, 1) := by decide +kernel
theorem dL_timeAt_5 : decode cL_timeAt 5 = .ok (.invokevirtual 50, 3) := by decide +kernel
theorem dL_timeAt_8 : decode cL_timeAt 8 = .ok (.lastore, 1) := by decide +kernel
theorem dL_timeAt_9 : decode cL_timeAt 9 = .ok (.goto 11, 3) := by decide +kernel
theorem dL_timeAt_12 : decode cL_timeAt 12 = .ok (.astore 4, 2) := by decide +kernel
theorem dL_timeAt_14 : decode cL_timeAt 14 = .ok (.iconst 1, 1) := by decide +kernel
theorem dL_timeAt_15 : decode cL_timeAt 15 = .ok (.ireturn, 1) := by decide +kernel
theorem dL_timeAt_16 : decode cL_timeAt 16 = .ok (.astore 4, 2) := by decide +kernel
theorem dL_timeAt_18 : decode cL_timeAt 18 = .ok (.iconst 2, 1) := by decide +kernel
theorem dL_timeAt_19 : decode cL_timeAt 19 = .ok (.ireturn, 1) := by decide +kernel
theorem dL_timeAt_20 : decode cL_timeAt 20 = .ok (.iconst 0, 1) := by decide +kernel
theorem dL_timeAt_21 : decode cL_timeAt 21 = .ok (.ireturn, 1) := by decide +kernel
theorem dL_valueAt_0 : decode cL_valueAt 0 = .ok (.aload_n 3, 1) := by decide +kernel
theorem dL_valueAt_1 : decode cL_valueAt 1 = .ok (.iconst 0, 1) := by decide +kernel
theorem dL_valueAt_2 : decode cL_valueAt 2 = .ok (.aload_n 0, 1) := by decide +kernel
theorem dL_valueAt_3 : decode cL_valueAt 3 = .ok (.iload_n 1, 1) := by decide +kernel
theorem dL_valueAt_4 : decode cL_valueAt 4 = .ok (.iload_n 2, 1) := by decide +kernel
theorem dL_valueAt_5 : decode cL_valueAt 5 = .ok (.invokevirtual 54, 3) := by decide +kernel
theorem dL_valueAt_8 : decode cL_valueAt 8 = .ok (.i2l, 1) := by decide +kernel
theorem dL_valueAt_9 : decode cL_valueAt 9 = .ok (.lastore, 1) := by decide +kernel
theorem dL_valueAt_10 : decode cL_valueAt 10 = .ok (.goto 11, 3) := by decide +kernel
theorem dL_valueAt_13 : decode cL_valueAt 13 = .ok (.astore 4, 2) := by decide +kernel
theorem dL_valueAt_15 : decode cL_valueAt 15 = .ok (.iconst 1, 1) := by decide +kernel
theorem dL_valueAt_16 : decode cL_valueAt 16 = .ok (.ireturn, 1) := by decide +kernel
theorem dL_valueAt_17 : decode cL_valueAt 17 = .ok (.astore 4, 2) := by decide +kernel
theorem dL_valueAt_19 : decode cL_valueAt 19 = .ok (.iconst 2, 1) := by decide +kernel
theorem dL_valueAt_20 : decode cL_valueAt 20 = .ok (.ireturn, 1) := by decide +kernel
theorem dL_valueAt_21 : decode cL_valueAt 21 = .ok (.iconst 0, 1) := by decide +kernel
theorem dL_valueAt_22 : decode cL_valueAt 22 = .ok (.ireturn, 1) := by decide +kernel
theorem dL_count_0 : decode cL_count 0 = .ok (.aload 6, 2) := by decide +kernel
theorem dL_count_2 : decode cL_count 2 = .ok (.iconst 0, 1) := by decide +kernel
theorem dL_count_3 : decode cL_count 3 = .ok (.aload_n 0, 1) := by decide +kernel
theorem dL_count_4 : decode cL_count 4 = .ok (.iload_n 1, 1) := by decide +kernel
theorem dL_count_5 : decode cL_count 5 = .ok (.lload_n 2, 1) := by decide +kernel
theorem dL_count_6 : decode cL_count 6 = .ok (.lload 4, 2) := by decide +kernel
theorem dL_count_8 : decode cL_count 8 = .ok (.invokevirtual 57, 3) := by decide +kernel
theorem dL_count_11 : decode cL_count 11 = .ok (.i2l, 1) := by decide +kernel
theorem dL_count_12 : decode cL_count 12 = .ok (.lastore, 1) := by decide +kernel
theorem dL_count_13 : decode cL_count 13 = .ok (.goto 11, 3) := by decide +kernel
theorem dL_count_16 : decode cL_count 16 = .ok (.astore 7, 2) := by decide +kernel
theorem dL_count_18 : decode cL_count 18 = .ok (.iconst 1, 1) := by decide +kernel
theorem dL_count_19 : decode cL_count 19 = .ok (.ireturn, 1) := by decide +kernel
theorem dL_count_20 : decode cL_count 20 = .ok (.astore 7, 2) := by decide +kernel
theorem dL_count_22 : decode cL_count 22 = .ok (.iconst 2, 1) := by decide +kernel
theorem dL_count_23 : decode cL_count 23 = .ok (.ireturn, 1) := by decide +kernel
theorem dL_count_24 : decode cL_count 24 = .ok (.iconst 0, 1) := by decide +kernel
theorem dL_count_25 : decode cL_count 25 = .ok (.ireturn, 1) := by decide +kernel
theorem dL_sum_0 : decode cL_sum 0 = .ok (.aload 6, 2) := by decide +kernel
theorem dL_sum_2 : decode cL_sum 2 = .ok (.iconst 0, 1) := by decide +kernel
theorem dL_sum_3 : decode cL_sum 3 = .ok (.aload_n 0, 1) := by decide +kernel
theorem dL_sum_4 : decode cL_sum 4 = .ok (.iload_n 1, 1) := by decide +kernel
theorem dL_sum_5 : decode cL_sum 5 = .ok (.lload_n 2, 1) := by decide +kernel
theorem dL_sum_6 : decode cL_sum 6 = .ok (.lload 4, 2) := by decide +kernel
theorem dL_sum_8 : decode cL_sum 8 = .ok (.invokevirtual 61, 3) := by decide +kernel
theorem dL_sum_11 : decode cL_sum 11 = .ok (.lastore, 1) := by decide +kernel
theorem dL_sum_12 : decode cL_sum 12 = .ok (.goto 11, 3) := by decide +kernel
theorem dL_sum_15 : decode cL_sum 15 = .ok (.astore 7, 2) := by decide +kernel
theorem dL_sum_17 : decode cL_sum 17 = .ok (.iconst 1, 1) := by decide +kernel
theorem dL_sum_18 : decode cL_sum 18 = .ok (.ireturn, 1) := by decide +kernel
theorem dL_sum_19 : decode cL_sum 19 = .ok (.astore 7, 2) := by decide +kernel
theorem dL_sum_21 : decode cL_sum 21 = .ok (.iconst 2, 1) := by decide +kernel
theorem dL_sum_22 : decode cL_sum 22 = .ok (.ireturn, 1) := by decide +kernel
theorem dL_sum_23 : decode cL_sum 23 = .ok (.iconst 0, 1) := by decide +kernel
theorem dL_sum_24 : decode cL_sum 24 = .ok (.ireturn, 1) := by decide +kernel
theorem dL_sumByReading_0 : decode cL_sumByReading 0 = .ok (.aload 6, 2) := by decide +kernel
theorem dL_sumByReading_2 : decode cL_sumByReading 2 = .ok (.iconst 0, 1) := by decide +kernel
theorem dL_sumByReading_3 : decode cL_sumByReading 3 = .ok (.aload_n 0, 1) := by decide +kernel
theorem dL_sumByReading_4 : decode cL_sumByReading 4 = .ok (.iload_n 1, 1) := by decide +kernel
theorem dL_sumByReading_5 : decode cL_sumByReading 5 = .ok (.lload_n 2, 1) := by decide +kernel
theorem dL_sumByReading_6 : decode cL_sumByReading 6 = .ok (.lload 4, 2) := by decide +kernel
theorem dL_sumByReading_8 : decode cL_sumByReading 8 = .ok (.invokevirtual 65, 3) := by decide +kernel
theorem dL_sumByReading_11 : decode cL_sumByReading 11 = .ok (.lastore, 1) := by decide +kernel
theorem dL_sumByReading_12 : decode cL_sumByReading 12 = .ok (.goto 11, 3) := by decide +kernel
theorem dL_sumByReading_15 : decode cL_sumByReading 15 = .ok (.astore 7, 2) := by decide +kernel
theorem dL_sumByReading_17 : decode cL_sumByReading 17 = .ok (.iconst 1, 1) := by decide +kernel
theorem dL_sumByReading_18 : decode cL_sumByReading 18 = .ok (.ireturn, 1) := by decide +kernel
theorem dL_sumByReading_19 : decode cL_sumByReading 19 = .ok (.astore 7, 2) := by decide +kernel
theorem dL_sumByReading_21 : decode cL_sumByReading 21 = .ok (.iconst 2, 1) := by decide +kernel
theorem dL_sumByReading_22 : decode cL_sumByReading 22 = .ok (.ireturn, 1) := by decide +kernel
theorem dL_sumByReading_23 : decode cL_sumByReading 23 = .ok (.iconst 0, 1) := by decide +kernel
theorem dL_sumByReading_24 : decode cL_sumByReading 24 = .ok (.ireturn, 1) := by decide +kernel
theorem dL_maximum_0 : decode cL_maximum 0 = .ok (.aload 6, 2) := by decide +kernel
theorem dL_maximum_2 : decode cL_maximum 2 = .ok (.iconst 0, 1) := by decide +kernel
theorem dL_maximum_3 : decode cL_maximum 3 = .ok (.aload_n 0, 1) := by decide +kernel
theorem dL_maximum_4 : decode cL_maximum 4 = .ok (.iload_n 1, 1) := by decide +kernel
theorem dL_maximum_5 : decode cL_maximum 5 = .ok (.lload_n 2, 1) := by decide +kernel
theorem dL_maximum_6 : decode cL_maximum 6 = .ok (.lload 4, 2) := by decide +kernel
theorem dL_maximum_8 : decode cL_maximum 8 = .ok (.invokevirtual 68, 3) := by decide +kernel
theorem dL_maximum_11 : decode cL_maximum 11 = .ok (.i2l, 1) := by decide +kernel
theorem dL_maximum_12 : decode cL_maximum 12 = .ok (.lastore, 1) := by decide +kernel
theorem dL_maximum_13 : decode cL_maximum 13 = .ok (.goto 15, 3) := by decide +kernel
theorem dL_maximum_16 : decode cL_maximum 16 = .ok (.astore 7, 2) := by decide +kernel
theorem dL_maximum_18 : decode cL_maximum 18 = .ok (.iconst 1, 1) := by decide +kernel
theorem dL_maximum_19 : decode cL_maximum 19 = .ok (.ireturn, 1) := by decide +kernel
theorem dL_maximum_20 : decode cL_maximum 20 = .ok (.astore 7, 2) := by decide +kernel
theorem dL_maximum_22 : decode cL_maximum 22 = .ok (.iconst 2, 1) := by decide +kernel
theorem dL_maximum_23 : decode cL_maximum 23 = .ok (.ireturn, 1) := by decide +kernel
theorem dL_maximum_24 : decode cL_maximum 24 = .ok (.astore 7, 2) := by decide +kernel
theorem dL_maximum_26 : decode cL_maximum 26 = .ok (.iconst 3, 1) := by decide +kernel
theorem dL_maximum_27 : decode cL_maximum 27 = .ok (.ireturn, 1) := by decide +kernel
theorem dL_maximum_28 : decode cL_maximum 28 = .ok (.iconst 0, 1) := by decide +kernel
theorem dL_maximum_29 : decode cL_maximum 29 = .ok (.ireturn, 1) := by decide +kernel
theorem dL_mean_0 : decode cL_mean 0 = .ok (.aload 6, 2) := by decide +kernel
theorem dL_mean_2 : decode cL_mean 2 = .ok (.iconst 0, 1) := by decide +kernel
theorem dL_mean_3 : decode cL_mean 3 = .ok (.aload_n 0, 1) := by decide +kernel
theorem dL_mean_4 : decode cL_mean 4 = .ok (.iload_n 1, 1) := by decide +kernel
theorem dL_mean_5 : decode cL_mean 5 = .ok (.lload_n 2, 1) := by decide +kernel
theorem dL_mean_6 : decode cL_mean 6 = .ok (.lload 4, 2) := by decide +kernel
theorem dL_mean_8 : decode cL_mean 8 = .ok (.invokevirtual 71, 3) := by decide +kernel
theorem dL_mean_11 : decode cL_mean 11 = .ok (.dastore, 1) := by decide +kernel
theorem dL_mean_12 : decode cL_mean 12 = .ok (.goto 15, 3) := by decide +kernel
theorem dL_mean_15 : decode cL_mean 15 = .ok (.astore 7, 2) := by decide +kernel
theorem dL_mean_17 : decode cL_mean 17 = .ok (.iconst 1, 1) := by decide +kernel
theorem dL_mean_18 : decode cL_mean 18 = .ok (.ireturn, 1) := by decide +kernel
theorem dL_mean_19 : decode cL_mean 19 = .ok (.astore 7, 2) := by decide +kernel
theorem dL_mean_21 : decode cL_mean 21 = .ok (.iconst 2, 1) := by decide +kernel
theorem dL_mean_22 : decode cL_mean 22 = .ok (.ireturn, 1) := by decide +kernel
theorem dL_mean_23 : decode cL_mean 23 = .ok (.astore 7, 2) := by decide +kernel
theorem dL_mean_25 : decode cL_mean 25 = .ok (.iconst 3, 1) := by decide +kernel
theorem dL_mean_26 : decode cL_mean 26 = .ok (.ireturn, 1) := by decide +kernel
theorem dL_mean_27 : decode cL_mean 27 = .ok (.iconst 0, 1) := by decide +kernel
theorem dL_mean_28 : decode cL_mean 28 = .ok (.ireturn, 1) := by decide +kernel
theorem dL_rollupCount_0 : decode cL_rollupCount 0 = .ok (.aload_n 3, 1) := by decide +kernel
theorem dL_rollupCount_1 : decode cL_rollupCount 1 = .ok (.iconst 0, 1) := by decide +kernel
theorem dL_rollupCount_2 : decode cL_rollupCount 2 = .ok (.aload_n 0, 1) := by decide +kernel
theorem dL_rollupCount_3 : decode cL_rollupCount 3 = .ok (.iload_n 1, 1) := by decide +kernel
theorem dL_rollupCount_4 : decode cL_rollupCount 4 = .ok (.iload_n 2, 1) := by decide +kernel
theorem dL_rollupCount_5 : decode cL_rollupCount 5 = .ok (.invokevirtual 77, 3) := by decide +kernel
theorem dL_rollupCount_8 : decode cL_rollupCount 8 = .ok (.i2l, 1) := by decide +kernel
theorem dL_rollupCount_9 : decode cL_rollupCount 9 = .ok (.lastore, 1) := by decide +kernel
theorem dL_rollupCount_10 : decode cL_rollupCount 10 = .ok (.goto 11, 3) := by decide +kernel
theorem dL_rollupCount_13 : decode cL_rollupCount 13 = .ok (.astore 4, 2) := by decide +kernel
theorem dL_rollupCount_15 : decode cL_rollupCount 15 = .ok (.iconst 1, 1) := by decide +kernel
theorem dL_rollupCount_16 : decode cL_rollupCount 16 = .ok (.ireturn, 1) := by decide +kernel
theorem dL_rollupCount_17 : decode cL_rollupCount 17 = .ok (.astore 4, 2) := by decide +kernel
theorem dL_rollupCount_19 : decode cL_rollupCount 19 = .ok (.iconst 2, 1) := by decide +kernel
theorem dL_rollupCount_20 : decode cL_rollupCount 20 = .ok (.ireturn, 1) := by decide +kernel
theorem dL_rollupCount_21 : decode cL_rollupCount 21 = .ok (.iconst 0, 1) := by decide +kernel
theorem dL_rollupCount_22 : decode cL_rollupCount 22 = .ok (.ireturn, 1) := by decide +kernel
theorem dL_countLow_0 : decode cL_countLow 0 = .ok (.aload 6, 2) := by decide +kernel
theorem dL_countLow_2 : decode cL_countLow 2 = .ok (.iconst 0, 1) := by decide +kernel
theorem dL_countLow_3 : decode cL_countLow 3 = .ok (.aload_n 0, 1) := by decide +kernel
theorem dL_countLow_4 : decode cL_countLow 4 = .ok (.iload_n 1, 1) := by decide +kernel
theorem dL_countLow_5 : decode cL_countLow 5 = .ok (.lload_n 2, 1) := by decide +kernel
theorem dL_countLow_6 : decode cL_countLow 6 = .ok (.lload 4, 2) := by decide +kernel
theorem dL_countLow_8 : decode cL_countLow 8 = .ok (.invokevirtual 80, 3) := by decide +kernel
theorem dL_countLow_11 : decode cL_countLow 11 = .ok (.i2l, 1) := by decide +kernel
theorem dL_countLow_12 : decode cL_countLow 12 = .ok (.lastore, 1) := by decide +kernel
theorem dL_countLow_13 : decode cL_countLow 13 = .ok (.goto 11, 3) := by decide +kernel
theorem dL_countLow_16 : decode cL_countLow 16 = .ok (.astore 7, 2) := by decide +kernel
theorem dL_countLow_18 : decode cL_countLow 18 = .ok (.iconst 1, 1) := by decide +kernel
theorem dL_countLow_19 : decode cL_countLow 19 = .ok (.ireturn, 1) := by decide +kernel
theorem dL_countLow_20 : decode cL_countLow 20 = .ok (.astore 7, 2) := by decide +kernel
theorem dL_countLow_22 : decode cL_countLow 22 = .ok (.iconst 2, 1) := by decide +kernel
theorem dL_countLow_23 : decode cL_countLow 23 = .ok (.ireturn, 1) := by decide +kernel
theorem dL_countLow_24 : decode cL_countLow 24 = .ok (.iconst 0, 1) := by decide +kernel
theorem dL_countLow_25 : decode cL_countLow 25 = .ok (.ireturn, 1) := by decide +kernel
theorem dL_countHigh_0 : decode cL_countHigh 0 = .ok (.aload 6, 2) := by decide +kernel
theorem dL_countHigh_2 : decode cL_countHigh 2 = .ok (.iconst 0, 1) := by decide +kernel
theorem dL_countHigh_3 : decode cL_countHigh 3 = .ok (.aload_n 0, 1) := by decide +kernel
theorem dL_countHigh_4 : decode cL_countHigh 4 = .ok (.iload_n 1, 1) := by decide +kernel
theorem dL_countHigh_5 : decode cL_countHigh 5 = .ok (.lload_n 2, 1) := by decide +kernel
theorem dL_countHigh_6 : decode cL_countHigh 6 = .ok (.lload 4, 2) := by decide +kernel
theorem dL_countHigh_8 : decode cL_countHigh 8 = .ok (.invokevirtual 83, 3) := by decide +kernel
theorem dL_countHigh_11 : decode cL_countHigh 11 = .ok (.i2l, 1) := by decide +kernel
theorem dL_countHigh_12 : decode cL_countHigh 12 = .ok (.lastore, 1) := by decide +kernel
theorem dL_countHigh_13 : decode cL_countHigh 13 = .ok (.goto 11, 3) := by decide +kernel
theorem dL_countHigh_16 : decode cL_countHigh 16 = .ok (.astore 7, 2) := by decide +kernel
theorem dL_countHigh_18 : decode cL_countHigh 18 = .ok (.iconst 1, 1) := by decide +kernel
theorem dL_countHigh_19 : decode cL_countHigh 19 = .ok (.ireturn, 1) := by decide +kernel
theorem dL_countHigh_20 : decode cL_countHigh 20 = .ok (.astore 7, 2) := by decide +kernel
theorem dL_countHigh_22 : decode cL_countHigh 22 = .ok (.iconst 2, 1) := by decide +kernel
theorem dL_countHigh_23 : decode cL_countHigh 23 = .ok (.ireturn, 1) := by decide +kernel
theorem dL_countHigh_24 : decode cL_countHigh 24 = .ok (.iconst 0, 1) := by decide +kernel
theorem dL_countHigh_25 : decode cL_countHigh 25 = .ok (.ireturn, 1) := by decide +kernel
theorem dL_maximumHigh_0 : decode cL_maximumHigh 0 = .ok (.aload 6, 2) := by decide +kernel
theorem dL_maximumHigh_2 : decode cL_maximumHigh 2 = .ok (.iconst 0, 1) := by decide +kernel
theorem dL_maximumHigh_3 : decode cL_maximumHigh 3 = .ok (.aload_n 0, 1) := by decide +kernel
theorem dL_maximumHigh_4 : decode cL_maximumHigh 4 = .ok (.iload_n 1, 1) := by decide +kernel
theorem dL_maximumHigh_5 : decode cL_maximumHigh 5 = .ok (.lload_n 2, 1) := by decide +kernel
theorem dL_maximumHigh_6 : decode cL_maximumHigh 6 = .ok (.lload 4, 2) := by decide +kernel
theorem dL_maximumHigh_8 : decode cL_maximumHigh 8 = .ok (.invokevirtual 86, 3) := by decide +kernel
theorem dL_maximumHigh_11 : decode cL_maximumHigh 11 = .ok (.i2l, 1) := by decide +kernel
theorem dL_maximumHigh_12 : decode cL_maximumHigh 12 = .ok (.lastore, 1) := by decide +kernel
theorem dL_maximumHigh_13 : decode cL_maximumHigh 13 = .ok (.goto 15, 3) := by decide +kernel
theorem dL_maximumHigh_16 : decode cL_maximumHigh 16 = .ok (.astore 7, 2) := by decide +kernel
theorem dL_maximumHigh_18 : decode cL_maximumHigh 18 = .ok (.iconst 1, 1) := by decide +kernel
theorem dL_maximumHigh_19 : decode cL_maximumHigh 19 = .ok (.ireturn, 1) := by decide +kernel
theorem dL_maximumHigh_20 : decode cL_maximumHigh 20 = .ok (.astore 7, 2) := by decide +kernel
theorem dL_maximumHigh_22 : decode cL_maximumHigh 22 = .ok (.iconst 2, 1) := by decide +kernel
theorem dL_maximumHigh_23 : decode cL_maximumHigh 23 = .ok (.ireturn, 1) := by decide +kernel
theorem dL_maximumHigh_24 : decode cL_maximumHigh 24 = .ok (.astore 7, 2) := by decide +kernel
theorem dL_maximumHigh_26 : decode cL_maximumHigh 26 = .ok (.iconst 3, 1) := by decide +kernel
theorem dL_maximumHigh_27 : decode cL_maximumHigh 27 = .ok (.ireturn, 1) := by decide +kernel
theorem dL_maximumHigh_28 : decode cL_maximumHigh 28 = .ok (.iconst 0, 1) := by decide +kernel
theorem dL_maximumHigh_29 : decode cL_maximumHigh 29 = .ok (.ireturn, 1) := by decide +kernel
theorem dL_quantile_0 : decode cL_quantile 0 = .ok (.aload_n 3, 1) := by decide +kernel
theorem dL_quantile_1 : decode cL_quantile 1 = .ok (.iconst 0, 1) := by decide +kernel
theorem dL_quantile_2 : decode cL_quantile 2 = .ok (.aload_n 0, 1) := by decide +kernel
theorem dL_quantile_3 : decode cL_quantile 3 = .ok (.iload_n 1, 1) := by decide +kernel
theorem dL_quantile_4 : decode cL_quantile 4 = .ok (.iload_n 2, 1) := by decide +kernel
theorem dL_quantile_5 : decode cL_quantile 5 = .ok (.invokevirtual 89, 3) := by decide +kernel
theorem dL_quantile_8 : decode cL_quantile 8 = .ok (.i2l, 1) := by decide +kernel
theorem dL_quantile_9 : decode cL_quantile 9 = .ok (.lastore, 1) := by decide +kernel
theorem dL_quantile_10 : decode cL_quantile 10 = .ok (.goto 15, 3) := by decide +kernel
theorem dL_quantile_13 : decode cL_quantile 13 = .ok (.astore 4, 2) := by decide +kernel
theorem dL_quantile_15 : decode cL_quantile 15 = .ok (.iconst 1, 1) := by decide +kernel
theorem dL_quantile_16 : decode cL_quantile 16 = .ok (.ireturn, 1) := by decide +kernel
theorem dL_quantile_17 : decode cL_quantile 17 = .ok (.astore 4, 2) := by decide +kernel
theorem dL_quantile_19 : decode cL_quantile 19 = .ok (.iconst 2, 1) := by decide +kernel
theorem dL_quantile_20 : decode cL_quantile 20 = .ok (.ireturn, 1) := by decide +kernel
theorem dL_quantile_21 : decode cL_quantile 21 = .ok (.astore 4, 2) := by decide +kernel
theorem dL_quantile_23 : decode cL_quantile 23 = .ok (.iconst 3, 1) := by decide +kernel
theorem dL_quantile_24 : decode cL_quantile 24 = .ok (.ireturn, 1) := by decide +kernel
theorem dL_quantile_25 : decode cL_quantile 25 = .ok (.iconst 0, 1) := by decide +kernel
theorem dL_quantile_26 : decode cL_quantile 26 = .ok (.ireturn, 1) := by decide +kernel
theorem dL_exactQuantile_0 : decode cL_exactQuantile 0 = .ok (.aload_n 3, 1) := by decide +kernel
theorem dL_exactQuantile_1 : decode cL_exactQuantile 1 = .ok (.iconst 0, 1) := by decide +kernel
theorem dL_exactQuantile_2 : decode cL_exactQuantile 2 = .ok (.aload_n 0, 1) := by decide +kernel
theorem dL_exactQuantile_3 : decode cL_exactQuantile 3 = .ok (.iload_n 1, 1) := by decide +kernel
theorem dL_exactQuantile_4 : decode cL_exactQuantile 4 = .ok (.iload_n 2, 1) := by decide +kernel
theorem dL_exactQuantile_5 : decode cL_exactQuantile 5 = .ok (.invokevirtual 92, 3) := by decide +kernel
theorem dL_exactQuantile_8 : decode cL_exactQuantile 8 = .ok (.i2l, 1) := by decide +kernel
theorem dL_exactQuantile_9 : decode cL_exactQuantile 9 = .ok (.lastore, 1) := by decide +kernel
theorem dL_exactQuantile_10 : decode cL_exactQuantile 10 = .ok (.goto 15, 3) := by decide +kernel
theorem dL_exactQuantile_13 : decode cL_exactQuantile 13 = .ok (.astore 4, 2) := by decide +kernel
theorem dL_exactQuantile_15 : decode cL_exactQuantile 15 = .ok (.iconst 1, 1) := by decide +kernel
theorem dL_exactQuantile_16 : decode cL_exactQuantile 16 = .ok (.ireturn, 1) := by decide +kernel
theorem dL_exactQuantile_17 : decode cL_exactQuantile 17 = .ok (.astore 4, 2) := by decide +kernel
theorem dL_exactQuantile_19 : decode cL_exactQuantile 19 = .ok (.iconst 2, 1) := by decide +kernel
theorem dL_exactQuantile_20 : decode cL_exactQuantile 20 = .ok (.ireturn, 1) := by decide +kernel
theorem dL_exactQuantile_21 : decode cL_exactQuantile 21 = .ok (.astore 4, 2) := by decide +kernel
theorem dL_exactQuantile_23 : decode cL_exactQuantile 23 = .ok (.iconst 3, 1) := by decide +kernel
theorem dL_exactQuantile_24 : decode cL_exactQuantile 24 = .ok (.ireturn, 1) := by decide +kernel
theorem dL_exactQuantile_25 : decode cL_exactQuantile 25 = .ok (.iconst 0, 1) := by decide +kernel
theorem dL_exactQuantile_26 : decode cL_exactQuantile 26 = .ok (.ireturn, 1) := by decide +kernel
theorem dL_bound_0 : decode cL_bound 0 = .ok (.aload_n 2, 1) := by decide +kernel
theorem dL_bound_1 : decode cL_bound 1 = .ok (.iconst 0, 1) := by decide +kernel
theorem dL_bound_2 : decode cL_bound 2 = .ok (.aload_n 0, 1) := by decide +kernel
theorem dL_bound_3 : decode cL_bound 3 = .ok (.iload_n 1, 1) := by decide +kernel
theorem dL_bound_4 : decode cL_bound 4 = .ok (.invokevirtual 95, 3) := by decide +kernel
theorem dL_bound_7 : decode cL_bound 7 = .ok (.i2l, 1) := by decide +kernel
theorem dL_bound_8 : decode cL_bound 8 = .ok (.lastore, 1) := by decide +kernel
theorem dL_bound_9 : decode cL_bound 9 = .ok (.goto 6, 3) := by decide +kernel
theorem dL_bound_12 : decode cL_bound 12 = .ok (.astore_n 3, 1) := by decide +kernel
theorem dL_bound_13 : decode cL_bound 13 = .ok (.iconst 1, 1) := by decide +kernel
theorem dL_bound_14 : decode cL_bound 14 = .ok (.ireturn, 1) := by decide +kernel
theorem dL_bound_15 : decode cL_bound 15 = .ok (.iconst 0, 1) := by decide +kernel
theorem dL_bound_16 : decode cL_bound 16 = .ok (.ireturn, 1) := by decide +kernel
theorem dL_held_0 : decode cL_held 0 = .ok (.aload_n 2, 1) := by decide +kernel
theorem dL_held_1 : decode cL_held 1 = .ok (.iconst 0, 1) := by decide +kernel
theorem dL_held_2 : decode cL_held 2 = .ok (.aload_n 0, 1) := by decide +kernel
theorem dL_held_3 : decode cL_held 3 = .ok (.iload_n 1, 1) := by decide +kernel
theorem dL_held_4 : decode cL_held 4 = .ok (.invokevirtual 98, 3) := by decide +kernel
theorem dL_held_7 : decode cL_held 7 = .ok (.i2l, 1) := by decide +kernel
theorem dL_held_8 : decode cL_held 8 = .ok (.lastore, 1) := by decide +kernel
theorem dL_held_9 : decode cL_held 9 = .ok (.goto 6, 3) := by decide +kernel
theorem dL_held_12 : decode cL_held 12 = .ok (.astore_n 3, 1) := by decide +kernel
theorem dL_held_13 : decode cL_held 13 = .ok (.iconst 1, 1) := by decide +kernel
theorem dL_held_14 : decode cL_held 14 = .ok (.ireturn, 1) := by decide +kernel
theorem dL_held_15 : decode cL_held 15 = .ok (.iconst 0, 1) := by decide +kernel
theorem dL_held_16 : decode cL_held 16 = .ok (.ireturn, 1) := by decide +kernel
theorem dL_isWithin_0 : decode cL_isWithin 0 = .ok (.aload_n 3, 1) := by decide +kernel
theorem dL_isWithin_1 : decode cL_isWithin 1 = .ok (.iconst 0, 1) := by decide +kernel
theorem dL_isWithin_2 : decode cL_isWithin 2 = .ok (.aload_n 0, 1) := by decide +kernel
theorem dL_isWithin_3 : decode cL_isWithin 3 = .ok (.iload_n 1, 1) := by decide +kernel
theorem dL_isWithin_4 : decode cL_isWithin 4 = .ok (.iload_n 2, 1) := by decide +kernel
theorem dL_isWithin_5 : decode cL_isWithin 5 = .ok (.invokevirtual 101, 3) := by decide +kernel
theorem dL_isWithin_8 : decode cL_isWithin 8 = .ok (.ifCond .eq 7, 3) := by decide +kernel
theorem dL_isWithin_11 : decode cL_isWithin 11 = .ok (.lconst 1, 1) := by decide +kernel
theorem dL_isWithin_12 : decode cL_isWithin 12 = .ok (.goto 4, 3) := by decide +kernel
theorem dL_isWithin_15 : decode cL_isWithin 15 = .ok (.lconst 0, 1) := by decide +kernel
theorem dL_isWithin_16 : decode cL_isWithin 16 = .ok (.lastore, 1) := by decide +kernel
theorem dL_isWithin_17 : decode cL_isWithin 17 = .ok (.goto 15, 3) := by decide +kernel
theorem dL_isWithin_20 : decode cL_isWithin 20 = .ok (.astore 4, 2) := by decide +kernel
theorem dL_isWithin_22 : decode cL_isWithin 22 = .ok (.iconst 1, 1) := by decide +kernel
theorem dL_isWithin_23 : decode cL_isWithin 23 = .ok (.ireturn, 1) := by decide +kernel
theorem dL_isWithin_24 : decode cL_isWithin 24 = .ok (.astore 4, 2) := by decide +kernel
theorem dL_isWithin_26 : decode cL_isWithin 26 = .ok (.iconst 2, 1) := by decide +kernel
theorem dL_isWithin_27 : decode cL_isWithin 27 = .ok (.ireturn, 1) := by decide +kernel
theorem dL_isWithin_28 : decode cL_isWithin 28 = .ok (.astore 4, 2) := by decide +kernel
theorem dL_isWithin_30 : decode cL_isWithin 30 = .ok (.iconst 3, 1) := by decide +kernel
theorem dL_isWithin_31 : decode cL_isWithin 31 = .ok (.ireturn, 1) := by decide +kernel
theorem dL_isWithin_32 : decode cL_isWithin 32 = .ok (.iconst 0, 1) := by decide +kernel
theorem dL_isWithin_33 : decode cL_isWithin 33 = .ok (.ireturn, 1) := by decide +kernel
theorem dL_setAlert_0 : decode cL_setAlert 0 = .ok (.aload 4, 2) := by decide +kernel
theorem dL_setAlert_2 : decode cL_setAlert 2 = .ok (.iconst 0, 1) := by decide +kernel
theorem dL_setAlert_3 : decode cL_setAlert 3 = .ok (.aload_n 0, 1) := by decide +kernel
theorem dL_setAlert_4 : decode cL_setAlert 4 = .ok (.iload_n 1, 1) := by decide +kernel
theorem dL_setAlert_5 : decode cL_setAlert 5 = .ok (.iload_n 2, 1) := by decide +kernel
theorem dL_setAlert_6 : decode cL_setAlert 6 = .ok (.iload_n 3, 1) := by decide +kernel
theorem dL_setAlert_7 : decode cL_setAlert 7 = .ok (.invokevirtual 105, 3) := by decide +kernel
theorem dL_setAlert_10 : decode cL_setAlert 10 = .ok (.i2l, 1) := by decide +kernel
theorem dL_setAlert_11 : decode cL_setAlert 11 = .ok (.lastore, 1) := by decide +kernel
theorem dL_setAlert_12 : decode cL_setAlert 12 = .ok (.goto 11, 3) := by decide +kernel
theorem dL_setAlert_15 : decode cL_setAlert 15 = .ok (.astore 5, 2) := by decide +kernel
theorem dL_setAlert_17 : decode cL_setAlert 17 = .ok (.iconst 1, 1) := by decide +kernel
theorem dL_setAlert_18 : decode cL_setAlert 18 = .ok (.ireturn, 1) := by decide +kernel
theorem dL_setAlert_19 : decode cL_setAlert 19 = .ok (.astore 5, 2) := by decide +kernel
theorem dL_setAlert_21 : decode cL_setAlert 21 = .ok (.iconst 2, 1) := by decide +kernel
theorem dL_setAlert_22 : decode cL_setAlert 22 = .ok (.ireturn, 1) := by decide +kernel
theorem dL_setAlert_23 : decode cL_setAlert 23 = .ok (.iconst 0, 1) := by decide +kernel
theorem dL_setAlert_24 : decode cL_setAlert 24 = .ok (.ireturn, 1) := by decide +kernel
theorem dL_removeAlert_0 : decode cL_removeAlert 0 = .ok (.aload_n 2, 1) := by decide +kernel
theorem dL_removeAlert_1 : decode cL_removeAlert 1 = .ok (.iconst 0, 1) := by decide +kernel
theorem dL_removeAlert_2 : decode cL_removeAlert 2 = .ok (.aload_n 0, 1) := by decide +kernel
theorem dL_removeAlert_3 : decode cL_removeAlert 3 = .ok (.iload_n 1, 1) := by decide +kernel
theorem dL_removeAlert_4 : decode cL_removeAlert 4 = .ok (.invokevirtual 109, 3) := by decide +kernel
theorem dL_removeAlert_7 : decode cL_removeAlert 7 = .ok (.i2l, 1) := by decide +kernel
theorem dL_removeAlert_8 : decode cL_removeAlert 8 = .ok (.lastore, 1) := by decide +kernel
theorem dL_removeAlert_9 : decode cL_removeAlert 9 = .ok (.goto 9, 3) := by decide +kernel
theorem dL_removeAlert_12 : decode cL_removeAlert 12 = .ok (.astore_n 3, 1) := by decide +kernel
theorem dL_removeAlert_13 : decode cL_removeAlert 13 = .ok (.iconst 1, 1) := by decide +kernel
theorem dL_removeAlert_14 : decode cL_removeAlert 14 = .ok (.ireturn, 1) := by decide +kernel
theorem dL_removeAlert_15 : decode cL_removeAlert 15 = .ok (.astore_n 3, 1) := by decide +kernel
theorem dL_removeAlert_16 : decode cL_removeAlert 16 = .ok (.iconst 2, 1) := by decide +kernel
theorem dL_removeAlert_17 : decode cL_removeAlert 17 = .ok (.ireturn, 1) := by decide +kernel
theorem dL_removeAlert_18 : decode cL_removeAlert 18 = .ok (.iconst 0, 1) := by decide +kernel
theorem dL_removeAlert_19 : decode cL_removeAlert 19 = .ok (.ireturn, 1) := by decide +kernel
theorem dL_alertOf_0 : decode cL_alertOf 0 = .ok (.aload_n 2, 1) := by decide +kernel
theorem dL_alertOf_1 : decode cL_alertOf 1 = .ok (.iconst 0, 1) := by decide +kernel
theorem dL_alertOf_2 : decode cL_alertOf 2 = .ok (.aload_n 0, 1) := by decide +kernel
theorem dL_alertOf_3 : decode cL_alertOf 3 = .ok (.iload_n 1, 1) := by decide +kernel
theorem dL_alertOf_4 : decode cL_alertOf 4 = .ok (.invokevirtual 113, 3) := by decide +kernel
theorem dL_alertOf_7 : decode cL_alertOf 7 = .ok (.i2l, 1) := by decide +kernel
theorem dL_alertOf_8 : decode cL_alertOf 8 = .ok (.lastore, 1) := by decide +kernel
theorem dL_alertOf_9 : decode cL_alertOf 9 = .ok (.goto 9, 3) := by decide +kernel
theorem dL_alertOf_12 : decode cL_alertOf 12 = .ok (.astore_n 3, 1) := by decide +kernel
theorem dL_alertOf_13 : decode cL_alertOf 13 = .ok (.iconst 1, 1) := by decide +kernel
theorem dL_alertOf_14 : decode cL_alertOf 14 = .ok (.ireturn, 1) := by decide +kernel
theorem dL_alertOf_15 : decode cL_alertOf 15 = .ok (.astore_n 3, 1) := by decide +kernel
theorem dL_alertOf_16 : decode cL_alertOf 16 = .ok (.iconst 2, 1) := by decide +kernel
theorem dL_alertOf_17 : decode cL_alertOf 17 = .ok (.ireturn, 1) := by decide +kernel
theorem dL_alertOf_18 : decode cL_alertOf 18 = .ok (.iconst 0, 1) := by decide +kernel
theorem dL_alertOf_19 : decode cL_alertOf 19 = .ok (.ireturn, 1) := by decide +kernel
theorem dL_joinCount_0 : decode cL_joinCount 0 = .ok (.aload_n 3, 1) := by decide +kernel
theorem dL_joinCount_1 : decode cL_joinCount 1 = .ok (.iconst 0, 1) := by decide +kernel
theorem dL_joinCount_2 : decode cL_joinCount 2 = .ok (.aload_n 0, 1) := by decide +kernel
theorem dL_joinCount_3 : decode cL_joinCount 3 = .ok (.iload_n 1, 1) := by decide +kernel
theorem dL_joinCount_4 : decode cL_joinCount 4 = .ok (.iload_n 2, 1) := by decide +kernel
theorem dL_joinCount_5 : decode cL_joinCount 5 = .ok (.invokevirtual 116, 3) := by decide +kernel
theorem dL_joinCount_8 : decode cL_joinCount 8 = .ok (.i2l, 1) := by decide +kernel
theorem dL_joinCount_9 : decode cL_joinCount 9 = .ok (.lastore, 1) := by decide +kernel
theorem dL_joinCount_10 : decode cL_joinCount 10 = .ok (.goto 7, 3) := by decide +kernel
theorem dL_joinCount_13 : decode cL_joinCount 13 = .ok (.astore 4, 2) := by decide +kernel
theorem dL_joinCount_15 : decode cL_joinCount 15 = .ok (.iconst 1, 1) := by decide +kernel
theorem dL_joinCount_16 : decode cL_joinCount 16 = .ok (.ireturn, 1) := by decide +kernel
theorem dL_joinCount_17 : decode cL_joinCount 17 = .ok (.iconst 0, 1) := by decide +kernel
theorem dL_joinCount_18 : decode cL_joinCount 18 = .ok (.ireturn, 1) := by decide +kernel
theorem dL_joinSum_0 : decode cL_joinSum 0 = .ok (.aload_n 3, 1) := by decide +kernel
theorem dL_joinSum_1 : decode cL_joinSum 1 = .ok (.iconst 0, 1) := by decide +kernel
theorem dL_joinSum_2 : decode cL_joinSum 2 = .ok (.aload_n 0, 1) := by decide +kernel
theorem dL_joinSum_3 : decode cL_joinSum 3 = .ok (.iload_n 1, 1) := by decide +kernel
theorem dL_joinSum_4 : decode cL_joinSum 4 = .ok (.iload_n 2, 1) := by decide +kernel
theorem dL_joinSum_5 : decode cL_joinSum 5 = .ok (.invokevirtual 119, 3) := by decide +kernel
theorem dL_joinSum_8 : decode cL_joinSum 8 = .ok (.lastore, 1) := by decide +kernel
theorem dL_joinSum_9 : decode cL_joinSum 9 = .ok (.goto 7, 3) := by decide +kernel
theorem dL_joinSum_12 : decode cL_joinSum 12 = .ok (.astore 4, 2) := by decide +kernel
theorem dL_joinSum_14 : decode cL_joinSum 14 = .ok (.iconst 1, 1) := by decide +kernel
theorem dL_joinSum_15 : decode cL_joinSum 15 = .ok (.ireturn, 1) := by decide +kernel
theorem dL_joinSum_16 : decode cL_joinSum 16 = .ok (.iconst 0, 1) := by decide +kernel
theorem dL_joinSum_17 : decode cL_joinSum 17 = .ok (.ireturn, 1) := by decide +kernel
theorem dL_firingShare_0 : decode cL_firingShare 0 = .ok (.aload_n 1, 1) := by decide +kernel
theorem dL_firingShare_1 : decode cL_firingShare 1 = .ok (.iconst 0, 1) := by decide +kernel
theorem dL_firingShare_2 : decode cL_firingShare 2 = .ok (.aload_n 0, 1) := by decide +kernel
theorem dL_firingShare_3 : decode cL_firingShare 3 = .ok (.invokevirtual 122, 3) := by decide +kernel
theorem dL_firingShare_6 : decode cL_firingShare 6 = .ok (.f2d, 1) := by decide +kernel
theorem dL_firingShare_7 : decode cL_firingShare 7 = .ok (.dastore, 1) := by decide +kernel
theorem dL_firingShare_8 : decode cL_firingShare 8 = .ok (.goto 6, 3) := by decide +kernel
theorem dL_firingShare_11 : decode cL_firingShare 11 = .ok (.astore_n 2, 1) := by decide +kernel
theorem dL_firingShare_12 : decode cL_firingShare 12 = .ok (.iconst 1, 1) := by decide +kernel
theorem dL_firingShare_13 : decode cL_firingShare 13 = .ok (.ireturn, 1) := by decide +kernel
theorem dL_firingShare_14 : decode cL_firingShare 14 = .ok (.iconst 0, 1) := by decide +kernel
theorem dL_firingShare_15 : decode cL_firingShare 15 = .ok (.ireturn, 1) := by decide +kernel
theorem dL_law_0 : decode cL_law 0 = .ok (.new 8, 3) := by decide +kernel
theorem dL_law_3 : decode cL_law 3 = .ok (.dup, 1) := by decide +kernel
theorem dL_law_4 : decode cL_law 4 = .ok (.invokespecial 126, 3) := by decide +kernel
theorem dL_law_7 : decode cL_law 7 = .ok (.astore_n 1, 1) := by decide +kernel
theorem dL_law_8 : decode cL_law 8 = .ok (.new 127, 3) := by decide +kernel
theorem dL_law_11 : decode cL_law 11 = .ok (.dup, 1) := by decide +kernel
theorem dL_law_12 : decode cL_law 12 = .ok (.invokespecial 129, 3) := by decide +kernel
theorem dL_law_15 : decode cL_law 15 = .ok (.astore_n 2, 1) := by decide +kernel
theorem dL_law_16 : decode cL_law 16 = .ok (.iconst 1, 1) := by decide +kernel
theorem dL_law_17 : decode cL_law 17 = .ok (.newarray .long, 2) := by decide +kernel
theorem dL_law_19 : decode cL_law 19 = .ok (.astore_n 3, 1) := by decide +kernel
theorem dL_law_20 : decode cL_law 20 = .ok (.iconst 1, 1) := by decide +kernel
theorem dL_law_21 : decode cL_law 21 = .ok (.newarray .double, 2) := by decide +kernel
theorem dL_law_23 : decode cL_law 23 = .ok (.astore 4, 2) := by decide +kernel
theorem dL_law_25 : decode cL_law 25 = .ok (.iconst 0, 1) := by decide +kernel
theorem dL_law_26 : decode cL_law 26 = .ok (.istore 5, 2) := by decide +kernel
theorem dL_law_28 : decode cL_law 28 = .ok (.iload 5, 2) := by decide +kernel
theorem dL_law_30 : decode cL_law 30 = .ok (.aload_n 0, 1) := by decide +kernel
theorem dL_law_31 : decode cL_law 31 = .ok (.arraylength, 1) := by decide +kernel
theorem dL_law_32 : decode cL_law 32 = .ok (.bipush 6, 2) := by decide +kernel
theorem dL_law_34 : decode cL_law 34 = .ok (.isub, 1) := by decide +kernel
theorem dL_law_35 : decode cL_law 35 = .ok (.if_icmp .gt 2943, 3) := by decide +kernel
theorem dL_law_38 : decode cL_law 38 = .ok (.aload_n 0, 1) := by decide +kernel
theorem dL_law_39 : decode cL_law 39 = .ok (.iload 5, 2) := by decide +kernel
theorem dL_law_41 : decode cL_law 41 = .ok (.iaload, 1) := by decide +kernel
theorem dL_law_42 : decode cL_law 42 = .ok (.bipush 63, 2) := by decide +kernel
theorem dL_law_44 : decode cL_law 44 = .ok (.iand, 1) := by decide +kernel
theorem dL_law_45 : decode cL_law 45 = .ok (.tableswitch 2927 0 36 #[163, 231, 286, 354, 368, 381, 449, 505, 561, 617, 673, 729, 797, 864, 932, 946, 1090, 1233, 1376, 1520, 1685, 1753, 1897, 2041, 2185, 2253, 2321, 2377, 2433, 2508, 2588, 2644, 2700, 2713, 2781, 2848, 2914], 163) := by decide +kernel
theorem dL_law_208 : decode cL_law 208 = .ok (.aload_n 1, 1) := by decide +kernel
theorem dL_law_209 : decode cL_law 209 = .ok (.aload_n 0, 1) := by decide +kernel
theorem dL_law_210 : decode cL_law 210 = .ok (.iload 5, 2) := by decide +kernel
theorem dL_law_212 : decode cL_law 212 = .ok (.iconst 1, 1) := by decide +kernel
theorem dL_law_213 : decode cL_law 213 = .ok (.iadd, 1) := by decide +kernel
theorem dL_law_214 : decode cL_law 214 = .ok (.iaload, 1) := by decide +kernel
theorem dL_law_215 : decode cL_law 215 = .ok (.aload_n 0, 1) := by decide +kernel
theorem dL_law_216 : decode cL_law 216 = .ok (.iload 5, 2) := by decide +kernel
theorem dL_law_218 : decode cL_law 218 = .ok (.iconst 2, 1) := by decide +kernel
theorem dL_law_219 : decode cL_law 219 = .ok (.iadd, 1) := by decide +kernel
theorem dL_law_220 : decode cL_law 220 = .ok (.iaload, 1) := by decide +kernel
theorem dL_law_221 : decode cL_law 221 = .ok (.aload_n 3, 1) := by decide +kernel
theorem dL_law_222 : decode cL_law 222 = .ok (.invokestatic 130, 3) := by decide +kernel
theorem dL_law_225 : decode cL_law 225 = .ok (.istore 6, 2) := by decide +kernel
theorem dL_law_227 : decode cL_law 227 = .ok (.aload_n 2, 1) := by decide +kernel
theorem dL_law_228 : decode cL_law 228 = .ok (.aload_n 0, 1) := by decide +kernel
theorem dL_law_229 : decode cL_law 229 = .ok (.iload 5, 2) := by decide +kernel
theorem dL_law_231 : decode cL_law 231 = .ok (.iconst 1, 1) := by decide +kernel
theorem dL_law_232 : decode cL_law 232 = .ok (.iadd, 1) := by decide +kernel
theorem dL_law_233 : decode cL_law 233 = .ok (.iaload, 1) := by decide +kernel
theorem dL_law_234 : decode cL_law 234 = .ok (.aload_n 0, 1) := by decide +kernel
theorem dL_law_235 : decode cL_law 235 = .ok (.iload 5, 2) := by decide +kernel
theorem dL_law_237 : decode cL_law 237 = .ok (.iconst 2, 1) := by decide +kernel
theorem dL_law_238 : decode cL_law 238 = .ok (.iadd, 1) := by decide +kernel
theorem dL_law_239 : decode cL_law 239 = .ok (.iaload, 1) := by decide +kernel
theorem dL_law_240 : decode cL_law 240 = .ok (.invokevirtual 135, 3) := by decide +kernel
theorem dL_law_243 : decode cL_law 243 = .ok (.istore 7, 2) := by decide +kernel
theorem dL_law_245 : decode cL_law 245 = .ok (.aload_n 2, 1) := by decide +kernel
theorem dL_law_246 : decode cL_law 246 = .ok (.invokevirtual 136, 3) := by decide +kernel
theorem dL_law_249 : decode cL_law 249 = .ok (.iload 6, 2) := by decide +kernel
theorem dL_law_251 : decode cL_law 251 = .ok (.if_icmp .eq 5, 3) := by decide +kernel
theorem dL_law_254 : decode cL_law 254 = .ok (.iconst 0, 1) := by decide +kernel
theorem dL_law_255 : decode cL_law 255 = .ok (.ireturn, 1) := by decide +kernel
theorem dL_law_256 : decode cL_law 256 = .ok (.iload 6, 2) := by decide +kernel
theorem dL_law_258 : decode cL_law 258 = .ok (.ifCond .ne 15, 3) := by decide +kernel
theorem dL_law_261 : decode cL_law 261 = .ok (.aload_n 3, 1) := by decide +kernel
theorem dL_law_262 : decode cL_law 262 = .ok (.iconst 0, 1) := by decide +kernel
theorem dL_law_263 : decode cL_law 263 = .ok (.laload, 1) := by decide +kernel
theorem dL_law_264 : decode cL_law 264 = .ok (.iload 7, 2) := by decide +kernel
theorem dL_law_266 : decode cL_law 266 = .ok (.i2l, 1) := by decide +kernel
theorem dL_law_267 : decode cL_law 267 = .ok (.lcmp, 1) := by decide +kernel
theorem dL_law_268 : decode cL_law 268 = .ok (.ifCond .eq 5, 3) := by decide +kernel
theorem dL_law_271 : decode cL_law 271 = .ok (.iconst 0, 1) := by decide +kernel
theorem dL_law_272 : decode cL_law 272 = .ok (.ireturn, 1) := by decide +kernel
theorem dL_law_273 : decode cL_law 273 = .ok (.goto 2699, 3) := by decide +kernel
theorem dL_law_276 : decode cL_law 276 = .ok (.aload_n 1, 1) := by decide +kernel
theorem dL_law_277 : decode cL_law 277 = .ok (.aload_n 0, 1) := by decide +kernel
theorem dL_law_278 : decode cL_law 278 = .ok (.iload 5, 2) := by decide +kernel
theorem dL_law_280 : decode cL_law 280 = .ok (.iconst 1, 1) := by decide +kernel
theorem dL_law_281 : decode cL_law 281 = .ok (.iadd, 1) := by decide +kernel
theorem dL_law_282 : decode cL_law 282 = .ok (.iaload, 1) := by decide +kernel
theorem dL_law_283 : decode cL_law 283 = .ok (.aload_n 3, 1) := by decide +kernel
theorem dL_law_284 : decode cL_law 284 = .ok (.invokestatic 140, 3) := by decide +kernel
theorem dL_law_287 : decode cL_law 287 = .ok (.istore 6, 2) := by decide +kernel
theorem dL_law_289 : decode cL_law 289 = .ok (.aload_n 2, 1) := by decide +kernel
theorem dL_law_290 : decode cL_law 290 = .ok (.aload_n 0, 1) := by decide +kernel
theorem dL_law_291 : decode cL_law 291 = .ok (.iload 5, 2) := by decide +kernel
theorem dL_law_293 : decode cL_law 293 = .ok (.iconst 1, 1) := by decide +kernel
theorem dL_law_294 : decode cL_law 294 = .ok (.iadd, 1) := by decide +kernel
theorem dL_law_295 : decode cL_law 295 = .ok (.iaload, 1) := by decide +kernel
theorem dL_law_296 : decode cL_law 296 = .ok (.invokevirtual 143, 3) := by decide +kernel
theorem dL_law_299 : decode cL_law 299 = .ok (.lstore 7, 2) := by decide +kernel
theorem dL_law_301 : decode cL_law 301 = .ok (.aload_n 2, 1) := by decide +kernel
theorem dL_law_302 : decode cL_law 302 = .ok (.invokevirtual 136, 3) := by decide +kernel
theorem dL_law_305 : decode cL_law 305 = .ok (.iload 6, 2) := by decide +kernel
theorem dL_law_307 : decode cL_law 307 = .ok (.if_icmp .eq 5, 3) := by decide +kernel
theorem dL_law_310 : decode cL_law 310 = .ok (.iconst 0, 1) := by decide +kernel
theorem dL_law_311 : decode cL_law 311 = .ok (.ireturn, 1) := by decide +kernel
theorem dL_law_312 : decode cL_law 312 = .ok (.iload 6, 2) := by decide +kernel
theorem dL_law_314 : decode cL_law 314 = .ok (.ifCond .ne 14, 3) := by decide +kernel
theorem dL_law_317 : decode cL_law 317 = .ok (.aload_n 3, 1) := by decide +kernel
theorem dL_law_318 : decode cL_law 318 = .ok (.iconst 0, 1) := by decide +kernel
theorem dL_law_319 : decode cL_law 319 = .ok (.laload, 1) := by decide +kernel
theorem dL_law_320 : decode cL_law 320 = .ok (.lload 7, 2) := by decide +kernel
theorem dL_law_322 : decode cL_law 322 = .ok (.lcmp, 1) := by decide +kernel
theorem dL_law_323 : decode cL_law 323 = .ok (.ifCond .eq 5, 3) := by decide +kernel
theorem dL_law_326 : decode cL_law 326 = .ok (.iconst 0, 1) := by decide +kernel
theorem dL_law_327 : decode cL_law 327 = .ok (.ireturn, 1) := by decide +kernel
theorem dL_law_328 : decode cL_law 328 = .ok (.goto 2644, 3) := by decide +kernel
theorem dL_law_331 : decode cL_law 331 = .ok (.aload_n 1, 1) := by decide +kernel
theorem dL_law_332 : decode cL_law 332 = .ok (.aload_n 0, 1) := by decide +kernel
theorem dL_law_333 : decode cL_law 333 = .ok (.iload 5, 2) := by decide +kernel
theorem dL_law_335 : decode cL_law 335 = .ok (.iconst 1, 1) := by decide +kernel
theorem dL_law_336 : decode cL_law 336 = .ok (.iadd, 1) := by decide +kernel
theorem dL_law_337 : decode cL_law 337 = .ok (.iaload, 1) := by decide +kernel
theorem dL_law_338 : decode cL_law 338 = .ok (.aload_n 0, 1) := by decide +kernel
theorem dL_law_339 : decode cL_law 339 = .ok (.iload 5, 2) := by decide +kernel
theorem dL_law_341 : decode cL_law 341 = .ok (.iconst 2, 1) := by decide +kernel
theorem dL_law_342 : decode cL_law 342 = .ok (.iadd, 1) := by decide +kernel
theorem dL_law_343 : decode cL_law 343 = .ok (.iaload, 1) := by decide +kernel
theorem dL_law_344 : decode cL_law 344 = .ok (.aload_n 3, 1) := by decide +kernel
theorem dL_law_345 : decode cL_law 345 = .ok (.invokestatic 144, 3) := by decide +kernel
theorem dL_law_348 : decode cL_law 348 = .ok (.istore 6, 2) := by decide +kernel
theorem dL_law_350 : decode cL_law 350 = .ok (.aload_n 2, 1) := by decide +kernel
theorem dL_law_351 : decode cL_law 351 = .ok (.aload_n 0, 1) := by decide +kernel
theorem dL_law_352 : decode cL_law 352 = .ok (.iload 5, 2) := by decide +kernel
theorem dL_law_354 : decode cL_law 354 = .ok (.iconst 1, 1) := by decide +kernel
theorem dL_law_355 : decode cL_law 355 = .ok (.iadd, 1) := by decide +kernel
theorem dL_law_356 : decode cL_law 356 = .ok (.iaload, 1) := by decide +kernel
theorem dL_law_357 : decode cL_law 357 = .ok (.aload_n 0, 1) := by decide +kernel
theorem dL_law_358 : decode cL_law 358 = .ok (.iload 5, 2) := by decide +kernel
theorem dL_law_360 : decode cL_law 360 = .ok (.iconst 2, 1) := by decide +kernel
theorem dL_law_361 : decode cL_law 361 = .ok (.iadd, 1) := by decide +kernel
theorem dL_law_362 : decode cL_law 362 = .ok (.iaload, 1) := by decide +kernel
theorem dL_law_363 : decode cL_law 363 = .ok (.invokevirtual 146, 3) := by decide +kernel
theorem dL_law_366 : decode cL_law 366 = .ok (.istore 7, 2) := by decide +kernel
theorem dL_law_368 : decode cL_law 368 = .ok (.aload_n 2, 1) := by decide +kernel
theorem dL_law_369 : decode cL_law 369 = .ok (.invokevirtual 136, 3) := by decide +kernel
theorem dL_law_372 : decode cL_law 372 = .ok (.iload 6, 2) := by decide +kernel
theorem dL_law_374 : decode cL_law 374 = .ok (.if_icmp .eq 5, 3) := by decide +kernel
theorem dL_law_377 : decode cL_law 377 = .ok (.iconst 0, 1) := by decide +kernel
theorem dL_law_378 : decode cL_law 378 = .ok (.ireturn, 1) := by decide +kernel
theorem dL_law_379 : decode cL_law 379 = .ok (.iload 6, 2) := by decide +kernel
theorem dL_law_381 : decode cL_law 381 = .ok (.ifCond .ne 15, 3) := by decide +kernel
theorem dL_law_384 : decode cL_law 384 = .ok (.aload_n 3, 1) := by decide +kernel
theorem dL_law_385 : decode cL_law 385 = .ok (.iconst 0, 1) := by decide +kernel
theorem dL_law_386 : decode cL_law 386 = .ok (.laload, 1) := by decide +kernel
theorem dL_law_387 : decode cL_law 387 = .ok (.iload 7, 2) := by decide +kernel
theorem dL_law_389 : decode cL_law 389 = .ok (.i2l, 1) := by decide +kernel
theorem dL_law_390 : decode cL_law 390 = .ok (.lcmp, 1) := by decide +kernel
theorem dL_law_391 : decode cL_law 391 = .ok (.ifCond .eq 5, 3) := by decide +kernel
theorem dL_law_394 : decode cL_law 394 = .ok (.iconst 0, 1) := by decide +kernel
theorem dL_law_395 : decode cL_law 395 = .ok (.ireturn, 1) := by decide +kernel
theorem dL_law_396 : decode cL_law 396 = .ok (.goto 2576, 3) := by decide +kernel
theorem dL_law_399 : decode cL_law 399 = .ok (.aload_n 1, 1) := by decide +kernel
theorem dL_law_400 : decode cL_law 400 = .ok (.invokevirtual 147, 3) := by decide +kernel
theorem dL_law_403 : decode cL_law 403 = .ok (.aload_n 2, 1) := by decide +kernel
theorem dL_law_404 : decode cL_law 404 = .ok (.invokevirtual 151, 3) := by decide +kernel
theorem dL_law_407 : decode cL_law 407 = .ok (.lcmp, 1) := by decide +kernel
theorem dL_law_408 : decode cL_law 408 = .ok (.ifCond .eq 2564, 3) := by decide +kernel
theorem dL_law_411 : decode cL_law 411 = .ok (.iconst 0, 1) := by decide +kernel
theorem dL_law_412 : decode cL_law 412 = .ok (.ireturn, 1) := by decide +kernel
theorem dL_law_413 : decode cL_law 413 = .ok (.aload_n 1, 1) := by decide +kernel
theorem dL_law_414 : decode cL_law 414 = .ok (.invokevirtual 152, 3) := by decide +kernel
theorem dL_law_417 : decode cL_law 417 = .ok (.aload_n 2, 1) := by decide +kernel
theorem dL_law_418 : decode cL_law 418 = .ok (.invokevirtual 155, 3) := by decide +kernel
theorem dL_law_421 : decode cL_law 421 = .ok (.if_icmp .eq 2551, 3) := by decide +kernel
theorem dL_law_424 : decode cL_law 424 = .ok (.iconst 0, 1) := by decide +kernel
theorem dL_law_425 : decode cL_law 425 = .ok (.ireturn, 1) := by decide +kernel
theorem dL_law_426 : decode cL_law 426 = .ok (.aload_n 1, 1) := by decide +kernel
theorem dL_law_427 : decode cL_law 427 = .ok (.aload_n 0, 1) := by decide +kernel
theorem dL_law_428 : decode cL_law 428 = .ok (.iload 5, 2) := by decide +kernel
theorem dL_law_430 : decode cL_law 430 = .ok (.iconst 1, 1) := by decide +kernel
theorem dL_law_431 : decode cL_law 431 = .ok (.iadd, 1) := by decide +kernel
theorem dL_law_432 : decode cL_law 432 = .ok (.iaload, 1) := by decide +kernel
theorem dL_law_433 : decode cL_law 433 = .ok (.aload_n 0, 1) := by decide +kernel
theorem dL_law_434 : decode cL_law 434 = .ok (.iload 5, 2) := by decide +kernel
theorem dL_law_436 : decode cL_law 436 = .ok (.iconst 2, 1) := by decide +kernel
theorem dL_law_437 : decode cL_law 437 = .ok (.iadd, 1) := by decide +kernel
theorem dL_law_438 : decode cL_law 438 = .ok (.iaload, 1) := by decide +kernel
theorem dL_law_439 : decode cL_law 439 = .ok (.aload_n 3, 1) := by decide +kernel
theorem dL_law_440 : decode cL_law 440 = .ok (.invokestatic 156, 3) := by decide +kernel
theorem dL_law_443 : decode cL_law 443 = .ok (.istore 6, 2) := by decide +kernel
theorem dL_law_445 : decode cL_law 445 = .ok (.aload_n 2, 1) := by decide +kernel
theorem dL_law_446 : decode cL_law 446 = .ok (.aload_n 0, 1) := by decide +kernel
theorem dL_law_447 : decode cL_law 447 = .ok (.iload 5, 2) := by decide +kernel
theorem dL_law_449 : decode cL_law 449 = .ok (.iconst 1, 1) := by decide +kernel
theorem dL_law_450 : decode cL_law 450 = .ok (.iadd, 1) := by decide +kernel
theorem dL_law_451 : decode cL_law 451 = .ok (.iaload, 1) := by decide +kernel
theorem dL_law_452 : decode cL_law 452 = .ok (.aload_n 0, 1) := by decide +kernel
theorem dL_law_453 : decode cL_law 453 = .ok (.iload 5, 2) := by decide +kernel
theorem dL_law_455 : decode cL_law 455 = .ok (.iconst 2, 1) := by decide +kernel
theorem dL_law_456 : decode cL_law 456 = .ok (.iadd, 1) := by decide +kernel
theorem dL_law_457 : decode cL_law 457 = .ok (.iaload, 1) := by decide +kernel
theorem dL_law_458 : decode cL_law 458 = .ok (.invokevirtual 158, 3) := by decide +kernel
theorem dL_law_461 : decode cL_law 461 = .ok (.istore 7, 2) := by decide +kernel
theorem dL_law_463 : decode cL_law 463 = .ok (.aload_n 2, 1) := by decide +kernel
theorem dL_law_464 : decode cL_law 464 = .ok (.invokevirtual 136, 3) := by decide +kernel
theorem dL_law_467 : decode cL_law 467 = .ok (.iload 6, 2) := by decide +kernel
theorem dL_law_469 : decode cL_law 469 = .ok (.if_icmp .eq 5, 3) := by decide +kernel
theorem dL_law_472 : decode cL_law 472 = .ok (.iconst 0, 1) := by decide +kernel
theorem dL_law_473 : decode cL_law 473 = .ok (.ireturn, 1) := by decide +kernel
theorem dL_law_474 : decode cL_law 474 = .ok (.iload 6, 2) := by decide +kernel
theorem dL_law_476 : decode cL_law 476 = .ok (.ifCond .ne 15, 3) := by decide +kernel
theorem dL_law_479 : decode cL_law 479 = .ok (.aload_n 3, 1) := by decide +kernel
theorem dL_law_480 : decode cL_law 480 = .ok (.iconst 0, 1) := by decide +kernel
theorem dL_law_481 : decode cL_law 481 = .ok (.laload, 1) := by decide +kernel
theorem dL_law_482 : decode cL_law 482 = .ok (.iload 7, 2) := by decide +kernel
theorem dL_law_484 : decode cL_law 484 = .ok (.i2l, 1) := by decide +kernel
theorem dL_law_485 : decode cL_law 485 = .ok (.lcmp, 1) := by decide +kernel
theorem dL_law_486 : decode cL_law 486 = .ok (.ifCond .eq 5, 3) := by decide +kernel
theorem dL_law_489 : decode cL_law 489 = .ok (.iconst 0, 1) := by decide +kernel
theorem dL_law_490 : decode cL_law 490 = .ok (.ireturn, 1) := by decide +kernel
theorem dL_law_491 : decode cL_law 491 = .ok (.goto 2481, 3) := by decide +kernel
theorem dL_law_494 : decode cL_law 494 = .ok (.aload_n 1, 1) := by decide +kernel
theorem dL_law_495 : decode cL_law 495 = .ok (.aload_n 0, 1) := by decide +kernel
theorem dL_law_496 : decode cL_law 496 = .ok (.iload 5, 2) := by decide +kernel
theorem dL_law_498 : decode cL_law 498 = .ok (.iconst 1, 1) := by decide +kernel
theorem dL_law_499 : decode cL_law 499 = .ok (.iadd, 1) := by decide +kernel
theorem dL_law_500 : decode cL_law 500 = .ok (.iaload, 1) := by decide +kernel
theorem dL_law_501 : decode cL_law 501 = .ok (.aload_n 3, 1) := by decide +kernel
theorem dL_law_502 : decode cL_law 502 = .ok (.invokestatic 159, 3) := by decide +kernel
theorem dL_law_505 : decode cL_law 505 = .ok (.istore 6, 2) := by decide +kernel
theorem dL_law_507 : decode cL_law 507 = .ok (.aload_n 2, 1) := by decide +kernel
theorem dL_law_508 : decode cL_law 508 = .ok (.aload_n 0, 1) := by decide +kernel
theorem dL_law_509 : decode cL_law 509 = .ok (.iload 5, 2) := by decide +kernel
theorem dL_law_511 : decode cL_law 511 = .ok (.iconst 1, 1) := by decide +kernel
theorem dL_law_512 : decode cL_law 512 = .ok (.iadd, 1) := by decide +kernel
theorem dL_law_513 : decode cL_law 513 = .ok (.iaload, 1) := by decide +kernel
theorem dL_law_514 : decode cL_law 514 = .ok (.invokevirtual 161, 3) := by decide +kernel
theorem dL_law_517 : decode cL_law 517 = .ok (.istore 7, 2) := by decide +kernel
theorem dL_law_519 : decode cL_law 519 = .ok (.aload_n 2, 1) := by decide +kernel
theorem dL_law_520 : decode cL_law 520 = .ok (.invokevirtual 136, 3) := by decide +kernel
theorem dL_law_523 : decode cL_law 523 = .ok (.iload 6, 2) := by decide +kernel
theorem dL_law_525 : decode cL_law 525 = .ok (.if_icmp .eq 5, 3) := by decide +kernel
theorem dL_law_528 : decode cL_law 528 = .ok (.iconst 0, 1) := by decide +kernel
theorem dL_law_529 : decode cL_law 529 = .ok (.ireturn, 1) := by decide +kernel
theorem dL_law_530 : decode cL_law 530 = .ok (.iload 6, 2) := by decide +kernel
theorem dL_law_532 : decode cL_law 532 = .ok (.ifCond .ne 15, 3) := by decide +kernel
theorem dL_law_535 : decode cL_law 535 = .ok (.aload_n 3, 1) := by decide +kernel
theorem dL_law_536 : decode cL_law 536 = .ok (.iconst 0, 1) := by decide +kernel
theorem dL_law_537 : decode cL_law 537 = .ok (.laload, 1) := by decide +kernel
theorem dL_law_538 : decode cL_law 538 = .ok (.iload 7, 2) := by decide +kernel
theorem dL_law_540 : decode cL_law 540 = .ok (.i2l, 1) := by decide +kernel
theorem dL_law_541 : decode cL_law 541 = .ok (.lcmp, 1) := by decide +kernel
theorem dL_law_542 : decode cL_law 542 = .ok (.ifCond .eq 5, 3) := by decide +kernel
theorem dL_law_545 : decode cL_law 545 = .ok (.iconst 0, 1) := by decide +kernel
theorem dL_law_546 : decode cL_law 546 = .ok (.ireturn, 1) := by decide +kernel
theorem dL_law_547 : decode cL_law 547 = .ok (.goto 2425, 3) := by decide +kernel
theorem dL_law_550 : decode cL_law 550 = .ok (.aload_n 1, 1) := by decide +kernel
theorem dL_law_551 : decode cL_law 551 = .ok (.aload_n 0, 1) := by decide +kernel
theorem dL_law_552 : decode cL_law 552 = .ok (.iload 5, 2) := by decide +kernel
theorem dL_law_554 : decode cL_law 554 = .ok (.iconst 1, 1) := by decide +kernel
theorem dL_law_555 : decode cL_law 555 = .ok (.iadd, 1) := by decide +kernel
theorem dL_law_556 : decode cL_law 556 = .ok (.iaload, 1) := by decide +kernel
theorem dL_law_557 : decode cL_law 557 = .ok (.aload_n 3, 1) := by decide +kernel
theorem dL_law_558 : decode cL_law 558 = .ok (.invokestatic 162, 3) := by decide +kernel
theorem dL_law_561 : decode cL_law 561 = .ok (.istore 6, 2) := by decide +kernel
theorem dL_law_563 : decode cL_law 563 = .ok (.aload_n 2, 1) := by decide +kernel
theorem dL_law_564 : decode cL_law 564 = .ok (.aload_n 0, 1) := by decide +kernel
theorem dL_law_565 : decode cL_law 565 = .ok (.iload 5, 2) := by decide +kernel
theorem dL_law_567 : decode cL_law 567 = .ok (.iconst 1, 1) := by decide +kernel
theorem dL_law_568 : decode cL_law 568 = .ok (.iadd, 1) := by decide +kernel
theorem dL_law_569 : decode cL_law 569 = .ok (.iaload, 1) := by decide +kernel
theorem dL_law_570 : decode cL_law 570 = .ok (.invokevirtual 164, 3) := by decide +kernel
theorem dL_law_573 : decode cL_law 573 = .ok (.istore 7, 2) := by decide +kernel
theorem dL_law_575 : decode cL_law 575 = .ok (.aload_n 2, 1) := by decide +kernel
theorem dL_law_576 : decode cL_law 576 = .ok (.invokevirtual 136, 3) := by decide +kernel
theorem dL_law_579 : decode cL_law 579 = .ok (.iload 6, 2) := by decide +kernel
theorem dL_law_581 : decode cL_law 581 = .ok (.if_icmp .eq 5, 3) := by decide +kernel
theorem dL_law_584 : decode cL_law 584 = .ok (.iconst 0, 1) := by decide +kernel
theorem dL_law_585 : decode cL_law 585 = .ok (.ireturn, 1) := by decide +kernel
theorem dL_law_586 : decode cL_law 586 = .ok (.iload 6, 2) := by decide +kernel
theorem dL_law_588 : decode cL_law 588 = .ok (.ifCond .ne 15, 3) := by decide +kernel
theorem dL_law_591 : decode cL_law 591 = .ok (.aload_n 3, 1) := by decide +kernel
theorem dL_law_592 : decode cL_law 592 = .ok (.iconst 0, 1) := by decide +kernel
theorem dL_law_593 : decode cL_law 593 = .ok (.laload, 1) := by decide +kernel
theorem dL_law_594 : decode cL_law 594 = .ok (.iload 7, 2) := by decide +kernel
theorem dL_law_596 : decode cL_law 596 = .ok (.i2l, 1) := by decide +kernel
theorem dL_law_597 : decode cL_law 597 = .ok (.lcmp, 1) := by decide +kernel
theorem dL_law_598 : decode cL_law 598 = .ok (.ifCond .eq 5, 3) := by decide +kernel
theorem dL_law_601 : decode cL_law 601 = .ok (.iconst 0, 1) := by decide +kernel
theorem dL_law_602 : decode cL_law 602 = .ok (.ireturn, 1) := by decide +kernel
theorem dL_law_603 : decode cL_law 603 = .ok (.goto 2369, 3) := by decide +kernel
theorem dL_law_606 : decode cL_law 606 = .ok (.aload_n 1, 1) := by decide +kernel
theorem dL_law_607 : decode cL_law 607 = .ok (.aload_n 0, 1) := by decide +kernel
theorem dL_law_608 : decode cL_law 608 = .ok (.iload 5, 2) := by decide +kernel
theorem dL_law_610 : decode cL_law 610 = .ok (.iconst 1, 1) := by decide +kernel
theorem dL_law_611 : decode cL_law 611 = .ok (.iadd, 1) := by decide +kernel
theorem dL_law_612 : decode cL_law 612 = .ok (.iaload, 1) := by decide +kernel
theorem dL_law_613 : decode cL_law 613 = .ok (.aload_n 3, 1) := by decide +kernel
theorem dL_law_614 : decode cL_law 614 = .ok (.invokestatic 165, 3) := by decide +kernel
theorem dL_law_617 : decode cL_law 617 = .ok (.istore 6, 2) := by decide +kernel
theorem dL_law_619 : decode cL_law 619 = .ok (.aload_n 2, 1) := by decide +kernel
theorem dL_law_620 : decode cL_law 620 = .ok (.aload_n 0, 1) := by decide +kernel
theorem dL_law_621 : decode cL_law 621 = .ok (.iload 5, 2) := by decide +kernel
theorem dL_law_623 : decode cL_law 623 = .ok (.iconst 1, 1) := by decide +kernel
theorem dL_law_624 : decode cL_law 624 = .ok (.iadd, 1) := by decide +kernel
theorem dL_law_625 : decode cL_law 625 = .ok (.iaload, 1) := by decide +kernel
theorem dL_law_626 : decode cL_law 626 = .ok (.invokevirtual 167, 3) := by decide +kernel
theorem dL_law_629 : decode cL_law 629 = .ok (.istore 7, 2) := by decide +kernel
theorem dL_law_631 : decode cL_law 631 = .ok (.aload_n 2, 1) := by decide +kernel
theorem dL_law_632 : decode cL_law 632 = .ok (.invokevirtual 136, 3) := by decide +kernel
theorem dL_law_635 : decode cL_law 635 = .ok (.iload 6, 2) := by decide +kernel
theorem dL_law_637 : decode cL_law 637 = .ok (.if_icmp .eq 5, 3) := by decide +kernel
theorem dL_law_640 : decode cL_law 640 = .ok (.iconst 0, 1) := by decide +kernel
theorem dL_law_641 : decode cL_law 641 = .ok (.ireturn, 1) := by decide +kernel
theorem dL_law_642 : decode cL_law 642 = .ok (.iload 6, 2) := by decide +kernel
theorem dL_law_644 : decode cL_law 644 = .ok (.ifCond .ne 15, 3) := by decide +kernel
theorem dL_law_647 : decode cL_law 647 = .ok (.aload_n 3, 1) := by decide +kernel
theorem dL_law_648 : decode cL_law 648 = .ok (.iconst 0, 1) := by decide +kernel
theorem dL_law_649 : decode cL_law 649 = .ok (.laload, 1) := by decide +kernel
theorem dL_law_650 : decode cL_law 650 = .ok (.iload 7, 2) := by decide +kernel
theorem dL_law_652 : decode cL_law 652 = .ok (.i2l, 1) := by decide +kernel
theorem dL_law_653 : decode cL_law 653 = .ok (.lcmp, 1) := by decide +kernel
theorem dL_law_654 : decode cL_law 654 = .ok (.ifCond .eq 5, 3) := by decide +kernel
theorem dL_law_657 : decode cL_law 657 = .ok (.iconst 0, 1) := by decide +kernel
theorem dL_law_658 : decode cL_law 658 = .ok (.ireturn, 1) := by decide +kernel
theorem dL_law_659 : decode cL_law 659 = .ok (.goto 2313, 3) := by decide +kernel
theorem dL_law_662 : decode cL_law 662 = .ok (.aload_n 1, 1) := by decide +kernel
theorem dL_law_663 : decode cL_law 663 = .ok (.aload_n 0, 1) := by decide +kernel
theorem dL_law_664 : decode cL_law 664 = .ok (.iload 5, 2) := by decide +kernel
theorem dL_law_666 : decode cL_law 666 = .ok (.iconst 1, 1) := by decide +kernel
theorem dL_law_667 : decode cL_law 667 = .ok (.iadd, 1) := by decide +kernel
theorem dL_law_668 : decode cL_law 668 = .ok (.iaload, 1) := by decide +kernel
theorem dL_law_669 : decode cL_law 669 = .ok (.aload_n 3, 1) := by decide +kernel
theorem dL_law_670 : decode cL_law 670 = .ok (.invokestatic 168, 3) := by decide +kernel
theorem dL_law_673 : decode cL_law 673 = .ok (.istore 6, 2) := by decide +kernel
theorem dL_law_675 : decode cL_law 675 = .ok (.aload_n 2, 1) := by decide +kernel
theorem dL_law_676 : decode cL_law 676 = .ok (.aload_n 0, 1) := by decide +kernel
theorem dL_law_677 : decode cL_law 677 = .ok (.iload 5, 2) := by decide +kernel
theorem dL_law_679 : decode cL_law 679 = .ok (.iconst 1, 1) := by decide +kernel
theorem dL_law_680 : decode cL_law 680 = .ok (.iadd, 1) := by decide +kernel
theorem dL_law_681 : decode cL_law 681 = .ok (.iaload, 1) := by decide +kernel
theorem dL_law_682 : decode cL_law 682 = .ok (.invokevirtual 170, 3) := by decide +kernel
theorem dL_law_685 : decode cL_law 685 = .ok (.istore 7, 2) := by decide +kernel
theorem dL_law_687 : decode cL_law 687 = .ok (.aload_n 2, 1) := by decide +kernel
theorem dL_law_688 : decode cL_law 688 = .ok (.invokevirtual 136, 3) := by decide +kernel
theorem dL_law_691 : decode cL_law 691 = .ok (.iload 6, 2) := by decide +kernel
theorem dL_law_693 : decode cL_law 693 = .ok (.if_icmp .eq 5, 3) := by decide +kernel
theorem dL_law_696 : decode cL_law 696 = .ok (.iconst 0, 1) := by decide +kernel
theorem dL_law_697 : decode cL_law 697 = .ok (.ireturn, 1) := by decide +kernel
theorem dL_law_698 : decode cL_law 698 = .ok (.iload 6, 2) := by decide +kernel
theorem dL_law_700 : decode cL_law 700 = .ok (.ifCond .ne 15, 3) := by decide +kernel
theorem dL_law_703 : decode cL_law 703 = .ok (.aload_n 3, 1) := by decide +kernel
theorem dL_law_704 : decode cL_law 704 = .ok (.iconst 0, 1) := by decide +kernel
theorem dL_law_705 : decode cL_law 705 = .ok (.laload, 1) := by decide +kernel
theorem dL_law_706 : decode cL_law 706 = .ok (.iload 7, 2) := by decide +kernel
theorem dL_law_708 : decode cL_law 708 = .ok (.i2l, 1) := by decide +kernel
theorem dL_law_709 : decode cL_law 709 = .ok (.lcmp, 1) := by decide +kernel
theorem dL_law_710 : decode cL_law 710 = .ok (.ifCond .eq 5, 3) := by decide +kernel
theorem dL_law_713 : decode cL_law 713 = .ok (.iconst 0, 1) := by decide +kernel
theorem dL_law_714 : decode cL_law 714 = .ok (.ireturn, 1) := by decide +kernel
theorem dL_law_715 : decode cL_law 715 = .ok (.goto 2257, 3) := by decide +kernel
theorem dL_law_718 : decode cL_law 718 = .ok (.aload_n 1, 1) := by decide +kernel
theorem dL_law_719 : decode cL_law 719 = .ok (.aload_n 0, 1) := by decide +kernel
theorem dL_law_720 : decode cL_law 720 = .ok (.iload 5, 2) := by decide +kernel
theorem dL_law_722 : decode cL_law 722 = .ok (.iconst 1, 1) := by decide +kernel
theorem dL_law_723 : decode cL_law 723 = .ok (.iadd, 1) := by decide +kernel
theorem dL_law_724 : decode cL_law 724 = .ok (.iaload, 1) := by decide +kernel
theorem dL_law_725 : decode cL_law 725 = .ok (.aload_n 3, 1) := by decide +kernel
theorem dL_law_726 : decode cL_law 726 = .ok (.invokestatic 171, 3) := by decide +kernel
theorem dL_law_729 : decode cL_law 729 = .ok (.istore 6, 2) := by decide +kernel
theorem dL_law_731 : decode cL_law 731 = .ok (.aload_n 2, 1) := by decide +kernel
theorem dL_law_732 : decode cL_law 732 = .ok (.aload_n 0, 1) := by decide +kernel
theorem dL_law_733 : decode cL_law 733 = .ok (.iload 5, 2) := by decide +kernel
theorem dL_law_735 : decode cL_law 735 = .ok (.iconst 1, 1) := by decide +kernel
theorem dL_law_736 : decode cL_law 736 = .ok (.iadd, 1) := by decide +kernel
theorem dL_law_737 : decode cL_law 737 = .ok (.iaload, 1) := by decide +kernel
theorem dL_law_738 : decode cL_law 738 = .ok (.invokevirtual 173, 3) := by decide +kernel
theorem dL_law_741 : decode cL_law 741 = .ok (.istore 7, 2) := by decide +kernel
theorem dL_law_743 : decode cL_law 743 = .ok (.aload_n 2, 1) := by decide +kernel
theorem dL_law_744 : decode cL_law 744 = .ok (.invokevirtual 136, 3) := by decide +kernel
theorem dL_law_747 : decode cL_law 747 = .ok (.iload 6, 2) := by decide +kernel
theorem dL_law_749 : decode cL_law 749 = .ok (.if_icmp .eq 5, 3) := by decide +kernel
theorem dL_law_752 : decode cL_law 752 = .ok (.iconst 0, 1) := by decide +kernel
theorem dL_law_753 : decode cL_law 753 = .ok (.ireturn, 1) := by decide +kernel
theorem dL_law_754 : decode cL_law 754 = .ok (.iload 6, 2) := by decide +kernel
theorem dL_law_756 : decode cL_law 756 = .ok (.ifCond .ne 15, 3) := by decide +kernel
theorem dL_law_759 : decode cL_law 759 = .ok (.aload_n 3, 1) := by decide +kernel
theorem dL_law_760 : decode cL_law 760 = .ok (.iconst 0, 1) := by decide +kernel
theorem dL_law_761 : decode cL_law 761 = .ok (.laload, 1) := by decide +kernel
theorem dL_law_762 : decode cL_law 762 = .ok (.iload 7, 2) := by decide +kernel
theorem dL_law_764 : decode cL_law 764 = .ok (.i2l, 1) := by decide +kernel
theorem dL_law_765 : decode cL_law 765 = .ok (.lcmp, 1) := by decide +kernel
theorem dL_law_766 : decode cL_law 766 = .ok (.ifCond .eq 5, 3) := by decide +kernel
theorem dL_law_769 : decode cL_law 769 = .ok (.iconst 0, 1) := by decide +kernel
theorem dL_law_770 : decode cL_law 770 = .ok (.ireturn, 1) := by decide +kernel
theorem dL_law_771 : decode cL_law 771 = .ok (.goto 2201, 3) := by decide +kernel
theorem dL_law_774 : decode cL_law 774 = .ok (.aload_n 1, 1) := by decide +kernel
theorem dL_law_775 : decode cL_law 775 = .ok (.aload_n 0, 1) := by decide +kernel
theorem dL_law_776 : decode cL_law 776 = .ok (.iload 5, 2) := by decide +kernel
theorem dL_law_778 : decode cL_law 778 = .ok (.iconst 1, 1) := by decide +kernel
theorem dL_law_779 : decode cL_law 779 = .ok (.iadd, 1) := by decide +kernel
theorem dL_law_780 : decode cL_law 780 = .ok (.iaload, 1) := by decide +kernel
theorem dL_law_781 : decode cL_law 781 = .ok (.aload_n 0, 1) := by decide +kernel
theorem dL_law_782 : decode cL_law 782 = .ok (.iload 5, 2) := by decide +kernel
theorem dL_law_784 : decode cL_law 784 = .ok (.iconst 2, 1) := by decide +kernel
theorem dL_law_785 : decode cL_law 785 = .ok (.iadd, 1) := by decide +kernel
theorem dL_law_786 : decode cL_law 786 = .ok (.iaload, 1) := by decide +kernel
theorem dL_law_787 : decode cL_law 787 = .ok (.aload_n 3, 1) := by decide +kernel
theorem dL_law_788 : decode cL_law 788 = .ok (.invokestatic 174, 3) := by decide +kernel
theorem dL_law_791 : decode cL_law 791 = .ok (.istore 6, 2) := by decide +kernel
theorem dL_law_793 : decode cL_law 793 = .ok (.aload_n 2, 1) := by decide +kernel
theorem dL_law_794 : decode cL_law 794 = .ok (.aload_n 0, 1) := by decide +kernel
theorem dL_law_795 : decode cL_law 795 = .ok (.iload 5, 2) := by decide +kernel
theorem dL_law_797 : decode cL_law 797 = .ok (.iconst 1, 1) := by decide +kernel
theorem dL_law_798 : decode cL_law 798 = .ok (.iadd, 1) := by decide +kernel
theorem dL_law_799 : decode cL_law 799 = .ok (.iaload, 1) := by decide +kernel
theorem dL_law_800 : decode cL_law 800 = .ok (.aload_n 0, 1) := by decide +kernel
theorem dL_law_801 : decode cL_law 801 = .ok (.iload 5, 2) := by decide +kernel
theorem dL_law_803 : decode cL_law 803 = .ok (.iconst 2, 1) := by decide +kernel
theorem dL_law_804 : decode cL_law 804 = .ok (.iadd, 1) := by decide +kernel
theorem dL_law_805 : decode cL_law 805 = .ok (.iaload, 1) := by decide +kernel
theorem dL_law_806 : decode cL_law 806 = .ok (.invokevirtual 176, 3) := by decide +kernel
theorem dL_law_809 : decode cL_law 809 = .ok (.istore 7, 2) := by decide +kernel
theorem dL_law_811 : decode cL_law 811 = .ok (.aload_n 2, 1) := by decide +kernel
theorem dL_law_812 : decode cL_law 812 = .ok (.invokevirtual 136, 3) := by decide +kernel
theorem dL_law_815 : decode cL_law 815 = .ok (.iload 6, 2) := by decide +kernel
theorem dL_law_817 : decode cL_law 817 = .ok (.if_icmp .eq 5, 3) := by decide +kernel
theorem dL_law_820 : decode cL_law 820 = .ok (.iconst 0, 1) := by decide +kernel
theorem dL_law_821 : decode cL_law 821 = .ok (.ireturn, 1) := by decide +kernel
theorem dL_law_822 : decode cL_law 822 = .ok (.iload 6, 2) := by decide +kernel
theorem dL_law_824 : decode cL_law 824 = .ok (.ifCond .ne 15, 3) := by decide +kernel
theorem dL_law_827 : decode cL_law 827 = .ok (.aload_n 3, 1) := by decide +kernel
theorem dL_law_828 : decode cL_law 828 = .ok (.iconst 0, 1) := by decide +kernel
theorem dL_law_829 : decode cL_law 829 = .ok (.laload, 1) := by decide +kernel
theorem dL_law_830 : decode cL_law 830 = .ok (.iload 7, 2) := by decide +kernel
theorem dL_law_832 : decode cL_law 832 = .ok (.i2l, 1) := by decide +kernel
theorem dL_law_833 : decode cL_law 833 = .ok (.lcmp, 1) := by decide +kernel
theorem dL_law_834 : decode cL_law 834 = .ok (.ifCond .eq 5, 3) := by decide +kernel
theorem dL_law_837 : decode cL_law 837 = .ok (.iconst 0, 1) := by decide +kernel
theorem dL_law_838 : decode cL_law 838 = .ok (.ireturn, 1) := by decide +kernel
theorem dL_law_839 : decode cL_law 839 = .ok (.goto 2133, 3) := by decide +kernel
theorem dL_law_842 : decode cL_law 842 = .ok (.aload_n 1, 1) := by decide +kernel
theorem dL_law_843 : decode cL_law 843 = .ok (.aload_n 0, 1) := by decide +kernel
theorem dL_law_844 : decode cL_law 844 = .ok (.iload 5, 2) := by decide +kernel
theorem dL_law_846 : decode cL_law 846 = .ok (.iconst 1, 1) := by decide +kernel
theorem dL_law_847 : decode cL_law 847 = .ok (.iadd, 1) := by decide +kernel
theorem dL_law_848 : decode cL_law 848 = .ok (.iaload, 1) := by decide +kernel
theorem dL_law_849 : decode cL_law 849 = .ok (.aload_n 0, 1) := by decide +kernel
theorem dL_law_850 : decode cL_law 850 = .ok (.iload 5, 2) := by decide +kernel
theorem dL_law_852 : decode cL_law 852 = .ok (.iconst 2, 1) := by decide +kernel
theorem dL_law_853 : decode cL_law 853 = .ok (.iadd, 1) := by decide +kernel
theorem dL_law_854 : decode cL_law 854 = .ok (.iaload, 1) := by decide +kernel
theorem dL_law_855 : decode cL_law 855 = .ok (.aload_n 3, 1) := by decide +kernel
theorem dL_law_856 : decode cL_law 856 = .ok (.invokestatic 177, 3) := by decide +kernel
theorem dL_law_859 : decode cL_law 859 = .ok (.istore 6, 2) := by decide +kernel
theorem dL_law_861 : decode cL_law 861 = .ok (.aload_n 2, 1) := by decide +kernel
theorem dL_law_862 : decode cL_law 862 = .ok (.aload_n 0, 1) := by decide +kernel
theorem dL_law_863 : decode cL_law 863 = .ok (.iload 5, 2) := by decide +kernel
theorem dL_law_865 : decode cL_law 865 = .ok (.iconst 1, 1) := by decide +kernel
theorem dL_law_866 : decode cL_law 866 = .ok (.iadd, 1) := by decide +kernel
theorem dL_law_867 : decode cL_law 867 = .ok (.iaload, 1) := by decide +kernel
theorem dL_law_868 : decode cL_law 868 = .ok (.aload_n 0, 1) := by decide +kernel
theorem dL_law_869 : decode cL_law 869 = .ok (.iload 5, 2) := by decide +kernel
theorem dL_law_871 : decode cL_law 871 = .ok (.iconst 2, 1) := by decide +kernel
theorem dL_law_872 : decode cL_law 872 = .ok (.iadd, 1) := by decide +kernel
theorem dL_law_873 : decode cL_law 873 = .ok (.iaload, 1) := by decide +kernel
theorem dL_law_874 : decode cL_law 874 = .ok (.invokevirtual 179, 3) := by decide +kernel
theorem dL_law_877 : decode cL_law 877 = .ok (.lstore 7, 2) := by decide +kernel
theorem dL_law_879 : decode cL_law 879 = .ok (.aload_n 2, 1) := by decide +kernel
theorem dL_law_880 : decode cL_law 880 = .ok (.invokevirtual 136, 3) := by decide +kernel
theorem dL_law_883 : decode cL_law 883 = .ok (.iload 6, 2) := by decide +kernel
theorem dL_law_885 : decode cL_law 885 = .ok (.if_icmp .eq 5, 3) := by decide +kernel
theorem dL_law_888 : decode cL_law 888 = .ok (.iconst 0, 1) := by decide +kernel
theorem dL_law_889 : decode cL_law 889 = .ok (.ireturn, 1) := by decide +kernel
theorem dL_law_890 : decode cL_law 890 = .ok (.iload 6, 2) := by decide +kernel
theorem dL_law_892 : decode cL_law 892 = .ok (.ifCond .ne 14, 3) := by decide +kernel
theorem dL_law_895 : decode cL_law 895 = .ok (.aload_n 3, 1) := by decide +kernel
theorem dL_law_896 : decode cL_law 896 = .ok (.iconst 0, 1) := by decide +kernel
theorem dL_law_897 : decode cL_law 897 = .ok (.laload, 1) := by decide +kernel
theorem dL_law_898 : decode cL_law 898 = .ok (.lload 7, 2) := by decide +kernel
theorem dL_law_900 : decode cL_law 900 = .ok (.lcmp, 1) := by decide +kernel
theorem dL_law_901 : decode cL_law 901 = .ok (.ifCond .eq 5, 3) := by decide +kernel
theorem dL_law_904 : decode cL_law 904 = .ok (.iconst 0, 1) := by decide +kernel
theorem dL_law_905 : decode cL_law 905 = .ok (.ireturn, 1) := by decide +kernel
theorem dL_law_906 : decode cL_law 906 = .ok (.goto 2066, 3) := by decide +kernel
theorem dL_law_909 : decode cL_law 909 = .ok (.aload_n 1, 1) := by decide +kernel
theorem dL_law_910 : decode cL_law 910 = .ok (.aload_n 0, 1) := by decide +kernel
theorem dL_law_911 : decode cL_law 911 = .ok (.iload 5, 2) := by decide +kernel
theorem dL_law_913 : decode cL_law 913 = .ok (.iconst 1, 1) := by decide +kernel
theorem dL_law_914 : decode cL_law 914 = .ok (.iadd, 1) := by decide +kernel
theorem dL_law_915 : decode cL_law 915 = .ok (.iaload, 1) := by decide +kernel
theorem dL_law_916 : decode cL_law 916 = .ok (.aload_n 0, 1) := by decide +kernel
theorem dL_law_917 : decode cL_law 917 = .ok (.iload 5, 2) := by decide +kernel
theorem dL_law_919 : decode cL_law 919 = .ok (.iconst 2, 1) := by decide +kernel
theorem dL_law_920 : decode cL_law 920 = .ok (.iadd, 1) := by decide +kernel
theorem dL_law_921 : decode cL_law 921 = .ok (.iaload, 1) := by decide +kernel
theorem dL_law_922 : decode cL_law 922 = .ok (.aload_n 3, 1) := by decide +kernel
theorem dL_law_923 : decode cL_law 923 = .ok (.invokestatic 180, 3) := by decide +kernel
theorem dL_law_926 : decode cL_law 926 = .ok (.istore 6, 2) := by decide +kernel
theorem dL_law_928 : decode cL_law 928 = .ok (.aload_n 2, 1) := by decide +kernel
theorem dL_law_929 : decode cL_law 929 = .ok (.aload_n 0, 1) := by decide +kernel
theorem dL_law_930 : decode cL_law 930 = .ok (.iload 5, 2) := by decide +kernel
theorem dL_law_932 : decode cL_law 932 = .ok (.iconst 1, 1) := by decide +kernel
theorem dL_law_933 : decode cL_law 933 = .ok (.iadd, 1) := by decide +kernel
theorem dL_law_934 : decode cL_law 934 = .ok (.iaload, 1) := by decide +kernel
theorem dL_law_935 : decode cL_law 935 = .ok (.aload_n 0, 1) := by decide +kernel
theorem dL_law_936 : decode cL_law 936 = .ok (.iload 5, 2) := by decide +kernel
theorem dL_law_938 : decode cL_law 938 = .ok (.iconst 2, 1) := by decide +kernel
theorem dL_law_939 : decode cL_law 939 = .ok (.iadd, 1) := by decide +kernel
theorem dL_law_940 : decode cL_law 940 = .ok (.iaload, 1) := by decide +kernel
theorem dL_law_941 : decode cL_law 941 = .ok (.invokevirtual 182, 3) := by decide +kernel
theorem dL_law_944 : decode cL_law 944 = .ok (.istore 7, 2) := by decide +kernel
theorem dL_law_946 : decode cL_law 946 = .ok (.aload_n 2, 1) := by decide +kernel
theorem dL_law_947 : decode cL_law 947 = .ok (.invokevirtual 136, 3) := by decide +kernel
theorem dL_law_950 : decode cL_law 950 = .ok (.iload 6, 2) := by decide +kernel
theorem dL_law_952 : decode cL_law 952 = .ok (.if_icmp .eq 5, 3) := by decide +kernel
theorem dL_law_955 : decode cL_law 955 = .ok (.iconst 0, 1) := by decide +kernel
theorem dL_law_956 : decode cL_law 956 = .ok (.ireturn, 1) := by decide +kernel
theorem dL_law_957 : decode cL_law 957 = .ok (.iload 6, 2) := by decide +kernel
theorem dL_law_959 : decode cL_law 959 = .ok (.ifCond .ne 15, 3) := by decide +kernel
theorem dL_law_962 : decode cL_law 962 = .ok (.aload_n 3, 1) := by decide +kernel
theorem dL_law_963 : decode cL_law 963 = .ok (.iconst 0, 1) := by decide +kernel
theorem dL_law_964 : decode cL_law 964 = .ok (.laload, 1) := by decide +kernel
theorem dL_law_965 : decode cL_law 965 = .ok (.iload 7, 2) := by decide +kernel
theorem dL_law_967 : decode cL_law 967 = .ok (.i2l, 1) := by decide +kernel
theorem dL_law_968 : decode cL_law 968 = .ok (.lcmp, 1) := by decide +kernel
theorem dL_law_969 : decode cL_law 969 = .ok (.ifCond .eq 5, 3) := by decide +kernel
theorem dL_law_972 : decode cL_law 972 = .ok (.iconst 0, 1) := by decide +kernel
theorem dL_law_973 : decode cL_law 973 = .ok (.ireturn, 1) := by decide +kernel
theorem dL_law_974 : decode cL_law 974 = .ok (.goto 1998, 3) := by decide +kernel
theorem dL_law_977 : decode cL_law 977 = .ok (.aload_n 1, 1) := by decide +kernel
theorem dL_law_978 : decode cL_law 978 = .ok (.invokevirtual 183, 3) := by decide +kernel
theorem dL_law_981 : decode cL_law 981 = .ok (.aload_n 2, 1) := by decide +kernel
theorem dL_law_982 : decode cL_law 982 = .ok (.invokevirtual 186, 3) := by decide +kernel
theorem dL_law_985 : decode cL_law 985 = .ok (.lcmp, 1) := by decide +kernel
theorem dL_law_986 : decode cL_law 986 = .ok (.ifCond .eq 1986, 3) := by decide +kernel
theorem dL_law_989 : decode cL_law 989 = .ok (.iconst 0, 1) := by decide +kernel
theorem dL_law_990 : decode cL_law 990 = .ok (.ireturn, 1) := by decide +kernel
theorem dL_law_991 : decode cL_law 991 = .ok (.aload_n 1, 1) := by decide +kernel
theorem dL_law_992 : decode cL_law 992 = .ok (.aload_n 0, 1) := by decide +kernel
theorem dL_law_993 : decode cL_law 993 = .ok (.iload 5, 2) := by decide +kernel
theorem dL_law_995 : decode cL_law 995 = .ok (.iconst 1, 1) := by decide +kernel
theorem dL_law_996 : decode cL_law 996 = .ok (.iadd, 1) := by decide +kernel
theorem dL_law_997 : decode cL_law 997 = .ok (.iaload, 1) := by decide +kernel
theorem dL_law_998 : decode cL_law 998 = .ok (.aload_n 0, 1) := by decide +kernel
theorem dL_law_999 : decode cL_law 999 = .ok (.iload 5, 2) := by decide +kernel
theorem dL_law_1001 : decode cL_law 1001 = .ok (.iconst 2, 1) := by decide +kernel
theorem dL_law_1002 : decode cL_law 1002 = .ok (.iadd, 1) := by decide +kernel
theorem dL_law_1003 : decode cL_law 1003 = .ok (.iaload, 1) := by decide +kernel
theorem dL_law_1004 : decode cL_law 1004 = .ok (.i2l, 1) := by decide +kernel
theorem dL_law_1005 : decode cL_law 1005 = .ok (.bipush 32, 2) := by decide +kernel
theorem dL_law_1007 : decode cL_law 1007 = .ok (.lshl, 1) := by decide +kernel
theorem dL_law_1008 : decode cL_law 1008 = .ok (.aload_n 0, 1) := by decide +kernel
theorem dL_law_1009 : decode cL_law 1009 = .ok (.iload 5, 2) := by decide +kernel
theorem dL_law_1011 : decode cL_law 1011 = .ok (.iconst 3, 1) := by decide +kernel
theorem dL_law_1012 : decode cL_law 1012 = .ok (.iadd, 1) := by decide +kernel
theorem dL_law_1013 : decode cL_law 1013 = .ok (.iaload, 1) := by decide +kernel
theorem dL_law_1014 : decode cL_law 1014 = .ok (.i2l, 1) := by decide +kernel
theorem dL_law_1015 : decode cL_law 1015 = .ok (.ldc2_w 187, 3) := by decide +kernel
theorem dL_law_1018 : decode cL_law 1018 = .ok (.land, 1) := by decide +kernel
theorem dL_law_1019 : decode cL_law 1019 = .ok (.lor, 1) := by decide +kernel
theorem dL_law_1020 : decode cL_law 1020 = .ok (.aload_n 0, 1) := by decide +kernel
theorem dL_law_1021 : decode cL_law 1021 = .ok (.iload 5, 2) := by decide +kernel
theorem dL_law_1023 : decode cL_law 1023 = .ok (.iconst 4, 1) := by decide +kernel
theorem dL_law_1024 : decode cL_law 1024 = .ok (.iadd, 1) := by decide +kernel
theorem dL_law_1025 : decode cL_law 1025 = .ok (.iaload, 1) := by decide +kernel
theorem dL_law_1026 : decode cL_law 1026 = .ok (.i2l, 1) := by decide +kernel
theorem dL_law_1027 : decode cL_law 1027 = .ok (.bipush 32, 2) := by decide +kernel
theorem dL_law_1029 : decode cL_law 1029 = .ok (.lshl, 1) := by decide +kernel
theorem dL_law_1030 : decode cL_law 1030 = .ok (.aload_n 0, 1) := by decide +kernel
theorem dL_law_1031 : decode cL_law 1031 = .ok (.iload 5, 2) := by decide +kernel
theorem dL_law_1033 : decode cL_law 1033 = .ok (.iconst 5, 1) := by decide +kernel
theorem dL_law_1034 : decode cL_law 1034 = .ok (.iadd, 1) := by decide +kernel
theorem dL_law_1035 : decode cL_law 1035 = .ok (.iaload, 1) := by decide +kernel
theorem dL_law_1036 : decode cL_law 1036 = .ok (.i2l, 1) := by decide +kernel
theorem dL_law_1037 : decode cL_law 1037 = .ok (.ldc2_w 187, 3) := by decide +kernel
theorem dL_law_1040 : decode cL_law 1040 = .ok (.land, 1) := by decide +kernel
theorem dL_law_1041 : decode cL_law 1041 = .ok (.lor, 1) := by decide +kernel
theorem dL_law_1042 : decode cL_law 1042 = .ok (.aload_n 3, 1) := by decide +kernel
theorem dL_law_1043 : decode cL_law 1043 = .ok (.invokestatic 189, 3) := by decide +kernel
theorem dL_law_1046 : decode cL_law 1046 = .ok (.istore 6, 2) := by decide +kernel
theorem dL_law_1048 : decode cL_law 1048 = .ok (.aload_n 2, 1) := by decide +kernel
theorem dL_law_1049 : decode cL_law 1049 = .ok (.aload_n 0, 1) := by decide +kernel
end
section
theorem dL_law_1050 : decode cL_law 1050 = .ok (.iload 5, 2) := by decide +kernel
theorem dL_law_1052 : decode cL_law 1052 = .ok (.iconst 1, 1) := by decide +kernel
theorem dL_law_1053 : decode cL_law 1053 = .ok (.iadd, 1) := by decide +kernel
theorem dL_law_1054 : decode cL_law 1054 = .ok (.iaload, 1) := by decide +kernel
theorem dL_law_1055 : decode cL_law 1055 = .ok (.aload_n 0, 1) := by decide +kernel
theorem dL_law_1056 : decode cL_law 1056 = .ok (.iload 5, 2) := by decide +kernel
theorem dL_law_1058 : decode cL_law 1058 = .ok (.iconst 2, 1) := by decide +kernel
theorem dL_law_1059 : decode cL_law 1059 = .ok (.iadd, 1) := by decide +kernel
theorem dL_law_1060 : decode cL_law 1060 = .ok (.iaload, 1) := by decide +kernel
theorem dL_law_1061 : decode cL_law 1061 = .ok (.i2l, 1) := by decide +kernel
theorem dL_law_1062 : decode cL_law 1062 = .ok (.bipush 32, 2) := by decide +kernel
theorem dL_law_1064 : decode cL_law 1064 = .ok (.lshl, 1) := by decide +kernel
theorem dL_law_1065 : decode cL_law 1065 = .ok (.aload_n 0, 1) := by decide +kernel
theorem dL_law_1066 : decode cL_law 1066 = .ok (.iload 5, 2) := by decide +kernel
theorem dL_law_1068 : decode cL_law 1068 = .ok (.iconst 3, 1) := by decide +kernel
theorem dL_law_1069 : decode cL_law 1069 = .ok (.iadd, 1) := by decide +kernel
theorem dL_law_1070 : decode cL_law 1070 = .ok (.iaload, 1) := by decide +kernel
theorem dL_law_1071 : decode cL_law 1071 = .ok (.i2l, 1) := by decide +kernel
theorem dL_law_1072 : decode cL_law 1072 = .ok (.ldc2_w 187, 3) := by decide +kernel
theorem dL_law_1075 : decode cL_law 1075 = .ok (.land, 1) := by decide +kernel
theorem dL_law_1076 : decode cL_law 1076 = .ok (.lor, 1) := by decide +kernel
theorem dL_law_1077 : decode cL_law 1077 = .ok (.aload_n 0, 1) := by decide +kernel
theorem dL_law_1078 : decode cL_law 1078 = .ok (.iload 5, 2) := by decide +kernel
theorem dL_law_1080 : decode cL_law 1080 = .ok (.iconst 4, 1) := by decide +kernel
theorem dL_law_1081 : decode cL_law 1081 = .ok (.iadd, 1) := by decide +kernel
theorem dL_law_1082 : decode cL_law 1082 = .ok (.iaload, 1) := by decide +kernel
theorem dL_law_1083 : decode cL_law 1083 = .ok (.i2l, 1) := by decide +kernel
theorem dL_law_1084 : decode cL_law 1084 = .ok (.bipush 32, 2) := by decide +kernel
theorem dL_law_1086 : decode cL_law 1086 = .ok (.lshl, 1) := by decide +kernel
theorem dL_law_1087 : decode cL_law 1087 = .ok (.aload_n 0, 1) := by decide +kernel
theorem dL_law_1088 : decode cL_law 1088 = .ok (.iload 5, 2) := by decide +kernel
theorem dL_law_1090 : decode cL_law 1090 = .ok (.iconst 5, 1) := by decide +kernel
theorem dL_law_1091 : decode cL_law 1091 = .ok (.iadd, 1) := by decide +kernel
theorem dL_law_1092 : decode cL_law 1092 = .ok (.iaload, 1) := by decide +kernel
theorem dL_law_1093 : decode cL_law 1093 = .ok (.i2l, 1) := by decide +kernel
theorem dL_law_1094 : decode cL_law 1094 = .ok (.ldc2_w 187, 3) := by decide +kernel
theorem dL_law_1097 : decode cL_law 1097 = .ok (.land, 1) := by decide +kernel
theorem dL_law_1098 : decode cL_law 1098 = .ok (.lor, 1) := by decide +kernel
theorem dL_law_1099 : decode cL_law 1099 = .ok (.invokevirtual 192, 3) := by decide +kernel
theorem dL_law_1102 : decode cL_law 1102 = .ok (.istore 7, 2) := by decide +kernel
theorem dL_law_1104 : decode cL_law 1104 = .ok (.aload_n 2, 1) := by decide +kernel
theorem dL_law_1105 : decode cL_law 1105 = .ok (.invokevirtual 136, 3) := by decide +kernel
theorem dL_law_1108 : decode cL_law 1108 = .ok (.iload 6, 2) := by decide +kernel
theorem dL_law_1110 : decode cL_law 1110 = .ok (.if_icmp .eq 5, 3) := by decide +kernel
theorem dL_law_1113 : decode cL_law 1113 = .ok (.iconst 0, 1) := by decide +kernel
theorem dL_law_1114 : decode cL_law 1114 = .ok (.ireturn, 1) := by decide +kernel
theorem dL_law_1115 : decode cL_law 1115 = .ok (.iload 6, 2) := by decide +kernel
theorem dL_law_1117 : decode cL_law 1117 = .ok (.ifCond .ne 15, 3) := by decide +kernel
theorem dL_law_1120 : decode cL_law 1120 = .ok (.aload_n 3, 1) := by decide +kernel
theorem dL_law_1121 : decode cL_law 1121 = .ok (.iconst 0, 1) := by decide +kernel
theorem dL_law_1122 : decode cL_law 1122 = .ok (.laload, 1) := by decide +kernel
theorem dL_law_1123 : decode cL_law 1123 = .ok (.iload 7, 2) := by decide +kernel
theorem dL_law_1125 : decode cL_law 1125 = .ok (.i2l, 1) := by decide +kernel
theorem dL_law_1126 : decode cL_law 1126 = .ok (.lcmp, 1) := by decide +kernel
theorem dL_law_1127 : decode cL_law 1127 = .ok (.ifCond .eq 5, 3) := by decide +kernel
theorem dL_law_1130 : decode cL_law 1130 = .ok (.iconst 0, 1) := by decide +kernel
theorem dL_law_1131 : decode cL_law 1131 = .ok (.ireturn, 1) := by decide +kernel
theorem dL_law_1132 : decode cL_law 1132 = .ok (.goto 1840, 3) := by decide +kernel
theorem dL_law_1135 : decode cL_law 1135 = .ok (.aload_n 1, 1) := by decide +kernel
theorem dL_law_1136 : decode cL_law 1136 = .ok (.aload_n 0, 1) := by decide +kernel
theorem dL_law_1137 : decode cL_law 1137 = .ok (.iload 5, 2) := by decide +kernel
theorem dL_law_1139 : decode cL_law 1139 = .ok (.iconst 1, 1) := by decide +kernel
theorem dL_law_1140 : decode cL_law 1140 = .ok (.iadd, 1) := by decide +kernel
theorem dL_law_1141 : decode cL_law 1141 = .ok (.iaload, 1) := by decide +kernel
theorem dL_law_1142 : decode cL_law 1142 = .ok (.aload_n 0, 1) := by decide +kernel
theorem dL_law_1143 : decode cL_law 1143 = .ok (.iload 5, 2) := by decide +kernel
theorem dL_law_1145 : decode cL_law 1145 = .ok (.iconst 2, 1) := by decide +kernel
theorem dL_law_1146 : decode cL_law 1146 = .ok (.iadd, 1) := by decide +kernel
theorem dL_law_1147 : decode cL_law 1147 = .ok (.iaload, 1) := by decide +kernel
theorem dL_law_1148 : decode cL_law 1148 = .ok (.i2l, 1) := by decide +kernel
theorem dL_law_1149 : decode cL_law 1149 = .ok (.bipush 32, 2) := by decide +kernel
theorem dL_law_1151 : decode cL_law 1151 = .ok (.lshl, 1) := by decide +kernel
theorem dL_law_1152 : decode cL_law 1152 = .ok (.aload_n 0, 1) := by decide +kernel
theorem dL_law_1153 : decode cL_law 1153 = .ok (.iload 5, 2) := by decide +kernel
theorem dL_law_1155 : decode cL_law 1155 = .ok (.iconst 3, 1) := by decide +kernel
theorem dL_law_1156 : decode cL_law 1156 = .ok (.iadd, 1) := by decide +kernel
theorem dL_law_1157 : decode cL_law 1157 = .ok (.iaload, 1) := by decide +kernel
theorem dL_law_1158 : decode cL_law 1158 = .ok (.i2l, 1) := by decide +kernel
theorem dL_law_1159 : decode cL_law 1159 = .ok (.ldc2_w 187, 3) := by decide +kernel
theorem dL_law_1162 : decode cL_law 1162 = .ok (.land, 1) := by decide +kernel
theorem dL_law_1163 : decode cL_law 1163 = .ok (.lor, 1) := by decide +kernel
theorem dL_law_1164 : decode cL_law 1164 = .ok (.aload_n 0, 1) := by decide +kernel
theorem dL_law_1165 : decode cL_law 1165 = .ok (.iload 5, 2) := by decide +kernel
theorem dL_law_1167 : decode cL_law 1167 = .ok (.iconst 4, 1) := by decide +kernel
theorem dL_law_1168 : decode cL_law 1168 = .ok (.iadd, 1) := by decide +kernel
theorem dL_law_1169 : decode cL_law 1169 = .ok (.iaload, 1) := by decide +kernel
theorem dL_law_1170 : decode cL_law 1170 = .ok (.i2l, 1) := by decide +kernel
theorem dL_law_1171 : decode cL_law 1171 = .ok (.bipush 32, 2) := by decide +kernel
theorem dL_law_1173 : decode cL_law 1173 = .ok (.lshl, 1) := by decide +kernel
theorem dL_law_1174 : decode cL_law 1174 = .ok (.aload_n 0, 1) := by decide +kernel
theorem dL_law_1175 : decode cL_law 1175 = .ok (.iload 5, 2) := by decide +kernel
theorem dL_law_1177 : decode cL_law 1177 = .ok (.iconst 5, 1) := by decide +kernel
theorem dL_law_1178 : decode cL_law 1178 = .ok (.iadd, 1) := by decide +kernel
theorem dL_law_1179 : decode cL_law 1179 = .ok (.iaload, 1) := by decide +kernel
theorem dL_law_1180 : decode cL_law 1180 = .ok (.i2l, 1) := by decide +kernel
theorem dL_law_1181 : decode cL_law 1181 = .ok (.ldc2_w 187, 3) := by decide +kernel
theorem dL_law_1184 : decode cL_law 1184 = .ok (.land, 1) := by decide +kernel
theorem dL_law_1185 : decode cL_law 1185 = .ok (.lor, 1) := by decide +kernel
theorem dL_law_1186 : decode cL_law 1186 = .ok (.aload_n 3, 1) := by decide +kernel
theorem dL_law_1187 : decode cL_law 1187 = .ok (.invokestatic 193, 3) := by decide +kernel
theorem dL_law_1190 : decode cL_law 1190 = .ok (.istore 6, 2) := by decide +kernel
theorem dL_law_1192 : decode cL_law 1192 = .ok (.aload_n 2, 1) := by decide +kernel
theorem dL_law_1193 : decode cL_law 1193 = .ok (.aload_n 0, 1) := by decide +kernel
theorem dL_law_1194 : decode cL_law 1194 = .ok (.iload 5, 2) := by decide +kernel
theorem dL_law_1196 : decode cL_law 1196 = .ok (.iconst 1, 1) := by decide +kernel
theorem dL_law_1197 : decode cL_law 1197 = .ok (.iadd, 1) := by decide +kernel
theorem dL_law_1198 : decode cL_law 1198 = .ok (.iaload, 1) := by decide +kernel
theorem dL_law_1199 : decode cL_law 1199 = .ok (.aload_n 0, 1) := by decide +kernel
theorem dL_law_1200 : decode cL_law 1200 = .ok (.iload 5, 2) := by decide +kernel
theorem dL_law_1202 : decode cL_law 1202 = .ok (.iconst 2, 1) := by decide +kernel
theorem dL_law_1203 : decode cL_law 1203 = .ok (.iadd, 1) := by decide +kernel
theorem dL_law_1204 : decode cL_law 1204 = .ok (.iaload, 1) := by decide +kernel
theorem dL_law_1205 : decode cL_law 1205 = .ok (.i2l, 1) := by decide +kernel
theorem dL_law_1206 : decode cL_law 1206 = .ok (.bipush 32, 2) := by decide +kernel
theorem dL_law_1208 : decode cL_law 1208 = .ok (.lshl, 1) := by decide +kernel
theorem dL_law_1209 : decode cL_law 1209 = .ok (.aload_n 0, 1) := by decide +kernel
theorem dL_law_1210 : decode cL_law 1210 = .ok (.iload 5, 2) := by decide +kernel
theorem dL_law_1212 : decode cL_law 1212 = .ok (.iconst 3, 1) := by decide +kernel
theorem dL_law_1213 : decode cL_law 1213 = .ok (.iadd, 1) := by decide +kernel
theorem dL_law_1214 : decode cL_law 1214 = .ok (.iaload, 1) := by decide +kernel
theorem dL_law_1215 : decode cL_law 1215 = .ok (.i2l, 1) := by decide +kernel
theorem dL_law_1216 : decode cL_law 1216 = .ok (.ldc2_w 187, 3) := by decide +kernel
theorem dL_law_1219 : decode cL_law 1219 = .ok (.land, 1) := by decide +kernel
theorem dL_law_1220 : decode cL_law 1220 = .ok (.lor, 1) := by decide +kernel
theorem dL_law_1221 : decode cL_law 1221 = .ok (.aload_n 0, 1) := by decide +kernel
theorem dL_law_1222 : decode cL_law 1222 = .ok (.iload 5, 2) := by decide +kernel
theorem dL_law_1224 : decode cL_law 1224 = .ok (.iconst 4, 1) := by decide +kernel
theorem dL_law_1225 : decode cL_law 1225 = .ok (.iadd, 1) := by decide +kernel
theorem dL_law_1226 : decode cL_law 1226 = .ok (.iaload, 1) := by decide +kernel
theorem dL_law_1227 : decode cL_law 1227 = .ok (.i2l, 1) := by decide +kernel
theorem dL_law_1228 : decode cL_law 1228 = .ok (.bipush 32, 2) := by decide +kernel
theorem dL_law_1230 : decode cL_law 1230 = .ok (.lshl, 1) := by decide +kernel
theorem dL_law_1231 : decode cL_law 1231 = .ok (.aload_n 0, 1) := by decide +kernel
theorem dL_law_1232 : decode cL_law 1232 = .ok (.iload 5, 2) := by decide +kernel
theorem dL_law_1234 : decode cL_law 1234 = .ok (.iconst 5, 1) := by decide +kernel
theorem dL_law_1235 : decode cL_law 1235 = .ok (.iadd, 1) := by decide +kernel
theorem dL_law_1236 : decode cL_law 1236 = .ok (.iaload, 1) := by decide +kernel
theorem dL_law_1237 : decode cL_law 1237 = .ok (.i2l, 1) := by decide +kernel
theorem dL_law_1238 : decode cL_law 1238 = .ok (.ldc2_w 187, 3) := by decide +kernel
theorem dL_law_1241 : decode cL_law 1241 = .ok (.land, 1) := by decide +kernel
theorem dL_law_1242 : decode cL_law 1242 = .ok (.lor, 1) := by decide +kernel
theorem dL_law_1243 : decode cL_law 1243 = .ok (.invokevirtual 195, 3) := by decide +kernel
theorem dL_law_1246 : decode cL_law 1246 = .ok (.lstore 7, 2) := by decide +kernel
theorem dL_law_1248 : decode cL_law 1248 = .ok (.aload_n 2, 1) := by decide +kernel
theorem dL_law_1249 : decode cL_law 1249 = .ok (.invokevirtual 136, 3) := by decide +kernel
theorem dL_law_1252 : decode cL_law 1252 = .ok (.iload 6, 2) := by decide +kernel
theorem dL_law_1254 : decode cL_law 1254 = .ok (.if_icmp .eq 5, 3) := by decide +kernel
theorem dL_law_1257 : decode cL_law 1257 = .ok (.iconst 0, 1) := by decide +kernel
theorem dL_law_1258 : decode cL_law 1258 = .ok (.ireturn, 1) := by decide +kernel
theorem dL_law_1259 : decode cL_law 1259 = .ok (.iload 6, 2) := by decide +kernel
theorem dL_law_1261 : decode cL_law 1261 = .ok (.ifCond .ne 14, 3) := by decide +kernel
theorem dL_law_1264 : decode cL_law 1264 = .ok (.aload_n 3, 1) := by decide +kernel
theorem dL_law_1265 : decode cL_law 1265 = .ok (.iconst 0, 1) := by decide +kernel
theorem dL_law_1266 : decode cL_law 1266 = .ok (.laload, 1) := by decide +kernel
theorem dL_law_1267 : decode cL_law 1267 = .ok (.lload 7, 2) := by decide +kernel
theorem dL_law_1269 : decode cL_law 1269 = .ok (.lcmp, 1) := by decide +kernel
theorem dL_law_1270 : decode cL_law 1270 = .ok (.ifCond .eq 5, 3) := by decide +kernel
theorem dL_law_1273 : decode cL_law 1273 = .ok (.iconst 0, 1) := by decide +kernel
theorem dL_law_1274 : decode cL_law 1274 = .ok (.ireturn, 1) := by decide +kernel
theorem dL_law_1275 : decode cL_law 1275 = .ok (.goto 1697, 3) := by decide +kernel
theorem dL_law_1278 : decode cL_law 1278 = .ok (.aload_n 1, 1) := by decide +kernel
theorem dL_law_1279 : decode cL_law 1279 = .ok (.aload_n 0, 1) := by decide +kernel
theorem dL_law_1280 : decode cL_law 1280 = .ok (.iload 5, 2) := by decide +kernel
theorem dL_law_1282 : decode cL_law 1282 = .ok (.iconst 1, 1) := by decide +kernel
theorem dL_law_1283 : decode cL_law 1283 = .ok (.iadd, 1) := by decide +kernel
theorem dL_law_1284 : decode cL_law 1284 = .ok (.iaload, 1) := by decide +kernel
theorem dL_law_1285 : decode cL_law 1285 = .ok (.aload_n 0, 1) := by decide +kernel
theorem dL_law_1286 : decode cL_law 1286 = .ok (.iload 5, 2) := by decide +kernel
theorem dL_law_1288 : decode cL_law 1288 = .ok (.iconst 2, 1) := by decide +kernel
theorem dL_law_1289 : decode cL_law 1289 = .ok (.iadd, 1) := by decide +kernel
theorem dL_law_1290 : decode cL_law 1290 = .ok (.iaload, 1) := by decide +kernel
theorem dL_law_1291 : decode cL_law 1291 = .ok (.i2l, 1) := by decide +kernel
theorem dL_law_1292 : decode cL_law 1292 = .ok (.bipush 32, 2) := by decide +kernel
theorem dL_law_1294 : decode cL_law 1294 = .ok (.lshl, 1) := by decide +kernel
theorem dL_law_1295 : decode cL_law 1295 = .ok (.aload_n 0, 1) := by decide +kernel
theorem dL_law_1296 : decode cL_law 1296 = .ok (.iload 5, 2) := by decide +kernel
theorem dL_law_1298 : decode cL_law 1298 = .ok (.iconst 3, 1) := by decide +kernel
theorem dL_law_1299 : decode cL_law 1299 = .ok (.iadd, 1) := by decide +kernel
theorem dL_law_1300 : decode cL_law 1300 = .ok (.iaload, 1) := by decide +kernel
theorem dL_law_1301 : decode cL_law 1301 = .ok (.i2l, 1) := by decide +kernel
theorem dL_law_1302 : decode cL_law 1302 = .ok (.ldc2_w 187, 3) := by decide +kernel
theorem dL_law_1305 : decode cL_law 1305 = .ok (.land, 1) := by decide +kernel
theorem dL_law_1306 : decode cL_law 1306 = .ok (.lor, 1) := by decide +kernel
theorem dL_law_1307 : decode cL_law 1307 = .ok (.aload_n 0, 1) := by decide +kernel
theorem dL_law_1308 : decode cL_law 1308 = .ok (.iload 5, 2) := by decide +kernel
theorem dL_law_1310 : decode cL_law 1310 = .ok (.iconst 4, 1) := by decide +kernel
theorem dL_law_1311 : decode cL_law 1311 = .ok (.iadd, 1) := by decide +kernel
theorem dL_law_1312 : decode cL_law 1312 = .ok (.iaload, 1) := by decide +kernel
theorem dL_law_1313 : decode cL_law 1313 = .ok (.i2l, 1) := by decide +kernel
theorem dL_law_1314 : decode cL_law 1314 = .ok (.bipush 32, 2) := by decide +kernel
theorem dL_law_1316 : decode cL_law 1316 = .ok (.lshl, 1) := by decide +kernel
theorem dL_law_1317 : decode cL_law 1317 = .ok (.aload_n 0, 1) := by decide +kernel
theorem dL_law_1318 : decode cL_law 1318 = .ok (.iload 5, 2) := by decide +kernel
theorem dL_law_1320 : decode cL_law 1320 = .ok (.iconst 5, 1) := by decide +kernel
theorem dL_law_1321 : decode cL_law 1321 = .ok (.iadd, 1) := by decide +kernel
theorem dL_law_1322 : decode cL_law 1322 = .ok (.iaload, 1) := by decide +kernel
theorem dL_law_1323 : decode cL_law 1323 = .ok (.i2l, 1) := by decide +kernel
theorem dL_law_1324 : decode cL_law 1324 = .ok (.ldc2_w 187, 3) := by decide +kernel
theorem dL_law_1327 : decode cL_law 1327 = .ok (.land, 1) := by decide +kernel
theorem dL_law_1328 : decode cL_law 1328 = .ok (.lor, 1) := by decide +kernel
theorem dL_law_1329 : decode cL_law 1329 = .ok (.aload_n 3, 1) := by decide +kernel
theorem dL_law_1330 : decode cL_law 1330 = .ok (.invokestatic 196, 3) := by decide +kernel
theorem dL_law_1333 : decode cL_law 1333 = .ok (.istore 6, 2) := by decide +kernel
theorem dL_law_1335 : decode cL_law 1335 = .ok (.aload_n 2, 1) := by decide +kernel
theorem dL_law_1336 : decode cL_law 1336 = .ok (.aload_n 0, 1) := by decide +kernel
theorem dL_law_1337 : decode cL_law 1337 = .ok (.iload 5, 2) := by decide +kernel
theorem dL_law_1339 : decode cL_law 1339 = .ok (.iconst 1, 1) := by decide +kernel
theorem dL_law_1340 : decode cL_law 1340 = .ok (.iadd, 1) := by decide +kernel
theorem dL_law_1341 : decode cL_law 1341 = .ok (.iaload, 1) := by decide +kernel
theorem dL_law_1342 : decode cL_law 1342 = .ok (.aload_n 0, 1) := by decide +kernel
theorem dL_law_1343 : decode cL_law 1343 = .ok (.iload 5, 2) := by decide +kernel
theorem dL_law_1345 : decode cL_law 1345 = .ok (.iconst 2, 1) := by decide +kernel
theorem dL_law_1346 : decode cL_law 1346 = .ok (.iadd, 1) := by decide +kernel
theorem dL_law_1347 : decode cL_law 1347 = .ok (.iaload, 1) := by decide +kernel
theorem dL_law_1348 : decode cL_law 1348 = .ok (.i2l, 1) := by decide +kernel
theorem dL_law_1349 : decode cL_law 1349 = .ok (.bipush 32, 2) := by decide +kernel
theorem dL_law_1351 : decode cL_law 1351 = .ok (.lshl, 1) := by decide +kernel
theorem dL_law_1352 : decode cL_law 1352 = .ok (.aload_n 0, 1) := by decide +kernel
theorem dL_law_1353 : decode cL_law 1353 = .ok (.iload 5, 2) := by decide +kernel
theorem dL_law_1355 : decode cL_law 1355 = .ok (.iconst 3, 1) := by decide +kernel
theorem dL_law_1356 : decode cL_law 1356 = .ok (.iadd, 1) := by decide +kernel
theorem dL_law_1357 : decode cL_law 1357 = .ok (.iaload, 1) := by decide +kernel
theorem dL_law_1358 : decode cL_law 1358 = .ok (.i2l, 1) := by decide +kernel
theorem dL_law_1359 : decode cL_law 1359 = .ok (.ldc2_w 187, 3) := by decide +kernel
theorem dL_law_1362 : decode cL_law 1362 = .ok (.land, 1) := by decide +kernel
theorem dL_law_1363 : decode cL_law 1363 = .ok (.lor, 1) := by decide +kernel
theorem dL_law_1364 : decode cL_law 1364 = .ok (.aload_n 0, 1) := by decide +kernel
theorem dL_law_1365 : decode cL_law 1365 = .ok (.iload 5, 2) := by decide +kernel
theorem dL_law_1367 : decode cL_law 1367 = .ok (.iconst 4, 1) := by decide +kernel
theorem dL_law_1368 : decode cL_law 1368 = .ok (.iadd, 1) := by decide +kernel
theorem dL_law_1369 : decode cL_law 1369 = .ok (.iaload, 1) := by decide +kernel
theorem dL_law_1370 : decode cL_law 1370 = .ok (.i2l, 1) := by decide +kernel
theorem dL_law_1371 : decode cL_law 1371 = .ok (.bipush 32, 2) := by decide +kernel
theorem dL_law_1373 : decode cL_law 1373 = .ok (.lshl, 1) := by decide +kernel
theorem dL_law_1374 : decode cL_law 1374 = .ok (.aload_n 0, 1) := by decide +kernel
theorem dL_law_1375 : decode cL_law 1375 = .ok (.iload 5, 2) := by decide +kernel
theorem dL_law_1377 : decode cL_law 1377 = .ok (.iconst 5, 1) := by decide +kernel
theorem dL_law_1378 : decode cL_law 1378 = .ok (.iadd, 1) := by decide +kernel
theorem dL_law_1379 : decode cL_law 1379 = .ok (.iaload, 1) := by decide +kernel
theorem dL_law_1380 : decode cL_law 1380 = .ok (.i2l, 1) := by decide +kernel
theorem dL_law_1381 : decode cL_law 1381 = .ok (.ldc2_w 187, 3) := by decide +kernel
theorem dL_law_1384 : decode cL_law 1384 = .ok (.land, 1) := by decide +kernel
theorem dL_law_1385 : decode cL_law 1385 = .ok (.lor, 1) := by decide +kernel
theorem dL_law_1386 : decode cL_law 1386 = .ok (.invokevirtual 198, 3) := by decide +kernel
theorem dL_law_1389 : decode cL_law 1389 = .ok (.lstore 7, 2) := by decide +kernel
theorem dL_law_1391 : decode cL_law 1391 = .ok (.aload_n 2, 1) := by decide +kernel
theorem dL_law_1392 : decode cL_law 1392 = .ok (.invokevirtual 136, 3) := by decide +kernel
theorem dL_law_1395 : decode cL_law 1395 = .ok (.iload 6, 2) := by decide +kernel
theorem dL_law_1397 : decode cL_law 1397 = .ok (.if_icmp .eq 5, 3) := by decide +kernel
theorem dL_law_1400 : decode cL_law 1400 = .ok (.iconst 0, 1) := by decide +kernel
theorem dL_law_1401 : decode cL_law 1401 = .ok (.ireturn, 1) := by decide +kernel
theorem dL_law_1402 : decode cL_law 1402 = .ok (.iload 6, 2) := by decide +kernel
theorem dL_law_1404 : decode cL_law 1404 = .ok (.ifCond .ne 14, 3) := by decide +kernel
theorem dL_law_1407 : decode cL_law 1407 = .ok (.aload_n 3, 1) := by decide +kernel
theorem dL_law_1408 : decode cL_law 1408 = .ok (.iconst 0, 1) := by decide +kernel
theorem dL_law_1409 : decode cL_law 1409 = .ok (.laload, 1) := by decide +kernel
theorem dL_law_1410 : decode cL_law 1410 = .ok (.lload 7, 2) := by decide +kernel
theorem dL_law_1412 : decode cL_law 1412 = .ok (.lcmp, 1) := by decide +kernel
theorem dL_law_1413 : decode cL_law 1413 = .ok (.ifCond .eq 5, 3) := by decide +kernel
theorem dL_law_1416 : decode cL_law 1416 = .ok (.iconst 0, 1) := by decide +kernel
theorem dL_law_1417 : decode cL_law 1417 = .ok (.ireturn, 1) := by decide +kernel
theorem dL_law_1418 : decode cL_law 1418 = .ok (.goto 1554, 3) := by decide +kernel
theorem dL_law_1421 : decode cL_law 1421 = .ok (.aload_n 1, 1) := by decide +kernel
theorem dL_law_1422 : decode cL_law 1422 = .ok (.aload_n 0, 1) := by decide +kernel
theorem dL_law_1423 : decode cL_law 1423 = .ok (.iload 5, 2) := by decide +kernel
theorem dL_law_1425 : decode cL_law 1425 = .ok (.iconst 1, 1) := by decide +kernel
theorem dL_law_1426 : decode cL_law 1426 = .ok (.iadd, 1) := by decide +kernel
theorem dL_law_1427 : decode cL_law 1427 = .ok (.iaload, 1) := by decide +kernel
theorem dL_law_1428 : decode cL_law 1428 = .ok (.aload_n 0, 1) := by decide +kernel
theorem dL_law_1429 : decode cL_law 1429 = .ok (.iload 5, 2) := by decide +kernel
theorem dL_law_1431 : decode cL_law 1431 = .ok (.iconst 2, 1) := by decide +kernel
theorem dL_law_1432 : decode cL_law 1432 = .ok (.iadd, 1) := by decide +kernel
theorem dL_law_1433 : decode cL_law 1433 = .ok (.iaload, 1) := by decide +kernel
theorem dL_law_1434 : decode cL_law 1434 = .ok (.i2l, 1) := by decide +kernel
theorem dL_law_1435 : decode cL_law 1435 = .ok (.bipush 32, 2) := by decide +kernel
theorem dL_law_1437 : decode cL_law 1437 = .ok (.lshl, 1) := by decide +kernel
theorem dL_law_1438 : decode cL_law 1438 = .ok (.aload_n 0, 1) := by decide +kernel
theorem dL_law_1439 : decode cL_law 1439 = .ok (.iload 5, 2) := by decide +kernel
theorem dL_law_1441 : decode cL_law 1441 = .ok (.iconst 3, 1) := by decide +kernel
theorem dL_law_1442 : decode cL_law 1442 = .ok (.iadd, 1) := by decide +kernel
theorem dL_law_1443 : decode cL_law 1443 = .ok (.iaload, 1) := by decide +kernel
theorem dL_law_1444 : decode cL_law 1444 = .ok (.i2l, 1) := by decide +kernel
theorem dL_law_1445 : decode cL_law 1445 = .ok (.ldc2_w 187, 3) := by decide +kernel
theorem dL_law_1448 : decode cL_law 1448 = .ok (.land, 1) := by decide +kernel
theorem dL_law_1449 : decode cL_law 1449 = .ok (.lor, 1) := by decide +kernel
theorem dL_law_1450 : decode cL_law 1450 = .ok (.aload_n 0, 1) := by decide +kernel
theorem dL_law_1451 : decode cL_law 1451 = .ok (.iload 5, 2) := by decide +kernel
theorem dL_law_1453 : decode cL_law 1453 = .ok (.iconst 4, 1) := by decide +kernel
theorem dL_law_1454 : decode cL_law 1454 = .ok (.iadd, 1) := by decide +kernel
theorem dL_law_1455 : decode cL_law 1455 = .ok (.iaload, 1) := by decide +kernel
theorem dL_law_1456 : decode cL_law 1456 = .ok (.i2l, 1) := by decide +kernel
theorem dL_law_1457 : decode cL_law 1457 = .ok (.bipush 32, 2) := by decide +kernel
theorem dL_law_1459 : decode cL_law 1459 = .ok (.lshl, 1) := by decide +kernel
theorem dL_law_1460 : decode cL_law 1460 = .ok (.aload_n 0, 1) := by decide +kernel
theorem dL_law_1461 : decode cL_law 1461 = .ok (.iload 5, 2) := by decide +kernel
theorem dL_law_1463 : decode cL_law 1463 = .ok (.iconst 5, 1) := by decide +kernel
theorem dL_law_1464 : decode cL_law 1464 = .ok (.iadd, 1) := by decide +kernel
theorem dL_law_1465 : decode cL_law 1465 = .ok (.iaload, 1) := by decide +kernel
theorem dL_law_1466 : decode cL_law 1466 = .ok (.i2l, 1) := by decide +kernel
theorem dL_law_1467 : decode cL_law 1467 = .ok (.ldc2_w 187, 3) := by decide +kernel
theorem dL_law_1470 : decode cL_law 1470 = .ok (.land, 1) := by decide +kernel
theorem dL_law_1471 : decode cL_law 1471 = .ok (.lor, 1) := by decide +kernel
theorem dL_law_1472 : decode cL_law 1472 = .ok (.aload_n 3, 1) := by decide +kernel
theorem dL_law_1473 : decode cL_law 1473 = .ok (.invokestatic 199, 3) := by decide +kernel
theorem dL_law_1476 : decode cL_law 1476 = .ok (.istore 6, 2) := by decide +kernel
theorem dL_law_1478 : decode cL_law 1478 = .ok (.aload_n 2, 1) := by decide +kernel
theorem dL_law_1479 : decode cL_law 1479 = .ok (.aload_n 0, 1) := by decide +kernel
theorem dL_law_1480 : decode cL_law 1480 = .ok (.iload 5, 2) := by decide +kernel
theorem dL_law_1482 : decode cL_law 1482 = .ok (.iconst 1, 1) := by decide +kernel
theorem dL_law_1483 : decode cL_law 1483 = .ok (.iadd, 1) := by decide +kernel
theorem dL_law_1484 : decode cL_law 1484 = .ok (.iaload, 1) := by decide +kernel
theorem dL_law_1485 : decode cL_law 1485 = .ok (.aload_n 0, 1) := by decide +kernel
theorem dL_law_1486 : decode cL_law 1486 = .ok (.iload 5, 2) := by decide +kernel
theorem dL_law_1488 : decode cL_law 1488 = .ok (.iconst 2, 1) := by decide +kernel
theorem dL_law_1489 : decode cL_law 1489 = .ok (.iadd, 1) := by decide +kernel
theorem dL_law_1490 : decode cL_law 1490 = .ok (.iaload, 1) := by decide +kernel
theorem dL_law_1491 : decode cL_law 1491 = .ok (.i2l, 1) := by decide +kernel
theorem dL_law_1492 : decode cL_law 1492 = .ok (.bipush 32, 2) := by decide +kernel
theorem dL_law_1494 : decode cL_law 1494 = .ok (.lshl, 1) := by decide +kernel
theorem dL_law_1495 : decode cL_law 1495 = .ok (.aload_n 0, 1) := by decide +kernel
theorem dL_law_1496 : decode cL_law 1496 = .ok (.iload 5, 2) := by decide +kernel
theorem dL_law_1498 : decode cL_law 1498 = .ok (.iconst 3, 1) := by decide +kernel
theorem dL_law_1499 : decode cL_law 1499 = .ok (.iadd, 1) := by decide +kernel
theorem dL_law_1500 : decode cL_law 1500 = .ok (.iaload, 1) := by decide +kernel
theorem dL_law_1501 : decode cL_law 1501 = .ok (.i2l, 1) := by decide +kernel
theorem dL_law_1502 : decode cL_law 1502 = .ok (.ldc2_w 187, 3) := by decide +kernel
theorem dL_law_1505 : decode cL_law 1505 = .ok (.land, 1) := by decide +kernel
theorem dL_law_1506 : decode cL_law 1506 = .ok (.lor, 1) := by decide +kernel
theorem dL_law_1507 : decode cL_law 1507 = .ok (.aload_n 0, 1) := by decide +kernel
theorem dL_law_1508 : decode cL_law 1508 = .ok (.iload 5, 2) := by decide +kernel
theorem dL_law_1510 : decode cL_law 1510 = .ok (.iconst 4, 1) := by decide +kernel
theorem dL_law_1511 : decode cL_law 1511 = .ok (.iadd, 1) := by decide +kernel
theorem dL_law_1512 : decode cL_law 1512 = .ok (.iaload, 1) := by decide +kernel
theorem dL_law_1513 : decode cL_law 1513 = .ok (.i2l, 1) := by decide +kernel
theorem dL_law_1514 : decode cL_law 1514 = .ok (.bipush 32, 2) := by decide +kernel
theorem dL_law_1516 : decode cL_law 1516 = .ok (.lshl, 1) := by decide +kernel
theorem dL_law_1517 : decode cL_law 1517 = .ok (.aload_n 0, 1) := by decide +kernel
theorem dL_law_1518 : decode cL_law 1518 = .ok (.iload 5, 2) := by decide +kernel
theorem dL_law_1520 : decode cL_law 1520 = .ok (.iconst 5, 1) := by decide +kernel
theorem dL_law_1521 : decode cL_law 1521 = .ok (.iadd, 1) := by decide +kernel
theorem dL_law_1522 : decode cL_law 1522 = .ok (.iaload, 1) := by decide +kernel
theorem dL_law_1523 : decode cL_law 1523 = .ok (.i2l, 1) := by decide +kernel
theorem dL_law_1524 : decode cL_law 1524 = .ok (.ldc2_w 187, 3) := by decide +kernel
theorem dL_law_1527 : decode cL_law 1527 = .ok (.land, 1) := by decide +kernel
theorem dL_law_1528 : decode cL_law 1528 = .ok (.lor, 1) := by decide +kernel
theorem dL_law_1529 : decode cL_law 1529 = .ok (.invokevirtual 201, 3) := by decide +kernel
theorem dL_law_1532 : decode cL_law 1532 = .ok (.istore 7, 2) := by decide +kernel
theorem dL_law_1534 : decode cL_law 1534 = .ok (.aload_n 2, 1) := by decide +kernel
theorem dL_law_1535 : decode cL_law 1535 = .ok (.invokevirtual 136, 3) := by decide +kernel
theorem dL_law_1538 : decode cL_law 1538 = .ok (.iload 6, 2) := by decide +kernel
theorem dL_law_1540 : decode cL_law 1540 = .ok (.if_icmp .eq 5, 3) := by decide +kernel
theorem dL_law_1543 : decode cL_law 1543 = .ok (.iconst 0, 1) := by decide +kernel
theorem dL_law_1544 : decode cL_law 1544 = .ok (.ireturn, 1) := by decide +kernel
theorem dL_law_1545 : decode cL_law 1545 = .ok (.iload 6, 2) := by decide +kernel
theorem dL_law_1547 : decode cL_law 1547 = .ok (.ifCond .ne 15, 3) := by decide +kernel
theorem dL_law_1550 : decode cL_law 1550 = .ok (.aload_n 3, 1) := by decide +kernel
theorem dL_law_1551 : decode cL_law 1551 = .ok (.iconst 0, 1) := by decide +kernel
theorem dL_law_1552 : decode cL_law 1552 = .ok (.laload, 1) := by decide +kernel
theorem dL_law_1553 : decode cL_law 1553 = .ok (.iload 7, 2) := by decide +kernel
theorem dL_law_1555 : decode cL_law 1555 = .ok (.i2l, 1) := by decide +kernel
theorem dL_law_1556 : decode cL_law 1556 = .ok (.lcmp, 1) := by decide +kernel
theorem dL_law_1557 : decode cL_law 1557 = .ok (.ifCond .eq 5, 3) := by decide +kernel
theorem dL_law_1560 : decode cL_law 1560 = .ok (.iconst 0, 1) := by decide +kernel
theorem dL_law_1561 : decode cL_law 1561 = .ok (.ireturn, 1) := by decide +kernel
theorem dL_law_1562 : decode cL_law 1562 = .ok (.goto 1410, 3) := by decide +kernel
theorem dL_law_1565 : decode cL_law 1565 = .ok (.aload_n 1, 1) := by decide +kernel
theorem dL_law_1566 : decode cL_law 1566 = .ok (.aload_n 0, 1) := by decide +kernel
theorem dL_law_1567 : decode cL_law 1567 = .ok (.iload 5, 2) := by decide +kernel
theorem dL_law_1569 : decode cL_law 1569 = .ok (.iconst 1, 1) := by decide +kernel
theorem dL_law_1570 : decode cL_law 1570 = .ok (.iadd, 1) := by decide +kernel
theorem dL_law_1571 : decode cL_law 1571 = .ok (.iaload, 1) := by decide +kernel
theorem dL_law_1572 : decode cL_law 1572 = .ok (.aload_n 0, 1) := by decide +kernel
theorem dL_law_1573 : decode cL_law 1573 = .ok (.iload 5, 2) := by decide +kernel
theorem dL_law_1575 : decode cL_law 1575 = .ok (.iconst 2, 1) := by decide +kernel
theorem dL_law_1576 : decode cL_law 1576 = .ok (.iadd, 1) := by decide +kernel
theorem dL_law_1577 : decode cL_law 1577 = .ok (.iaload, 1) := by decide +kernel
theorem dL_law_1578 : decode cL_law 1578 = .ok (.i2l, 1) := by decide +kernel
theorem dL_law_1579 : decode cL_law 1579 = .ok (.bipush 32, 2) := by decide +kernel
theorem dL_law_1581 : decode cL_law 1581 = .ok (.lshl, 1) := by decide +kernel
theorem dL_law_1582 : decode cL_law 1582 = .ok (.aload_n 0, 1) := by decide +kernel
theorem dL_law_1583 : decode cL_law 1583 = .ok (.iload 5, 2) := by decide +kernel
theorem dL_law_1585 : decode cL_law 1585 = .ok (.iconst 3, 1) := by decide +kernel
theorem dL_law_1586 : decode cL_law 1586 = .ok (.iadd, 1) := by decide +kernel
theorem dL_law_1587 : decode cL_law 1587 = .ok (.iaload, 1) := by decide +kernel
theorem dL_law_1588 : decode cL_law 1588 = .ok (.i2l, 1) := by decide +kernel
theorem dL_law_1589 : decode cL_law 1589 = .ok (.ldc2_w 187, 3) := by decide +kernel
theorem dL_law_1592 : decode cL_law 1592 = .ok (.land, 1) := by decide +kernel
theorem dL_law_1593 : decode cL_law 1593 = .ok (.lor, 1) := by decide +kernel
theorem dL_law_1594 : decode cL_law 1594 = .ok (.aload_n 0, 1) := by decide +kernel
theorem dL_law_1595 : decode cL_law 1595 = .ok (.iload 5, 2) := by decide +kernel
theorem dL_law_1597 : decode cL_law 1597 = .ok (.iconst 4, 1) := by decide +kernel
theorem dL_law_1598 : decode cL_law 1598 = .ok (.iadd, 1) := by decide +kernel
theorem dL_law_1599 : decode cL_law 1599 = .ok (.iaload, 1) := by decide +kernel
theorem dL_law_1600 : decode cL_law 1600 = .ok (.i2l, 1) := by decide +kernel
theorem dL_law_1601 : decode cL_law 1601 = .ok (.bipush 32, 2) := by decide +kernel
theorem dL_law_1603 : decode cL_law 1603 = .ok (.lshl, 1) := by decide +kernel
theorem dL_law_1604 : decode cL_law 1604 = .ok (.aload_n 0, 1) := by decide +kernel
theorem dL_law_1605 : decode cL_law 1605 = .ok (.iload 5, 2) := by decide +kernel
theorem dL_law_1607 : decode cL_law 1607 = .ok (.iconst 5, 1) := by decide +kernel
theorem dL_law_1608 : decode cL_law 1608 = .ok (.iadd, 1) := by decide +kernel
theorem dL_law_1609 : decode cL_law 1609 = .ok (.iaload, 1) := by decide +kernel
theorem dL_law_1610 : decode cL_law 1610 = .ok (.i2l, 1) := by decide +kernel
theorem dL_law_1611 : decode cL_law 1611 = .ok (.ldc2_w 187, 3) := by decide +kernel
theorem dL_law_1614 : decode cL_law 1614 = .ok (.land, 1) := by decide +kernel
theorem dL_law_1615 : decode cL_law 1615 = .ok (.lor, 1) := by decide +kernel
theorem dL_law_1616 : decode cL_law 1616 = .ok (.aload 4, 2) := by decide +kernel
theorem dL_law_1618 : decode cL_law 1618 = .ok (.invokestatic 202, 3) := by decide +kernel
theorem dL_law_1621 : decode cL_law 1621 = .ok (.istore 6, 2) := by decide +kernel
theorem dL_law_1623 : decode cL_law 1623 = .ok (.aload_n 2, 1) := by decide +kernel
theorem dL_law_1624 : decode cL_law 1624 = .ok (.aload_n 0, 1) := by decide +kernel
theorem dL_law_1625 : decode cL_law 1625 = .ok (.iload 5, 2) := by decide +kernel
theorem dL_law_1627 : decode cL_law 1627 = .ok (.iconst 1, 1) := by decide +kernel
theorem dL_law_1628 : decode cL_law 1628 = .ok (.iadd, 1) := by decide +kernel
theorem dL_law_1629 : decode cL_law 1629 = .ok (.iaload, 1) := by decide +kernel
theorem dL_law_1630 : decode cL_law 1630 = .ok (.aload_n 0, 1) := by decide +kernel
theorem dL_law_1631 : decode cL_law 1631 = .ok (.iload 5, 2) := by decide +kernel
theorem dL_law_1633 : decode cL_law 1633 = .ok (.iconst 2, 1) := by decide +kernel
theorem dL_law_1634 : decode cL_law 1634 = .ok (.iadd, 1) := by decide +kernel
theorem dL_law_1635 : decode cL_law 1635 = .ok (.iaload, 1) := by decide +kernel
theorem dL_law_1636 : decode cL_law 1636 = .ok (.i2l, 1) := by decide +kernel
theorem dL_law_1637 : decode cL_law 1637 = .ok (.bipush 32, 2) := by decide +kernel
theorem dL_law_1639 : decode cL_law 1639 = .ok (.lshl, 1) := by decide +kernel
theorem dL_law_1640 : decode cL_law 1640 = .ok (.aload_n 0, 1) := by decide +kernel
theorem dL_law_1641 : decode cL_law 1641 = .ok (.iload 5, 2) := by decide +kernel
theorem dL_law_1643 : decode cL_law 1643 = .ok (.iconst 3, 1) := by decide +kernel
theorem dL_law_1644 : decode cL_law 1644 = .ok (.iadd, 1) := by decide +kernel
theorem dL_law_1645 : decode cL_law 1645 = .ok (.iaload, 1) := by decide +kernel
theorem dL_law_1646 : decode cL_law 1646 = .ok (.i2l, 1) := by decide +kernel
theorem dL_law_1647 : decode cL_law 1647 = .ok (.ldc2_w 187, 3) := by decide +kernel
theorem dL_law_1650 : decode cL_law 1650 = .ok (.land, 1) := by decide +kernel
theorem dL_law_1651 : decode cL_law 1651 = .ok (.lor, 1) := by decide +kernel
theorem dL_law_1652 : decode cL_law 1652 = .ok (.aload_n 0, 1) := by decide +kernel
theorem dL_law_1653 : decode cL_law 1653 = .ok (.iload 5, 2) := by decide +kernel
theorem dL_law_1655 : decode cL_law 1655 = .ok (.iconst 4, 1) := by decide +kernel
theorem dL_law_1656 : decode cL_law 1656 = .ok (.iadd, 1) := by decide +kernel
theorem dL_law_1657 : decode cL_law 1657 = .ok (.iaload, 1) := by decide +kernel
theorem dL_law_1658 : decode cL_law 1658 = .ok (.i2l, 1) := by decide +kernel
theorem dL_law_1659 : decode cL_law 1659 = .ok (.bipush 32, 2) := by decide +kernel
theorem dL_law_1661 : decode cL_law 1661 = .ok (.lshl, 1) := by decide +kernel
theorem dL_law_1662 : decode cL_law 1662 = .ok (.aload_n 0, 1) := by decide +kernel
theorem dL_law_1663 : decode cL_law 1663 = .ok (.iload 5, 2) := by decide +kernel
theorem dL_law_1665 : decode cL_law 1665 = .ok (.iconst 5, 1) := by decide +kernel
theorem dL_law_1666 : decode cL_law 1666 = .ok (.iadd, 1) := by decide +kernel
theorem dL_law_1667 : decode cL_law 1667 = .ok (.iaload, 1) := by decide +kernel
theorem dL_law_1668 : decode cL_law 1668 = .ok (.i2l, 1) := by decide +kernel
theorem dL_law_1669 : decode cL_law 1669 = .ok (.ldc2_w 187, 3) := by decide +kernel
theorem dL_law_1672 : decode cL_law 1672 = .ok (.land, 1) := by decide +kernel
theorem dL_law_1673 : decode cL_law 1673 = .ok (.lor, 1) := by decide +kernel
theorem dL_law_1674 : decode cL_law 1674 = .ok (.invokevirtual 205, 3) := by decide +kernel
theorem dL_law_1677 : decode cL_law 1677 = .ok (.dstore 7, 2) := by decide +kernel
theorem dL_law_1679 : decode cL_law 1679 = .ok (.aload_n 2, 1) := by decide +kernel
theorem dL_law_1680 : decode cL_law 1680 = .ok (.invokevirtual 136, 3) := by decide +kernel
theorem dL_law_1683 : decode cL_law 1683 = .ok (.iload 6, 2) := by decide +kernel
theorem dL_law_1685 : decode cL_law 1685 = .ok (.if_icmp .eq 5, 3) := by decide +kernel
theorem dL_law_1688 : decode cL_law 1688 = .ok (.iconst 0, 1) := by decide +kernel
theorem dL_law_1689 : decode cL_law 1689 = .ok (.ireturn, 1) := by decide +kernel
theorem dL_law_1690 : decode cL_law 1690 = .ok (.iload 6, 2) := by decide +kernel
theorem dL_law_1692 : decode cL_law 1692 = .ok (.ifCond .ne 35, 3) := by decide +kernel
theorem dL_law_1695 : decode cL_law 1695 = .ok (.aload 4, 2) := by decide +kernel
theorem dL_law_1697 : decode cL_law 1697 = .ok (.iconst 0, 1) := by decide +kernel
theorem dL_law_1698 : decode cL_law 1698 = .ok (.daload, 1) := by decide +kernel
theorem dL_law_1699 : decode cL_law 1699 = .ok (.dload 7, 2) := by decide +kernel
theorem dL_law_1701 : decode cL_law 1701 = .ok (.dcmp .l, 1) := by decide +kernel
theorem dL_law_1702 : decode cL_law 1702 = .ok (.ifCond .eq 25, 3) := by decide +kernel
theorem dL_law_1705 : decode cL_law 1705 = .ok (.aload 4, 2) := by decide +kernel
theorem dL_law_1707 : decode cL_law 1707 = .ok (.iconst 0, 1) := by decide +kernel
theorem dL_law_1708 : decode cL_law 1708 = .ok (.daload, 1) := by decide +kernel
theorem dL_law_1709 : decode cL_law 1709 = .ok (.aload 4, 2) := by decide +kernel
theorem dL_law_1711 : decode cL_law 1711 = .ok (.iconst 0, 1) := by decide +kernel
theorem dL_law_1712 : decode cL_law 1712 = .ok (.daload, 1) := by decide +kernel
theorem dL_law_1713 : decode cL_law 1713 = .ok (.dcmp .l, 1) := by decide +kernel
theorem dL_law_1714 : decode cL_law 1714 = .ok (.ifCond .eq 11, 3) := by decide +kernel
theorem dL_law_1717 : decode cL_law 1717 = .ok (.dload 7, 2) := by decide +kernel
theorem dL_law_1719 : decode cL_law 1719 = .ok (.dload 7, 2) := by decide +kernel
theorem dL_law_1721 : decode cL_law 1721 = .ok (.dcmp .l, 1) := by decide +kernel
theorem dL_law_1722 : decode cL_law 1722 = .ok (.ifCond .ne 5, 3) := by decide +kernel
theorem dL_law_1725 : decode cL_law 1725 = .ok (.iconst 0, 1) := by decide +kernel
theorem dL_law_1726 : decode cL_law 1726 = .ok (.ireturn, 1) := by decide +kernel
theorem dL_law_1727 : decode cL_law 1727 = .ok (.goto 1245, 3) := by decide +kernel
theorem dL_law_1730 : decode cL_law 1730 = .ok (.aload_n 1, 1) := by decide +kernel
theorem dL_law_1731 : decode cL_law 1731 = .ok (.aload_n 0, 1) := by decide +kernel
theorem dL_law_1732 : decode cL_law 1732 = .ok (.iload 5, 2) := by decide +kernel
theorem dL_law_1734 : decode cL_law 1734 = .ok (.iconst 1, 1) := by decide +kernel
theorem dL_law_1735 : decode cL_law 1735 = .ok (.iadd, 1) := by decide +kernel
theorem dL_law_1736 : decode cL_law 1736 = .ok (.iaload, 1) := by decide +kernel
theorem dL_law_1737 : decode cL_law 1737 = .ok (.aload_n 0, 1) := by decide +kernel
theorem dL_law_1738 : decode cL_law 1738 = .ok (.iload 5, 2) := by decide +kernel
theorem dL_law_1740 : decode cL_law 1740 = .ok (.iconst 2, 1) := by decide +kernel
theorem dL_law_1741 : decode cL_law 1741 = .ok (.iadd, 1) := by decide +kernel
theorem dL_law_1742 : decode cL_law 1742 = .ok (.iaload, 1) := by decide +kernel
theorem dL_law_1743 : decode cL_law 1743 = .ok (.aload_n 3, 1) := by decide +kernel
theorem dL_law_1744 : decode cL_law 1744 = .ok (.invokestatic 206, 3) := by decide +kernel
theorem dL_law_1747 : decode cL_law 1747 = .ok (.istore 6, 2) := by decide +kernel
theorem dL_law_1749 : decode cL_law 1749 = .ok (.aload_n 2, 1) := by decide +kernel
theorem dL_law_1750 : decode cL_law 1750 = .ok (.aload_n 0, 1) := by decide +kernel
theorem dL_law_1751 : decode cL_law 1751 = .ok (.iload 5, 2) := by decide +kernel
theorem dL_law_1753 : decode cL_law 1753 = .ok (.iconst 1, 1) := by decide +kernel
theorem dL_law_1754 : decode cL_law 1754 = .ok (.iadd, 1) := by decide +kernel
theorem dL_law_1755 : decode cL_law 1755 = .ok (.iaload, 1) := by decide +kernel
theorem dL_law_1756 : decode cL_law 1756 = .ok (.aload_n 0, 1) := by decide +kernel
theorem dL_law_1757 : decode cL_law 1757 = .ok (.iload 5, 2) := by decide +kernel
theorem dL_law_1759 : decode cL_law 1759 = .ok (.iconst 2, 1) := by decide +kernel
theorem dL_law_1760 : decode cL_law 1760 = .ok (.iadd, 1) := by decide +kernel
theorem dL_law_1761 : decode cL_law 1761 = .ok (.iaload, 1) := by decide +kernel
theorem dL_law_1762 : decode cL_law 1762 = .ok (.invokevirtual 208, 3) := by decide +kernel
theorem dL_law_1765 : decode cL_law 1765 = .ok (.istore 7, 2) := by decide +kernel
theorem dL_law_1767 : decode cL_law 1767 = .ok (.aload_n 2, 1) := by decide +kernel
theorem dL_law_1768 : decode cL_law 1768 = .ok (.invokevirtual 136, 3) := by decide +kernel
theorem dL_law_1771 : decode cL_law 1771 = .ok (.iload 6, 2) := by decide +kernel
theorem dL_law_1773 : decode cL_law 1773 = .ok (.if_icmp .eq 5, 3) := by decide +kernel
theorem dL_law_1776 : decode cL_law 1776 = .ok (.iconst 0, 1) := by decide +kernel
theorem dL_law_1777 : decode cL_law 1777 = .ok (.ireturn, 1) := by decide +kernel
theorem dL_law_1778 : decode cL_law 1778 = .ok (.iload 6, 2) := by decide +kernel
theorem dL_law_1780 : decode cL_law 1780 = .ok (.ifCond .ne 15, 3) := by decide +kernel
theorem dL_law_1783 : decode cL_law 1783 = .ok (.aload_n 3, 1) := by decide +kernel
theorem dL_law_1784 : decode cL_law 1784 = .ok (.iconst 0, 1) := by decide +kernel
theorem dL_law_1785 : decode cL_law 1785 = .ok (.laload, 1) := by decide +kernel
theorem dL_law_1786 : decode cL_law 1786 = .ok (.iload 7, 2) := by decide +kernel
theorem dL_law_1788 : decode cL_law 1788 = .ok (.i2l, 1) := by decide +kernel
theorem dL_law_1789 : decode cL_law 1789 = .ok (.lcmp, 1) := by decide +kernel
theorem dL_law_1790 : decode cL_law 1790 = .ok (.ifCond .eq 5, 3) := by decide +kernel
theorem dL_law_1793 : decode cL_law 1793 = .ok (.iconst 0, 1) := by decide +kernel
theorem dL_law_1794 : decode cL_law 1794 = .ok (.ireturn, 1) := by decide +kernel
theorem dL_law_1795 : decode cL_law 1795 = .ok (.goto 1177, 3) := by decide +kernel
theorem dL_law_1798 : decode cL_law 1798 = .ok (.aload_n 1, 1) := by decide +kernel
theorem dL_law_1799 : decode cL_law 1799 = .ok (.aload_n 0, 1) := by decide +kernel
theorem dL_law_1800 : decode cL_law 1800 = .ok (.iload 5, 2) := by decide +kernel
theorem dL_law_1802 : decode cL_law 1802 = .ok (.iconst 1, 1) := by decide +kernel
theorem dL_law_1803 : decode cL_law 1803 = .ok (.iadd, 1) := by decide +kernel
theorem dL_law_1804 : decode cL_law 1804 = .ok (.iaload, 1) := by decide +kernel
theorem dL_law_1805 : decode cL_law 1805 = .ok (.aload_n 0, 1) := by decide +kernel
theorem dL_law_1806 : decode cL_law 1806 = .ok (.iload 5, 2) := by decide +kernel
theorem dL_law_1808 : decode cL_law 1808 = .ok (.iconst 2, 1) := by decide +kernel
theorem dL_law_1809 : decode cL_law 1809 = .ok (.iadd, 1) := by decide +kernel
theorem dL_law_1810 : decode cL_law 1810 = .ok (.iaload, 1) := by decide +kernel
theorem dL_law_1811 : decode cL_law 1811 = .ok (.i2l, 1) := by decide +kernel
theorem dL_law_1812 : decode cL_law 1812 = .ok (.bipush 32, 2) := by decide +kernel
theorem dL_law_1814 : decode cL_law 1814 = .ok (.lshl, 1) := by decide +kernel
theorem dL_law_1815 : decode cL_law 1815 = .ok (.aload_n 0, 1) := by decide +kernel
theorem dL_law_1816 : decode cL_law 1816 = .ok (.iload 5, 2) := by decide +kernel
theorem dL_law_1818 : decode cL_law 1818 = .ok (.iconst 3, 1) := by decide +kernel
theorem dL_law_1819 : decode cL_law 1819 = .ok (.iadd, 1) := by decide +kernel
theorem dL_law_1820 : decode cL_law 1820 = .ok (.iaload, 1) := by decide +kernel
theorem dL_law_1821 : decode cL_law 1821 = .ok (.i2l, 1) := by decide +kernel
theorem dL_law_1822 : decode cL_law 1822 = .ok (.ldc2_w 187, 3) := by decide +kernel
theorem dL_law_1825 : decode cL_law 1825 = .ok (.land, 1) := by decide +kernel
theorem dL_law_1826 : decode cL_law 1826 = .ok (.lor, 1) := by decide +kernel
theorem dL_law_1827 : decode cL_law 1827 = .ok (.aload_n 0, 1) := by decide +kernel
theorem dL_law_1828 : decode cL_law 1828 = .ok (.iload 5, 2) := by decide +kernel
theorem dL_law_1830 : decode cL_law 1830 = .ok (.iconst 4, 1) := by decide +kernel
theorem dL_law_1831 : decode cL_law 1831 = .ok (.iadd, 1) := by decide +kernel
theorem dL_law_1832 : decode cL_law 1832 = .ok (.iaload, 1) := by decide +kernel
theorem dL_law_1833 : decode cL_law 1833 = .ok (.i2l, 1) := by decide +kernel
theorem dL_law_1834 : decode cL_law 1834 = .ok (.bipush 32, 2) := by decide +kernel
theorem dL_law_1836 : decode cL_law 1836 = .ok (.lshl, 1) := by decide +kernel
theorem dL_law_1837 : decode cL_law 1837 = .ok (.aload_n 0, 1) := by decide +kernel
theorem dL_law_1838 : decode cL_law 1838 = .ok (.iload 5, 2) := by decide +kernel
theorem dL_law_1840 : decode cL_law 1840 = .ok (.iconst 5, 1) := by decide +kernel
theorem dL_law_1841 : decode cL_law 1841 = .ok (.iadd, 1) := by decide +kernel
theorem dL_law_1842 : decode cL_law 1842 = .ok (.iaload, 1) := by decide +kernel
theorem dL_law_1843 : decode cL_law 1843 = .ok (.i2l, 1) := by decide +kernel
theorem dL_law_1844 : decode cL_law 1844 = .ok (.ldc2_w 187, 3) := by decide +kernel
theorem dL_law_1847 : decode cL_law 1847 = .ok (.land, 1) := by decide +kernel
theorem dL_law_1848 : decode cL_law 1848 = .ok (.lor, 1) := by decide +kernel
theorem dL_law_1849 : decode cL_law 1849 = .ok (.aload_n 3, 1) := by decide +kernel
theorem dL_law_1850 : decode cL_law 1850 = .ok (.invokestatic 209, 3) := by decide +kernel
theorem dL_law_1853 : decode cL_law 1853 = .ok (.istore 6, 2) := by decide +kernel
theorem dL_law_1855 : decode cL_law 1855 = .ok (.aload_n 2, 1) := by decide +kernel
theorem dL_law_1856 : decode cL_law 1856 = .ok (.aload_n 0, 1) := by decide +kernel
theorem dL_law_1857 : decode cL_law 1857 = .ok (.iload 5, 2) := by decide +kernel
theorem dL_law_1859 : decode cL_law 1859 = .ok (.iconst 1, 1) := by decide +kernel
theorem dL_law_1860 : decode cL_law 1860 = .ok (.iadd, 1) := by decide +kernel
theorem dL_law_1861 : decode cL_law 1861 = .ok (.iaload, 1) := by decide +kernel
theorem dL_law_1862 : decode cL_law 1862 = .ok (.aload_n 0, 1) := by decide +kernel
theorem dL_law_1863 : decode cL_law 1863 = .ok (.iload 5, 2) := by decide +kernel
theorem dL_law_1865 : decode cL_law 1865 = .ok (.iconst 2, 1) := by decide +kernel
theorem dL_law_1866 : decode cL_law 1866 = .ok (.iadd, 1) := by decide +kernel
theorem dL_law_1867 : decode cL_law 1867 = .ok (.iaload, 1) := by decide +kernel
theorem dL_law_1868 : decode cL_law 1868 = .ok (.i2l, 1) := by decide +kernel
theorem dL_law_1869 : decode cL_law 1869 = .ok (.bipush 32, 2) := by decide +kernel
theorem dL_law_1871 : decode cL_law 1871 = .ok (.lshl, 1) := by decide +kernel
theorem dL_law_1872 : decode cL_law 1872 = .ok (.aload_n 0, 1) := by decide +kernel
theorem dL_law_1873 : decode cL_law 1873 = .ok (.iload 5, 2) := by decide +kernel
theorem dL_law_1875 : decode cL_law 1875 = .ok (.iconst 3, 1) := by decide +kernel
theorem dL_law_1876 : decode cL_law 1876 = .ok (.iadd, 1) := by decide +kernel
theorem dL_law_1877 : decode cL_law 1877 = .ok (.iaload, 1) := by decide +kernel
theorem dL_law_1878 : decode cL_law 1878 = .ok (.i2l, 1) := by decide +kernel
theorem dL_law_1879 : decode cL_law 1879 = .ok (.ldc2_w 187, 3) := by decide +kernel
theorem dL_law_1882 : decode cL_law 1882 = .ok (.land, 1) := by decide +kernel
theorem dL_law_1883 : decode cL_law 1883 = .ok (.lor, 1) := by decide +kernel
theorem dL_law_1884 : decode cL_law 1884 = .ok (.aload_n 0, 1) := by decide +kernel
theorem dL_law_1885 : decode cL_law 1885 = .ok (.iload 5, 2) := by decide +kernel
theorem dL_law_1887 : decode cL_law 1887 = .ok (.iconst 4, 1) := by decide +kernel
theorem dL_law_1888 : decode cL_law 1888 = .ok (.iadd, 1) := by decide +kernel
theorem dL_law_1889 : decode cL_law 1889 = .ok (.iaload, 1) := by decide +kernel
theorem dL_law_1890 : decode cL_law 1890 = .ok (.i2l, 1) := by decide +kernel
theorem dL_law_1891 : decode cL_law 1891 = .ok (.bipush 32, 2) := by decide +kernel
theorem dL_law_1893 : decode cL_law 1893 = .ok (.lshl, 1) := by decide +kernel
theorem dL_law_1894 : decode cL_law 1894 = .ok (.aload_n 0, 1) := by decide +kernel
theorem dL_law_1895 : decode cL_law 1895 = .ok (.iload 5, 2) := by decide +kernel
theorem dL_law_1897 : decode cL_law 1897 = .ok (.iconst 5, 1) := by decide +kernel
theorem dL_law_1898 : decode cL_law 1898 = .ok (.iadd, 1) := by decide +kernel
theorem dL_law_1899 : decode cL_law 1899 = .ok (.iaload, 1) := by decide +kernel
theorem dL_law_1900 : decode cL_law 1900 = .ok (.i2l, 1) := by decide +kernel
theorem dL_law_1901 : decode cL_law 1901 = .ok (.ldc2_w 187, 3) := by decide +kernel
theorem dL_law_1904 : decode cL_law 1904 = .ok (.land, 1) := by decide +kernel
theorem dL_law_1905 : decode cL_law 1905 = .ok (.lor, 1) := by decide +kernel
theorem dL_law_1906 : decode cL_law 1906 = .ok (.invokevirtual 211, 3) := by decide +kernel
theorem dL_law_1909 : decode cL_law 1909 = .ok (.istore 7, 2) := by decide +kernel
theorem dL_law_1911 : decode cL_law 1911 = .ok (.aload_n 2, 1) := by decide +kernel
theorem dL_law_1912 : decode cL_law 1912 = .ok (.invokevirtual 136, 3) := by decide +kernel
theorem dL_law_1915 : decode cL_law 1915 = .ok (.iload 6, 2) := by decide +kernel
theorem dL_law_1917 : decode cL_law 1917 = .ok (.if_icmp .eq 5, 3) := by decide +kernel
theorem dL_law_1920 : decode cL_law 1920 = .ok (.iconst 0, 1) := by decide +kernel
theorem dL_law_1921 : decode cL_law 1921 = .ok (.ireturn, 1) := by decide +kernel
theorem dL_law_1922 : decode cL_law 1922 = .ok (.iload 6, 2) := by decide +kernel
theorem dL_law_1924 : decode cL_law 1924 = .ok (.ifCond .ne 15, 3) := by decide +kernel
theorem dL_law_1927 : decode cL_law 1927 = .ok (.aload_n 3, 1) := by decide +kernel
theorem dL_law_1928 : decode cL_law 1928 = .ok (.iconst 0, 1) := by decide +kernel
theorem dL_law_1929 : decode cL_law 1929 = .ok (.laload, 1) := by decide +kernel
theorem dL_law_1930 : decode cL_law 1930 = .ok (.iload 7, 2) := by decide +kernel
theorem dL_law_1932 : decode cL_law 1932 = .ok (.i2l, 1) := by decide +kernel
theorem dL_law_1933 : decode cL_law 1933 = .ok (.lcmp, 1) := by decide +kernel
theorem dL_law_1934 : decode cL_law 1934 = .ok (.ifCond .eq 5, 3) := by decide +kernel
theorem dL_law_1937 : decode cL_law 1937 = .ok (.iconst 0, 1) := by decide +kernel
theorem dL_law_1938 : decode cL_law 1938 = .ok (.ireturn, 1) := by decide +kernel
theorem dL_law_1939 : decode cL_law 1939 = .ok (.goto 1033, 3) := by decide +kernel
theorem dL_law_1942 : decode cL_law 1942 = .ok (.aload_n 1, 1) := by decide +kernel
theorem dL_law_1943 : decode cL_law 1943 = .ok (.aload_n 0, 1) := by decide +kernel
theorem dL_law_1944 : decode cL_law 1944 = .ok (.iload 5, 2) := by decide +kernel
theorem dL_law_1946 : decode cL_law 1946 = .ok (.iconst 1, 1) := by decide +kernel
theorem dL_law_1947 : decode cL_law 1947 = .ok (.iadd, 1) := by decide +kernel
theorem dL_law_1948 : decode cL_law 1948 = .ok (.iaload, 1) := by decide +kernel
theorem dL_law_1949 : decode cL_law 1949 = .ok (.aload_n 0, 1) := by decide +kernel
theorem dL_law_1950 : decode cL_law 1950 = .ok (.iload 5, 2) := by decide +kernel
theorem dL_law_1952 : decode cL_law 1952 = .ok (.iconst 2, 1) := by decide +kernel
theorem dL_law_1953 : decode cL_law 1953 = .ok (.iadd, 1) := by decide +kernel
theorem dL_law_1954 : decode cL_law 1954 = .ok (.iaload, 1) := by decide +kernel
theorem dL_law_1955 : decode cL_law 1955 = .ok (.i2l, 1) := by decide +kernel
theorem dL_law_1956 : decode cL_law 1956 = .ok (.bipush 32, 2) := by decide +kernel
theorem dL_law_1958 : decode cL_law 1958 = .ok (.lshl, 1) := by decide +kernel
theorem dL_law_1959 : decode cL_law 1959 = .ok (.aload_n 0, 1) := by decide +kernel
theorem dL_law_1960 : decode cL_law 1960 = .ok (.iload 5, 2) := by decide +kernel
theorem dL_law_1962 : decode cL_law 1962 = .ok (.iconst 3, 1) := by decide +kernel
theorem dL_law_1963 : decode cL_law 1963 = .ok (.iadd, 1) := by decide +kernel
theorem dL_law_1964 : decode cL_law 1964 = .ok (.iaload, 1) := by decide +kernel
theorem dL_law_1965 : decode cL_law 1965 = .ok (.i2l, 1) := by decide +kernel
theorem dL_law_1966 : decode cL_law 1966 = .ok (.ldc2_w 187, 3) := by decide +kernel
theorem dL_law_1969 : decode cL_law 1969 = .ok (.land, 1) := by decide +kernel
theorem dL_law_1970 : decode cL_law 1970 = .ok (.lor, 1) := by decide +kernel
theorem dL_law_1971 : decode cL_law 1971 = .ok (.aload_n 0, 1) := by decide +kernel
theorem dL_law_1972 : decode cL_law 1972 = .ok (.iload 5, 2) := by decide +kernel
theorem dL_law_1974 : decode cL_law 1974 = .ok (.iconst 4, 1) := by decide +kernel
theorem dL_law_1975 : decode cL_law 1975 = .ok (.iadd, 1) := by decide +kernel
theorem dL_law_1976 : decode cL_law 1976 = .ok (.iaload, 1) := by decide +kernel
theorem dL_law_1977 : decode cL_law 1977 = .ok (.i2l, 1) := by decide +kernel
theorem dL_law_1978 : decode cL_law 1978 = .ok (.bipush 32, 2) := by decide +kernel
theorem dL_law_1980 : decode cL_law 1980 = .ok (.lshl, 1) := by decide +kernel
theorem dL_law_1981 : decode cL_law 1981 = .ok (.aload_n 0, 1) := by decide +kernel
theorem dL_law_1982 : decode cL_law 1982 = .ok (.iload 5, 2) := by decide +kernel
theorem dL_law_1984 : decode cL_law 1984 = .ok (.iconst 5, 1) := by decide +kernel
theorem dL_law_1985 : decode cL_law 1985 = .ok (.iadd, 1) := by decide +kernel
theorem dL_law_1986 : decode cL_law 1986 = .ok (.iaload, 1) := by decide +kernel
theorem dL_law_1987 : decode cL_law 1987 = .ok (.i2l, 1) := by decide +kernel
theorem dL_law_1988 : decode cL_law 1988 = .ok (.ldc2_w 187, 3) := by decide +kernel
theorem dL_law_1991 : decode cL_law 1991 = .ok (.land, 1) := by decide +kernel
theorem dL_law_1992 : decode cL_law 1992 = .ok (.lor, 1) := by decide +kernel
theorem dL_law_1993 : decode cL_law 1993 = .ok (.aload_n 3, 1) := by decide +kernel
theorem dL_law_1994 : decode cL_law 1994 = .ok (.invokestatic 212, 3) := by decide +kernel
theorem dL_law_1997 : decode cL_law 1997 = .ok (.istore 6, 2) := by decide +kernel
theorem dL_law_1999 : decode cL_law 1999 = .ok (.aload_n 2, 1) := by decide +kernel
theorem dL_law_2000 : decode cL_law 2000 = .ok (.aload_n 0, 1) := by decide +kernel
theorem dL_law_2001 : decode cL_law 2001 = .ok (.iload 5, 2) := by decide +kernel
theorem dL_law_2003 : decode cL_law 2003 = .ok (.iconst 1, 1) := by decide +kernel
theorem dL_law_2004 : decode cL_law 2004 = .ok (.iadd, 1) := by decide +kernel
theorem dL_law_2005 : decode cL_law 2005 = .ok (.iaload, 1) := by decide +kernel
theorem dL_law_2006 : decode cL_law 2006 = .ok (.aload_n 0, 1) := by decide +kernel
theorem dL_law_2007 : decode cL_law 2007 = .ok (.iload 5, 2) := by decide +kernel
theorem dL_law_2009 : decode cL_law 2009 = .ok (.iconst 2, 1) := by decide +kernel
theorem dL_law_2010 : decode cL_law 2010 = .ok (.iadd, 1) := by decide +kernel
theorem dL_law_2011 : decode cL_law 2011 = .ok (.iaload, 1) := by decide +kernel
theorem dL_law_2012 : decode cL_law 2012 = .ok (.i2l, 1) := by decide +kernel
theorem dL_law_2013 : decode cL_law 2013 = .ok (.bipush 32, 2) := by decide +kernel
theorem dL_law_2015 : decode cL_law 2015 = .ok (.lshl, 1) := by decide +kernel
theorem dL_law_2016 : decode cL_law 2016 = .ok (.aload_n 0, 1) := by decide +kernel
theorem dL_law_2017 : decode cL_law 2017 = .ok (.iload 5, 2) := by decide +kernel
theorem dL_law_2019 : decode cL_law 2019 = .ok (.iconst 3, 1) := by decide +kernel
theorem dL_law_2020 : decode cL_law 2020 = .ok (.iadd, 1) := by decide +kernel
theorem dL_law_2021 : decode cL_law 2021 = .ok (.iaload, 1) := by decide +kernel
theorem dL_law_2022 : decode cL_law 2022 = .ok (.i2l, 1) := by decide +kernel
theorem dL_law_2023 : decode cL_law 2023 = .ok (.ldc2_w 187, 3) := by decide +kernel
theorem dL_law_2026 : decode cL_law 2026 = .ok (.land, 1) := by decide +kernel
theorem dL_law_2027 : decode cL_law 2027 = .ok (.lor, 1) := by decide +kernel
theorem dL_law_2028 : decode cL_law 2028 = .ok (.aload_n 0, 1) := by decide +kernel
theorem dL_law_2029 : decode cL_law 2029 = .ok (.iload 5, 2) := by decide +kernel
theorem dL_law_2031 : decode cL_law 2031 = .ok (.iconst 4, 1) := by decide +kernel
theorem dL_law_2032 : decode cL_law 2032 = .ok (.iadd, 1) := by decide +kernel
theorem dL_law_2033 : decode cL_law 2033 = .ok (.iaload, 1) := by decide +kernel
theorem dL_law_2034 : decode cL_law 2034 = .ok (.i2l, 1) := by decide +kernel
theorem dL_law_2035 : decode cL_law 2035 = .ok (.bipush 32, 2) := by decide +kernel
theorem dL_law_2037 : decode cL_law 2037 = .ok (.lshl, 1) := by decide +kernel
theorem dL_law_2038 : decode cL_law 2038 = .ok (.aload_n 0, 1) := by decide +kernel
theorem dL_law_2039 : decode cL_law 2039 = .ok (.iload 5, 2) := by decide +kernel
theorem dL_law_2041 : decode cL_law 2041 = .ok (.iconst 5, 1) := by decide +kernel
theorem dL_law_2042 : decode cL_law 2042 = .ok (.iadd, 1) := by decide +kernel
theorem dL_law_2043 : decode cL_law 2043 = .ok (.iaload, 1) := by decide +kernel
theorem dL_law_2044 : decode cL_law 2044 = .ok (.i2l, 1) := by decide +kernel
theorem dL_law_2045 : decode cL_law 2045 = .ok (.ldc2_w 187, 3) := by decide +kernel
theorem dL_law_2048 : decode cL_law 2048 = .ok (.land, 1) := by decide +kernel
theorem dL_law_2049 : decode cL_law 2049 = .ok (.lor, 1) := by decide +kernel
theorem dL_law_2050 : decode cL_law 2050 = .ok (.invokevirtual 214, 3) := by decide +kernel
theorem dL_law_2053 : decode cL_law 2053 = .ok (.istore 7, 2) := by decide +kernel
theorem dL_law_2055 : decode cL_law 2055 = .ok (.aload_n 2, 1) := by decide +kernel
theorem dL_law_2056 : decode cL_law 2056 = .ok (.invokevirtual 136, 3) := by decide +kernel
theorem dL_law_2059 : decode cL_law 2059 = .ok (.iload 6, 2) := by decide +kernel
theorem dL_law_2061 : decode cL_law 2061 = .ok (.if_icmp .eq 5, 3) := by decide +kernel
theorem dL_law_2064 : decode cL_law 2064 = .ok (.iconst 0, 1) := by decide +kernel
theorem dL_law_2065 : decode cL_law 2065 = .ok (.ireturn, 1) := by decide +kernel
theorem dL_law_2066 : decode cL_law 2066 = .ok (.iload 6, 2) := by decide +kernel
theorem dL_law_2068 : decode cL_law 2068 = .ok (.ifCond .ne 15, 3) := by decide +kernel
theorem dL_law_2071 : decode cL_law 2071 = .ok (.aload_n 3, 1) := by decide +kernel
theorem dL_law_2072 : decode cL_law 2072 = .ok (.iconst 0, 1) := by decide +kernel
theorem dL_law_2073 : decode cL_law 2073 = .ok (.laload, 1) := by decide +kernel
theorem dL_law_2074 : decode cL_law 2074 = .ok (.iload 7, 2) := by decide +kernel
theorem dL_law_2076 : decode cL_law 2076 = .ok (.i2l, 1) := by decide +kernel
theorem dL_law_2077 : decode cL_law 2077 = .ok (.lcmp, 1) := by decide +kernel
theorem dL_law_2078 : decode cL_law 2078 = .ok (.ifCond .eq 5, 3) := by decide +kernel
theorem dL_law_2081 : decode cL_law 2081 = .ok (.iconst 0, 1) := by decide +kernel
theorem dL_law_2082 : decode cL_law 2082 = .ok (.ireturn, 1) := by decide +kernel
theorem dL_law_2083 : decode cL_law 2083 = .ok (.goto 889, 3) := by decide +kernel
theorem dL_law_2086 : decode cL_law 2086 = .ok (.aload_n 1, 1) := by decide +kernel
theorem dL_law_2087 : decode cL_law 2087 = .ok (.aload_n 0, 1) := by decide +kernel
theorem dL_law_2088 : decode cL_law 2088 = .ok (.iload 5, 2) := by decide +kernel
theorem dL_law_2090 : decode cL_law 2090 = .ok (.iconst 1, 1) := by decide +kernel
theorem dL_law_2091 : decode cL_law 2091 = .ok (.iadd, 1) := by decide +kernel
theorem dL_law_2092 : decode cL_law 2092 = .ok (.iaload, 1) := by decide +kernel
theorem dL_law_2093 : decode cL_law 2093 = .ok (.aload_n 0, 1) := by decide +kernel
theorem dL_law_2094 : decode cL_law 2094 = .ok (.iload 5, 2) := by decide +kernel
theorem dL_law_2096 : decode cL_law 2096 = .ok (.iconst 2, 1) := by decide +kernel
theorem dL_law_2097 : decode cL_law 2097 = .ok (.iadd, 1) := by decide +kernel
theorem dL_law_2098 : decode cL_law 2098 = .ok (.iaload, 1) := by decide +kernel
theorem dL_law_2099 : decode cL_law 2099 = .ok (.i2l, 1) := by decide +kernel
theorem dL_law_2100 : decode cL_law 2100 = .ok (.bipush 32, 2) := by decide +kernel
theorem dL_law_2102 : decode cL_law 2102 = .ok (.lshl, 1) := by decide +kernel
theorem dL_law_2103 : decode cL_law 2103 = .ok (.aload_n 0, 1) := by decide +kernel
theorem dL_law_2104 : decode cL_law 2104 = .ok (.iload 5, 2) := by decide +kernel
theorem dL_law_2106 : decode cL_law 2106 = .ok (.iconst 3, 1) := by decide +kernel
theorem dL_law_2107 : decode cL_law 2107 = .ok (.iadd, 1) := by decide +kernel
theorem dL_law_2108 : decode cL_law 2108 = .ok (.iaload, 1) := by decide +kernel
theorem dL_law_2109 : decode cL_law 2109 = .ok (.i2l, 1) := by decide +kernel
theorem dL_law_2110 : decode cL_law 2110 = .ok (.ldc2_w 187, 3) := by decide +kernel
theorem dL_law_2113 : decode cL_law 2113 = .ok (.land, 1) := by decide +kernel
theorem dL_law_2114 : decode cL_law 2114 = .ok (.lor, 1) := by decide +kernel
theorem dL_law_2115 : decode cL_law 2115 = .ok (.aload_n 0, 1) := by decide +kernel
theorem dL_law_2116 : decode cL_law 2116 = .ok (.iload 5, 2) := by decide +kernel
theorem dL_law_2118 : decode cL_law 2118 = .ok (.iconst 4, 1) := by decide +kernel
theorem dL_law_2119 : decode cL_law 2119 = .ok (.iadd, 1) := by decide +kernel
theorem dL_law_2120 : decode cL_law 2120 = .ok (.iaload, 1) := by decide +kernel
theorem dL_law_2121 : decode cL_law 2121 = .ok (.i2l, 1) := by decide +kernel
theorem dL_law_2122 : decode cL_law 2122 = .ok (.bipush 32, 2) := by decide +kernel
theorem dL_law_2124 : decode cL_law 2124 = .ok (.lshl, 1) := by decide +kernel
theorem dL_law_2125 : decode cL_law 2125 = .ok (.aload_n 0, 1) := by decide +kernel
theorem dL_law_2126 : decode cL_law 2126 = .ok (.iload 5, 2) := by decide +kernel
theorem dL_law_2128 : decode cL_law 2128 = .ok (.iconst 5, 1) := by decide +kernel
theorem dL_law_2129 : decode cL_law 2129 = .ok (.iadd, 1) := by decide +kernel
theorem dL_law_2130 : decode cL_law 2130 = .ok (.iaload, 1) := by decide +kernel
theorem dL_law_2131 : decode cL_law 2131 = .ok (.i2l, 1) := by decide +kernel
theorem dL_law_2132 : decode cL_law 2132 = .ok (.ldc2_w 187, 3) := by decide +kernel
theorem dL_law_2135 : decode cL_law 2135 = .ok (.land, 1) := by decide +kernel
theorem dL_law_2136 : decode cL_law 2136 = .ok (.lor, 1) := by decide +kernel
theorem dL_law_2137 : decode cL_law 2137 = .ok (.aload_n 3, 1) := by decide +kernel
theorem dL_law_2138 : decode cL_law 2138 = .ok (.invokestatic 215, 3) := by decide +kernel
theorem dL_law_2141 : decode cL_law 2141 = .ok (.istore 6, 2) := by decide +kernel
theorem dL_law_2143 : decode cL_law 2143 = .ok (.aload_n 2, 1) := by decide +kernel
theorem dL_law_2144 : decode cL_law 2144 = .ok (.aload_n 0, 1) := by decide +kernel
theorem dL_law_2145 : decode cL_law 2145 = .ok (.iload 5, 2) := by decide +kernel
theorem dL_law_2147 : decode cL_law 2147 = .ok (.iconst 1, 1) := by decide +kernel
theorem dL_law_2148 : decode cL_law 2148 = .ok (.iadd, 1) := by decide +kernel
theorem dL_law_2149 : decode cL_law 2149 = .ok (.iaload, 1) := by decide +kernel
theorem dL_law_2150 : decode cL_law 2150 = .ok (.aload_n 0, 1) := by decide +kernel
theorem dL_law_2151 : decode cL_law 2151 = .ok (.iload 5, 2) := by decide +kernel
theorem dL_law_2153 : decode cL_law 2153 = .ok (.iconst 2, 1) := by decide +kernel
theorem dL_law_2154 : decode cL_law 2154 = .ok (.iadd, 1) := by decide +kernel
theorem dL_law_2155 : decode cL_law 2155 = .ok (.iaload, 1) := by decide +kernel
theorem dL_law_2156 : decode cL_law 2156 = .ok (.i2l, 1) := by decide +kernel
theorem dL_law_2157 : decode cL_law 2157 = .ok (.bipush 32, 2) := by decide +kernel
theorem dL_law_2159 : decode cL_law 2159 = .ok (.lshl, 1) := by decide +kernel
theorem dL_law_2160 : decode cL_law 2160 = .ok (.aload_n 0, 1) := by decide +kernel
theorem dL_law_2161 : decode cL_law 2161 = .ok (.iload 5, 2) := by decide +kernel
theorem dL_law_2163 : decode cL_law 2163 = .ok (.iconst 3, 1) := by decide +kernel
theorem dL_law_2164 : decode cL_law 2164 = .ok (.iadd, 1) := by decide +kernel
theorem dL_law_2165 : decode cL_law 2165 = .ok (.iaload, 1) := by decide +kernel
theorem dL_law_2166 : decode cL_law 2166 = .ok (.i2l, 1) := by decide +kernel
theorem dL_law_2167 : decode cL_law 2167 = .ok (.ldc2_w 187, 3) := by decide +kernel
theorem dL_law_2170 : decode cL_law 2170 = .ok (.land, 1) := by decide +kernel
theorem dL_law_2171 : decode cL_law 2171 = .ok (.lor, 1) := by decide +kernel
theorem dL_law_2172 : decode cL_law 2172 = .ok (.aload_n 0, 1) := by decide +kernel
theorem dL_law_2173 : decode cL_law 2173 = .ok (.iload 5, 2) := by decide +kernel
theorem dL_law_2175 : decode cL_law 2175 = .ok (.iconst 4, 1) := by decide +kernel
theorem dL_law_2176 : decode cL_law 2176 = .ok (.iadd, 1) := by decide +kernel
theorem dL_law_2177 : decode cL_law 2177 = .ok (.iaload, 1) := by decide +kernel
theorem dL_law_2178 : decode cL_law 2178 = .ok (.i2l, 1) := by decide +kernel
theorem dL_law_2179 : decode cL_law 2179 = .ok (.bipush 32, 2) := by decide +kernel
theorem dL_law_2181 : decode cL_law 2181 = .ok (.lshl, 1) := by decide +kernel
theorem dL_law_2182 : decode cL_law 2182 = .ok (.aload_n 0, 1) := by decide +kernel
theorem dL_law_2183 : decode cL_law 2183 = .ok (.iload 5, 2) := by decide +kernel
theorem dL_law_2185 : decode cL_law 2185 = .ok (.iconst 5, 1) := by decide +kernel
theorem dL_law_2186 : decode cL_law 2186 = .ok (.iadd, 1) := by decide +kernel
theorem dL_law_2187 : decode cL_law 2187 = .ok (.iaload, 1) := by decide +kernel
theorem dL_law_2188 : decode cL_law 2188 = .ok (.i2l, 1) := by decide +kernel
theorem dL_law_2189 : decode cL_law 2189 = .ok (.ldc2_w 187, 3) := by decide +kernel
theorem dL_law_2192 : decode cL_law 2192 = .ok (.land, 1) := by decide +kernel
theorem dL_law_2193 : decode cL_law 2193 = .ok (.lor, 1) := by decide +kernel
theorem dL_law_2194 : decode cL_law 2194 = .ok (.invokevirtual 217, 3) := by decide +kernel
theorem dL_law_2197 : decode cL_law 2197 = .ok (.istore 7, 2) := by decide +kernel
theorem dL_law_2199 : decode cL_law 2199 = .ok (.aload_n 2, 1) := by decide +kernel
theorem dL_law_2200 : decode cL_law 2200 = .ok (.invokevirtual 136, 3) := by decide +kernel
theorem dL_law_2203 : decode cL_law 2203 = .ok (.iload 6, 2) := by decide +kernel
theorem dL_law_2205 : decode cL_law 2205 = .ok (.if_icmp .eq 5, 3) := by decide +kernel
theorem dL_law_2208 : decode cL_law 2208 = .ok (.iconst 0, 1) := by decide +kernel
theorem dL_law_2209 : decode cL_law 2209 = .ok (.ireturn, 1) := by decide +kernel
theorem dL_law_2210 : decode cL_law 2210 = .ok (.iload 6, 2) := by decide +kernel
theorem dL_law_2212 : decode cL_law 2212 = .ok (.ifCond .ne 15, 3) := by decide +kernel
theorem dL_law_2215 : decode cL_law 2215 = .ok (.aload_n 3, 1) := by decide +kernel
theorem dL_law_2216 : decode cL_law 2216 = .ok (.iconst 0, 1) := by decide +kernel
theorem dL_law_2217 : decode cL_law 2217 = .ok (.laload, 1) := by decide +kernel
theorem dL_law_2218 : decode cL_law 2218 = .ok (.iload 7, 2) := by decide +kernel
theorem dL_law_2220 : decode cL_law 2220 = .ok (.i2l, 1) := by decide +kernel
theorem dL_law_2221 : decode cL_law 2221 = .ok (.lcmp, 1) := by decide +kernel
theorem dL_law_2222 : decode cL_law 2222 = .ok (.ifCond .eq 5, 3) := by decide +kernel
theorem dL_law_2225 : decode cL_law 2225 = .ok (.iconst 0, 1) := by decide +kernel
theorem dL_law_2226 : decode cL_law 2226 = .ok (.ireturn, 1) := by decide +kernel
theorem dL_law_2227 : decode cL_law 2227 = .ok (.goto 745, 3) := by decide +kernel
theorem dL_law_2230 : decode cL_law 2230 = .ok (.aload_n 1, 1) := by decide +kernel
theorem dL_law_2231 : decode cL_law 2231 = .ok (.aload_n 0, 1) := by decide +kernel
theorem dL_law_2232 : decode cL_law 2232 = .ok (.iload 5, 2) := by decide +kernel
theorem dL_law_2234 : decode cL_law 2234 = .ok (.iconst 1, 1) := by decide +kernel
theorem dL_law_2235 : decode cL_law 2235 = .ok (.iadd, 1) := by decide +kernel
theorem dL_law_2236 : decode cL_law 2236 = .ok (.iaload, 1) := by decide +kernel
theorem dL_law_2237 : decode cL_law 2237 = .ok (.aload_n 0, 1) := by decide +kernel
theorem dL_law_2238 : decode cL_law 2238 = .ok (.iload 5, 2) := by decide +kernel
theorem dL_law_2240 : decode cL_law 2240 = .ok (.iconst 2, 1) := by decide +kernel
theorem dL_law_2241 : decode cL_law 2241 = .ok (.iadd, 1) := by decide +kernel
theorem dL_law_2242 : decode cL_law 2242 = .ok (.iaload, 1) := by decide +kernel
theorem dL_law_2243 : decode cL_law 2243 = .ok (.aload_n 3, 1) := by decide +kernel
theorem dL_law_2244 : decode cL_law 2244 = .ok (.invokestatic 218, 3) := by decide +kernel
theorem dL_law_2247 : decode cL_law 2247 = .ok (.istore 6, 2) := by decide +kernel
theorem dL_law_2249 : decode cL_law 2249 = .ok (.aload_n 2, 1) := by decide +kernel
theorem dL_law_2250 : decode cL_law 2250 = .ok (.aload_n 0, 1) := by decide +kernel
theorem dL_law_2251 : decode cL_law 2251 = .ok (.iload 5, 2) := by decide +kernel
theorem dL_law_2253 : decode cL_law 2253 = .ok (.iconst 1, 1) := by decide +kernel
theorem dL_law_2254 : decode cL_law 2254 = .ok (.iadd, 1) := by decide +kernel
theorem dL_law_2255 : decode cL_law 2255 = .ok (.iaload, 1) := by decide +kernel
theorem dL_law_2256 : decode cL_law 2256 = .ok (.aload_n 0, 1) := by decide +kernel
theorem dL_law_2257 : decode cL_law 2257 = .ok (.iload 5, 2) := by decide +kernel
theorem dL_law_2259 : decode cL_law 2259 = .ok (.iconst 2, 1) := by decide +kernel
theorem dL_law_2260 : decode cL_law 2260 = .ok (.iadd, 1) := by decide +kernel
theorem dL_law_2261 : decode cL_law 2261 = .ok (.iaload, 1) := by decide +kernel
theorem dL_law_2262 : decode cL_law 2262 = .ok (.invokevirtual 220, 3) := by decide +kernel
theorem dL_law_2265 : decode cL_law 2265 = .ok (.istore 7, 2) := by decide +kernel
theorem dL_law_2267 : decode cL_law 2267 = .ok (.aload_n 2, 1) := by decide +kernel
theorem dL_law_2268 : decode cL_law 2268 = .ok (.invokevirtual 136, 3) := by decide +kernel
theorem dL_law_2271 : decode cL_law 2271 = .ok (.iload 6, 2) := by decide +kernel
theorem dL_law_2273 : decode cL_law 2273 = .ok (.if_icmp .eq 5, 3) := by decide +kernel
theorem dL_law_2276 : decode cL_law 2276 = .ok (.iconst 0, 1) := by decide +kernel
theorem dL_law_2277 : decode cL_law 2277 = .ok (.ireturn, 1) := by decide +kernel
theorem dL_law_2278 : decode cL_law 2278 = .ok (.iload 6, 2) := by decide +kernel
theorem dL_law_2280 : decode cL_law 2280 = .ok (.ifCond .ne 15, 3) := by decide +kernel
theorem dL_law_2283 : decode cL_law 2283 = .ok (.aload_n 3, 1) := by decide +kernel
theorem dL_law_2284 : decode cL_law 2284 = .ok (.iconst 0, 1) := by decide +kernel
theorem dL_law_2285 : decode cL_law 2285 = .ok (.laload, 1) := by decide +kernel
theorem dL_law_2286 : decode cL_law 2286 = .ok (.iload 7, 2) := by decide +kernel
theorem dL_law_2288 : decode cL_law 2288 = .ok (.i2l, 1) := by decide +kernel
theorem dL_law_2289 : decode cL_law 2289 = .ok (.lcmp, 1) := by decide +kernel
theorem dL_law_2290 : decode cL_law 2290 = .ok (.ifCond .eq 5, 3) := by decide +kernel
theorem dL_law_2293 : decode cL_law 2293 = .ok (.iconst 0, 1) := by decide +kernel
theorem dL_law_2294 : decode cL_law 2294 = .ok (.ireturn, 1) := by decide +kernel
theorem dL_law_2295 : decode cL_law 2295 = .ok (.goto 677, 3) := by decide +kernel
theorem dL_law_2298 : decode cL_law 2298 = .ok (.aload_n 1, 1) := by decide +kernel
theorem dL_law_2299 : decode cL_law 2299 = .ok (.aload_n 0, 1) := by decide +kernel
theorem dL_law_2300 : decode cL_law 2300 = .ok (.iload 5, 2) := by decide +kernel
theorem dL_law_2302 : decode cL_law 2302 = .ok (.iconst 1, 1) := by decide +kernel
theorem dL_law_2303 : decode cL_law 2303 = .ok (.iadd, 1) := by decide +kernel
theorem dL_law_2304 : decode cL_law 2304 = .ok (.iaload, 1) := by decide +kernel
theorem dL_law_2305 : decode cL_law 2305 = .ok (.aload_n 0, 1) := by decide +kernel
theorem dL_law_2306 : decode cL_law 2306 = .ok (.iload 5, 2) := by decide +kernel
theorem dL_law_2308 : decode cL_law 2308 = .ok (.iconst 2, 1) := by decide +kernel
theorem dL_law_2309 : decode cL_law 2309 = .ok (.iadd, 1) := by decide +kernel
theorem dL_law_2310 : decode cL_law 2310 = .ok (.iaload, 1) := by decide +kernel
theorem dL_law_2311 : decode cL_law 2311 = .ok (.aload_n 3, 1) := by decide +kernel
theorem dL_law_2312 : decode cL_law 2312 = .ok (.invokestatic 221, 3) := by decide +kernel
theorem dL_law_2315 : decode cL_law 2315 = .ok (.istore 6, 2) := by decide +kernel
theorem dL_law_2317 : decode cL_law 2317 = .ok (.aload_n 2, 1) := by decide +kernel
theorem dL_law_2318 : decode cL_law 2318 = .ok (.aload_n 0, 1) := by decide +kernel
theorem dL_law_2319 : decode cL_law 2319 = .ok (.iload 5, 2) := by decide +kernel
theorem dL_law_2321 : decode cL_law 2321 = .ok (.iconst 1, 1) := by decide +kernel
theorem dL_law_2322 : decode cL_law 2322 = .ok (.iadd, 1) := by decide +kernel
theorem dL_law_2323 : decode cL_law 2323 = .ok (.iaload, 1) := by decide +kernel
theorem dL_law_2324 : decode cL_law 2324 = .ok (.aload_n 0, 1) := by decide +kernel
theorem dL_law_2325 : decode cL_law 2325 = .ok (.iload 5, 2) := by decide +kernel
theorem dL_law_2327 : decode cL_law 2327 = .ok (.iconst 2, 1) := by decide +kernel
theorem dL_law_2328 : decode cL_law 2328 = .ok (.iadd, 1) := by decide +kernel
theorem dL_law_2329 : decode cL_law 2329 = .ok (.iaload, 1) := by decide +kernel
theorem dL_law_2330 : decode cL_law 2330 = .ok (.invokevirtual 223, 3) := by decide +kernel
theorem dL_law_2333 : decode cL_law 2333 = .ok (.istore 7, 2) := by decide +kernel
theorem dL_law_2335 : decode cL_law 2335 = .ok (.aload_n 2, 1) := by decide +kernel
theorem dL_law_2336 : decode cL_law 2336 = .ok (.invokevirtual 136, 3) := by decide +kernel
theorem dL_law_2339 : decode cL_law 2339 = .ok (.iload 6, 2) := by decide +kernel
theorem dL_law_2341 : decode cL_law 2341 = .ok (.if_icmp .eq 5, 3) := by decide +kernel
theorem dL_law_2344 : decode cL_law 2344 = .ok (.iconst 0, 1) := by decide +kernel
theorem dL_law_2345 : decode cL_law 2345 = .ok (.ireturn, 1) := by decide +kernel
theorem dL_law_2346 : decode cL_law 2346 = .ok (.iload 6, 2) := by decide +kernel
theorem dL_law_2348 : decode cL_law 2348 = .ok (.ifCond .ne 15, 3) := by decide +kernel
theorem dL_law_2351 : decode cL_law 2351 = .ok (.aload_n 3, 1) := by decide +kernel
theorem dL_law_2352 : decode cL_law 2352 = .ok (.iconst 0, 1) := by decide +kernel
theorem dL_law_2353 : decode cL_law 2353 = .ok (.laload, 1) := by decide +kernel
theorem dL_law_2354 : decode cL_law 2354 = .ok (.iload 7, 2) := by decide +kernel
theorem dL_law_2356 : decode cL_law 2356 = .ok (.i2l, 1) := by decide +kernel
theorem dL_law_2357 : decode cL_law 2357 = .ok (.lcmp, 1) := by decide +kernel
theorem dL_law_2358 : decode cL_law 2358 = .ok (.ifCond .eq 5, 3) := by decide +kernel
theorem dL_law_2361 : decode cL_law 2361 = .ok (.iconst 0, 1) := by decide +kernel
theorem dL_law_2362 : decode cL_law 2362 = .ok (.ireturn, 1) := by decide +kernel
theorem dL_law_2363 : decode cL_law 2363 = .ok (.goto 609, 3) := by decide +kernel
theorem dL_law_2366 : decode cL_law 2366 = .ok (.aload_n 1, 1) := by decide +kernel
theorem dL_law_2367 : decode cL_law 2367 = .ok (.aload_n 0, 1) := by decide +kernel
theorem dL_law_2368 : decode cL_law 2368 = .ok (.iload 5, 2) := by decide +kernel
theorem dL_law_2370 : decode cL_law 2370 = .ok (.iconst 1, 1) := by decide +kernel
theorem dL_law_2371 : decode cL_law 2371 = .ok (.iadd, 1) := by decide +kernel
theorem dL_law_2372 : decode cL_law 2372 = .ok (.iaload, 1) := by decide +kernel
theorem dL_law_2373 : decode cL_law 2373 = .ok (.aload_n 3, 1) := by decide +kernel
theorem dL_law_2374 : decode cL_law 2374 = .ok (.invokestatic 224, 3) := by decide +kernel
theorem dL_law_2377 : decode cL_law 2377 = .ok (.istore 6, 2) := by decide +kernel
theorem dL_law_2379 : decode cL_law 2379 = .ok (.aload_n 2, 1) := by decide +kernel
theorem dL_law_2380 : decode cL_law 2380 = .ok (.aload_n 0, 1) := by decide +kernel
theorem dL_law_2381 : decode cL_law 2381 = .ok (.iload 5, 2) := by decide +kernel
theorem dL_law_2383 : decode cL_law 2383 = .ok (.iconst 1, 1) := by decide +kernel
theorem dL_law_2384 : decode cL_law 2384 = .ok (.iadd, 1) := by decide +kernel
theorem dL_law_2385 : decode cL_law 2385 = .ok (.iaload, 1) := by decide +kernel
theorem dL_law_2386 : decode cL_law 2386 = .ok (.invokevirtual 226, 3) := by decide +kernel
theorem dL_law_2389 : decode cL_law 2389 = .ok (.istore 7, 2) := by decide +kernel
theorem dL_law_2391 : decode cL_law 2391 = .ok (.aload_n 2, 1) := by decide +kernel
theorem dL_law_2392 : decode cL_law 2392 = .ok (.invokevirtual 136, 3) := by decide +kernel
theorem dL_law_2395 : decode cL_law 2395 = .ok (.iload 6, 2) := by decide +kernel
theorem dL_law_2397 : decode cL_law 2397 = .ok (.if_icmp .eq 5, 3) := by decide +kernel
theorem dL_law_2400 : decode cL_law 2400 = .ok (.iconst 0, 1) := by decide +kernel
theorem dL_law_2401 : decode cL_law 2401 = .ok (.ireturn, 1) := by decide +kernel
theorem dL_law_2402 : decode cL_law 2402 = .ok (.iload 6, 2) := by decide +kernel
theorem dL_law_2404 : decode cL_law 2404 = .ok (.ifCond .ne 15, 3) := by decide +kernel
theorem dL_law_2407 : decode cL_law 2407 = .ok (.aload_n 3, 1) := by decide +kernel
theorem dL_law_2408 : decode cL_law 2408 = .ok (.iconst 0, 1) := by decide +kernel
theorem dL_law_2409 : decode cL_law 2409 = .ok (.laload, 1) := by decide +kernel
theorem dL_law_2410 : decode cL_law 2410 = .ok (.iload 7, 2) := by decide +kernel
theorem dL_law_2412 : decode cL_law 2412 = .ok (.i2l, 1) := by decide +kernel
theorem dL_law_2413 : decode cL_law 2413 = .ok (.lcmp, 1) := by decide +kernel
theorem dL_law_2414 : decode cL_law 2414 = .ok (.ifCond .eq 5, 3) := by decide +kernel
theorem dL_law_2417 : decode cL_law 2417 = .ok (.iconst 0, 1) := by decide +kernel
theorem dL_law_2418 : decode cL_law 2418 = .ok (.ireturn, 1) := by decide +kernel
theorem dL_law_2419 : decode cL_law 2419 = .ok (.goto 553, 3) := by decide +kernel
theorem dL_law_2422 : decode cL_law 2422 = .ok (.aload_n 1, 1) := by decide +kernel
theorem dL_law_2423 : decode cL_law 2423 = .ok (.aload_n 0, 1) := by decide +kernel
theorem dL_law_2424 : decode cL_law 2424 = .ok (.iload 5, 2) := by decide +kernel
theorem dL_law_2426 : decode cL_law 2426 = .ok (.iconst 1, 1) := by decide +kernel
theorem dL_law_2427 : decode cL_law 2427 = .ok (.iadd, 1) := by decide +kernel
theorem dL_law_2428 : decode cL_law 2428 = .ok (.iaload, 1) := by decide +kernel
theorem dL_law_2429 : decode cL_law 2429 = .ok (.aload_n 3, 1) := by decide +kernel
theorem dL_law_2430 : decode cL_law 2430 = .ok (.invokestatic 227, 3) := by decide +kernel
theorem dL_law_2433 : decode cL_law 2433 = .ok (.istore 6, 2) := by decide +kernel
theorem dL_law_2435 : decode cL_law 2435 = .ok (.aload_n 2, 1) := by decide +kernel
theorem dL_law_2436 : decode cL_law 2436 = .ok (.aload_n 0, 1) := by decide +kernel
theorem dL_law_2437 : decode cL_law 2437 = .ok (.iload 5, 2) := by decide +kernel
theorem dL_law_2439 : decode cL_law 2439 = .ok (.iconst 1, 1) := by decide +kernel
theorem dL_law_2440 : decode cL_law 2440 = .ok (.iadd, 1) := by decide +kernel
theorem dL_law_2441 : decode cL_law 2441 = .ok (.iaload, 1) := by decide +kernel
theorem dL_law_2442 : decode cL_law 2442 = .ok (.invokevirtual 229, 3) := by decide +kernel
theorem dL_law_2445 : decode cL_law 2445 = .ok (.istore 7, 2) := by decide +kernel
theorem dL_law_2447 : decode cL_law 2447 = .ok (.aload_n 2, 1) := by decide +kernel
theorem dL_law_2448 : decode cL_law 2448 = .ok (.invokevirtual 136, 3) := by decide +kernel
theorem dL_law_2451 : decode cL_law 2451 = .ok (.iload 6, 2) := by decide +kernel
theorem dL_law_2453 : decode cL_law 2453 = .ok (.if_icmp .eq 5, 3) := by decide +kernel
theorem dL_law_2456 : decode cL_law 2456 = .ok (.iconst 0, 1) := by decide +kernel
theorem dL_law_2457 : decode cL_law 2457 = .ok (.ireturn, 1) := by decide +kernel
theorem dL_law_2458 : decode cL_law 2458 = .ok (.iload 6, 2) := by decide +kernel
theorem dL_law_2460 : decode cL_law 2460 = .ok (.ifCond .ne 15, 3) := by decide +kernel
theorem dL_law_2463 : decode cL_law 2463 = .ok (.aload_n 3, 1) := by decide +kernel
theorem dL_law_2464 : decode cL_law 2464 = .ok (.iconst 0, 1) := by decide +kernel
theorem dL_law_2465 : decode cL_law 2465 = .ok (.laload, 1) := by decide +kernel
theorem dL_law_2466 : decode cL_law 2466 = .ok (.iload 7, 2) := by decide +kernel
theorem dL_law_2468 : decode cL_law 2468 = .ok (.i2l, 1) := by decide +kernel
theorem dL_law_2469 : decode cL_law 2469 = .ok (.lcmp, 1) := by decide +kernel
theorem dL_law_2470 : decode cL_law 2470 = .ok (.ifCond .eq 5, 3) := by decide +kernel
theorem dL_law_2473 : decode cL_law 2473 = .ok (.iconst 0, 1) := by decide +kernel
theorem dL_law_2474 : decode cL_law 2474 = .ok (.ireturn, 1) := by decide +kernel
theorem dL_law_2475 : decode cL_law 2475 = .ok (.goto 497, 3) := by decide +kernel
theorem dL_law_2478 : decode cL_law 2478 = .ok (.aload_n 1, 1) := by decide +kernel
theorem dL_law_2479 : decode cL_law 2479 = .ok (.aload_n 0, 1) := by decide +kernel
theorem dL_law_2480 : decode cL_law 2480 = .ok (.iload 5, 2) := by decide +kernel
theorem dL_law_2482 : decode cL_law 2482 = .ok (.iconst 1, 1) := by decide +kernel
theorem dL_law_2483 : decode cL_law 2483 = .ok (.iadd, 1) := by decide +kernel
theorem dL_law_2484 : decode cL_law 2484 = .ok (.iaload, 1) := by decide +kernel
theorem dL_law_2485 : decode cL_law 2485 = .ok (.aload_n 0, 1) := by decide +kernel
theorem dL_law_2486 : decode cL_law 2486 = .ok (.iload 5, 2) := by decide +kernel
theorem dL_law_2488 : decode cL_law 2488 = .ok (.iconst 2, 1) := by decide +kernel
theorem dL_law_2489 : decode cL_law 2489 = .ok (.iadd, 1) := by decide +kernel
theorem dL_law_2490 : decode cL_law 2490 = .ok (.iaload, 1) := by decide +kernel
theorem dL_law_2491 : decode cL_law 2491 = .ok (.aload_n 3, 1) := by decide +kernel
theorem dL_law_2492 : decode cL_law 2492 = .ok (.invokestatic 230, 3) := by decide +kernel
theorem dL_law_2495 : decode cL_law 2495 = .ok (.istore 6, 2) := by decide +kernel
theorem dL_law_2497 : decode cL_law 2497 = .ok (.aload_n 2, 1) := by decide +kernel
theorem dL_law_2498 : decode cL_law 2498 = .ok (.aload_n 0, 1) := by decide +kernel
theorem dL_law_2499 : decode cL_law 2499 = .ok (.iload 5, 2) := by decide +kernel
theorem dL_law_2501 : decode cL_law 2501 = .ok (.iconst 1, 1) := by decide +kernel
theorem dL_law_2502 : decode cL_law 2502 = .ok (.iadd, 1) := by decide +kernel
theorem dL_law_2503 : decode cL_law 2503 = .ok (.iaload, 1) := by decide +kernel
theorem dL_law_2504 : decode cL_law 2504 = .ok (.aload_n 0, 1) := by decide +kernel
theorem dL_law_2505 : decode cL_law 2505 = .ok (.iload 5, 2) := by decide +kernel
theorem dL_law_2507 : decode cL_law 2507 = .ok (.iconst 2, 1) := by decide +kernel
theorem dL_law_2508 : decode cL_law 2508 = .ok (.iadd, 1) := by decide +kernel
theorem dL_law_2509 : decode cL_law 2509 = .ok (.iaload, 1) := by decide +kernel
theorem dL_law_2510 : decode cL_law 2510 = .ok (.invokevirtual 232, 3) := by decide +kernel
theorem dL_law_2513 : decode cL_law 2513 = .ok (.istore 7, 2) := by decide +kernel
theorem dL_law_2515 : decode cL_law 2515 = .ok (.aload_n 2, 1) := by decide +kernel
theorem dL_law_2516 : decode cL_law 2516 = .ok (.invokevirtual 136, 3) := by decide +kernel
theorem dL_law_2519 : decode cL_law 2519 = .ok (.iload 6, 2) := by decide +kernel
theorem dL_law_2521 : decode cL_law 2521 = .ok (.if_icmp .eq 5, 3) := by decide +kernel
theorem dL_law_2524 : decode cL_law 2524 = .ok (.iconst 0, 1) := by decide +kernel
theorem dL_law_2525 : decode cL_law 2525 = .ok (.ireturn, 1) := by decide +kernel
theorem dL_law_2526 : decode cL_law 2526 = .ok (.iload 6, 2) := by decide +kernel
theorem dL_law_2528 : decode cL_law 2528 = .ok (.ifCond .ne 22, 3) := by decide +kernel
theorem dL_law_2531 : decode cL_law 2531 = .ok (.aload_n 3, 1) := by decide +kernel
theorem dL_law_2532 : decode cL_law 2532 = .ok (.iconst 0, 1) := by decide +kernel
theorem dL_law_2533 : decode cL_law 2533 = .ok (.laload, 1) := by decide +kernel
theorem dL_law_2534 : decode cL_law 2534 = .ok (.iload 7, 2) := by decide +kernel
theorem dL_law_2536 : decode cL_law 2536 = .ok (.ifCond .eq 7, 3) := by decide +kernel
theorem dL_law_2539 : decode cL_law 2539 = .ok (.lconst 1, 1) := by decide +kernel
theorem dL_law_2540 : decode cL_law 2540 = .ok (.goto 4, 3) := by decide +kernel
theorem dL_law_2543 : decode cL_law 2543 = .ok (.lconst 0, 1) := by decide +kernel
theorem dL_law_2544 : decode cL_law 2544 = .ok (.lcmp, 1) := by decide +kernel
theorem dL_law_2545 : decode cL_law 2545 = .ok (.ifCond .eq 5, 3) := by decide +kernel
theorem dL_law_2548 : decode cL_law 2548 = .ok (.iconst 0, 1) := by decide +kernel
theorem dL_law_2549 : decode cL_law 2549 = .ok (.ireturn, 1) := by decide +kernel
theorem dL_law_2550 : decode cL_law 2550 = .ok (.goto 422, 3) := by decide +kernel
theorem dL_law_2553 : decode cL_law 2553 = .ok (.aload_n 1, 1) := by decide +kernel
theorem dL_law_2554 : decode cL_law 2554 = .ok (.aload_n 0, 1) := by decide +kernel
theorem dL_law_2555 : decode cL_law 2555 = .ok (.iload 5, 2) := by decide +kernel
theorem dL_law_2557 : decode cL_law 2557 = .ok (.iconst 1, 1) := by decide +kernel
theorem dL_law_2558 : decode cL_law 2558 = .ok (.iadd, 1) := by decide +kernel
theorem dL_law_2559 : decode cL_law 2559 = .ok (.iaload, 1) := by decide +kernel
theorem dL_law_2560 : decode cL_law 2560 = .ok (.aload_n 0, 1) := by decide +kernel
theorem dL_law_2561 : decode cL_law 2561 = .ok (.iload 5, 2) := by decide +kernel
theorem dL_law_2563 : decode cL_law 2563 = .ok (.iconst 2, 1) := by decide +kernel
theorem dL_law_2564 : decode cL_law 2564 = .ok (.iadd, 1) := by decide +kernel
theorem dL_law_2565 : decode cL_law 2565 = .ok (.iaload, 1) := by decide +kernel
theorem dL_law_2566 : decode cL_law 2566 = .ok (.aload_n 0, 1) := by decide +kernel
theorem dL_law_2567 : decode cL_law 2567 = .ok (.iload 5, 2) := by decide +kernel
theorem dL_law_2569 : decode cL_law 2569 = .ok (.iconst 3, 1) := by decide +kernel
theorem dL_law_2570 : decode cL_law 2570 = .ok (.iadd, 1) := by decide +kernel
theorem dL_law_2571 : decode cL_law 2571 = .ok (.iaload, 1) := by decide +kernel
theorem dL_law_2572 : decode cL_law 2572 = .ok (.aload_n 3, 1) := by decide +kernel
theorem dL_law_2573 : decode cL_law 2573 = .ok (.invokestatic 233, 3) := by decide +kernel
theorem dL_law_2576 : decode cL_law 2576 = .ok (.istore 6, 2) := by decide +kernel
theorem dL_law_2578 : decode cL_law 2578 = .ok (.aload_n 2, 1) := by decide +kernel
theorem dL_law_2579 : decode cL_law 2579 = .ok (.aload_n 0, 1) := by decide +kernel
theorem dL_law_2580 : decode cL_law 2580 = .ok (.iload 5, 2) := by decide +kernel
theorem dL_law_2582 : decode cL_law 2582 = .ok (.iconst 1, 1) := by decide +kernel
theorem dL_law_2583 : decode cL_law 2583 = .ok (.iadd, 1) := by decide +kernel
theorem dL_law_2584 : decode cL_law 2584 = .ok (.iaload, 1) := by decide +kernel
theorem dL_law_2585 : decode cL_law 2585 = .ok (.aload_n 0, 1) := by decide +kernel
theorem dL_law_2586 : decode cL_law 2586 = .ok (.iload 5, 2) := by decide +kernel
theorem dL_law_2588 : decode cL_law 2588 = .ok (.iconst 2, 1) := by decide +kernel
theorem dL_law_2589 : decode cL_law 2589 = .ok (.iadd, 1) := by decide +kernel
theorem dL_law_2590 : decode cL_law 2590 = .ok (.iaload, 1) := by decide +kernel
theorem dL_law_2591 : decode cL_law 2591 = .ok (.aload_n 0, 1) := by decide +kernel
theorem dL_law_2592 : decode cL_law 2592 = .ok (.iload 5, 2) := by decide +kernel
theorem dL_law_2594 : decode cL_law 2594 = .ok (.iconst 3, 1) := by decide +kernel
theorem dL_law_2595 : decode cL_law 2595 = .ok (.iadd, 1) := by decide +kernel
theorem dL_law_2596 : decode cL_law 2596 = .ok (.iaload, 1) := by decide +kernel
theorem dL_law_2597 : decode cL_law 2597 = .ok (.invokevirtual 236, 3) := by decide +kernel
theorem dL_law_2600 : decode cL_law 2600 = .ok (.istore 7, 2) := by decide +kernel
theorem dL_law_2602 : decode cL_law 2602 = .ok (.aload_n 2, 1) := by decide +kernel
theorem dL_law_2603 : decode cL_law 2603 = .ok (.invokevirtual 136, 3) := by decide +kernel
theorem dL_law_2606 : decode cL_law 2606 = .ok (.iload 6, 2) := by decide +kernel
theorem dL_law_2608 : decode cL_law 2608 = .ok (.if_icmp .eq 5, 3) := by decide +kernel
theorem dL_law_2611 : decode cL_law 2611 = .ok (.iconst 0, 1) := by decide +kernel
theorem dL_law_2612 : decode cL_law 2612 = .ok (.ireturn, 1) := by decide +kernel
theorem dL_law_2613 : decode cL_law 2613 = .ok (.iload 6, 2) := by decide +kernel
theorem dL_law_2615 : decode cL_law 2615 = .ok (.ifCond .ne 15, 3) := by decide +kernel
theorem dL_law_2618 : decode cL_law 2618 = .ok (.aload_n 3, 1) := by decide +kernel
theorem dL_law_2619 : decode cL_law 2619 = .ok (.iconst 0, 1) := by decide +kernel
theorem dL_law_2620 : decode cL_law 2620 = .ok (.laload, 1) := by decide +kernel
theorem dL_law_2621 : decode cL_law 2621 = .ok (.iload 7, 2) := by decide +kernel
theorem dL_law_2623 : decode cL_law 2623 = .ok (.i2l, 1) := by decide +kernel
theorem dL_law_2624 : decode cL_law 2624 = .ok (.lcmp, 1) := by decide +kernel
theorem dL_law_2625 : decode cL_law 2625 = .ok (.ifCond .eq 5, 3) := by decide +kernel
theorem dL_law_2628 : decode cL_law 2628 = .ok (.iconst 0, 1) := by decide +kernel
theorem dL_law_2629 : decode cL_law 2629 = .ok (.ireturn, 1) := by decide +kernel
theorem dL_law_2630 : decode cL_law 2630 = .ok (.goto 342, 3) := by decide +kernel
theorem dL_law_2633 : decode cL_law 2633 = .ok (.aload_n 1, 1) := by decide +kernel
theorem dL_law_2634 : decode cL_law 2634 = .ok (.aload_n 0, 1) := by decide +kernel
theorem dL_law_2635 : decode cL_law 2635 = .ok (.iload 5, 2) := by decide +kernel
theorem dL_law_2637 : decode cL_law 2637 = .ok (.iconst 1, 1) := by decide +kernel
end
section
theorem dL_law_2638 : decode cL_law 2638 = .ok (.iadd, 1) := by decide +kernel
theorem dL_law_2639 : decode cL_law 2639 = .ok (.iaload, 1) := by decide +kernel
theorem dL_law_2640 : decode cL_law 2640 = .ok (.aload_n 3, 1) := by decide +kernel
theorem dL_law_2641 : decode cL_law 2641 = .ok (.invokestatic 237, 3) := by decide +kernel
theorem dL_law_2644 : decode cL_law 2644 = .ok (.istore 6, 2) := by decide +kernel
theorem dL_law_2646 : decode cL_law 2646 = .ok (.aload_n 2, 1) := by decide +kernel
theorem dL_law_2647 : decode cL_law 2647 = .ok (.aload_n 0, 1) := by decide +kernel
theorem dL_law_2648 : decode cL_law 2648 = .ok (.iload 5, 2) := by decide +kernel
theorem dL_law_2650 : decode cL_law 2650 = .ok (.iconst 1, 1) := by decide +kernel
theorem dL_law_2651 : decode cL_law 2651 = .ok (.iadd, 1) := by decide +kernel
theorem dL_law_2652 : decode cL_law 2652 = .ok (.iaload, 1) := by decide +kernel
theorem dL_law_2653 : decode cL_law 2653 = .ok (.invokevirtual 239, 3) := by decide +kernel
theorem dL_law_2656 : decode cL_law 2656 = .ok (.istore 7, 2) := by decide +kernel
theorem dL_law_2658 : decode cL_law 2658 = .ok (.aload_n 2, 1) := by decide +kernel
theorem dL_law_2659 : decode cL_law 2659 = .ok (.invokevirtual 136, 3) := by decide +kernel
theorem dL_law_2662 : decode cL_law 2662 = .ok (.iload 6, 2) := by decide +kernel
theorem dL_law_2664 : decode cL_law 2664 = .ok (.if_icmp .eq 5, 3) := by decide +kernel
theorem dL_law_2667 : decode cL_law 2667 = .ok (.iconst 0, 1) := by decide +kernel
theorem dL_law_2668 : decode cL_law 2668 = .ok (.ireturn, 1) := by decide +kernel
theorem dL_law_2669 : decode cL_law 2669 = .ok (.iload 6, 2) := by decide +kernel
theorem dL_law_2671 : decode cL_law 2671 = .ok (.ifCond .ne 15, 3) := by decide +kernel
theorem dL_law_2674 : decode cL_law 2674 = .ok (.aload_n 3, 1) := by decide +kernel
theorem dL_law_2675 : decode cL_law 2675 = .ok (.iconst 0, 1) := by decide +kernel
theorem dL_law_2676 : decode cL_law 2676 = .ok (.laload, 1) := by decide +kernel
theorem dL_law_2677 : decode cL_law 2677 = .ok (.iload 7, 2) := by decide +kernel
theorem dL_law_2679 : decode cL_law 2679 = .ok (.i2l, 1) := by decide +kernel
theorem dL_law_2680 : decode cL_law 2680 = .ok (.lcmp, 1) := by decide +kernel
theorem dL_law_2681 : decode cL_law 2681 = .ok (.ifCond .eq 5, 3) := by decide +kernel
theorem dL_law_2684 : decode cL_law 2684 = .ok (.iconst 0, 1) := by decide +kernel
theorem dL_law_2685 : decode cL_law 2685 = .ok (.ireturn, 1) := by decide +kernel
theorem dL_law_2686 : decode cL_law 2686 = .ok (.goto 286, 3) := by decide +kernel
theorem dL_law_2689 : decode cL_law 2689 = .ok (.aload_n 1, 1) := by decide +kernel
theorem dL_law_2690 : decode cL_law 2690 = .ok (.aload_n 0, 1) := by decide +kernel
theorem dL_law_2691 : decode cL_law 2691 = .ok (.iload 5, 2) := by decide +kernel
theorem dL_law_2693 : decode cL_law 2693 = .ok (.iconst 1, 1) := by decide +kernel
theorem dL_law_2694 : decode cL_law 2694 = .ok (.iadd, 1) := by decide +kernel
theorem dL_law_2695 : decode cL_law 2695 = .ok (.iaload, 1) := by decide +kernel
theorem dL_law_2696 : decode cL_law 2696 = .ok (.aload_n 3, 1) := by decide +kernel
theorem dL_law_2697 : decode cL_law 2697 = .ok (.invokestatic 240, 3) := by decide +kernel
theorem dL_law_2700 : decode cL_law 2700 = .ok (.istore 6, 2) := by decide +kernel
theorem dL_law_2702 : decode cL_law 2702 = .ok (.aload_n 2, 1) := by decide +kernel
theorem dL_law_2703 : decode cL_law 2703 = .ok (.aload_n 0, 1) := by decide +kernel
theorem dL_law_2704 : decode cL_law 2704 = .ok (.iload 5, 2) := by decide +kernel
theorem dL_law_2706 : decode cL_law 2706 = .ok (.iconst 1, 1) := by decide +kernel
theorem dL_law_2707 : decode cL_law 2707 = .ok (.iadd, 1) := by decide +kernel
theorem dL_law_2708 : decode cL_law 2708 = .ok (.iaload, 1) := by decide +kernel
theorem dL_law_2709 : decode cL_law 2709 = .ok (.invokevirtual 242, 3) := by decide +kernel
theorem dL_law_2712 : decode cL_law 2712 = .ok (.istore 7, 2) := by decide +kernel
theorem dL_law_2714 : decode cL_law 2714 = .ok (.aload_n 2, 1) := by decide +kernel
theorem dL_law_2715 : decode cL_law 2715 = .ok (.invokevirtual 136, 3) := by decide +kernel
theorem dL_law_2718 : decode cL_law 2718 = .ok (.iload 6, 2) := by decide +kernel
theorem dL_law_2720 : decode cL_law 2720 = .ok (.if_icmp .eq 5, 3) := by decide +kernel
theorem dL_law_2723 : decode cL_law 2723 = .ok (.iconst 0, 1) := by decide +kernel
theorem dL_law_2724 : decode cL_law 2724 = .ok (.ireturn, 1) := by decide +kernel
theorem dL_law_2725 : decode cL_law 2725 = .ok (.iload 6, 2) := by decide +kernel
theorem dL_law_2727 : decode cL_law 2727 = .ok (.ifCond .ne 15, 3) := by decide +kernel
theorem dL_law_2730 : decode cL_law 2730 = .ok (.aload_n 3, 1) := by decide +kernel
theorem dL_law_2731 : decode cL_law 2731 = .ok (.iconst 0, 1) := by decide +kernel
theorem dL_law_2732 : decode cL_law 2732 = .ok (.laload, 1) := by decide +kernel
theorem dL_law_2733 : decode cL_law 2733 = .ok (.iload 7, 2) := by decide +kernel
theorem dL_law_2735 : decode cL_law 2735 = .ok (.i2l, 1) := by decide +kernel
theorem dL_law_2736 : decode cL_law 2736 = .ok (.lcmp, 1) := by decide +kernel
theorem dL_law_2737 : decode cL_law 2737 = .ok (.ifCond .eq 5, 3) := by decide +kernel
theorem dL_law_2740 : decode cL_law 2740 = .ok (.iconst 0, 1) := by decide +kernel
theorem dL_law_2741 : decode cL_law 2741 = .ok (.ireturn, 1) := by decide +kernel
theorem dL_law_2742 : decode cL_law 2742 = .ok (.goto 230, 3) := by decide +kernel
theorem dL_law_2745 : decode cL_law 2745 = .ok (.aload_n 1, 1) := by decide +kernel
theorem dL_law_2746 : decode cL_law 2746 = .ok (.invokevirtual 243, 3) := by decide +kernel
theorem dL_law_2749 : decode cL_law 2749 = .ok (.aload_n 2, 1) := by decide +kernel
theorem dL_law_2750 : decode cL_law 2750 = .ok (.invokevirtual 246, 3) := by decide +kernel
theorem dL_law_2753 : decode cL_law 2753 = .ok (.if_icmp .eq 219, 3) := by decide +kernel
theorem dL_law_2756 : decode cL_law 2756 = .ok (.iconst 0, 1) := by decide +kernel
theorem dL_law_2757 : decode cL_law 2757 = .ok (.ireturn, 1) := by decide +kernel
theorem dL_law_2758 : decode cL_law 2758 = .ok (.aload_n 1, 1) := by decide +kernel
theorem dL_law_2759 : decode cL_law 2759 = .ok (.aload_n 0, 1) := by decide +kernel
theorem dL_law_2760 : decode cL_law 2760 = .ok (.iload 5, 2) := by decide +kernel
theorem dL_law_2762 : decode cL_law 2762 = .ok (.iconst 1, 1) := by decide +kernel
theorem dL_law_2763 : decode cL_law 2763 = .ok (.iadd, 1) := by decide +kernel
theorem dL_law_2764 : decode cL_law 2764 = .ok (.iaload, 1) := by decide +kernel
theorem dL_law_2765 : decode cL_law 2765 = .ok (.aload_n 0, 1) := by decide +kernel
theorem dL_law_2766 : decode cL_law 2766 = .ok (.iload 5, 2) := by decide +kernel
theorem dL_law_2768 : decode cL_law 2768 = .ok (.iconst 2, 1) := by decide +kernel
theorem dL_law_2769 : decode cL_law 2769 = .ok (.iadd, 1) := by decide +kernel
theorem dL_law_2770 : decode cL_law 2770 = .ok (.iaload, 1) := by decide +kernel
theorem dL_law_2771 : decode cL_law 2771 = .ok (.aload_n 3, 1) := by decide +kernel
theorem dL_law_2772 : decode cL_law 2772 = .ok (.invokestatic 247, 3) := by decide +kernel
theorem dL_law_2775 : decode cL_law 2775 = .ok (.istore 6, 2) := by decide +kernel
theorem dL_law_2777 : decode cL_law 2777 = .ok (.aload_n 2, 1) := by decide +kernel
theorem dL_law_2778 : decode cL_law 2778 = .ok (.aload_n 0, 1) := by decide +kernel
theorem dL_law_2779 : decode cL_law 2779 = .ok (.iload 5, 2) := by decide +kernel
theorem dL_law_2781 : decode cL_law 2781 = .ok (.iconst 1, 1) := by decide +kernel
theorem dL_law_2782 : decode cL_law 2782 = .ok (.iadd, 1) := by decide +kernel
theorem dL_law_2783 : decode cL_law 2783 = .ok (.iaload, 1) := by decide +kernel
theorem dL_law_2784 : decode cL_law 2784 = .ok (.aload_n 0, 1) := by decide +kernel
theorem dL_law_2785 : decode cL_law 2785 = .ok (.iload 5, 2) := by decide +kernel
theorem dL_law_2787 : decode cL_law 2787 = .ok (.iconst 2, 1) := by decide +kernel
theorem dL_law_2788 : decode cL_law 2788 = .ok (.iadd, 1) := by decide +kernel
theorem dL_law_2789 : decode cL_law 2789 = .ok (.iaload, 1) := by decide +kernel
theorem dL_law_2790 : decode cL_law 2790 = .ok (.invokevirtual 249, 3) := by decide +kernel
theorem dL_law_2793 : decode cL_law 2793 = .ok (.istore 7, 2) := by decide +kernel
theorem dL_law_2795 : decode cL_law 2795 = .ok (.aload_n 2, 1) := by decide +kernel
theorem dL_law_2796 : decode cL_law 2796 = .ok (.invokevirtual 136, 3) := by decide +kernel
theorem dL_law_2799 : decode cL_law 2799 = .ok (.iload 6, 2) := by decide +kernel
theorem dL_law_2801 : decode cL_law 2801 = .ok (.if_icmp .eq 5, 3) := by decide +kernel
theorem dL_law_2804 : decode cL_law 2804 = .ok (.iconst 0, 1) := by decide +kernel
theorem dL_law_2805 : decode cL_law 2805 = .ok (.ireturn, 1) := by decide +kernel
theorem dL_law_2806 : decode cL_law 2806 = .ok (.iload 6, 2) := by decide +kernel
theorem dL_law_2808 : decode cL_law 2808 = .ok (.ifCond .ne 15, 3) := by decide +kernel
theorem dL_law_2811 : decode cL_law 2811 = .ok (.aload_n 3, 1) := by decide +kernel
theorem dL_law_2812 : decode cL_law 2812 = .ok (.iconst 0, 1) := by decide +kernel
theorem dL_law_2813 : decode cL_law 2813 = .ok (.laload, 1) := by decide +kernel
theorem dL_law_2814 : decode cL_law 2814 = .ok (.iload 7, 2) := by decide +kernel
theorem dL_law_2816 : decode cL_law 2816 = .ok (.i2l, 1) := by decide +kernel
theorem dL_law_2817 : decode cL_law 2817 = .ok (.lcmp, 1) := by decide +kernel
theorem dL_law_2818 : decode cL_law 2818 = .ok (.ifCond .eq 5, 3) := by decide +kernel
theorem dL_law_2821 : decode cL_law 2821 = .ok (.iconst 0, 1) := by decide +kernel
theorem dL_law_2822 : decode cL_law 2822 = .ok (.ireturn, 1) := by decide +kernel
theorem dL_law_2823 : decode cL_law 2823 = .ok (.goto 149, 3) := by decide +kernel
theorem dL_law_2826 : decode cL_law 2826 = .ok (.aload_n 1, 1) := by decide +kernel
theorem dL_law_2827 : decode cL_law 2827 = .ok (.aload_n 0, 1) := by decide +kernel
theorem dL_law_2828 : decode cL_law 2828 = .ok (.iload 5, 2) := by decide +kernel
theorem dL_law_2830 : decode cL_law 2830 = .ok (.iconst 1, 1) := by decide +kernel
theorem dL_law_2831 : decode cL_law 2831 = .ok (.iadd, 1) := by decide +kernel
theorem dL_law_2832 : decode cL_law 2832 = .ok (.iaload, 1) := by decide +kernel
theorem dL_law_2833 : decode cL_law 2833 = .ok (.aload_n 0, 1) := by decide +kernel
theorem dL_law_2834 : decode cL_law 2834 = .ok (.iload 5, 2) := by decide +kernel
theorem dL_law_2836 : decode cL_law 2836 = .ok (.iconst 2, 1) := by decide +kernel
theorem dL_law_2837 : decode cL_law 2837 = .ok (.iadd, 1) := by decide +kernel
theorem dL_law_2838 : decode cL_law 2838 = .ok (.iaload, 1) := by decide +kernel
theorem dL_law_2839 : decode cL_law 2839 = .ok (.aload_n 3, 1) := by decide +kernel
theorem dL_law_2840 : decode cL_law 2840 = .ok (.invokestatic 250, 3) := by decide +kernel
theorem dL_law_2843 : decode cL_law 2843 = .ok (.istore 6, 2) := by decide +kernel
theorem dL_law_2845 : decode cL_law 2845 = .ok (.aload_n 2, 1) := by decide +kernel
theorem dL_law_2846 : decode cL_law 2846 = .ok (.aload_n 0, 1) := by decide +kernel
theorem dL_law_2847 : decode cL_law 2847 = .ok (.iload 5, 2) := by decide +kernel
theorem dL_law_2849 : decode cL_law 2849 = .ok (.iconst 1, 1) := by decide +kernel
theorem dL_law_2850 : decode cL_law 2850 = .ok (.iadd, 1) := by decide +kernel
theorem dL_law_2851 : decode cL_law 2851 = .ok (.iaload, 1) := by decide +kernel
theorem dL_law_2852 : decode cL_law 2852 = .ok (.aload_n 0, 1) := by decide +kernel
theorem dL_law_2853 : decode cL_law 2853 = .ok (.iload 5, 2) := by decide +kernel
theorem dL_law_2855 : decode cL_law 2855 = .ok (.iconst 2, 1) := by decide +kernel
theorem dL_law_2856 : decode cL_law 2856 = .ok (.iadd, 1) := by decide +kernel
theorem dL_law_2857 : decode cL_law 2857 = .ok (.iaload, 1) := by decide +kernel
theorem dL_law_2858 : decode cL_law 2858 = .ok (.invokevirtual 252, 3) := by decide +kernel
theorem dL_law_2861 : decode cL_law 2861 = .ok (.lstore 7, 2) := by decide +kernel
theorem dL_law_2863 : decode cL_law 2863 = .ok (.aload_n 2, 1) := by decide +kernel
theorem dL_law_2864 : decode cL_law 2864 = .ok (.invokevirtual 136, 3) := by decide +kernel
theorem dL_law_2867 : decode cL_law 2867 = .ok (.iload 6, 2) := by decide +kernel
theorem dL_law_2869 : decode cL_law 2869 = .ok (.if_icmp .eq 5, 3) := by decide +kernel
theorem dL_law_2872 : decode cL_law 2872 = .ok (.iconst 0, 1) := by decide +kernel
theorem dL_law_2873 : decode cL_law 2873 = .ok (.ireturn, 1) := by decide +kernel
theorem dL_law_2874 : decode cL_law 2874 = .ok (.iload 6, 2) := by decide +kernel
theorem dL_law_2876 : decode cL_law 2876 = .ok (.ifCond .ne 14, 3) := by decide +kernel
theorem dL_law_2879 : decode cL_law 2879 = .ok (.aload_n 3, 1) := by decide +kernel
theorem dL_law_2880 : decode cL_law 2880 = .ok (.iconst 0, 1) := by decide +kernel
theorem dL_law_2881 : decode cL_law 2881 = .ok (.laload, 1) := by decide +kernel
theorem dL_law_2882 : decode cL_law 2882 = .ok (.lload 7, 2) := by decide +kernel
theorem dL_law_2884 : decode cL_law 2884 = .ok (.lcmp, 1) := by decide +kernel
theorem dL_law_2885 : decode cL_law 2885 = .ok (.ifCond .eq 5, 3) := by decide +kernel
theorem dL_law_2888 : decode cL_law 2888 = .ok (.iconst 0, 1) := by decide +kernel
theorem dL_law_2889 : decode cL_law 2889 = .ok (.ireturn, 1) := by decide +kernel
theorem dL_law_2890 : decode cL_law 2890 = .ok (.goto 82, 3) := by decide +kernel
theorem dL_law_2893 : decode cL_law 2893 = .ok (.aload_n 1, 1) := by decide +kernel
theorem dL_law_2894 : decode cL_law 2894 = .ok (.aload 4, 2) := by decide +kernel
theorem dL_law_2896 : decode cL_law 2896 = .ok (.invokestatic 253, 3) := by decide +kernel
theorem dL_law_2899 : decode cL_law 2899 = .ok (.istore 6, 2) := by decide +kernel
theorem dL_law_2901 : decode cL_law 2901 = .ok (.aload_n 2, 1) := by decide +kernel
theorem dL_law_2902 : decode cL_law 2902 = .ok (.invokevirtual 256, 3) := by decide +kernel
theorem dL_law_2905 : decode cL_law 2905 = .ok (.fstore 7, 2) := by decide +kernel
theorem dL_law_2907 : decode cL_law 2907 = .ok (.aload_n 2, 1) := by decide +kernel
theorem dL_law_2908 : decode cL_law 2908 = .ok (.invokevirtual 136, 3) := by decide +kernel
theorem dL_law_2911 : decode cL_law 2911 = .ok (.iload 6, 2) := by decide +kernel
theorem dL_law_2913 : decode cL_law 2913 = .ok (.if_icmp .eq 5, 3) := by decide +kernel
theorem dL_law_2916 : decode cL_law 2916 = .ok (.iconst 0, 1) := by decide +kernel
theorem dL_law_2917 : decode cL_law 2917 = .ok (.ireturn, 1) := by decide +kernel
theorem dL_law_2918 : decode cL_law 2918 = .ok (.iload 6, 2) := by decide +kernel
theorem dL_law_2920 : decode cL_law 2920 = .ok (.ifCond .ne 36, 3) := by decide +kernel
theorem dL_law_2923 : decode cL_law 2923 = .ok (.aload 4, 2) := by decide +kernel
theorem dL_law_2925 : decode cL_law 2925 = .ok (.iconst 0, 1) := by decide +kernel
theorem dL_law_2926 : decode cL_law 2926 = .ok (.daload, 1) := by decide +kernel
theorem dL_law_2927 : decode cL_law 2927 = .ok (.fload 7, 2) := by decide +kernel
theorem dL_law_2929 : decode cL_law 2929 = .ok (.f2d, 1) := by decide +kernel
theorem dL_law_2930 : decode cL_law 2930 = .ok (.dcmp .l, 1) := by decide +kernel
theorem dL_law_2931 : decode cL_law 2931 = .ok (.ifCond .eq 25, 3) := by decide +kernel
theorem dL_law_2934 : decode cL_law 2934 = .ok (.aload 4, 2) := by decide +kernel
theorem dL_law_2936 : decode cL_law 2936 = .ok (.iconst 0, 1) := by decide +kernel
theorem dL_law_2937 : decode cL_law 2937 = .ok (.daload, 1) := by decide +kernel
theorem dL_law_2938 : decode cL_law 2938 = .ok (.aload 4, 2) := by decide +kernel
theorem dL_law_2940 : decode cL_law 2940 = .ok (.iconst 0, 1) := by decide +kernel
theorem dL_law_2941 : decode cL_law 2941 = .ok (.daload, 1) := by decide +kernel
theorem dL_law_2942 : decode cL_law 2942 = .ok (.dcmp .l, 1) := by decide +kernel
theorem dL_law_2943 : decode cL_law 2943 = .ok (.ifCond .eq 11, 3) := by decide +kernel
theorem dL_law_2946 : decode cL_law 2946 = .ok (.fload 7, 2) := by decide +kernel
theorem dL_law_2948 : decode cL_law 2948 = .ok (.fload 7, 2) := by decide +kernel
theorem dL_law_2950 : decode cL_law 2950 = .ok (.fcmp .l, 1) := by decide +kernel
theorem dL_law_2951 : decode cL_law 2951 = .ok (.ifCond .ne 5, 3) := by decide +kernel
theorem dL_law_2954 : decode cL_law 2954 = .ok (.iconst 0, 1) := by decide +kernel
theorem dL_law_2955 : decode cL_law 2955 = .ok (.ireturn, 1) := by decide +kernel
theorem dL_law_2956 : decode cL_law 2956 = .ok (.goto 16, 3) := by decide +kernel
theorem dL_law_2959 : decode cL_law 2959 = .ok (.aload_n 1, 1) := by decide +kernel
theorem dL_law_2960 : decode cL_law 2960 = .ok (.invokevirtual 257, 3) := by decide +kernel
theorem dL_law_2963 : decode cL_law 2963 = .ok (.aload_n 2, 1) := by decide +kernel
theorem dL_law_2964 : decode cL_law 2964 = .ok (.invokevirtual 261, 3) := by decide +kernel
theorem dL_law_2967 : decode cL_law 2967 = .ok (.if_icmp .eq 5, 3) := by decide +kernel
theorem dL_law_2970 : decode cL_law 2970 = .ok (.iconst 0, 1) := by decide +kernel
theorem dL_law_2971 : decode cL_law 2971 = .ok (.ireturn, 1) := by decide +kernel
theorem dL_law_2972 : decode cL_law 2972 = .ok (.iinc 5 6, 3) := by decide +kernel
theorem dL_law_2975 : decode cL_law 2975 = .ok (.goto (-2947), 3) := by decide +kernel
theorem dL_law_2978 : decode cL_law 2978 = .ok (.iconst 1, 1) := by decide +kernel
theorem dL_law_2979 : decode cL_law 2979 = .ok (.ireturn, 1) := by decide +kernel
end
section
/-! THE WORLD AS A MAP: a list of addresses and what stands at each. All cells that the run makes lie from the law's start on: that set is the frame of every contract. -/
abbrev Hp : Type := List Nat × (Nat → va_E)
def hat (h : Hp) (a : Nat) (e : va_E) : Prop := a ∈ h.1 ∧ h.2 a = e
def hput (h : Hp) (a : Nat) (e : va_E) : Hp := (h.1, va_up h.2 a e)
def hnew (h : Hp) (a : Nat) (e : va_E) : Hp := (h.1 ++ [a], va_up h.2 a e)
theorem hat_put {h : Hp} {a : Nat} {e e0 : va_E} (w : hat h a e0) : hat (hput h a e) a e := ⟨w.1, va_up_self _ _ _⟩
theorem hat_put_ne {h : Hp} {a b : Nat} {e eb : va_E} (w : hat h b eb) (n : b ≠ a) : hat (hput h a e) b eb := ⟨w.1, (va_up_ne _ _ n).trans w.2⟩
theorem hat_new {h : Hp} {a : Nat} {e : va_E} : hat (hnew h a e) a e := ⟨by simp [hnew], va_up_self _ _ _⟩
theorem hat_new_ne {h : Hp} {a b : Nat} {e eb : va_E} (w : hat h b eb) (n : a ∉ h.1) : hat (hnew h a e) b eb := ⟨List.mem_append_left _ w.1, (va_up_ne _ _ (fun q => n (by rw [← q]; exact w.1))).trans w.2⟩
theorem hput_hput (h : Hp) (a : Nat) (e1 e2 : va_E) : hput (hput h a e1) a e2 = hput h a e2 := by
  unfold hput
  refine congrArg (fun f => (h.1, f)) (funext fun j => ?_)
  by_cases q : j = a <;> simp [va_up, q]
theorem hput_hnew (h : Hp) (a : Nat) (e1 e2 : va_E) : hput (hnew h a e1) a e2 = hnew h a e2 := by
  unfold hput hnew
  refine congrArg (fun f => (h.1 ++ [a], f)) (funext fun j => ?_)
  by_cases q : j = a <;> simp [va_up, q]
theorem hput_same {h : Hp} {a : Nat} {e : va_E} (w : hat h a e) : hput h a e = h := by
  unfold hput
  refine congrArg (fun f => (h.1, f)) (funext fun j => ?_)
  unfold va_up
  split
  · next q => rw [q, w.2]
  · rfl
theorem hput_comm (h : Hp) {a b : Nat} (n : a ≠ b) (e1 e2 : va_E) : hput (hput h a e1) b e2 = hput (hput h b e2) a e1 := by
  unfold hput
  refine congrArg (fun f => (h.1, f)) (funext fun j => ?_)
  unfold va_up
  by_cases q1 : j = b
  · subst q1
    simp [Ne.symm n]
  · by_cases q2 : j = a
    · subst q2
      simp [n]
    · simp [q1, q2]
theorem hat_uni {h : Hp} {a : Nat} {e1 e2 : va_E} (w1 : hat h a e1) (w2 : hat h a e2) : e1 = e2 := w1.2.symm.trans w2.2
/-- what kind of thing it is -/
def mkd (e : va_E) : Nat := match e with
  | .inr o => 10 + o.1
  | .inl a => match a.2.2 with
    | .inl _ => 0
    | .inr (.inl _) => 1
    | .inr (.inr (.inl _)) => 2
    | .inr (.inr (.inr (.inl _))) => 3
    | .inr (.inr (.inr (.inr _))) => 4
theorem hat_ne {h : Hp} {a b : Nat} {e1 e2 : va_E} (wa : hat h a e1) (wb : hat h b e2) (k : (mkd e1 == mkd e2) = false) : a ≠ b := fun q => by
  have h1 : e1 = e2 := by rw [← wa.2, ← wb.2, q]
  rw [h1] at k
  simp at k
/-- the classes; the arrays' classes: int[], long[], Block[], Series[], int[][], double[] -/
abbrev mCl : List vw_C := [(RX0, TX0, 4), (RX1, TX1, 9), (RX2, TX2, 9), (RX3, TX3, 4), (RX4, TX4, 3), (RX5, TX5, 4), (RX6, TX6, 17)]
abbrev mG : Type := va_G × (Nat → ClassId)
abbrev mTy (c : Nat → ClassId) : List (ClassId × FieldType) := [(c 0, .int), (c 1, .long), (c 2, .object "GaugeHall$Block"), (c 3, .object "GaugeHall$Series"), (c 4, .array .int), (c 5, .double)]
abbrev eI (G : mG) (n : Nat) (f : Nat → Int32) : va_E := .inl (G.2 0, n, .inl f)
abbrev eL (G : mG) (n : Nat) (f : Nat → Int64) : va_E := .inl (G.2 1, n, .inr (.inl f))
abbrev eB (G : mG) (n : Nat) (f : Nat → Option Nat) : va_E := .inl (G.2 2, n, .inr (.inr (.inr (.inr f))))
abbrev eS (G : mG) (n : Nat) (f : Nat → Option Nat) : va_E := .inl (G.2 3, n, .inr (.inr (.inr (.inr f))))
abbrev eA (G : mG) (n : Nat) (f : Nat → Option Nat) : va_E := .inl (G.2 4, n, .inr (.inr (.inr (.inr f))))
abbrev eD (G : mG) (n : Nat) (f : Nat → UInt64) : va_E := .inl (G.2 5, n, .inr (.inr (.inr (.inl f))))
abbrev eO (ci : Nat) (fs : List Value) : va_E := .inr (ci, fs)
def MW (G : mG) (B : Nat) (h : Hp) (H : Heap) : Prop := va_P G.1 mCl (va_pl h.1 h.2) H ∧ va_D (fun q => B ≤ q) (va_pl h.1 h.2)
theorem va_pl_get0 {h : Hp} {a : Nat} {e : va_E} (w : hat h a e) : ∃ k : Nat, (va_pl h.1 h.2)[k]? = some (a, e) := by
  obtain ⟨k, hk⟩ := va_pl_get (X := []) (f := h.2) w.1
  exact ⟨k, by rw [← w.2]; exact hk⟩
theorem va_pl_set0 {A : Nat → Prop} {h : Hp} {a k : Nat} {e e0 : va_E} (hD : va_D A (va_pl h.1 h.2)) (w : hat h a e0) (hk : (va_pl h.1 h.2)[k]? = some (a, e0)) : (va_pl h.1 h.2).set k (a, e) = va_pl (hput h a e).1 (hput h a e).2 := by
  have h1 := va_pl_set (X := []) (e := e) hD w.1 (by rw [w.2]; exact hk)
  exact h1
theorem va_pl_push0 {h : Hp} {a : Nat} {e : va_E} (n : a ∉ h.1) : va_pl h.1 h.2 ++ [(a, e)] = va_pl (hnew h a e).1 (hnew h a e).2 := va_pl_push n
theorem MW.fresh {G : mG} {B : Nat} {h : Hp} {H : Heap} (w : MW G B h H) {a : Nat} (q : H.size ≤ a) : a ∉ h.1 := va_pl_fresh (X := []) w.1 q
theorem MW.eq {G : mG} {B : Nat} {h h2 : Hp} {H : Heap} (w : MW G B h H) (q : h = h2) : MW G B h2 H := q ▸ w
theorem MW.recv {G : mG} {B : Nat} {h : Hp} {H : Heap} {s : State} {tys : List (ClassId × FieldType)} (w : MW G B h H) (hK : va_K G.1 mCl tys s) {a ci : Nat} {fs : List Value} (wa : hat h a (.inr (ci, fs))) {q : vw_C} (hc : mCl[ci]? = some q) : ∃ cell : Cell, H[a]? = some cell ∧ cell.vm.isStatics = false ∧ s.vm.findClass q.1 = some cell.cls := by
  obtain ⟨k, hk⟩ := va_pl_get0 wa
  exact va_recv hK w.1 hc hk
/-! WHAT HOLDS AT THE LAW'S START, and what a state behind it keeps -/
def mIn (w : Cond) : Prop := w ∈ lw_tbl ∧ goodWord w = true
theorem mIn_of {w : Cond} (i : Nat) (h : lw_tbl[i]? = some w ∧ goodWord w = true) : mIn w := ⟨List.mem_of_getElem? h.1, h.2⟩
def mk2 : Cond → Bool
  | .declares _ => true
  | .castable _ _ => true
  | w => goodWord w
/-- the words that a nest mate's access, or an array over a class, asks -/
def mIn' (w : Cond) : Prop := w ∈ lw_tbl
theorem mIn'_of {w : Cond} (i : Nat) (h : lw_tbl[i]? = some w) : mIn' w := List.mem_of_getElem? h
def mThr (B : Nat) (s0 : State) : Prop := vx_Zq Bundle.tN "UNASSIGNED_STACK" Bundle.steD (fun q => B ≤ q) s0 s0.heap ∧ vx_Zq Bundle.tN "SUPPRESSED_SENTINEL" Bundle.listD (fun q => B ≤ q) s0 s0.heap
def mZ (l : Launch) (G : mG) (a0 : Array Value) (s0 : State) : Prop := (∀ w ∈ lw_tbl, w.before a0 s0 = true) ∧ va_K G.1 mCl (mTy G.2) s0 ∧ l.stackTraces = false ∧ mThr s0.heap.size s0 ∧ (∀ (o : String) (k : Nat) (t : String), mIn' (.stringRef o k t) → ∃ a, vk_R o k t a s0) ∧ (∀ (a b : String), (Cond.not (.castable a b)).before a0 s0 = true → va_Nc a b s0)
def mE (s0 U : State) : Prop := s0.WarmedH U.vm ∧ s0.heap.size ≤ U.heap.size ∧ ∀ q : Nat, q < s0.heap.size → U.heap[q]? = s0.heap[q]?
section
variable {l : Launch} {G : mG} {a0 : Array Value} {s0 s : State}
theorem mE.good (E : mE s0 s) (Z : mZ l G a0 s0) {w : Cond} (h : mIn w) (a : Array Value) : w.before a s = true := word_at E.1 (good_of_word h.2) (Z.1 w h.1)
theorem mE.K (E : mE s0 s) (Z : mZ l G a0 s0) : va_K G.1 mCl (mTy G.2) s := va_K.moved E.1.alike Z.2.1
theorem mE.two (E : mE s0 s) (Z : mZ l G a0 s0) {w : Cond} (h : w ∈ lw_tbl) (h2 : mk2 w = true) (a : Array Value) : w.before a s = true := by
  have h0 := Z.1 w h
  cases w with
  | declares x => exact va_Nw.use rfl (va_Nw.warmD E.1 (va_Nw.of rfl h0))
  | castable x y => exact va_Nw.use rfl (va_Nw.warmC E.1 (va_Nw.of rfl h0))
  | _ => exact E.good Z ⟨h, h2⟩ a
theorem mE.nF (E : mE s0 s) (Z : mZ l G a0 s0) {a : String} {i : Nat} {b n d h : String} (w : mIn' (.fieldLinkNest a i b n d h)) (as : Array Value) : (Cond.fieldLinkNest a i b n d h).before as s = true := va_Nw.use rfl (va_Nw.warmF E.1 (va_Nw.of rfl (Z.1 _ w)))
theorem mE.nM (E : mE s0 s) (Z : mZ l G a0 s0) {a : String} {i : Nat} {x : MethodName} {h : String} (w : mIn' (.methodLinkNest a i x h)) : va_Nw (.methodLinkNest a i x h) s := va_Nw.warmM E.1 (va_Nw.of rfl (Z.1 _ w))
theorem mE.thr (E : mE s0 s) (Z : mZ l G a0 s0) : vx_Zq Bundle.tN "UNASSIGNED_STACK" Bundle.steD (fun q => s0.heap.size ≤ q) s s.heap ∧ vx_Zq Bundle.tN "SUPPRESSED_SENTINEL" Bundle.listD (fun q => s0.heap.size ≤ q) s s.heap := by
  have k : ∀ a : Nat, a < s0.heap.size → ¬ (s0.heap.size ≤ a) → s.heap[a]? = s0.heap[a]? := fun a h _ => E.2.2 a h
  exact ⟨vx_Zq.moved E.1.alike (vx_Zq.kept Z.2.2.2.1.1 k), vx_Zq.moved E.1.alike (vx_Zq.kept Z.2.2.2.1.2 k)⟩
theorem mE.str (E : mE s0 s) (Z : mZ l G a0 s0) {o : String} {k : Nat} {t : String} (w : mIn' (.stringRef o k t)) : ∃ a, vk_R o k t a s := by
  obtain ⟨a, h⟩ := Z.2.2.2.2.1 o k t w
  exact ⟨a, vk_R.warm E.1 h⟩
theorem mE.at {U : State} {H : Heap} {locs : List Loc} (E : mE s0 s) (hS : va_S (fun q => s0.heap.size ≤ q) s.heap H locs) (hU : U.heap = H) (hW : s.WarmedH U.vm) : mE s0 U := by
  refine ⟨State.WarmedH.trans E.1 hW, by rw [hU]; exact Nat.le_trans E.2.1 hS.1, fun q h => ?_⟩
  rw [hU, hS.2.1 q (Nat.lt_of_lt_of_le h E.2.1) (Nat.not_le.mpr h)]
  exact E.2.2 q h
end
end
section
/-! THE ROWS over the world as a map -/
/-- what a method's body stands on -/
def mC (s0 : State) (p : Program) (s : State) (m : MethodId) (meth : Method) (c : Code) (cc : ByteArray) (nL : Nat) (own : String) (ret : Option FieldType) (nm : String) : Prop :=
  p.tables.exec = Jvm.exec ∧ c.code = cc ∧ c.maxLocals = nL ∧ s.vm.findClass own = some m.cls ∧ meth.locks = false ∧ meth.sig.returnType = ret ∧ mE s0 s ∧ meth.name = nm
/-- a class of the world -/
def mInW (Cn : String) (T : u_T) (N : Nat) : Prop := ∀ w ∈ u_ws Cn T N, mIn w
def mKi (ci : Nat) (Cn : String) (T : u_T) (N : Nat) (ty : Nat → FieldType) : Prop := mCl[ci]? = some (Cn, T, N) ∧ mInW Cn T N ∧ (∀ k, k < N → parseFieldDescriptor (T k).2.2.1 = some (ty k)) ∧ ∀ a, a < N → ∀ b, b < N → a ≠ b → (T a).2.1 ≠ (T b).2.1
section
variable {p : Program} {l : Launch} {e : Env} {R : Room} {s : State} {m : MethodId} {args : Array Value} {below : List Frame} {meth : Method} {c : Code} {H : Heap} {locs : List Loc} {cells slots : Nat} {Q : State → Prop}
variable {cc : ByteArray} {pc nL : Nat} {ls : Array Slot} {rest : List Value} {G : mG} {s0 : State} {a0 : Array Value} {own nm : String} {ret : Option FieldType} {h : Hp} {a : Nat}
theorem mInW.lays {Cn : String} {T : u_T} {N : Nat} (w : mInW Cn T N) (E : mE s0 s) (Z : mZ l G a0 s0) (as : Array Value) : ∀ x ∈ u_ws Cn T N, x.before as s = true := fun x hx => E.good Z (w x hx) as
theorem m_get (Z : mZ l G a0 s0) (C : mC s0 p s m meth c cc nL own ret nm) (hM : MW G s0.heap.size h H) {ci : Nat} {fs : List Value} (ha : hat h a (eO ci fs)) {Cn : String} {T : u_T} {N : Nat} {ty : Nat → FieldType} (K : mKi ci Cn T N ty) (k : Nat) (hk : k < N) {index : Nat} (hl : mIn (.fieldLink own index (T k).1 (T k).2.1 (T k).2.2.1)) {v : Value} (hv : fs[k]? = some v) (hdg : decode cc pc = .ok (.getfield index, 3))
    (kk : W p l e R s m args below meth c H locs cells slots Q (F0 m (pc + 3) ls (v :: rest))) : W p l e R s m args below meth c H locs cells slots Q (F0 m pc ls (.ref a :: rest)) := by
  obtain ⟨hx, hb, hml, hown, hlk, hr, hE, hn⟩ := C
  obtain ⟨q0, he⟩ := va_pl_get0 ha
  exact va_get hx hb (K.2.1.lays hE Z args) (fun _ z => z) hown (hE.K Z) hM.1 q0 he K.1 k hk (hE.good Z hl args) (fun _ z => z) hv hdg kk
theorem m_getN (Z : mZ l G a0 s0) (C : mC s0 p s m meth c cc nL own ret nm) (hM : MW G s0.heap.size h H) {ci : Nat} {fs : List Value} (ha : hat h a (eO ci fs)) {Cn host : String} {T : u_T} {N : Nat} {ty : Nat → FieldType} (K : mKi ci Cn T N ty) (k : Nat) (hk : k < N) {index : Nat} (hl : mIn' (.fieldLinkNest own index (T k).1 (T k).2.1 (T k).2.2.1 host)) {v : Value} (hv : fs[k]? = some v) (hdg : decode cc pc = .ok (.getfield index, 3))
    (kk : W p l e R s m args below meth c H locs cells slots Q (F0 m (pc + 3) ls (v :: rest))) : W p l e R s m args below meth c H locs cells slots Q (F0 m pc ls (.ref a :: rest)) := by
  obtain ⟨hx, hb, hml, hown, hlk, hr, hE, hn⟩ := C
  obtain ⟨q0, he⟩ := va_pl_get0 ha
  exact va_getN hx hb (K.2.1.lays hE Z args) (fun _ z => z) hown (hE.K Z) hM.1 q0 he K.1 k hk (hE.nF Z hl args) (fun _ z => z) hv hdg kk
theorem m_put (Z : mZ l G a0 s0) (C : mC s0 p s m meth c cc nL own ret nm) (hM : MW G s0.heap.size h H) (hS : va_S (fun q => s0.heap.size ≤ q) s.heap H locs) {ci : Nat} {fs : List Value} (ha : hat h a (eO ci fs)) {Cn : String} {T : u_T} {N : Nat} {ty : Nat → FieldType} (K : mKi ci Cn T N ty) (k : Nat) (hk : k < N) {index : Nat} (hl : mIn (.fieldLink own index (T k).1 (T k).2.1 (T k).2.2.1)) {v : Value} (hfin : (T k).2.2.2 = false) (hn0 : narrow (ty k) v = v) (hfit : fits (ty k) v = true) {fs' : List Value} (hfs : fs.set k v = fs') (hlen : k < fs.length) (hdg : decode cc pc = .ok (.putfield index, 3))
    (kk : ∀ (H1 : Heap) (locs1 : List Loc), MW G s0.heap.size (hput h a (eO ci fs')) H1 → va_S (fun q => s0.heap.size ≤ q) s.heap H1 locs1 → W p l e R s m args below meth c H1 locs1 cells slots Q (F0 m (pc + 3) ls rest)) : W p l e R s m args below meth c H locs cells slots Q (F0 m pc ls (v :: .ref a :: rest)) := by
  obtain ⟨hx, hb, hml, hown, hlk, hr, hE, hn⟩ := C
  obtain ⟨q0, he⟩ := va_pl_get0 ha
  refine va_put hx hb (K.2.1.lays hE Z args) (fun _ z => z) ty K.2.2.1 K.2.2.2 hown (hE.K Z) hM.1 hM.2 hS q0 he K.1 k hk (hE.good Z hl args) (fun _ z => z) hfin (K.2.2.1 k hk) hn0 hfit hlen hdg fun H1 locs1 hP1 hD1 hS1 => ?_
  rw [hfs, va_pl_set0 hM.2 ha he] at hP1
  rw [hfs, va_pl_set0 hM.2 ha he] at hD1
  exact kk H1 locs1 ⟨hP1, hD1⟩ hS1
theorem m_putN (Z : mZ l G a0 s0) (C : mC s0 p s m meth c cc nL own ret nm) (hM : MW G s0.heap.size h H) (hS : va_S (fun q => s0.heap.size ≤ q) s.heap H locs) {ci : Nat} {fs : List Value} (ha : hat h a (eO ci fs)) {Cn host : String} {T : u_T} {N : Nat} {ty : Nat → FieldType} (K : mKi ci Cn T N ty) (k : Nat) (hk : k < N) {index : Nat} (hl : mIn' (.fieldLinkNest own index (T k).1 (T k).2.1 (T k).2.2.1 host)) {v : Value} (hfin : (T k).2.2.2 = false) (hn0 : narrow (ty k) v = v) (hfit : fits (ty k) v = true) {fs' : List Value} (hfs : fs.set k v = fs') (hlen : k < fs.length) (hdg : decode cc pc = .ok (.putfield index, 3))
    (kk : ∀ (H1 : Heap) (locs1 : List Loc), MW G s0.heap.size (hput h a (eO ci fs')) H1 → va_S (fun q => s0.heap.size ≤ q) s.heap H1 locs1 → W p l e R s m args below meth c H1 locs1 cells slots Q (F0 m (pc + 3) ls rest)) : W p l e R s m args below meth c H locs cells slots Q (F0 m pc ls (v :: .ref a :: rest)) := by
  obtain ⟨hx, hb, hml, hown, hlk, hr, hE, hn⟩ := C
  obtain ⟨q0, he⟩ := va_pl_get0 ha
  refine va_putN hx hb (K.2.1.lays hE Z args) (fun _ z => z) ty K.2.2.1 K.2.2.2 hown (hE.K Z) hM.1 hM.2 hS q0 he K.1 k hk (hE.nF Z hl args) (fun _ z => z) hfin (K.2.2.1 k hk) hn0 hfit hlen hdg fun H1 locs1 hP1 hD1 hS1 => ?_
  rw [hfs, va_pl_set0 hM.2 ha he] at hP1
  rw [hfs, va_pl_set0 hM.2 ha he] at hD1
  exact kk H1 locs1 ⟨hP1, hD1⟩ hS1
theorem m_putF (Z : mZ l G a0 s0) (C : mC s0 p s m meth c cc nL own ret "<init>") (hM : MW G s0.heap.size h H) (hS : va_S (fun q => s0.heap.size ≤ q) s.heap H locs) {ci : Nat} {fs : List Value} (ha : hat h a (eO ci fs)) {Cn : String} {T : u_T} {N : Nat} {ty : Nat → FieldType} (K : mKi ci Cn T N ty) (k : Nat) (hk : k < N) {index : Nat} (hl : mIn (.fieldLink own index (T k).1 (T k).2.1 (T k).2.2.1)) {v : Value} (hfin : (T k).2.2.2 = true) (hdecl : (T k).1 = own) (hn0 : narrow (ty k) v = v) (hfit : fits (ty k) v = true) {fs' : List Value} (hfs : fs.set k v = fs') (hlen : k < fs.length) (hdg : decode cc pc = .ok (.putfield index, 3))
    (kk : ∀ (H1 : Heap) (locs1 : List Loc), MW G s0.heap.size (hput h a (eO ci fs')) H1 → va_S (fun q => s0.heap.size ≤ q) s.heap H1 locs1 → W p l e R s m args below meth c H1 locs1 cells slots Q (F0 m (pc + 3) ls rest)) : W p l e R s m args below meth c H locs cells slots Q (F0 m pc ls (v :: .ref a :: rest)) := by
  obtain ⟨hx, hb, hml, hown, hlk, hr, hE, hn⟩ := C
  obtain ⟨q0, he⟩ := va_pl_get0 ha
  refine va_putF hx hb (K.2.1.lays hE Z args) (fun _ z => z) ty K.2.2.1 K.2.2.2 hown (hE.K Z) hM.1 hM.2 hS q0 he K.1 k hk (hE.good Z hl args) (fun _ z => z) hfin hn hdecl (K.2.2.1 k hk) hn0 hfit hlen hdg fun H1 locs1 hP1 hD1 hS1 => ?_
  rw [hfs, va_pl_set0 hM.2 ha he] at hP1
  rw [hfs, va_pl_set0 hM.2 ha he] at hD1
  exact kk H1 locs1 ⟨hP1, hD1⟩ hS1
-- arrays
theorem nI_vp {i : Int32} {k n : Nat} (hi : i = nI k) (hk : k < n) (hn : n < 2 ^ 31) : vp_in i n := by rw [hi]; exact vp_in_nI hk hn
theorem nI_cl {i : Int32} {k n : Nat} (hi : i = nI k) (hk : k < n) (hn : n < 2 ^ 31) : i.toNatClampNeg = k := by rw [hi]; exact nI_clamp (Nat.lt_trans hk hn)
theorem m_iald (Z : mZ l G a0 s0) (C : mC s0 p s m meth c cc nL own ret nm) (hM : MW G s0.heap.size h H) {n : Nat} {f : Nat → Int32} (ha : hat h a (eI G n f)) {i : Int32} (k : Nat) (hi : i = nI k) (hk : k < n) (hn : n < 2 ^ 31) (hdg : decode cc pc = .ok (.iaload, 1))
    (kk : W p l e R s m args below meth c H locs cells slots Q (F0 m (pc + 1) ls (.int (f k) :: rest))) : W p l e R s m args below meth c H locs cells slots Q (F0 m pc ls (.int i :: .ref a :: rest)) := by
  obtain ⟨hx, hb, hml, hown, hlk, hr, hE, -⟩ := C
  obtain ⟨q0, he⟩ := va_pl_get0 ha
  refine va_iald hx hb (hE.K Z) hM.1 q0 0 he rfl (nI_vp hi hk hn) hdg ?_
  rw [nI_cl hi hk hn]
  exact kk
theorem m_lald (Z : mZ l G a0 s0) (C : mC s0 p s m meth c cc nL own ret nm) (hM : MW G s0.heap.size h H) {n : Nat} {f : Nat → Int64} (ha : hat h a (eL G n f)) {i : Int32} (k : Nat) (hi : i = nI k) (hk : k < n) (hn : n < 2 ^ 31) (hdg : decode cc pc = .ok (.laload, 1))
    (kk : W p l e R s m args below meth c H locs cells slots Q (F0 m (pc + 1) ls (.long (f k) :: rest))) : W p l e R s m args below meth c H locs cells slots Q (F0 m pc ls (.int i :: .ref a :: rest)) := by
  obtain ⟨hx, hb, hml, hown, hlk, hr, hE, -⟩ := C
  obtain ⟨q0, he⟩ := va_pl_get0 ha
  refine va_lald hx hb (hE.K Z) hM.1 q0 1 he rfl (nI_vp hi hk hn) hdg ?_
  rw [nI_cl hi hk hn]
  exact kk
theorem m_dald (Z : mZ l G a0 s0) (C : mC s0 p s m meth c cc nL own ret nm) (hM : MW G s0.heap.size h H) {n : Nat} {f : Nat → UInt64} (ha : hat h a (eD G n f)) {i : Int32} (k : Nat) (hi : i = nI k) (hk : k < n) (hn : n < 2 ^ 31) (hdg : decode cc pc = .ok (.daload, 1))
    (kk : W p l e R s m args below meth c H locs cells slots Q (F0 m (pc + 1) ls (.double (f k) :: rest))) : W p l e R s m args below meth c H locs cells slots Q (F0 m pc ls (.int i :: .ref a :: rest)) := by
  obtain ⟨hx, hb, hml, hown, hlk, hr, hE, -⟩ := C
  obtain ⟨q0, he⟩ := va_pl_get0 ha
  refine va_dald hx hb (hE.K Z) hM.1 q0 5 he rfl (nI_vp hi hk hn) hdg ?_
  rw [nI_cl hi hk hn]
  exact kk
theorem m_bald (Z : mZ l G a0 s0) (C : mC s0 p s m meth c cc nL own ret nm) (hM : MW G s0.heap.size h H) {n : Nat} {f : Nat → Option Nat} (ha : hat h a (eB G n f)) {i : Int32} (k : Nat) (hi : i = nI k) (hk : k < n) (hn : n < 2 ^ 31) {v : Value} (hv : va_rf (f k) = v) (hdg : decode cc pc = .ok (.aaload, 1))
    (kk : W p l e R s m args below meth c H locs cells slots Q (F0 m (pc + 1) ls (v :: rest))) : W p l e R s m args below meth c H locs cells slots Q (F0 m pc ls (.int i :: .ref a :: rest)) := by
  obtain ⟨hx, hb, hml, hown, hlk, hr, hE, -⟩ := C
  obtain ⟨q0, he⟩ := va_pl_get0 ha
  refine va_aldq hx hb (hE.K Z) hM.1 q0 2 he rfl (nI_vp hi hk hn) hdg ?_
  rw [nI_cl hi hk hn, hv]
  exact kk
theorem m_sald (Z : mZ l G a0 s0) (C : mC s0 p s m meth c cc nL own ret nm) (hM : MW G s0.heap.size h H) {n : Nat} {f : Nat → Option Nat} (ha : hat h a (eS G n f)) {i : Int32} (k : Nat) (hi : i = nI k) (hk : k < n) (hn : n < 2 ^ 31) {v : Value} (hv : va_rf (f k) = v) (hdg : decode cc pc = .ok (.aaload, 1))
    (kk : W p l e R s m args below meth c H locs cells slots Q (F0 m (pc + 1) ls (v :: rest))) : W p l e R s m args below meth c H locs cells slots Q (F0 m pc ls (.int i :: .ref a :: rest)) := by
  obtain ⟨hx, hb, hml, hown, hlk, hr, hE, -⟩ := C
  obtain ⟨q0, he⟩ := va_pl_get0 ha
  refine va_aldq hx hb (hE.K Z) hM.1 q0 3 he rfl (nI_vp hi hk hn) hdg ?_
  rw [nI_cl hi hk hn, hv]
  exact kk
theorem m_aald (Z : mZ l G a0 s0) (C : mC s0 p s m meth c cc nL own ret nm) (hM : MW G s0.heap.size h H) {n : Nat} {f : Nat → Option Nat} (ha : hat h a (eA G n f)) {i : Int32} (k : Nat) (hi : i = nI k) (hk : k < n) (hn : n < 2 ^ 31) {v : Value} (hv : va_rf (f k) = v) (hdg : decode cc pc = .ok (.aaload, 1))
    (kk : W p l e R s m args below meth c H locs cells slots Q (F0 m (pc + 1) ls (v :: rest))) : W p l e R s m args below meth c H locs cells slots Q (F0 m pc ls (.int i :: .ref a :: rest)) := by
  obtain ⟨hx, hb, hml, hown, hlk, hr, hE, -⟩ := C
  obtain ⟨q0, he⟩ := va_pl_get0 ha
  have hlt : i.toNatClampNeg < n := by rw [nI_cl hi hk hn]; exact hk
  refine W.aald (v := va_rf (f i.toNatClampNeg)) (ty := .array .int) hx hb (hM.1 q0 _ he) (((hE.K Z).2 4 _ rfl).1 n (fun j => va_rf (f j))) rfl (fun q => by cases q) (by show ¬ (i < 0 ∨ (arrV _ _ _).slots.size ≤ _); rw [arrV_size]; exact nI_vp hi hk hn) (by show (arrV _ _ _).slots[_]? = _; rw [arrV_read _ _ hlt]) rfl rfl hdg ?_
  rw [nI_cl hi hk hn, hv]
  exact kk
theorem m_alen (Z : mZ l G a0 s0) (C : mC s0 p s m meth c cc nL own ret nm) (hM : MW G s0.heap.size h H) {x : vp_A} {t0 : Nat} {ty : FieldType} (ht : (mTy G.2)[t0]? = some (G.2 t0, ty)) (ha : hat h a (.inl (G.2 t0, x))) (hdg : decode cc pc = .ok (.arraylength, 1))
    (kk : W p l e R s m args below meth c H locs cells slots Q (F0 m (pc + 1) ls (.int (nI x.1) :: rest))) : W p l e R s m args below meth c H locs cells slots Q (F0 m pc ls (.ref a :: rest)) := by
  obtain ⟨hx, hb, hml, hown, hlk, hr, hE, -⟩ := C
  obtain ⟨q0, he⟩ := va_pl_get0 ha
  exact va_alen hx hb (hE.K Z) hM.1 q0 t0 he ht rfl hdg kk
theorem m_iast (Z : mZ l G a0 s0) (C : mC s0 p s m meth c cc nL own ret nm) (hM : MW G s0.heap.size h H) (hS : va_S (fun q => s0.heap.size ≤ q) s.heap H locs) {n : Nat} {f : Nat → Int32} (ha : hat h a (eI G n f)) {i x : Int32} (k : Nat) (hi : i = nI k) (hk : k < n) (hn : n < 2 ^ 31) (hdg : decode cc pc = .ok (.iastore, 1))
    (kk : ∀ (H1 : Heap) (locs1 : List Loc), MW G s0.heap.size (hput h a (eI G n (va_up f k x))) H1 → va_S (fun q => s0.heap.size ≤ q) s.heap H1 locs1 → W p l e R s m args below meth c H1 locs1 cells slots Q (F0 m (pc + 1) ls rest)) : W p l e R s m args below meth c H locs cells slots Q (F0 m pc ls (.int x :: .int i :: .ref a :: rest)) := by
  obtain ⟨hx, hb, hml, hown, hlk, hr, hE, -⟩ := C
  obtain ⟨q0, he⟩ := va_pl_get0 ha
  refine va_iast hx hb (hE.K Z) hM.1 hM.2 hS q0 0 he rfl (nI_vp hi hk hn) hdg fun H1 locs1 hP1 hD1 hS1 => ?_
  rw [nI_cl hi hk hn, va_pl_set0 hM.2 ha he] at hP1
  rw [nI_cl hi hk hn, va_pl_set0 hM.2 ha he] at hD1
  exact kk H1 locs1 ⟨hP1, hD1⟩ hS1
theorem m_last (Z : mZ l G a0 s0) (C : mC s0 p s m meth c cc nL own ret nm) (hM : MW G s0.heap.size h H) (hS : va_S (fun q => s0.heap.size ≤ q) s.heap H locs) {n : Nat} {f : Nat → Int64} (ha : hat h a (eL G n f)) {i : Int32} {x : Int64} (k : Nat) (hi : i = nI k) (hk : k < n) (hn : n < 2 ^ 31) (hdg : decode cc pc = .ok (.lastore, 1))
    (kk : ∀ (H1 : Heap) (locs1 : List Loc), MW G s0.heap.size (hput h a (eL G n (va_up f k x))) H1 → va_S (fun q => s0.heap.size ≤ q) s.heap H1 locs1 → W p l e R s m args below meth c H1 locs1 cells slots Q (F0 m (pc + 1) ls rest)) : W p l e R s m args below meth c H locs cells slots Q (F0 m pc ls (.long x :: .int i :: .ref a :: rest)) := by
  obtain ⟨hx, hb, hml, hown, hlk, hr, hE, -⟩ := C
  obtain ⟨q0, he⟩ := va_pl_get0 ha
  refine va_last hx hb (hE.K Z) hM.1 hM.2 hS q0 1 he rfl (nI_vp hi hk hn) hdg fun H1 locs1 hP1 hD1 hS1 => ?_
  rw [nI_cl hi hk hn, va_pl_set0 hM.2 ha he] at hP1
  rw [nI_cl hi hk hn, va_pl_set0 hM.2 ha he] at hD1
  exact kk H1 locs1 ⟨hP1, hD1⟩ hS1
theorem m_dast (Z : mZ l G a0 s0) (C : mC s0 p s m meth c cc nL own ret nm) (hM : MW G s0.heap.size h H) (hS : va_S (fun q => s0.heap.size ≤ q) s.heap H locs) {n : Nat} {f : Nat → UInt64} (ha : hat h a (eD G n f)) {i : Int32} {x : UInt64} (k : Nat) (hi : i = nI k) (hk : k < n) (hn : n < 2 ^ 31) (hdg : decode cc pc = .ok (.dastore, 1))
    (kk : ∀ (H1 : Heap) (locs1 : List Loc), MW G s0.heap.size (hput h a (eD G n (va_up f k x))) H1 → va_S (fun q => s0.heap.size ≤ q) s.heap H1 locs1 → W p l e R s m args below meth c H1 locs1 cells slots Q (F0 m (pc + 1) ls rest)) : W p l e R s m args below meth c H locs cells slots Q (F0 m pc ls (.double x :: .int i :: .ref a :: rest)) := by
  obtain ⟨hx, hb, hml, hown, hlk, hr, hE, -⟩ := C
  obtain ⟨q0, he⟩ := va_pl_get0 ha
  refine va_dast hx hb (hE.K Z) hM.1 hM.2 hS q0 5 he rfl (nI_vp hi hk hn) hdg fun H1 locs1 hP1 hD1 hS1 => ?_
  rw [nI_cl hi hk hn] at hP1 hD1
  rw [va_pl_set0 hM.2 ha he] at hP1
  rw [va_pl_set0 hM.2 ha he] at hD1
  exact kk H1 locs1 ⟨hP1, hD1⟩ hS1
theorem m_bast (Z : mZ l G a0 s0) (C : mC s0 p s m meth c cc nL own ret nm) (hM : MW G s0.heap.size h H) (hS : va_S (fun q => s0.heap.size ≤ q) s.heap H locs) {n v : Nat} {vs : List Value} {f : Nat → Option Nat} (ha : hat h a (eB G n f)) (hv : hat h v (eO 1 vs)) {i : Int32} (k : Nat) (hi : i = nI k) (hk : k < n) (hn : n < 2 ^ 31) (hdg : decode cc pc = .ok (.aastore, 1))
    (kk : ∀ (H1 : Heap) (locs1 : List Loc), MW G s0.heap.size (hput h a (eB G n (va_up f k (some v)))) H1 → va_S (fun q => s0.heap.size ≤ q) s.heap H1 locs1 → W p l e R s m args below meth c H1 locs1 cells slots Q (F0 m (pc + 1) ls rest)) : W p l e R s m args below meth c H locs cells slots Q (F0 m pc ls (.ref v :: .int i :: .ref a :: rest)) := by
  obtain ⟨hx, hb, hml, hown, hlk, hr, hE, -⟩ := C
  obtain ⟨q0, he⟩ := va_pl_get0 ha
  obtain ⟨q1, he1⟩ := va_pl_get0 hv
  refine va_astq (r := (RX1, TX1, 9)) hx hb (hE.K Z) hM.1 hM.2 hS q0 2 q1 1 he rfl he1 rfl (nI_vp hi hk hn) hdg fun H1 locs1 hP1 hD1 hS1 => ?_
  rw [nI_cl hi hk hn, va_pl_set0 hM.2 ha he] at hP1
  rw [nI_cl hi hk hn, va_pl_set0 hM.2 ha he] at hD1
  exact kk H1 locs1 ⟨hP1, hD1⟩ hS1
theorem m_sast (Z : mZ l G a0 s0) (C : mC s0 p s m meth c cc nL own ret nm) (hM : MW G s0.heap.size h H) (hS : va_S (fun q => s0.heap.size ≤ q) s.heap H locs) {n v : Nat} {vs : List Value} {f : Nat → Option Nat} (ha : hat h a (eS G n f)) (hv : hat h v (eO 2 vs)) {i : Int32} (k : Nat) (hi : i = nI k) (hk : k < n) (hn : n < 2 ^ 31) (hdg : decode cc pc = .ok (.aastore, 1))
    (kk : ∀ (H1 : Heap) (locs1 : List Loc), MW G s0.heap.size (hput h a (eS G n (va_up f k (some v)))) H1 → va_S (fun q => s0.heap.size ≤ q) s.heap H1 locs1 → W p l e R s m args below meth c H1 locs1 cells slots Q (F0 m (pc + 1) ls rest)) : W p l e R s m args below meth c H locs cells slots Q (F0 m pc ls (.ref v :: .int i :: .ref a :: rest)) := by
  obtain ⟨hx, hb, hml, hown, hlk, hr, hE, -⟩ := C
  obtain ⟨q0, he⟩ := va_pl_get0 ha
  obtain ⟨q1, he1⟩ := va_pl_get0 hv
  refine va_astq (r := (RX2, TX2, 9)) hx hb (hE.K Z) hM.1 hM.2 hS q0 3 q1 2 he rfl he1 rfl (nI_vp hi hk hn) hdg fun H1 locs1 hP1 hD1 hS1 => ?_
  rw [nI_cl hi hk hn, va_pl_set0 hM.2 ha he] at hP1
  rw [nI_cl hi hk hn, va_pl_set0 hM.2 ha he] at hD1
  exact kk H1 locs1 ⟨hP1, hD1⟩ hS1
end
end
section
/-! CONTRACTS over the world as a map; calls, ends, throws, things made -/
abbrev mRm (fr lo mc ms : Nat) : Room := { frames := fr, cells := mc, slots := ms, locals := lo }
def mPc (G : mG) (s0 : State) (h : Hp) (As : List Value) : Array Value → State → Prop := va_Pc As (fun U => mE s0 U ∧ MW G s0.heap.size h U.heap)
def mQc (G : mG) (s0 : State) (P : Option Value → Hp → Prop) : Array Value → State → Outcome → State → Prop := fun _ st oc t => (∃ (v : Option Value) (h' : Hp), oc = .returned v ∧ P v h' ∧ MW G s0.heap.size h' t.heap) ∧ va_F (fun q => s0.heap.size ≤ q) st t
def mXc (G : mG) (s0 : State) (X : String → Hp → Prop) : String → State → State → Prop := fun E st t => (∃ h' : Hp, X E h' ∧ MW G s0.heap.size h' t.heap) ∧ va_F (fun q => s0.heap.size ≤ q) st t
/-- the method returns: P of its answer and of the world behind it -/
def mM (l : Launch) (G : mG) (s0 : State) (y : MethodName) (cc : ByteArray) (maxL : Nat) (ret : Option FieldType) (fr lo mc ms : Nat) (h : Hp) (As : List Value) (P : Option Value → Hp → Prop) : Prop :=
  Met l y [Cond.code y cc maxL ret] (mRm fr lo mc ms) (mPc G s0 h As) (mQc G s0 P) mc ms (fun q => s0.heap.size ≤ q)
/-- it returns with P, or throws an exception of a class E with X E -/
def mT (l : Launch) (G : mG) (s0 : State) (y : MethodName) (cc : ByteArray) (maxL : Nat) (ret : Option FieldType) (fr lo mc ms : Nat) (h : Hp) (As : List Value) (P : Option Value → Hp → Prop) (X : String → Hp → Prop) : Prop :=
  vx_Met l y [Cond.code y cc maxL ret] (mRm fr lo mc ms) (mPc G s0 h As) (mQc G s0 P) (mXc G s0 X) mc ms (fun q => s0.heap.size ≤ q)
theorem mPc_blind {G : mG} {s0 : State} {h : Hp} {As : List Value} : FrameBlind (mPc G s0 h As) := by
  intro a U g mk q
  obtain ⟨q1, q2, q3⟩ := q
  exact ⟨q1, q2, q3⟩
/-- what a call asks of the tables, of the method called -/
def mYv (y : MethodName) (Cn : String) (bytes : ByteArray) (maxL : Nat) (ret : Option FieldType) (n : Nat) : Prop := mIn (.instanceMethod y) ∧ mIn (.selects Cn y y) ∧ mIn (.initialized y.cls) ∧ mIn (.code y bytes maxL ret) ∧ y.cls ≠ "java/lang/invoke/MethodHandle" ∧ y.cls ≠ "java/lang/invoke/VarHandle" ∧ (parseMethodDescriptor y.desc).map (fun d => d.parameters.length) = some n
def mYs (y : MethodName) (bytes : ByteArray) (maxL : Nat) (ret : Option FieldType) (n : Nat) : Prop := mIn (.static y) ∧ mIn (.initialized y.cls) ∧ mIn (.code y bytes maxL ret) ∧ y.cls ≠ "java/lang/invoke/MethodHandle" ∧ y.cls ≠ "java/lang/invoke/VarHandle" ∧ (parseMethodDescriptor y.desc).map (fun d => d.parameters.length) = some n
def mYi (y : MethodName) (bytes : ByteArray) (maxL : Nat) (n : Nat) : Prop := mIn (.instanceMethod y) ∧ y.name = "<init>" ∧ mIn (.initialized y.cls) ∧ mIn (.code y bytes maxL none) ∧ y.cls ≠ "java/lang/invoke/MethodHandle" ∧ y.cls ≠ "java/lang/invoke/VarHandle" ∧ (parseMethodDescriptor y.desc).map (fun d => d.parameters.length) = some n
theorem mlen {y : MethodName} {n : Nat} (h2 : (parseMethodDescriptor y.desc).map (fun d => d.parameters.length) = some n) : ∀ sig, parseMethodDescriptor y.desc = some sig → n = sig.parameters.length := fun sig h => by
  rw [h] at h2
  exact (Option.some.inj h2).symm
section
variable {p : Program} {l : Launch} {e : Env} {R : Room} {s : State} {m : MethodId} {args : Array Value} {below : List Frame} {meth : Method} {c : Code} {H : Heap} {locs : List Loc} {cells slots : Nat} {Q : State → Prop}
variable {cc : ByteArray} {pc nL : Nat} {ls : Array Slot} {rest st0 : List Value} {G : mG} {s0 : State} {a0 : Array Value} {own nm : String} {ret : Option FieldType} {h : Hp} {a b : Nat}
theorem mE.words (E : mE s0 s) (Z : mZ l G a0 s0) {ws : List Cond} (hw : ∀ w ∈ ws, mIn w) : ∀ w ∈ ws, ∀ (a' : Array Value) (U : State), s.WarmedH U.vm → w.before a' U = true := fun w h a' _U hW => word_at (State.WarmedH.trans E.1 hW) (good_of_word (hw w h).2) (Z.1 w (hw w h).1)
theorem m_go {P : Option Value → Hp → Prop} {mc ms : Nat} {a : Array Value} (hS : va_S (fun q => s0.heap.size ≤ q) s.heap H locs) (hr : va_Run p l e R s m args below meth c H locs cells slots mc ms (F0 m pc ls st0) rest (mQc G s0 P a) (fun q => s0.heap.size ≤ q))
    (kk : ∀ (v : Option Value) (h' : Hp) (H1 : Heap) (locs1 : List Loc), P v h' → MW G s0.heap.size h' H1 → va_S (fun q => s0.heap.size ≤ q) s.heap H1 locs1 → W p l e R s m args below meth c H1 locs1 (cells + mc) (slots + ms) Q (F0 m (pc + 3) ls (v.toList ++ rest))) : W p l e R s m args below meth c H locs cells slots Q (F0 m pc ls st0) := by
  intro T hT X
  obtain ⟨v, st₀, t, T', L, h0, X', hL, e1, e2, ⟨⟨v', h', hv, hp, hm⟩, hF⟩, st⟩ := hr T hT X
  cases hv
  obtain ⟨k1, k2, k3⟩ := vx_keep h0 e1 hS (fun q _ z => z) (fun q z => z) hL hF
  obtain ⟨t2, a1, b1⟩ := kk v h' T'.heap (locs ++ L) hp (by rw [e1]; exact hm) k3 T' rfl X'
  exact ⟨t2, st t2 a1, b1⟩
theorem m_xgo {P : Option Value → Hp → Prop} {Xp : String → Hp → Prop} {mc ms : Nat} {a : Array Value} (hS : va_S (fun q => s0.heap.size ≤ q) s.heap H locs) (hr : vx_Run p l e R s m args below meth c H locs cells slots mc ms (F0 m pc ls st0) rest (mQc G s0 P a) (mXc G s0 Xp) (fun q => s0.heap.size ≤ q))
    (kx : ∀ (E : String) (ce : Cell) (q9 : Addr) (h' : Hp) (H1 : Heap) (locs1 : List Loc), Xp E h' → MW G s0.heap.size h' H1 → va_S (fun q => s0.heap.size ≤ q) s.heap H1 locs1 → H1[q9]? = some ce → ce.vm = .none → s.vm.findClass E = some ce.cls → vx_W p l e R s m args below meth c H1 locs1 (cells + mc) (slots + ms) Q (F0 m pc ls rest) q9)
    (kk : ∀ (v : Option Value) (h' : Hp) (H1 : Heap) (locs1 : List Loc), P v h' → MW G s0.heap.size h' H1 → va_S (fun q => s0.heap.size ≤ q) s.heap H1 locs1 → W p l e R s m args below meth c H1 locs1 (cells + mc) (slots + ms) Q (F0 m (pc + 3) ls (v.toList ++ rest))) : W p l e R s m args below meth c H locs cells slots Q (F0 m pc ls st0) := by
  intro T hT X
  rcases hr T hT X with ⟨v, st₀, t, T', L, h0, X', hL, e1, e2, ⟨⟨v', h', hv, hp, hm⟩, hF⟩, st⟩ | ⟨q, st₀, t, T', L, E, ce, h0, X', hL, e1, e2, ⟨⟨h', hp, hm⟩, hF⟩, hce, hcv, hcl, st⟩
  · cases hv
    obtain ⟨k1, k2, k3⟩ := vx_keep h0 e1 hS (fun q _ z => z) (fun q z => z) hL hF
    obtain ⟨t2, a1, b1⟩ := kk v h' T'.heap (locs ++ L) hp (by rw [e1]; exact hm) k3 T' rfl X'
    exact ⟨t2, st t2 a1, b1⟩
  · obtain ⟨k1, k2, k3⟩ := vx_keep h0 e1 hS (fun q _ z => z) (fun q z => z) hL hF
    obtain ⟨t2, a1, b1⟩ := kx E ce q h' T'.heap (locs ++ L) hp (by rw [e1]; exact hm) k3 (by rw [e1]; exact hce) hcv hcl T' rfl X'
    exact ⟨t2, st.trans a1, b1⟩
theorem mC.fix (Z : mZ l G a0 s0) (C : mC s0 p s m meth c cc nL own ret nm) : CallFix p m c cc nL s args [] own := ⟨C.1, C.2.1, C.2.2.1, C.2.2.2.1, fun _ h => nomatch h⟩
theorem m_pre (E : mE s0 s) (hS : va_S (fun q => s0.heap.size ≤ q) s.heap H locs) (hM : MW G s0.heap.size h H) (As : List Value) : ∀ U : State, U.heap = H → s.WarmedH U.vm → mPc G s0 h As As.toArray U := fun U hU hW => ⟨rfl, E.at hS hU hW, by rw [hU]; exact hM⟩
theorem m_one {y : MethodName} {bytes : ByteArray} {maxL : Nat} {rt : Option FieldType} (w : mIn (.code y bytes maxL rt)) : ∀ x ∈ [Cond.code y bytes maxL rt], mIn x := fun x hx => by
  rw [List.mem_singleton.mp hx]
  exact w
-- calls of what returns
theorem m_callV (Z : mZ l G a0 s0) (C : mC s0 p s m meth c cc nL own ret nm) (hM : MW G s0.heap.size h H) (hS : va_S (fun q => s0.heap.size ≤ q) s.heap H locs) {y : MethodName} {bytes : ByteArray} {maxL fr lo mc ms n ci : Nat} {rt : Option FieldType} {As : List Value} {P : Option Value → Hp → Prop} {fs : List Value} {r : vw_C} (hc : mM l G s0 y bytes maxL rt fr lo mc ms h (.ref b :: As) P) (Y : mYv y r.1 bytes maxL rt n) {index : Nat} (wl : mIn (.methodLink own index y)) (hb : hat h b (eO ci fs)) (hci : mCl[ci]? = some r) (hR : fr + 1 ≤ R.frames ∧ 8 + (maxL + 11) + lo ≤ R.locals) (hrest : (rest.map fun v => v.category).sum ≤ 8) (hlz : ls.size = nL) (hn : As.length = n) (hst : st0 = As.reverse ++ .ref b :: rest) (hdg : decode cc pc = .ok (.invokevirtual index, 3)) (hf : cells + mc ≤ R.cells ∧ slots + ms ≤ R.slots)
    (kk : ∀ (v : Option Value) (h' : Hp) (H1 : Heap) (locs1 : List Loc), P v h' → MW G s0.heap.size h' H1 → va_S (fun q => s0.heap.size ≤ q) s.heap H1 locs1 → W p l e R s m args below meth c H1 locs1 (cells + mc) (slots + ms) Q (F0 m (pc + 3) ls (v.toList ++ rest))) : W p l e R s m args below meth c H locs cells slots Q (F0 m pc ls st0) := by
  have hE := C.2.2.2.2.2.2.1
  refine m_go hS (va_runV (mC.fix Z C) hc ⟨⟨rfl, rfl, hR.1, hR.2, hE.words Z (m_one Y.2.2.2.1), List.mem_singleton.mpr rfl, hE.good Z Y.2.2.2.1 args, hE.good Z Y.2.2.1 args, ⟨Y.2.2.2.2.1, Y.2.2.2.2.2.1⟩, mlen Y.2.2.2.2.2.2, hE.good Z wl args⟩, hE.good Z Y.1 args, hE.good Z Y.2.1 args⟩ ⟨mPc_blind, hM.recv (hE.K Z) hb hci, m_pre hE hS hM (.ref b :: As)⟩ rfl hn hlz hst (lv_room hrest) hdg hf) kk
theorem m_callS (Z : mZ l G a0 s0) (C : mC s0 p s m meth c cc nL own ret nm) (hM : MW G s0.heap.size h H) (hS : va_S (fun q => s0.heap.size ≤ q) s.heap H locs) {y : MethodName} {bytes : ByteArray} {maxL fr lo mc ms n : Nat} {rt : Option FieldType} {As : List Value} {P : Option Value → Hp → Prop} (hc : mM l G s0 y bytes maxL rt fr lo mc ms h As P) (Y : mYs y bytes maxL rt n) {index : Nat} (wl : mIn (.methodLink own index y)) (hR : fr + 1 ≤ R.frames ∧ 8 + (maxL + 11) + lo ≤ R.locals) (hrest : (rest.map fun v => v.category).sum ≤ 8) (hlz : ls.size = nL) (hn : As.length = n) (hst : st0 = As.reverse ++ rest) (hdg : decode cc pc = .ok (.invokestatic index, 3)) (hf : cells + mc ≤ R.cells ∧ slots + ms ≤ R.slots)
    (kk : ∀ (v : Option Value) (h' : Hp) (H1 : Heap) (locs1 : List Loc), P v h' → MW G s0.heap.size h' H1 → va_S (fun q => s0.heap.size ≤ q) s.heap H1 locs1 → W p l e R s m args below meth c H1 locs1 (cells + mc) (slots + ms) Q (F0 m (pc + 3) ls (v.toList ++ rest))) : W p l e R s m args below meth c H locs cells slots Q (F0 m pc ls st0) := by
  have hE := C.2.2.2.2.2.2.1
  exact m_go hS (va_runS (mC.fix Z C) hc ⟨⟨rfl, rfl, hR.1, hR.2, hE.words Z (m_one Y.2.2.1), List.mem_singleton.mpr rfl, hE.good Z Y.2.2.1 args, hE.good Z Y.2.1 args, ⟨Y.2.2.2.1, Y.2.2.2.2.1⟩, mlen Y.2.2.2.2.2, hE.good Z wl args⟩, hE.good Z Y.1 args⟩ ⟨mPc_blind, m_pre hE hS hM As⟩ rfl hn hlz hst (lv_room hrest) hdg hf) kk
theorem m_callI (Z : mZ l G a0 s0) (C : mC s0 p s m meth c cc nL own ret nm) (hM : MW G s0.heap.size h H) (hS : va_S (fun q => s0.heap.size ≤ q) s.heap H locs) {y : MethodName} {bytes : ByteArray} {maxL fr lo mc ms n : Nat} {As : List Value} {P : Option Value → Hp → Prop} (hc : mM l G s0 y bytes maxL none fr lo mc ms h (.ref b :: As) P) (Y : mYi y bytes maxL n) {index : Nat} (wl : mIn (.methodLink own index y)) (hR : fr + 1 ≤ R.frames ∧ 8 + (maxL + 11) + lo ≤ R.locals) (hrest : (rest.map fun v => v.category).sum ≤ 8) (hlz : ls.size = nL) (hn : As.length = n) (hst : st0 = As.reverse ++ .ref b :: rest) (hdg : decode cc pc = .ok (.invokespecial index, 3)) (hf : cells + mc ≤ R.cells ∧ slots + ms ≤ R.slots)
    (kk : ∀ (v : Option Value) (h' : Hp) (H1 : Heap) (locs1 : List Loc), P v h' → MW G s0.heap.size h' H1 → va_S (fun q => s0.heap.size ≤ q) s.heap H1 locs1 → W p l e R s m args below meth c H1 locs1 (cells + mc) (slots + ms) Q (F0 m (pc + 3) ls (v.toList ++ rest))) : W p l e R s m args below meth c H locs cells slots Q (F0 m pc ls st0) := by
  have hE := C.2.2.2.2.2.2.1
  exact m_go hS (va_runI (mC.fix Z C) hc ⟨⟨rfl, rfl, hR.1, hR.2, hE.words Z (m_one Y.2.2.2.1), List.mem_singleton.mpr rfl, hE.good Z Y.2.2.2.1 args, hE.good Z Y.2.2.1 args, ⟨Y.2.2.2.2.1, Y.2.2.2.2.2.1⟩, mlen Y.2.2.2.2.2.2, hE.good Z wl args⟩, Y.2.1, hE.good Z Y.1 args⟩ ⟨mPc_blind, m_pre hE hS hM (.ref b :: As)⟩ rfl hn hlz hst (lv_room hrest) hdg hf) kk
theorem m_callVN (Z : mZ l G a0 s0) (C : mC s0 p s m meth c cc nL own ret nm) (hM : MW G s0.heap.size h H) (hS : va_S (fun q => s0.heap.size ≤ q) s.heap H locs) {y : MethodName} {bytes : ByteArray} {maxL fr lo mc ms n ci : Nat} {rt : Option FieldType} {As : List Value} {P : Option Value → Hp → Prop} {fs : List Value} {r : vw_C} {host : String} (hc : mM l G s0 y bytes maxL rt fr lo mc ms h (.ref b :: As) P) (Y : mYv y r.1 bytes maxL rt n) {index : Nat} (wl : mIn' (.methodLinkNest own index y host)) (hb : hat h b (eO ci fs)) (hci : mCl[ci]? = some r) (hR : fr + 1 ≤ R.frames ∧ 8 + (maxL + 11) + lo ≤ R.locals) (hrest : (rest.map fun v => v.category).sum ≤ 8) (hlz : ls.size = nL) (hn : As.length = n) (hst : st0 = As.reverse ++ .ref b :: rest) (hdg : decode cc pc = .ok (.invokevirtual index, 3)) (hf : cells + mc ≤ R.cells ∧ slots + ms ≤ R.slots)
    (kk : ∀ (v : Option Value) (h' : Hp) (H1 : Heap) (locs1 : List Loc), P v h' → MW G s0.heap.size h' H1 → va_S (fun q => s0.heap.size ≤ q) s.heap H1 locs1 → W p l e R s m args below meth c H1 locs1 (cells + mc) (slots + ms) Q (F0 m (pc + 3) ls (v.toList ++ rest))) : W p l e R s m args below meth c H locs cells slots Q (F0 m pc ls st0) := by
  have hE := C.2.2.2.2.2.2.1
  exact m_go hS (va_runVN (mC.fix Z C) hc ⟨⟨⟨rfl, rfl, hR.1, hR.2, hE.words Z (m_one Y.2.2.2.1), List.mem_singleton.mpr rfl⟩, hE.good Z Y.2.2.2.1 args, hE.good Z Y.2.2.1 args, ⟨Y.2.2.2.2.1, Y.2.2.2.2.2.1⟩, mlen Y.2.2.2.2.2.2, va_Nw.use rfl (hE.nM Z wl)⟩, hE.good Z Y.1 args, hE.good Z Y.2.1 args⟩ ⟨mPc_blind, hM.recv (hE.K Z) hb hci, m_pre hE hS hM (.ref b :: As)⟩ rfl hn hlz hst (lv_room hrest) hdg hf) kk
theorem m_callIN (Z : mZ l G a0 s0) (C : mC s0 p s m meth c cc nL own ret nm) (hM : MW G s0.heap.size h H) (hS : va_S (fun q => s0.heap.size ≤ q) s.heap H locs) {y : MethodName} {bytes : ByteArray} {maxL fr lo mc ms n : Nat} {As : List Value} {P : Option Value → Hp → Prop} {host : String} (hc : mM l G s0 y bytes maxL none fr lo mc ms h (.ref b :: As) P) (Y : mYi y bytes maxL n) {index : Nat} (wl : mIn' (.methodLinkNest own index y host)) (hR : fr + 1 ≤ R.frames ∧ 8 + (maxL + 11) + lo ≤ R.locals) (hrest : (rest.map fun v => v.category).sum ≤ 8) (hlz : ls.size = nL) (hn : As.length = n) (hst : st0 = As.reverse ++ .ref b :: rest) (hdg : decode cc pc = .ok (.invokespecial index, 3)) (hf : cells + mc ≤ R.cells ∧ slots + ms ≤ R.slots)
    (kk : ∀ (v : Option Value) (h' : Hp) (H1 : Heap) (locs1 : List Loc), P v h' → MW G s0.heap.size h' H1 → va_S (fun q => s0.heap.size ≤ q) s.heap H1 locs1 → W p l e R s m args below meth c H1 locs1 (cells + mc) (slots + ms) Q (F0 m (pc + 3) ls (v.toList ++ rest))) : W p l e R s m args below meth c H locs cells slots Q (F0 m pc ls st0) := by
  have hE := C.2.2.2.2.2.2.1
  exact m_go hS (va_runIN (mC.fix Z C) hc ⟨⟨⟨rfl, rfl, hR.1, hR.2, hE.words Z (m_one Y.2.2.2.1), List.mem_singleton.mpr rfl⟩, hE.good Z Y.2.2.2.1 args, hE.good Z Y.2.2.1 args, ⟨Y.2.2.2.2.1, Y.2.2.2.2.2.1⟩, mlen Y.2.2.2.2.2.2, va_Nw.use rfl (hE.nM Z wl)⟩, Y.2.1, hE.good Z Y.1 args⟩ ⟨mPc_blind, m_pre hE hS hM (.ref b :: As)⟩ rfl hn hlz hst (lv_room hrest) hdg hf) kk
-- calls of what may throw
theorem m_xcallV (Z : mZ l G a0 s0) (C : mC s0 p s m meth c cc nL own ret nm) (hM : MW G s0.heap.size h H) (hS : va_S (fun q => s0.heap.size ≤ q) s.heap H locs) {y : MethodName} {bytes : ByteArray} {maxL fr lo mc ms n ci : Nat} {rt : Option FieldType} {As : List Value} {P : Option Value → Hp → Prop} {Xp : String → Hp → Prop} {fs : List Value} {r : vw_C} (hc : mT l G s0 y bytes maxL rt fr lo mc ms h (.ref b :: As) P Xp) (Y : mYv y r.1 bytes maxL rt n) {index : Nat} (wl : mIn (.methodLink own index y)) (hb : hat h b (eO ci fs)) (hci : mCl[ci]? = some r) (hR : fr + 1 ≤ R.frames ∧ 8 + (maxL + 11) + lo ≤ R.locals) (hrest : (rest.map fun v => v.category).sum ≤ 8) (hlz : ls.size = nL) (hn : As.length = n) (hst : st0 = As.reverse ++ .ref b :: rest) (hdg : decode cc pc = .ok (.invokevirtual index, 3)) (hf : cells + mc ≤ R.cells ∧ slots + ms ≤ R.slots)
    (kx : ∀ (E : String) (ce : Cell) (q9 : Addr) (h' : Hp) (H1 : Heap) (locs1 : List Loc), Xp E h' → MW G s0.heap.size h' H1 → va_S (fun q => s0.heap.size ≤ q) s.heap H1 locs1 → H1[q9]? = some ce → ce.vm = .none → s.vm.findClass E = some ce.cls → vx_W p l e R s m args below meth c H1 locs1 (cells + mc) (slots + ms) Q (F0 m pc ls rest) q9)
    (kk : ∀ (v : Option Value) (h' : Hp) (H1 : Heap) (locs1 : List Loc), P v h' → MW G s0.heap.size h' H1 → va_S (fun q => s0.heap.size ≤ q) s.heap H1 locs1 → W p l e R s m args below meth c H1 locs1 (cells + mc) (slots + ms) Q (F0 m (pc + 3) ls (v.toList ++ rest))) : W p l e R s m args below meth c H locs cells slots Q (F0 m pc ls st0) := by
  have hE := C.2.2.2.2.2.2.1
  exact m_xgo hS (vx_runV (mC.fix Z C) hc ⟨⟨rfl, rfl, hR.1, hR.2, hE.words Z (m_one Y.2.2.2.1), List.mem_singleton.mpr rfl, hE.good Z Y.2.2.2.1 args, hE.good Z Y.2.2.1 args, ⟨Y.2.2.2.2.1, Y.2.2.2.2.2.1⟩, mlen Y.2.2.2.2.2.2, hE.good Z wl args⟩, hE.good Z Y.1 args, hE.good Z Y.2.1 args⟩ ⟨mPc_blind, hM.recv (hE.K Z) hb hci, m_pre hE hS hM (.ref b :: As)⟩ rfl hn hlz hst (lv_room hrest) hdg hf) kx kk
theorem m_xcallS (Z : mZ l G a0 s0) (C : mC s0 p s m meth c cc nL own ret nm) (hM : MW G s0.heap.size h H) (hS : va_S (fun q => s0.heap.size ≤ q) s.heap H locs) {y : MethodName} {bytes : ByteArray} {maxL fr lo mc ms n : Nat} {rt : Option FieldType} {As : List Value} {P : Option Value → Hp → Prop} {Xp : String → Hp → Prop} (hc : mT l G s0 y bytes maxL rt fr lo mc ms h As P Xp) (Y : mYs y bytes maxL rt n) {index : Nat} (wl : mIn (.methodLink own index y)) (hR : fr + 1 ≤ R.frames ∧ 8 + (maxL + 11) + lo ≤ R.locals) (hrest : (rest.map fun v => v.category).sum ≤ 8) (hlz : ls.size = nL) (hn : As.length = n) (hst : st0 = As.reverse ++ rest) (hdg : decode cc pc = .ok (.invokestatic index, 3)) (hf : cells + mc ≤ R.cells ∧ slots + ms ≤ R.slots)
    (kx : ∀ (E : String) (ce : Cell) (q9 : Addr) (h' : Hp) (H1 : Heap) (locs1 : List Loc), Xp E h' → MW G s0.heap.size h' H1 → va_S (fun q => s0.heap.size ≤ q) s.heap H1 locs1 → H1[q9]? = some ce → ce.vm = .none → s.vm.findClass E = some ce.cls → vx_W p l e R s m args below meth c H1 locs1 (cells + mc) (slots + ms) Q (F0 m pc ls rest) q9)
    (kk : ∀ (v : Option Value) (h' : Hp) (H1 : Heap) (locs1 : List Loc), P v h' → MW G s0.heap.size h' H1 → va_S (fun q => s0.heap.size ≤ q) s.heap H1 locs1 → W p l e R s m args below meth c H1 locs1 (cells + mc) (slots + ms) Q (F0 m (pc + 3) ls (v.toList ++ rest))) : W p l e R s m args below meth c H locs cells slots Q (F0 m pc ls st0) := by
  have hE := C.2.2.2.2.2.2.1
  exact m_xgo hS (vx_runS (mC.fix Z C) hc ⟨⟨rfl, rfl, hR.1, hR.2, hE.words Z (m_one Y.2.2.1), List.mem_singleton.mpr rfl, hE.good Z Y.2.2.1 args, hE.good Z Y.2.1 args, ⟨Y.2.2.2.1, Y.2.2.2.2.1⟩, mlen Y.2.2.2.2.2, hE.good Z wl args⟩, hE.good Z Y.1 args⟩ ⟨mPc_blind, m_pre hE hS hM As⟩ rfl hn hlz hst (lv_room hrest) hdg hf) kx kk
end
end
section
section
variable {p : Program} {l : Launch} {e : Env} {R : Room} {s : State} {m : MethodId} {args : Array Value} {below : List Frame} {meth : Method} {c : Code} {H : Heap} {locs : List Loc} {cells slots : Nat} {Q : State → Prop}
variable {cc : ByteArray} {pc nL : Nat} {ls : Array Slot} {rest st0 : List Value} {G : mG} {s0 : State} {a0 : Array Value} {own nm : String} {ret : Option FieldType} {h : Hp} {a b : Nat}
/-- a body's entry -/
theorem mM_of {y : MethodName} {maxL fr lo mc ms : Nat} {As : List Value} {P : Option Value → Hp → Prop} (own nm : String) (hcls : y.cls = own) (hname : y.name = nm) (hy : plainName y.cls = true) (hlen : (lg_sl As).length ≤ maxL)
    (body : ∀ p e s m below meth c, mC s0 p s m meth c cc maxL own ret nm → MW G s0.heap.size h s.heap → ∀ ls : Array Slot, lv_has ls maxL (lv_args 0 As) → W p l e (mRm fr lo mc ms) s m As.toArray below meth c s.heap [] 0 0 (MQ below (mQc G s0 P) As.toArray s mc ms (fun q => s0.heap.size ≤ q)) (F0 m 0 ls [])) : mM l G s0 y cc maxL ret fr lo mc ms h As P := by
  refine Met.ofW (cc := cc) (maxL := maxL) (ret := ret) hy rfl ?_
  intro p e s m args below meth c s₁ B hml hv
  obtain ⟨rfl, hE, hM⟩ := hv
  have C : mC s0 p s m meth c cc maxL own ret nm := ⟨B.exec, B.bytes, hml, hcls ▸ findClass_of_methodNamed B.named, B.notSynchronized, B.returns, hE, hname ▸ (name_of_methodNamed B.named B.method).1⟩
  rw [lg_entry_eq]
  exact body p e s m below meth c C hM _ (lv_entry As hlen)
theorem mT_of {y : MethodName} {maxL fr lo mc ms : Nat} {As : List Value} {P : Option Value → Hp → Prop} {X : String → Hp → Prop} (own nm : String) (hcls : y.cls = own) (hname : y.name = nm) (hy : plainName y.cls = true) (hlen : (lg_sl As).length ≤ maxL)
    (body : ∀ p e s m below meth c, mC s0 p s m meth c cc maxL own ret nm → (∀ x ∈ c.exceptionTable.toList, False) → MW G s0.heap.size h s.heap → ∀ ls : Array Slot, lv_has ls maxL (lv_args 0 As) → W p l e (mRm fr lo mc ms) s m As.toArray below meth c s.heap [] 0 0 (vx_MQ below (mQc G s0 P) (mXc G s0 X) As.toArray s mc ms (fun q => s0.heap.size ≤ q)) (F0 m 0 ls [])) : mT l G s0 y cc maxL ret fr lo mc ms h As P X := by
  refine vx_ofW (cc := cc) (maxL := maxL) (ret := ret) hy rfl ?_
  intro p e s m args below meth c s₁ B hml ht hv
  obtain ⟨rfl, hE, hM⟩ := hv
  have C : mC s0 p s m meth c cc maxL own ret nm := ⟨B.exec, B.bytes, hml, hcls ▸ findClass_of_methodNamed B.named, B.notSynchronized, B.returns, hE, hname ▸ (name_of_methodNamed B.named B.method).1⟩
  rw [lg_entry_eq]
  exact body p e s m below meth c C ht hM _ (lv_entry As hlen)
-- the ends of what returns
theorem m_q {P : Option Value → Hp → Prop} {v : Option Value} {as : Array Value} (hM : MW G s0.heap.size h H) (hS : va_S (fun q => s0.heap.size ≤ q) s.heap H locs) (hp : P v h) : ∀ t : State, t.heap = H → s.WarmedH t.vm → mQc G s0 P as s (.returned v) t := fun t ht _ => ⟨⟨v, h, rfl, hp, by rw [ht]; exact hM⟩, hS.F ht⟩
theorem m_iret {P : Option Value → Hp → Prop} {mc ms : Nat} {v : Int32} (C : mC s0 p s m meth c cc nL own (some .int) nm) (hM : MW G s0.heap.size h H) (hS : va_S (fun q => s0.heap.size ≤ q) s.heap H locs) (hc : cells ≤ mc) (hs : slots ≤ ms) (hdg : decode cc pc = .ok (.ireturn, 1)) (hp : P (some (.int v)) h) : W p l e R s m args below meth c H locs cells slots (MQ below (mQc G s0 P) args s mc ms (fun q => s0.heap.size ≤ q)) (F0 m pc ls [.int v]) := by
  obtain ⟨hx, hb, hml, hown, hlk, hr, hE, -⟩ := C
  exact W.widen hc hs (W.iret hx hb hr (m_q hM hS hp) hS.2.2 hdg hlk)
theorem m_zret {P : Option Value → Hp → Prop} {mc ms : Nat} {v : Int32} {ty : FieldType} (C : mC s0 p s m meth c cc nL own (some ty) nm) (hM : MW G s0.heap.size h H) (hS : va_S (fun q => s0.heap.size ≤ q) s.heap H locs) (hc : cells ≤ mc) (hs : slots ≤ ms) (hn : narrow ty (.int v) = .int v) (hdg : decode cc pc = .ok (.ireturn, 1)) (hp : P (some (.int v)) h) : W p l e R s m args below meth c H locs cells slots (MQ below (mQc G s0 P) args s mc ms (fun q => s0.heap.size ≤ q)) (F0 m pc ls [.int v]) := by
  obtain ⟨hx, hb, hml, hown, hlk, hr, hE, -⟩ := C
  exact W.widen hc hs (W.zret hx hb hr hn (m_q hM hS hp) hS.2.2 hdg hlk)
theorem m_lret {P : Option Value → Hp → Prop} {mc ms : Nat} {v : Int64} (C : mC s0 p s m meth c cc nL own (some .long) nm) (hM : MW G s0.heap.size h H) (hS : va_S (fun q => s0.heap.size ≤ q) s.heap H locs) (hc : cells ≤ mc) (hs : slots ≤ ms) (hdg : decode cc pc = .ok (.lreturn, 1)) (hp : P (some (.long v)) h) : W p l e R s m args below meth c H locs cells slots (MQ below (mQc G s0 P) args s mc ms (fun q => s0.heap.size ≤ q)) (F0 m pc ls [.long v]) := by
  obtain ⟨hx, hb, hml, hown, hlk, hr, hE, -⟩ := C
  exact W.widen hc hs (W.lret hx hb hr (m_q hM hS hp) hS.2.2 hdg hlk)
theorem m_dret {P : Option Value → Hp → Prop} {mc ms : Nat} {v : UInt64} (C : mC s0 p s m meth c cc nL own (some .double) nm) (hM : MW G s0.heap.size h H) (hS : va_S (fun q => s0.heap.size ≤ q) s.heap H locs) (hc : cells ≤ mc) (hs : slots ≤ ms) (hdg : decode cc pc = .ok (.dreturn, 1)) (hp : P (some (.double v)) h) : W p l e R s m args below meth c H locs cells slots (MQ below (mQc G s0 P) args s mc ms (fun q => s0.heap.size ≤ q)) (F0 m pc ls [.double v]) := by
  obtain ⟨hx, hb, hml, hown, hlk, hr, hE, -⟩ := C
  exact W.widen hc hs (W.dret hx hb hr (m_q hM hS hp) hS.2.2 hdg hlk)
theorem m_fret {P : Option Value → Hp → Prop} {mc ms : Nat} {v : UInt32} (C : mC s0 p s m meth c cc nL own (some .float) nm) (hM : MW G s0.heap.size h H) (hS : va_S (fun q => s0.heap.size ≤ q) s.heap H locs) (hc : cells ≤ mc) (hs : slots ≤ ms) (hdg : decode cc pc = .ok (.freturn, 1)) (hp : P (some (.float v)) h) : W p l e R s m args below meth c H locs cells slots (MQ below (mQc G s0 P) args s mc ms (fun q => s0.heap.size ≤ q)) (F0 m pc ls [.float v]) := by
  obtain ⟨hx, hb, hml, hown, hlk, hr, hE, -⟩ := C
  exact W.widen hc hs (W.fret hx hb hr (m_q hM hS hp) hS.2.2 hdg hlk)
theorem m_vret {P : Option Value → Hp → Prop} {mc ms : Nat} (C : mC s0 p s m meth c cc nL own none nm) (hM : MW G s0.heap.size h H) (hS : va_S (fun q => s0.heap.size ≤ q) s.heap H locs) (hc : cells ≤ mc) (hs : slots ≤ ms) (hdg : decode cc pc = .ok (.return_, 1)) (hp : P none h) : W p l e R s m args below meth c H locs cells slots (MQ below (mQc G s0 P) args s mc ms (fun q => s0.heap.size ≤ q)) (F0 m pc ls []) := by
  obtain ⟨hx, hb, hml, hown, hlk, hr, hE, -⟩ := C
  exact W.widen hc hs (W.vret hx hb hr (m_q hM hS hp) hS.2.2 hdg hlk)
-- an exception that leaves
theorem m_out {P : Option Value → Hp → Prop} {X : String → Hp → Prop} {mc ms : Nat} {E : String} {ce : Cell} {q : Addr} (C : mC s0 p s m meth c cc nL own ret nm) (ht : ∀ x ∈ c.exceptionTable.toList, False) (hM : MW G s0.heap.size h H) (hS : va_S (fun q => s0.heap.size ≤ q) s.heap H locs) (hc : cells ≤ mc) (hs : slots ≤ ms) (hcell : H[q]? = some ce) (hv : ce.vm = .none) (hcl : s.vm.findClass E = some ce.cls) (hx : X E h) :
    vx_W p l e R s m args below meth c H locs cells slots (vx_MQ below (mQc G s0 P) (mXc G s0 X) args s mc ms (fun q => s0.heap.size ≤ q)) (F0 m pc ls rest) q :=
  vx_out (fun x h => (ht x h).elim) C.2.2.2.2.1 hcell hv hcl (fun t ht _ => ⟨⟨h, hx, by rw [ht]; exact hM⟩, hS.F ht⟩) hS.2.2 hc hs
/-- throw new E("text") -/
def mXy (own : String) (ik is ic : Nat) (cls text : String) (names : List String) : Prop := Bundle.fit cls = true ∧ (∀ n ∈ names, Bundle.fit n = true) ∧ (∀ w ∈ Cond.classLink own ik cls :: Cond.initialized cls :: vx_atS own ic cls names, w ∈ lw_tbl ∧ mk2 w = true ∧ vx_ot w = true) ∧ mIn' (.stringRef own is text)
theorem m_throw (Z : mZ l G a0 s0) {P : Option Value → Hp → Prop} {X : String → Hp → Prop} {mc ms : Nat} {cls text : String} {names : List String} {ik is ic : Nat} (C : mC s0 p s m meth c cc nL own ret nm) (ht : ∀ x ∈ c.exceptionTable.toList, False) (hM : MW G s0.heap.size h H) (hS : va_S (fun q => s0.heap.size ≤ q) s.heap H locs) (Y : mXy own ik is ic cls text names) (hlz : ls.size = nL)
    (d0 : decode cc pc = .ok (.new ik, 3)) (d3 : decode cc (pc + 3) = .ok (.dup, 1)) (d4 : decode cc (pc + 4) = .ok (.ldc is, 2)) (d6 : decode cc (pc + 6) = .ok (.invokespecial ic, 3)) (d9 : decode cc (pc + 9) = .ok (.athrow, 1))
    (hR : names.length + 3 < R.frames ∧ (rest.map fun v => v.category).sum + (13 * (names.length + 1) + 43) ≤ R.locals ∧ cells + 1 ≤ R.cells ∧ slots + 6 ≤ R.slots) (hc : cells + 1 ≤ mc) (hs : slots + 6 ≤ ms) (hx : X cls h) :
    W p l e R s m args below meth c H locs cells slots (vx_MQ below (mQc G s0 P) (mXc G s0 X) args s mc ms (fun q => s0.heap.size ≤ q)) (F0 m pc ls rest) := by
  obtain ⟨hx0, hb, hml, hown, hlk, hr, hE, hn⟩ := C
  obtain ⟨sa, hsa⟩ := hE.str Z Y.2.2.2
  refine vx_throwS hx0 hb Z.2.2.1 hown Y.1 Y.2.1 (hE.two Z (Y.2.2.1 _ List.mem_cons_self).1 (Y.2.2.1 _ List.mem_cons_self).2.1 args) (hE.two Z (Y.2.2.1 _ (List.mem_cons_of_mem _ List.mem_cons_self)).1 (Y.2.2.1 _ (List.mem_cons_of_mem _ List.mem_cons_self)).2.1 args) hsa
    (fun w hw => hE.two Z (Y.2.2.1 _ (List.mem_cons_of_mem _ (List.mem_cons_of_mem _ hw))).1 (Y.2.2.1 _ (List.mem_cons_of_mem _ (List.mem_cons_of_mem _ hw))).2.1 args) (fun w hw => (Y.2.2.1 w hw).2.2) (hE.thr Z).1 (hE.thr Z).2 hS (hlz.trans hml.symm) d0 d3 d4 d6 d9 (fun x h => (ht x h).elim) hR.1 hR.2.1 hR.2.2.1 hR.2.2.2 hlk (fun t hvm hz hq => ?_) hS.2.2 hc hs
  refine ⟨⟨h, hx, ?_⟩, Nat.le_trans hS.1 hz, fun q h1 h2 => (hq q (Nat.lt_of_lt_of_le h1 hS.1)).trans (hS.2.1 q h1 h2)⟩
  exact ⟨hM.1.kept (fun k q hk => hq q.1 ((hM.1 k q hk).lt)), hM.2⟩
-- what is made
theorem m_new (Z : mZ l G a0 s0) (C : mC s0 p s m meth c cc nL own ret nm) (hM : MW G s0.heap.size h H) (hS : va_S (fun q => s0.heap.size ≤ q) s.heap H locs) {ci : Nat} {Cn : String} {T : u_T} {N : Nat} {ty : Nat → FieldType} (K : mKi ci Cn T N ty) {index : Nat} (wl : mIn (.classLink own index Cn)) (wi : mIn (.instantiable Cn N)) (wn : mIn (.initialized Cn)) {fs : List Value} (hfs : ∀ j, j < N → defaultValue (ty j) = vp_V fs j) (hcells : cells + 1 ≤ R.cells) (hslots : slots + N ≤ R.slots) (hdg : decode cc pc = .ok (.new index, 3))
    (kk : ∀ (q : Nat) (H1 : Heap), q ∉ h.1 → MW G s0.heap.size (hnew h q (eO ci fs)) H1 → va_S (fun q => s0.heap.size ≤ q) s.heap H1 locs → W p l e R s m args below meth c H1 locs (cells + 1) (slots + N) Q (F0 m (pc + 3) ls (.ref q :: rest))) : W p l e R s m args below meth c H locs cells slots Q (F0 m pc ls rest) := by
  obtain ⟨hx, hb, hml, hown, hlk, hr, hE, hn⟩ := C
  have hKn := (hE.K Z).1 ci _ K.1
  refine W.newcK hx hb hown (hE.good Z wl args) (hE.good Z wi args) (hE.good Z wn args) rfl hdg hcells hslots hKn.2.1 rfl fun H1 kC hkC e1 z1 o1 => ?_
  have hk : ∀ (k : Nat) (x : Nat × va_E), (va_pl h.1 h.2)[k]? = some x → H1[x.1]? = H[x.1]? := fun k x hx => o1 x.1 ((hM.1 k x hx).lt)
  have hnin : H.size ∉ h.1 := hM.fresh (Nat.le_refl _)
  have hP2 : va_P G.1 mCl (va_pl h.1 h.2 ++ [(H.size, eO ci fs)]) H1 := (hM.1.kept hk).app (fun k x hx => by
    have hz : k < 1 := (List.getElem?_eq_some_iff.mp hx).1
    rw [show k = 0 by omega] at hx
    cases hx
    exact ⟨_, K.1, (u_born ty (K.2.1.lays hE Z args) (fun _ z => z) hKn hkC e1 K.2.2.1).to hfs⟩)
  have hD2 : va_D (fun q => s0.heap.size ≤ q) (va_pl h.1 h.2 ++ [(H.size, eO ci fs)]) := hM.2.push hM.1 rfl (Nat.le_trans hE.2.1 hS.1)
  rw [va_pl_push0 hnin] at hP2
  rw [va_pl_push0 hnin] at hD2
  exact kk H.size H1 hnin ⟨hP2, hD2⟩ ⟨Nat.le_trans hS.1 (by omega), fun x h1 h2 => (o1 x (Nat.lt_of_lt_of_le h1 hS.1)).trans (hS.2.1 x h1 h2), hS.2.2⟩
theorem m_newa (Z : mZ l G a0 s0) (C : mC s0 p s m meth c cc nL own ret nm) (hM : MW G s0.heap.size h H) (hS : va_S (fun q => s0.heap.size ≤ q) s.heap H locs) {atype : ArrayType} {ty : FieldType} (hty : newarray.typeOf atype = ty) (warr : mIn (.arrayClass ty)) (t0 : Nat) (ht : (mTy G.2)[t0]? = some (G.2 t0, ty)) (hobj : va_RA s (G.2 t0) ty = (s.vm.findClass ("[" ++ ty.toString) = some (G.2 t0))) {n : Int32} (N' : Nat) {av : vp_A} (ha : ∀ cA : ClassId, vp_cell cA av = arrV cA N' (fun _ => defaultValue ty)) (hn : ¬ n < 0) (hN : n.toNatClampNeg = N') (hbytes : N' * componentBytes ty ≤ 536870912) (hcells : cells + 1 ≤ R.cells) (hslots : slots + N' ≤ R.slots) (hdg : decode cc pc = .ok (.newarray atype, 2))
    (kk : ∀ (q : Nat) (H1 : Heap), q ∉ h.1 → MW G s0.heap.size (hnew h q (.inl (G.2 t0, av))) H1 → va_S (fun q => s0.heap.size ≤ q) s.heap H1 locs → W p l e R s m args below meth c H1 locs (cells + 1) (slots + N') Q (F0 m (pc + 2) ls (.ref q :: rest))) : W p l e R s m args below meth c H locs cells slots Q (F0 m pc ls (.int n :: rest)) := by
  obtain ⟨hx, hb, hml, hown, hlk, hr, hE, hn0⟩ := C
  subst hty
  refine va_newaK hx hb (hE.good Z warr args) rfl hdg rfl hn hN hbytes hcells hslots rfl fun H1 cA e1 z1 o1 hAr hNm => ?_
  have hra := ((hE.K Z).2 t0 _ ht).2
  have hcc : cA = G.2 t0 := by
    have h3 : va_RA s (G.2 t0) (newarray.typeOf atype) := hra
    rw [hobj] at h3
    exact Option.some.inj (hNm.symm.trans h3)
  subst hcc
  have hk : ∀ (k : Nat) (x : Nat × va_E), (va_pl h.1 h.2)[k]? = some x → H1[x.1]? = H[x.1]? := fun k x hx => o1 x.1 ((hM.1 k x hx).lt)
  have hnin : H.size ∉ h.1 := hM.fresh (Nat.le_refl _)
  have hP2 : va_P G.1 mCl (va_pl h.1 h.2 ++ [(H.size, .inl (G.2 t0, av))]) H1 := (hM.1.kept hk).app (fun k x hx => by
    have hz : k < 1 := (List.getElem?_eq_some_iff.mp hx).1
    rw [show k = 0 by omega] at hx
    cases hx
    show H1[H.size]? = some (vp_cell _ _)
    rw [ha]
    exact e1)
  have hD2 : va_D (fun q => s0.heap.size ≤ q) (va_pl h.1 h.2 ++ [(H.size, .inl (G.2 t0, av))]) := hM.2.push hM.1 rfl (Nat.le_trans hE.2.1 hS.1)
  rw [va_pl_push0 hnin] at hP2
  rw [va_pl_push0 hnin] at hD2
  exact kk H.size H1 hnin ⟨hP2, hD2⟩ ⟨Nat.le_trans hS.1 (by omega), fun x h1 h2 => (o1 x (Nat.lt_of_lt_of_le h1 hS.1)).trans (hS.2.1 x h1 h2), hS.2.2⟩
end
end
section
/-! THE THROW of an exception whose constructor calls its superclass's by another entry than 7 (java.util.NoSuchElementException: 13). The kit's row for throws (vx_throwS) speaks of entry 7 alone. The three theorems follow the library's chainS and ctorThrowS (BundleChainS.lean, BundleOwnThrow.lean) and the kit's vx_throwS, with the entry and the bytes as variables, and with a shorter end. -/
section
def mx_chain (X : String) (ix : Nat) (rx : ByteArray) : List String → List Cond
  | [] => Bundle.passSAtoms X Bundle.tN ix rx
  | Y :: r => Bundle.passSAtoms X Y ix rx ++ Bundle.chainSAtoms Y r
def mx_lays (X : String) : List Cond := [(("cause", "Ljava/lang/Throwable;") : String × String), ("stackTrace", Bundle.steD), ("suppressedExceptions", Bundle.listD), ("detailMessage", "Ljava/lang/String;"), ("backtrace", "Ljava/lang/Object;")].map (fun q => .lays X Bundle.tN q.1 q.2)
def mx_own (own : String) (ic : Nat) (X : String) (ix : Nat) (rx : ByteArray) (names : List String) : List Cond :=
  [.methodLink own ic (Bundle.initS X), .instantiable X 6, .selects X Bundle.tFill0 Bundle.tFill0, .selects X Bundle.tFill Bundle.tFill, .isRef (.static Bundle.tN "UNASSIGNED_STACK" Bundle.steD), .isRef (.static Bundle.tN "SUPPRESSED_SENTINEL" Bundle.listD), .fieldLink Bundle.tN 198 Bundle.tN "backtrace" "Ljava/lang/Object;", .lays Bundle.tN Bundle.tN "backtrace" "Ljava/lang/Object;"] ++ (mx_lays X ++ (mx_chain X ix rx names ++ (Bundle.throwableAtoms ++ Bundle.throwableSAtoms)))
theorem mx_links {args : Array Value} {s : State} {pl : Platform} (hpl : pl.magicAccessors = ({} : Platform).magicAccessors) {top : MethodId} (htop : s.methodNamed? (Bundle.initS Bundle.tN) = some top)
    {ix : Nat} {rx : ByteArray} (x0 : decode rx 0 = .ok (.aload_n 0, 1)) (x1 : decode rx 1 = .ok (.aload_n 1, 1)) (x2 : decode rx 2 = .ok (.invokespecial ix, 3)) (x5 : decode rx 5 = .ok (.return_, 1))
    (names : List String) (X : String) (hX : Bundle.fit X = true) (hn : ∀ n ∈ names, Bundle.fit n = true) (h : ∀ c ∈ mx_chain X ix rx names, c.before args s = true) :
    ∃ (P1 : PassC) (Ps : List PassC), Ps.length = names.length ∧ P1.LinksS pl s ∧ (∀ P, P ∈ Ps → P.LinksS pl s) ∧ s.methodNamed? (Bundle.initS X) = some P1.m ∧
      P1.sup = firstOf top (Ps.map (·.toPassT)) ∧ PassesOn top (Ps.map (·.toPassT)) := by
  cases names with
  | nil =>
    obtain ⟨P, L, hm, hs⟩ := PassC.ofS_atoms (args := args) (s := s) hpl (X := X) (Y := Bundle.tN) (Bundle.fit_spec hX).1 (by decide) x0 x1 x2 x5 h
    exact ⟨P, [], rfl, L, (fun _ hP => nomatch hP), hm, Option.some.inj (hs.symm.trans htop), trivial⟩
  | cons Y r =>
    obtain ⟨P, L, hm, hs⟩ := PassC.ofS_atoms (args := args) (s := s) hpl (X := X) (Y := Y) (Bundle.fit_spec hX).1 (Bundle.fit_spec (hn Y List.mem_cons_self)).2 x0 x1 x2 x5 (fun c hc => h c (List.mem_append_left _ hc))
    obtain ⟨P', Ps, hlen, L', hL, hm', hsup, hpass⟩ := Bundle.chainS (args := args) hpl htop r Y (hn Y List.mem_cons_self) (fun n hn' => hn n (List.mem_cons_of_mem _ hn')) (fun c hc => h c (List.mem_append_right _ hc))
    exact ⟨P, P' :: Ps, congrArg (· + 1) hlen, L, List.forall_mem_cons.mpr ⟨L', hL⟩, hm, Option.some.inj (hs.symm.trans hm'), hsup, hpass⟩
variable {p : Program} {l : Launch} {e : Env} {R : Room} {s : State} {m₀ : MethodId} {args : Array Value} {below : List Frame} {meth : Method} {c : Code} {W : State} {locs : List Loc} {cells slots : Nat}
set_option maxHeartbeats 4000000 in
theorem mx_ctor (X : Stand p l e R s m₀ args below meth c W locs cells slots) (hexec : p.tables.exec = Jvm.exec) (htr : e.platform.stackTraces = false) {own cls : String} {names : List String} {ic ix : Nat} {rx : ByteArray} (x0 : decode rx 0 = .ok (.aload_n 0, 1)) (x1 : decode rx 1 = .ok (.aload_n 1, 1)) (x2 : decode rx 2 = .ok (.invokespecial ix, 3)) (x5 : decode rx 5 = .ok (.return_, 1))
    (hown : s.vm.findClass own = some m₀.cls) (hcls : Bundle.fit cls = true) (hnames : ∀ n ∈ names, Bundle.fit n = true)
    (h : ∀ a ∈ mx_own own ic cls ix rx names, a.before args s = true)
    (hlocs : ∀ x ∈ locs, ∀ cell, s.heap[x.base]? = some cell → cell.vm.isStatics = false)
    {a : Addr} {cX : ClassId} {kX : Class} (hfoundX : s.vm.findClass cls = some cX) (hkX : s.vm.classes[cX]? = some kX) (hcell : W.heap[a]? = some (freshCell cX kX)) (hnew : s.heap.size ≤ a)
    {msg : Value} (hmsg : msg.isRef = true)
    {g : JFrame} (hg : g.method = m₀) (hsize : g.locals.size = c.maxLocals) (hlocked : g.locked = none) (hentered : g.entered = []) {rest : List Value} (hstack : g.stack = msg :: .ref a :: .ref a :: rest)
    (hd6 : decode c.code g.pc = .ok (.invokespecial ic, 3)) (hd9 : decode c.code (g.pc + 3) = .ok (.athrow, 1)) (hout : ∀ x ∈ c.exceptionTable.toList, covers x (g.pc + 3) = false)
    (hRframes : names.length + 3 < R.frames) (hRlocals : 2 * g.monitorRoom + ((Value.ref a :: rest).map fun v => v.category).sum + (13 * (names.length + 1) + 42) ≤ R.locals) (hlocks : meth.locks = false := by first | assumption | exact BodyLoose.notSynchronized (by assumption) | exact Body.notSynchronized (by assumption)) :
    ∃ U : State, Steps p.tables e below (W.setTop g) U ∧ U.status = .running ∧ Ended U below (.threw a) ∧ s.WarmedH U.vm ∧ s.sameButNew ({ U with vm := s.vm } : State) locs cells slots ∧
      ∃ ce, U.heap[a]? = some ce ∧ ce.vm = .none ∧ s.vm.findClass cls = some ce.cls := by
  have howns : e.platform.frameOwnsMonitors = true := by rw [X.admits.platform]
  have hfin : e.platform.finalization = false := by rw [X.admits.platform]
  have hpl : e.platform.magicAccessors = ({} : Platform).magicAccessors := by rw [X.admits.platform]
  have a' : ∀ x, x ∈ mx_own own ic cls ix rx names → x.holds args s none s [] = true := fun x hx => h x hx
  obtain ⟨T, Z0, L, -, Y⟩ := ThrowableC.of_atoms (args := args) howns hfin hpl (fun x hx => h x (by simp [mx_own, mx_lays, hx]))
  obtain ⟨Z, M, LZ, LM, hnZ⟩ := Init0T.ofS_atoms (args := args) hpl L Y (fun x hx => h x (by simp [mx_own, mx_lays, hx]))
  obtain ⟨P1, Ps, hlen, L1, hL, hP1m, hlink1, hlink⟩ := mx_links (args := args) hpl hnZ x0 x1 x2 x5 names cls hcls hnames (fun x hx => h x (by simp [mx_own, mx_lays, hx]))
  have hfound : s.vm.findClass cls = some P1.m.cls := findClass_of_methodNamed hP1m
  cases Option.some.inj (hfoundX.symm.trans hfound)
  obtain ⟨c1, kX', hc1, hk, hord, -, -, hn6⟩ := Cond.instantiable_spec (a' (.instantiable cls 6) (by simp [mx_own, mx_lays]))
  cases Option.some.inj (hc1.symm.trans hfound)
  cases Option.some.inj (hkX.symm.trans hk)
  have hsel0 : selectMethod e.platform s.vm P1.m.cls T.fill0 = .method T.fill0 := by
    obtain ⟨c2, r2, m2, q1, q2, q3, q4, -⟩ := Cond.selects_spec (a' (.selects cls Bundle.tFill0 Bundle.tFill0) (by simp [mx_own, mx_lays]))
    cases Option.some.inj (q1.symm.trans hfound)
    cases Option.some.inj (q2.symm.trans (State.methodFound?_of_named Y.fill0 (by decide)))
    cases Option.some.inj (q3.symm.trans Y.fill0)
    rw [Launch.admits_selectMethod X.admits]; exact q4
  have hselF : selectMethod e.platform s.vm P1.m.cls T.fill = .method T.fill := by
    obtain ⟨c2, r2, m2, q1, q2, q3, q4, -⟩ := Cond.selects_spec (a' (.selects cls Bundle.tFill Bundle.tFill) (by simp [mx_own, mx_lays]))
    cases Option.some.inj (q1.symm.trans hfound)
    cases Option.some.inj (q2.symm.trans (State.methodFound?_of_named Y.fill (by decide)))
    cases Option.some.inj (q3.symm.trans Y.fill)
    rw [Launch.admits_selectMethod X.admits]; exact q4
  obtain ⟨cellS0, hcS0, hiss⟩ := Y.statics
  obtain ⟨u0, hu0⟩ := Cond.staticRefV Y.unassigned L.unassignedStatic L.statics hcS0 hiss (a' (.isRef (.static Bundle.tN "UNASSIGNED_STACK" Bundle.steD)) (by simp [mx_own, mx_lays]))
  obtain ⟨sen, hsen⟩ := Cond.staticRefV Y.sentinel L.sentinelStatic L.statics hcS0 hiss (a' (.isRef (.static Bundle.tN "SUPPRESSED_SENTINEL" Bundle.listD)) (by simp [mx_own, mx_lays]))
  obtain ⟨ci198, i198, fB, hk198, hg198, ha198, hsB, -, hnB, htB, hffB⟩ := Cond.ownField (t := .object "java/lang/Object") Y.found L.cls (by decide +kernel) (a' (.fieldLink Bundle.tN 198 Bundle.tN "backtrace" "Ljava/lang/Object;") (by simp [mx_own, mx_lays])) (a' (.lays Bundle.tN Bundle.tN "backtrace" "Ljava/lang/Object;") (by simp [mx_own, mx_lays])) e.platform hpl
  obtain ⟨cellS, hcS', heS, -, hkeep⟩ := X.same.2.2.2.2.2 T.aS cellS0 hcS0
  have hcellS : W.heap[T.aS]? = some cellS := hcS'
  have hout' : ∀ i, (⟨T.aS, i⟩ : Loc) ∉ locs := fun i hmem => by
    have := hlocs _ hmem cellS0 hcS0
    rw [hiss] at this; cases this
  have hknownS : cellS.vm ≠ .unknown := by
    rw [heS]; intro hu
    rw [show cellS0.vm = .unknown from hu] at hiss
    cases hiss
  have hneS : T.aS ≠ a := Nat.ne_of_lt (Nat.lt_of_lt_of_le (Array.getElem?_eq_some_iff.mp hcS0).1 hnew)
  obtain ⟨iM, hffM⟩ := Y.msg
  obtain ⟨tyC, dC, hdC, hdnC⟩ := Cond.laysAt hfound hk Y.cause (a' (.lays cls Bundle.tN "cause" "Ljava/lang/Throwable;") (by simp [mx_own, mx_lays]))
  obtain ⟨tyS, dS, hdS, hdnS⟩ := Cond.laysAt hfound hk Y.stack (a' (.lays cls Bundle.tN "stackTrace" Bundle.steD) (by simp [mx_own, mx_lays]))
  obtain ⟨tyP, dP, hdP, hdnP⟩ := Cond.laysAt hfound hk Y.supp (a' (.lays cls Bundle.tN "suppressedExceptions" Bundle.listD) (by simp [mx_own, mx_lays]))
  obtain ⟨tyM, dM, hdM, hdnM⟩ := Cond.laysAt hfound hk hffM (a' (.lays cls Bundle.tN "detailMessage" "Ljava/lang/String;") (by simp [mx_own, mx_lays]))
  obtain ⟨tyB, dB, hdB, hdnB⟩ := Cond.laysAt hfound hk hffB (a' (.lays cls Bundle.tN "backtrace" "Ljava/lang/Object;") (by simp [mx_own, mx_lays]))
  have bC := Cond.laysApart hdB hdC hdnB hdnC (by rw [hnB, Y.causeName]; decide)
  have bS := Cond.laysApart hdB hdS hdnB hdnS (by rw [hnB, Y.stackName]; decide)
  have bP := Cond.laysApart hdB hdP hdnB hdnP (by rw [hnB, Y.suppName]; decide)
  have hskip : SkipFacts T e.platform s (fun u => u) u0 ((preparedCellV T.toThrowableT (freshCell P1.m.cls kX) a u0 sen).withEntry W.cur) :=
    ⟨{ ci198 := ci198, i198 := i198, fBack := fB }, ⟨hk198, hg198, ha198, hsB⟩, by
      have := fresh_default (c := P1.m.cls) tyB
      rw [htB] at this
      simpa [preparedCellV, Cell.setSlot, Cell.withEntry, Array.getElem?_setIfInBounds, bC, bS, bP, bC.symm, bS.symm, bP.symm, defaultValue] using this, fun _ _ => rfl⟩
  obtain ⟨tm, methC, cdC, kC, vm₁, hnC, -, -, -, -, -, -, -, hW₁, st1⟩ := Steps.initColdS (tb := p.tables) (e := e) (below := below) (s := s) (U := W) X.here hexec X.warmed hpl hown (t := Bundle.initS cls) rfl rfl (Bundle.fit_spec hcls).2
    (a' (.methodLink own ic (Bundle.initS cls)) (by simp [mx_own, mx_lays])) (h (.instanceMethod (Bundle.initS cls)) (by cases names <;> simp [mx_own, mx_lays, mx_chain, Bundle.passSAtoms])) (bytes := rx) (maxL := 2) (h (.code (Bundle.initS cls) rx 2 none) (by cases names <;> simp [mx_own, mx_lays, mx_chain, Bundle.passSAtoms]))
    (f := g) hg (a := a) (msg := msg) (rest := .ref a :: rest) hstack hd6
  cases Option.some.inj (hnC.symm.trans hP1m)
  have X₁ := X.noted hW₁
  obtain ⟨vm₂, X₂, st2⟩ := X₁.ctorMessageOffV hexec (g := { g with stack := .ref a :: rest }) hg hsize T L Z LZ M LM (P1 :: Ps)
    (fun P hP => by rcases List.mem_cons.mp hP with rfl | hP; exact L1; exact hL P hP) ⟨hlink1, hlink⟩ (u0 := u0) (sen := sen) (self := a) hmsg (cell := freshCell P1.m.cls kX) (cellS := cellS)
    hcell (fun _ => by simp) (by simp) rfl rfl hsel0 hselF hcellS hneS hknownS (by rw [hkeep _ (hout' _)]; exact hu0) (by rw [hkeep _ (hout' _)]; exact hsen)
    (Takes.of_laid hk hord tyC (by rw [Y.causeType]; rfl)) (Takes.of_laid hk hord tyS (by rw [Y.stackType]; exact fits_refV_array _ u0)) (Takes.of_laid hk hord tyP (by rw [Y.suppType]; exact fits_refV_object _ sen))
    (Takes.of_laid hk hord tyM (by rw [Y.msgType]; exact fits_refV_object _ ⟨msg, hmsg⟩)) Y.objLocals hskip htr [] hd6
    (by simp only [List.length_cons, hlen]; omega) (by simp only [List.length_cons, hlen]; exact hRlocals)
  obtain ⟨hwalk, hrun, hended, hWU, hsame⟩ := X₂.athrowLeaves hexec (g := { g with stack := .ref a :: rest, pc := g.pc + 3 }) hg hlocked hentered hout (a := a) (rest := rest) rfl hd9
  have hlt : a < ((W.setVm vm₁).setVm vm₂).heap.size := (Array.getElem?_eq_some_iff.mp hcell).1
  have hU := heapAt_setCell_self (s := (W.setVm vm₁).setVm vm₂) (plainBareV T.toThrowableT (freshCell P1.m.cls kX) a u0 sen msg) hlt
  refine ⟨_, st1 _ (fun acts => ?_), hrun, hended, hWU, hsame.weaken (fun y hy hlt' => ?_) (Nat.le_refl _) (Nat.le_refl _), _, hU, ?_⟩
  · rw [doInvoke_state]
    exact st2 _ hwalk
  · rcases List.mem_append.mp hy with h1 | h1
    · exact h1
    · exfalso
      have hb : y.base = a := by
        simp only [List.mem_cons, List.not_mem_nil, or_false] at h1
        rcases h1 with rfl | rfl | rfl | rfl | rfl <;> rfl
      rw [hb] at hlt'
      exact Nat.not_lt.mpr hnew hlt'
  · exact ⟨rfl, hfound⟩
end
section
variable {p : Program} {l : Launch} {e : Env} {R : Room} {s : State} {m : MethodId} {args : Array Value} {below : List Frame} {meth : Method} {c : Code} {H : Heap} {locs : List Loc} {cells slots : Nat} {Q : State → Prop}
variable {mc ms : Nat} {free : Addr → Prop} {A0 A1 : Nat → Prop} {H0 : Heap} {a : Array Value} {ls : Array Slot} {st0 rest : List Value}
variable {Qc : Array Value → State → Outcome → State → Prop} {XC : String → State → State → Prop}
set_option maxHeartbeats 4000000 in
theorem mx_throwS {cc : ByteArray} {pc : Nat} (hexec : p.tables.exec = Jvm.exec) (hb : c.code = cc) (hl : l.stackTraces = false) {own cls text : String} {names : List String} {ix : Nat} {rx : ByteArray} {ik is ic mc ms sa : Nat} {A : Nat → Prop}
    (x0 : decode rx 0 = .ok (.aload_n 0, 1)) (x1 : decode rx 1 = .ok (.aload_n 1, 1)) (x2 : decode rx 2 = .ok (.invokespecial ix, 3)) (x5 : decode rx 5 = .ok (.return_, 1)) (hown : s.vm.findClass own = some m.cls) (hcls : Bundle.fit cls = true) (hnames : ∀ n ∈ names, Bundle.fit n = true)
    (hk : (Cond.classLink own ik cls).before args s = true) (hini : (Cond.initialized cls).before args s = true) (hstr : vk_R own is text sa s) (hat : ∀ w ∈ (mx_own own ic cls ix rx names).filter vx_no, w.before args s = true)
    (hgood : ∀ w ∈ Cond.classLink own ik cls :: Cond.initialized cls :: (mx_own own ic cls ix rx names).filter vx_no, vx_ot w = true)
    (hU : vx_Zq Bundle.tN "UNASSIGNED_STACK" Bundle.steD A s s.heap) (hN : vx_Zq Bundle.tN "SUPPRESSED_SENTINEL" Bundle.listD A s s.heap) (hS : va_S A s.heap H locs) (hsize : ls.size = c.maxLocals)
    (d0 : decode cc pc = .ok (.new ik, 3)) (d3 : decode cc (pc + 3) = .ok (.dup, 1)) (d4 : decode cc (pc + 4) = .ok (.ldc is, 2)) (d6 : decode cc (pc + 6) = .ok (.invokespecial ic, 3)) (d9 : decode cc (pc + 9) = .ok (.athrow, 1))
    (hout : ∀ x ∈ c.exceptionTable.toList, covers x (pc + 9) = false)
    (hRframes : names.length + 3 < R.frames) (hRlocals : (rest.map fun v => v.category).sum + (13 * (names.length + 1) + 43) ≤ R.locals) (hRcells : cells + 1 ≤ R.cells) (hRslots : slots + 6 ≤ R.slots) (hlocks : meth.locks = false)
    (hx : ∀ t : State, s.vm.Alike t.vm → H.size ≤ t.heap.size → (∀ q : Nat, q < H.size → t.heap[q]? = H[q]?) → XC cls s t)
    (hf : ∀ z ∈ locs, free z.base) (hc : cells + 1 ≤ mc) (hs : slots + 6 ≤ ms) :
    W p l e R s m args below meth c H locs cells slots (vx_MQ below Qc XC args s mc ms free) (F0 m pc ls rest) := by
  intro T hT X
  have htr : e.platform.stackTraces = false := (show e.platform.stackTraces = l.stackTraces by rw [X.admits.platform]).trans hl
  have Y := vx_rebase X (R' := { frames := R.frames, locals := R.locals, cells := 1, slots := 6 }) (Nat.le_refl _) (Nat.le_refl _) hRcells hRslots
  obtain ⟨s', hA⟩ : ∃ z, z = (T.setVm s.vm).setFrames (.invoking m args :: below) := ⟨_, rfl⟩
  rw [← hA] at Y
  have hvm : s'.vm = s.vm := by rw [hA]; rfl
  have hhp : s'.heap = H := by rw [hA]; exact hT
  have hW0 : s.WarmedH s'.vm := by rw [hvm]; exact State.WarmedH.refl s
  have hat' : ∀ w ∈ (mx_own own ic cls ix rx names).filter vx_no, w.before args s' = true := fun w hw => vx_ot_at hW0 hvm.symm (hgood w (List.mem_cons_of_mem _ (List.mem_cons_of_mem _ hw))) (hat w hw)
  have hk' : (Cond.classLink own ik cls).before args s' = true := vx_ot_at hW0 hvm.symm (hgood _ List.mem_cons_self) hk
  have hini' : (Cond.initialized cls).before args s' = true := vx_ot_at hW0 hvm.symm (hgood _ (List.mem_cons_of_mem _ List.mem_cons_self)) hini
  have hU' : vx_Zq Bundle.tN "UNASSIGNED_STACK" Bundle.steD A s' s'.heap := by rw [hhp]; exact vx_Zq.moved hW0.alike (hU.kept hS.2.1)
  have hN' : vx_Zq Bundle.tN "SUPPRESSED_SENTINEL" Bundle.listD A s' s'.heap := by rw [hhp]; exact vx_Zq.moved hW0.alike (hN.kept hS.2.1)
  have h : ∀ w ∈ mx_own own ic cls ix rx names, w.before args s' = true := vx_own hat' (vx_isRefq hU'.1) (vx_isRefq hN'.1) hU'.2.word hN'.2.word
  have hown' : s'.vm.findClass own = some m.cls := by rw [hvm]; exact hown
  have hins : (Cond.instantiable cls 6).before args s' = true := h _ (by simp [mx_own])
  obtain ⟨vm₁, cX, kX, hfX, hkX, -, -, X₁, st1⟩ := Y.newCold hexec (own := own) (C := cls) (index := ik) (n := 6) hown' hk' hins hini'
    (g := F0 m pc ls rest) rfl (by rw [hb]; exact d0) (Nat.le_refl _) (Nat.le_refl _)
  generalize hT1 : (T.setVm vm₁).pushCell { cls := cX, slots := kX.instanceTypes.map defaultValue, vm := .none } = T1 at X₁ st1
  have hcat : (Value.ref T.heap.size).category = 1 := rfl
  have hcellA : T1.heap[T.heap.size]? = some (freshCell cX kX) := by rw [← hT1]; exact State.heap_pushCell_size _ _
  have d3' : decode c.code (pc + 3) = .ok (.dup, 1) := by rw [hb]; exact d3
  have d4' : decode c.code (pc + 4) = .ok (.ldc is, 2) := by rw [hb]; exact d4
  have hstr' : vk_R own is text sa s' := vk_R.warm hW0 hstr
  obtain ⟨U, hsteps, hrun, hend, hW, hsame, ce, hce, hOv, hOc⟩ := mx_ctor X₁ hexec htr (own := own) (cls := cls) (names := names) (ic := ic) x0 x1 x2 x5 hown' hcls hnames h (fun x hx => nomatch hx) hfX hkX hcellA (by rw [hhp, hT]; exact Nat.le_refl _) (msg := .ref sa) rfl
    (g := { method := m, pc := pc + 6, locals := ls, stack := .ref sa :: .ref T.heap.size :: .ref T.heap.size :: rest, locked := none }) rfl hsize rfl rfl (rest := rest) rfl
    (by rw [hb]; exact d6) (by rw [hb]; exact d9) hout hRframes (by simp only [List.map_cons, List.sum_cons, hcat]; omega) hlocks
  obtain ⟨f1, f2⟩ := vx_frame hsame
  rw [hhp] at f1 f2
  have hWs : s.WarmedH U.vm := State.WarmedH.trans hW0 hW
  have hcl : s.vm.findClass cls = some ce.cls := by
    rw [hvm] at hOc
    exact hOc
  have hall : s.sameButNew ({ U with vm := s.vm } : State) locs mc ms := by
    subst hA
    obtain ⟨e1, e2⟩ := hsame
    rw [State.setFrames_setFrames] at e1
    have h2 : (T.setVm s.vm).sameButNew ({ U with vm := s.vm } : State) [] (0 + 1) (0 + 6) := ⟨e1, e2⟩
    have h3 := X.same.trans h2
    rw [List.append_nil] at h3
    exact h3.mono hc hs
  refine ⟨U, ?_, .threw T.heap.size, hrun, hend, Or.inr ⟨T.heap.size, rfl, cls, ce, locs, hx U hWs.alike f1 (fun q hq => f2 q hq (fun z hz => nomatch hz)), hce, hOv, hcl, hWs, hall, hf⟩⟩
  refine st1 _ ?_
  show Steps p.tables e below (T1.setTop { method := m, pc := pc + 3, locals := ls, stack := .ref T.heap.size :: rest, locked := none }) _
  jvm_step X₁.here [X₁.here.top, hexec, d3', Value.category]
  exact X₁.ldcString hexec (own := own) (text := text) (index := is) (a := sa) hown' hstr'.1 hstr'.2
    (g := { method := m, pc := pc + 4, locals := ls, stack := .ref T.heap.size :: .ref T.heap.size :: rest, locked := none }) rfl d4' _ hsteps
end
section
variable {p : Program} {l : Launch} {e : Env} {R : Room} {s : State} {m : MethodId} {args : Array Value} {below : List Frame} {meth : Method} {c : Code} {H : Heap} {locs : List Loc} {cells slots : Nat} {Q : State → Prop}
variable {cc : ByteArray} {pc nL : Nat} {ls : Array Slot} {rest st0 : List Value} {G : mG} {s0 : State} {a0 : Array Value} {own nm : String} {ret : Option FieldType} {h : Hp} {a b : Nat}
def mXx (own : String) (ik is ic : Nat) (cls : String) (ix : Nat) (rx : ByteArray) (text : String) (names : List String) : Prop := (decode rx 0 = .ok (.aload_n 0, 1) ∧ decode rx 1 = .ok (.aload_n 1, 1) ∧ decode rx 2 = .ok (.invokespecial ix, 3) ∧ decode rx 5 = .ok (.return_, 1)) ∧ Bundle.fit cls = true ∧ (∀ n ∈ names, Bundle.fit n = true) ∧ (∀ w ∈ Cond.classLink own ik cls :: Cond.initialized cls :: (mx_own own ic cls ix rx names).filter vx_no, w ∈ lw_tbl ∧ mk2 w = true ∧ vx_ot w = true) ∧ mIn' (.stringRef own is text)
theorem m_throwX (Z : mZ l G a0 s0) {P : Option Value → Hp → Prop} {X : String → Hp → Prop} {mc ms : Nat} {cls text : String} {names : List String} {ik is ic ix : Nat} {rx : ByteArray} (C : mC s0 p s m meth c cc nL own ret nm) (ht : ∀ x ∈ c.exceptionTable.toList, False) (hM : MW G s0.heap.size h H) (hS : va_S (fun q => s0.heap.size ≤ q) s.heap H locs) (Y : mXx own ik is ic cls ix rx text names) (hlz : ls.size = nL)
    (d0 : decode cc pc = .ok (.new ik, 3)) (d3 : decode cc (pc + 3) = .ok (.dup, 1)) (d4 : decode cc (pc + 4) = .ok (.ldc is, 2)) (d6 : decode cc (pc + 6) = .ok (.invokespecial ic, 3)) (d9 : decode cc (pc + 9) = .ok (.athrow, 1))
    (hR : names.length + 3 < R.frames ∧ (rest.map fun v => v.category).sum + (13 * (names.length + 1) + 43) ≤ R.locals ∧ cells + 1 ≤ R.cells ∧ slots + 6 ≤ R.slots) (hc : cells + 1 ≤ mc) (hs : slots + 6 ≤ ms) (hx : X cls h) :
    W p l e R s m args below meth c H locs cells slots (vx_MQ below (mQc G s0 P) (mXc G s0 X) args s mc ms (fun q => s0.heap.size ≤ q)) (F0 m pc ls rest) := by
  obtain ⟨hx0, hb, hml, hown, hlk, hr, hE, hn⟩ := C
  obtain ⟨⟨y0, y1, y2, y5⟩, Y⟩ := Y
  obtain ⟨sa, hsa⟩ := hE.str Z Y.2.2.2
  refine mx_throwS hx0 hb Z.2.2.1 y0 y1 y2 y5 hown Y.1 Y.2.1 (hE.two Z (Y.2.2.1 _ List.mem_cons_self).1 (Y.2.2.1 _ List.mem_cons_self).2.1 args) (hE.two Z (Y.2.2.1 _ (List.mem_cons_of_mem _ List.mem_cons_self)).1 (Y.2.2.1 _ (List.mem_cons_of_mem _ List.mem_cons_self)).2.1 args) hsa
    (fun w hw => hE.two Z (Y.2.2.1 _ (List.mem_cons_of_mem _ (List.mem_cons_of_mem _ hw))).1 (Y.2.2.1 _ (List.mem_cons_of_mem _ (List.mem_cons_of_mem _ hw))).2.1 args) (fun w hw => (Y.2.2.1 w hw).2.2) (hE.thr Z).1 (hE.thr Z).2 hS (hlz.trans hml.symm) d0 d3 d4 d6 d9 (fun x h => (ht x h).elim) hR.1 hR.2.1 hR.2.2.1 hR.2.2.2 hlk (fun t hvm hz hq => ?_) hS.2.2 hc hs
  refine ⟨⟨h, hx, ?_⟩, Nat.le_trans hS.1 hz, fun q h1 h2 => (hq q (Nat.lt_of_lt_of_le h1 hS.1)).trans (hS.2.1 q h1 h2)⟩
  exact ⟨hM.1.kept (fun k q hk => hq q.1 ((hM.1 k q hk).lt)), hM.2⟩
end
end
section
theorem K_X0 : mKi 0 RX0 TX0 4 tyX0 := ⟨rfl, by unfold mInW mIn; decide +kernel, tyX0_ok, nmX0⟩
theorem K_X1 : mKi 1 RX1 TX1 9 tyX1 := ⟨rfl, by unfold mInW mIn; decide +kernel, tyX1_ok, nmX1⟩
theorem K_X2 : mKi 2 RX2 TX2 9 tyX2 := ⟨rfl, by unfold mInW mIn; decide +kernel, tyX2_ok, nmX2⟩
theorem K_X3 : mKi 3 RX3 TX3 4 tyX3 := ⟨rfl, by unfold mInW mIn; decide +kernel, tyX3_ok, nmX3⟩
theorem K_X4 : mKi 4 RX4 TX4 3 tyX4 := ⟨rfl, by unfold mInW mIn; decide +kernel, tyX4_ok, nmX4⟩
theorem K_X5 : mKi 5 RX5 TX5 4 tyX5 := ⟨rfl, by unfold mInW mIn; decide +kernel, tyX5_ok, nmX5⟩
theorem K_X6 : mKi 6 RX6 TX6 17 tyX6 := ⟨rfl, by unfold mInW mIn; decide +kernel, tyX6_ok, nmX6⟩
theorem cl_X5_9 : mIn (.classLink RX5 9 RX2) := mIn_of 95 (by decide +kernel)
theorem cl_X5_15 : mIn (.classLink RX5 15 RX4) := mIn_of 97 (by decide +kernel)
theorem cl_X5_34 : mIn (.classLink RX5 34 "java/lang/IllegalArgumentException") := mIn_of 218 (by decide +kernel)
theorem cl_X5_45 : mIn (.classLink RX5 45 "java/lang/IllegalStateException") := mIn_of 293 (by decide +kernel)
theorem cl_X5_85 : mIn (.classLink RX5 85 "java/util/NoSuchElementException") := mIn_of 393 (by decide +kernel)
theorem cl_X5_111 : mIn (.classLink RX5 111 "java/lang/IndexOutOfBoundsException") := mIn_of 588 (by decide +kernel)
theorem cl_X5_160 : mIn (.classLink RX5 160 "java/lang/ArithmeticException") := mIn_of 703 (by decide +kernel)
theorem cl_X5_205 : mIn (.classLink RX5 205 RX0) := mIn_of 812 (by decide +kernel)
theorem cl_X2_29 : mIn (.classLink RX2 29 RX1) := mIn_of 314 (by decide +kernel)
theorem cl_X2_35 : mIn (.classLink RX2 35 RX3) := mIn_of 316 (by decide +kernel)
theorem cl_X3_9 : mIn (.classLink RX3 9 "[[I") := mIn_of 321 (by decide +kernel)
theorem cl_L_8 : mIn (.classLink RL 8 RX5) := mIn_of 87 (by decide +kernel)
theorem cl_L_127 : mIn (.classLink RL 127 RX6) := mIn_of 880 (by decide +kernel)
theorem fl_X5_11 : mIn (.fieldLink RX5 11 "GaugeHall" "rows" "[LGaugeHall$Series;") := mIn_of 116 (by decide +kernel)
theorem fl_X5_18 : mIn (.fieldLink RX5 18 "GaugeHall" "totals" "LGaugeHall$Totals;") := mIn_of 117 (by decide +kernel)
theorem fl_X5_22 : mIn (.fieldLink RX5 22 "GaugeHall" "opened" "I") := mIn_of 118 (by decide +kernel)
theorem fl_X5_26 : mIn (.fieldLink RX5 26 "GaugeHall" "now" "J") := mIn_of 119 (by decide +kernel)
theorem fn_X5_82 : mIn' (.fieldLinkNest RX5 82 "GaugeHall$Series" "size" "I" "GaugeHall") := mIn'_of 351 (by decide +kernel)
theorem fn_X5_90 : mIn' (.fieldLinkNest RX5 90 "GaugeHall$Series" "name" "I" "GaugeHall") := mIn'_of 341 (by decide +kernel)
theorem fn_X5_93 : mIn' (.fieldLinkNest RX5 93 "GaugeHall$Series" "host" "I" "GaugeHall") := mIn'_of 343 (by decide +kernel)
theorem fn_X5_116 : mIn' (.fieldLinkNest RX5 116 "GaugeHall$Block" "bits" "I" "GaugeHall") := mIn'_of 447 (by decide +kernel)
theorem fn_X5_141 : mIn' (.fieldLinkNest RX5 141 "GaugeHall$Totals" "found" "I" "GaugeHall") := mIn'_of 104 (by decide +kernel)
theorem fn_X5_144 : mIn' (.fieldLinkNest RX5 144 "GaugeHall$Totals" "total" "J" "GaugeHall") := mIn'_of 106 (by decide +kernel)
theorem fn_X5_157 : mIn' (.fieldLinkNest RX5 157 "GaugeHall$Totals" "greatest" "I" "GaugeHall") := mIn'_of 108 (by decide +kernel)
theorem fn_X5_179 : mIn' (.fieldLinkNest RX5 179 "GaugeHall$Series" "sketch" "LGaugeHall$Sketch;" "GaugeHall") := mIn'_of 349 (by decide +kernel)
theorem fn_X5_192 : mIn' (.fieldLinkNest RX5 192 "GaugeHall$Sketch" "bound" "I" "GaugeHall") := mIn'_of 328 (by decide +kernel)
theorem fn_X5_211 : mIn' (.fieldLinkNest RX5 211 "GaugeHall$Series" "alert" "LGaugeHall$Alert;" "GaugeHall") := mIn'_of 353 (by decide +kernel)
theorem fl_X0_9 : mIn (.fieldLink RX0 9 "GaugeHall$Alert" "limit" "I") := mIn_of 817 (by decide +kernel)
theorem fl_X0_15 : mIn (.fieldLink RX0 15 "GaugeHall$Alert" "seconds" "I") := mIn_of 818 (by decide +kernel)
theorem fl_X0_18 : mIn (.fieldLink RX0 18 "GaugeHall$Alert" "on" "Z") := mIn_of 819 (by decide +kernel)
theorem fl_X0_22 : mIn (.fieldLink RX0 22 "GaugeHall$Alert" "since" "J") := mIn_of 820 (by decide +kernel)
theorem fl_X1_9 : mIn (.fieldLink RX1 9 "GaugeHall$Block" "firstTime" "J") := mIn_of 440 (by decide +kernel)
theorem fl_X1_15 : mIn (.fieldLink RX1 15 "GaugeHall$Block" "firstValue" "I") := mIn_of 441 (by decide +kernel)
theorem fl_X1_19 : mIn (.fieldLink RX1 19 "GaugeHall$Block" "timeSteps" "[J") := mIn_of 442 (by decide +kernel)
theorem fl_X1_23 : mIn (.fieldLink RX1 23 "GaugeHall$Block" "valueSteps" "[I") := mIn_of 443 (by decide +kernel)
theorem fl_X1_27 : mIn (.fieldLink RX1 27 "GaugeHall$Block" "size" "I") := mIn_of 444 (by decide +kernel)
theorem fl_X1_30 : mIn (.fieldLink RX1 30 "GaugeHall$Block" "bits" "I") := mIn_of 445 (by decide +kernel)
theorem fl_X1_33 : mIn (.fieldLink RX1 33 "GaugeHall$Block" "lastTime" "J") := mIn_of 448 (by decide +kernel)
theorem fl_X1_36 : mIn (.fieldLink RX1 36 "GaugeHall$Block" "lastGap" "J") := mIn_of 449 (by decide +kernel)
theorem fl_X1_39 : mIn (.fieldLink RX1 39 "GaugeHall$Block" "lastValue" "I") := mIn_of 450 (by decide +kernel)
theorem fl_X2_9 : mIn (.fieldLink RX2 9 "GaugeHall$Series" "name" "I") := mIn_of 340 (by decide +kernel)
theorem fl_X2_15 : mIn (.fieldLink RX2 15 "GaugeHall$Series" "host" "I") := mIn_of 342 (by decide +kernel)
theorem fl_X2_18 : mIn (.fieldLink RX2 18 "GaugeHall$Series" "times" "[J") := mIn_of 344 (by decide +kernel)
theorem fl_X2_22 : mIn (.fieldLink RX2 22 "GaugeHall$Series" "values" "[I") := mIn_of 345 (by decide +kernel)
theorem fl_X2_26 : mIn (.fieldLink RX2 26 "GaugeHall$Series" "sorted" "[I") := mIn_of 346 (by decide +kernel)
theorem fl_X2_31 : mIn (.fieldLink RX2 31 "GaugeHall$Series" "chain" "[LGaugeHall$Block;") := mIn_of 347 (by decide +kernel)
theorem fl_X2_38 : mIn (.fieldLink RX2 38 "GaugeHall$Series" "sketch" "LGaugeHall$Sketch;") := mIn_of 348 (by decide +kernel)
theorem fl_X2_42 : mIn (.fieldLink RX2 42 "GaugeHall$Series" "size" "I") := mIn_of 350 (by decide +kernel)
theorem fl_X2_45 : mIn (.fieldLink RX2 45 "GaugeHall$Series" "alert" "LGaugeHall$Alert;") := mIn_of 352 (by decide +kernel)
theorem fn_X2_74 : mIn' (.fieldLinkNest RX2 74 "GaugeHall$Block" "bits" "I" "GaugeHall") := mIn'_of 446 (by decide +kernel)
theorem fn_X2_103 : mIn' (.fieldLinkNest RX2 103 "GaugeHall$Sketch" "bound" "I" "GaugeHall") := mIn'_of 327 (by decide +kernel)
theorem fl_X3_11 : mIn (.fieldLink RX3 11 "GaugeHall$Sketch" "levels" "[[I") := mIn_of 323 (by decide +kernel)
theorem fl_X3_16 : mIn (.fieldLink RX3 16 "GaugeHall$Sketch" "sizes" "[I") := mIn_of 324 (by decide +kernel)
theorem fl_X3_20 : mIn (.fieldLink RX3 20 "GaugeHall$Sketch" "halvings" "[I") := mIn_of 325 (by decide +kernel)
theorem fl_X3_23 : mIn (.fieldLink RX3 23 "GaugeHall$Sketch" "bound" "I") := mIn_of 326 (by decide +kernel)
theorem fl_X4_9 : mIn (.fieldLink RX4 9 "GaugeHall$Totals" "found" "I") := mIn_of 103 (by decide +kernel)
theorem fl_X4_15 : mIn (.fieldLink RX4 15 "GaugeHall$Totals" "total" "J") := mIn_of 105 (by decide +kernel)
theorem fl_X4_19 : mIn (.fieldLink RX4 19 "GaugeHall$Totals" "greatest" "I") := mIn_of 107 (by decide +kernel)
theorem fl_X6_7 : mIn (.fieldLink RX6 7 "GaugeHallModel" "name" "[I") := mIn_of 889 (by decide +kernel)
theorem fl_X6_13 : mIn (.fieldLink RX6 13 "GaugeHallModel" "host" "[I") := mIn_of 890 (by decide +kernel)
theorem fl_X6_16 : mIn (.fieldLink RX6 16 "GaugeHallModel" "n" "[I") := mIn_of 891 (by decide +kernel)
theorem fl_X6_19 : mIn (.fieldLink RX6 19 "GaugeHallModel" "values" "[I") := mIn_of 892 (by decide +kernel)
theorem fl_X6_22 : mIn (.fieldLink RX6 22 "GaugeHallModel" "bound" "[I") := mIn_of 893 (by decide +kernel)
theorem fl_X6_25 : mIn (.fieldLink RX6 25 "GaugeHallModel" "times" "[J") := mIn_of 894 (by decide +kernel)
theorem fl_X6_29 : mIn (.fieldLink RX6 29 "GaugeHallModel" "sketch" "[I") := mIn_of 895 (by decide +kernel)
theorem fl_X6_32 : mIn (.fieldLink RX6 32 "GaugeHallModel" "size" "[I") := mIn_of 896 (by decide +kernel)
theorem fl_X6_35 : mIn (.fieldLink RX6 35 "GaugeHallModel" "halvings" "[I") := mIn_of 897 (by decide +kernel)
theorem fl_X6_38 : mIn (.fieldLink RX6 38 "GaugeHallModel" "hasAlert" "[I") := mIn_of 898 (by decide +kernel)
theorem fl_X6_41 : mIn (.fieldLink RX6 41 "GaugeHallModel" "limit" "[I") := mIn_of 899 (by decide +kernel)
theorem fl_X6_44 : mIn (.fieldLink RX6 44 "GaugeHallModel" "wait" "[I") := mIn_of 900 (by decide +kernel)
theorem fl_X6_47 : mIn (.fieldLink RX6 47 "GaugeHallModel" "isOn" "[I") := mIn_of 901 (by decide +kernel)
theorem fl_X6_50 : mIn (.fieldLink RX6 50 "GaugeHallModel" "since" "[J") := mIn_of 902 (by decide +kernel)
theorem fl_X6_53 : mIn (.fieldLink RX6 53 "GaugeHallModel" "thrown" "I") := mIn_of 886 (by decide +kernel)
theorem fl_X6_57 : mIn (.fieldLink RX6 57 "GaugeHallModel" "many" "I") := mIn_of 887 (by decide +kernel)
theorem fl_X6_75 : mIn (.fieldLink RX6 75 "GaugeHallModel" "now" "J") := mIn_of 888 (by decide +kernel)
theorem kl_X5_165 : mIn (.constantLong RX5 165 (10)) := mIn_of 713 (by decide +kernel)
theorem kl_X1_50 : mIn (.constantLong RX1 50 (-7)) := mIn_of 477 (by decide +kernel)
theorem kl_X1_52 : mIn (.constantLong RX1 52 (8)) := mIn_of 478 (by decide +kernel)
theorem kl_X2_91 : mIn (.constantLong RX2 91 (10)) := mIn_of 728 (by decide +kernel)
theorem kl_L_187 : mIn (.constantLong RL 187 (4294967295)) := mIn_of 1203 (by decide +kernel)
theorem kl_X6_100 : mIn (.constantLong RX6 100 (-7)) := mIn_of 1033 (by decide +kernel)
theorem kl_X6_102 : mIn (.constantLong RX6 102 (8)) := mIn_of 1034 (by decide +kernel)
theorem kl_X6_130 : mIn (.constantLong RX6 130 (10)) := mIn_of 1096 (by decide +kernel)
theorem kl_X6_135 : mIn (.constantLong RX6 135 (9)) := mIn_of 1101 (by decide +kernel)
theorem ml_X5_1 : mIn (.methodLink RX5 1 objectInit) := mIn_of 92 (by decide +kernel)
theorem mn_X5_17 : mIn' (.methodLinkNest RX5 17 yX4_init "GaugeHall") := mIn'_of 99 (by decide +kernel)
theorem ml_X5_30 : mIn (.methodLink RX5 30 yX5_isLabel) := mIn_of 215 (by decide +kernel)
theorem ml_X5_38 : mIn (.methodLink RX5 38 ⟨"java/lang/IllegalArgumentException", "<init>", "(Ljava/lang/String;)V"⟩) := mIn_of 263 (by decide +kernel)
theorem ml_X5_41 : mIn (.methodLink RX5 41 yX5_numberWith) := mIn_of 289 (by decide +kernel)
theorem ml_X5_49 : mIn (.methodLink RX5 49 ⟨"java/lang/IllegalStateException", "<init>", "(Ljava/lang/String;)V"⟩) := mIn_of 303 (by decide +kernel)
theorem mn_X5_52 : mIn' (.methodLinkNest RX5 52 yX2_init "GaugeHall") := mIn'_of 310 (by decide +kernel)
theorem ml_X5_57 : mIn (.methodLink RX5 57 yX5_rowOf) := mIn_of 389 (by decide +kernel)
theorem ml_X5_61 : mIn (.methodLink RX5 61 yX5_isValue) := mIn_of 409 (by decide +kernel)
theorem mn_X5_66 : mIn' (.methodLinkNest RX5 66 yX2_isFull "GaugeHall") := mIn'_of 413 (by decide +kernel)
theorem mn_X5_72 : mIn' (.methodLinkNest RX5 72 yX2_hasSampleAt "GaugeHall") := mIn'_of 418 (by decide +kernel)
theorem mn_X5_78 : mIn' (.methodLinkNest RX5 78 yX2_take "GaugeHall") := mIn'_of 423 (by decide +kernel)
theorem ml_X5_89 : mIn (.methodLink RX5 89 ⟨"java/util/NoSuchElementException", "<init>", "(Ljava/lang/String;)V"⟩) := mIn_of 403 (by decide +kernel)
theorem ml_X5_96 : mIn (.methodLink RX5 96 yX5_refuseEmpty) := mIn_of 537 (by decide +kernel)
theorem mn_X5_100 : mIn' (.methodLinkNest RX5 100 yX2_newestValue "GaugeHall") := mIn'_of 541 (by decide +kernel)
theorem mn_X5_104 : mIn' (.methodLinkNest RX5 104 yX2_blockCount "GaugeHall") := mIn'_of 552 (by decide +kernel)
theorem mn_X5_107 : mIn' (.methodLinkNest RX5 107 yX2_blockAt "GaugeHall") := mIn'_of 587 (by decide +kernel)
theorem ml_X5_115 : mIn (.methodLink RX5 115 ⟨"java/lang/IndexOutOfBoundsException", "<init>", "(Ljava/lang/String;)V"⟩) := mIn_of 598 (by decide +kernel)
theorem ml_X5_121 : mIn (.methodLink RX5 121 yX5_blockOfSample) := mIn_of 608 (by decide +kernel)
theorem mn_X5_125 : mIn' (.methodLinkNest RX5 125 yX1_timeOfSample "GaugeHall") := mIn'_of 612 (by decide +kernel)
theorem mn_X5_129 : mIn' (.methodLinkNest RX5 129 yX1_valueOfSample "GaugeHall") := mIn'_of 620 (by decide +kernel)
theorem mn_X5_133 : mIn' (.methodLinkNest RX5 133 yX2_blockBits "GaugeHall") := mIn'_of 141 (by decide +kernel)
theorem ml_X5_137 : mIn (.methodLink RX5 137 yX5_readBlocks) := mIn_of 628 (by decide +kernel)
theorem ml_X5_147 : mIn (.methodLink RX5 147 yX5_refuseBadRange) := mIn_of 632 (by decide +kernel)
theorem mn_X5_151 : mIn' (.methodLinkNest RX5 151 yX2_readSamples "GaugeHall") := mIn'_of 669 (by decide +kernel)
theorem ml_X5_162 : mIn (.methodLink RX5 162 ⟨"java/lang/ArithmeticException", "<init>", "(Ljava/lang/String;)V"⟩) := mIn_of 704 (by decide +kernel)
theorem mn_X5_167 : mIn' (.methodLinkNest RX5 167 yX2_readRollupsInside "GaugeHall") := mIn'_of 721 (by decide +kernel)
theorem ml_X5_170 : mIn (.methodLink RX5 170 yX5_readTouchingRollups) := mIn_of 736 (by decide +kernel)
theorem ml_X5_175 : mIn (.methodLink RX5 175 yX5_rowForQuantile) := mIn_of 759 (by decide +kernel)
theorem mn_X5_183 : mIn' (.methodLinkNest RX5 183 yX2_targetOf "GaugeHall") := mIn'_of 764 (by decide +kernel)
theorem mn_X5_186 : mIn' (.methodLinkNest RX5 186 yX3_leastReaching "GaugeHall") := mIn'_of 765 (by decide +kernel)
theorem mn_X5_191 : mIn' (.methodLinkNest RX5 191 yX2_leastReaching "GaugeHall") := mIn'_of 773 (by decide +kernel)
theorem mn_X5_195 : mIn' (.methodLinkNest RX5 195 yX3_heldValues "GaugeHall") := mIn'_of 791 (by decide +kernel)
theorem mn_X5_198 : mIn' (.methodLinkNest RX5 198 yX2_sketchIsWithin "GaugeHall") := mIn'_of 802 (by decide +kernel)
theorem mn_X5_207 : mIn' (.methodLinkNest RX5 207 yX0_init "GaugeHall") := mIn'_of 813 (by decide +kernel)
theorem mn_X5_208 : mIn' (.methodLinkNest RX5 208 yX0_see "GaugeHall") := mIn'_of 830 (by decide +kernel)
theorem mn_X5_215 : mIn' (.methodLinkNest RX5 215 yX0_stateAt "GaugeHall") := mIn'_of 154 (by decide +kernel)
theorem ml_X5_219 : mIn (.methodLink RX5 219 yX5_stateOfAlert) := mIn_of 838 (by decide +kernel)
theorem ml_X5_223 : mIn (.methodLink RX5 223 yX5_firingAlerts) := mIn_of 150 (by decide +kernel)
theorem ml_X5_226 : mIn (.methodLink RX5 226 yX5_refuseBadNames) := mIn_of 857 (by decide +kernel)
theorem ml_X5_229 : mIn (.methodLink RX5 229 yX5_rowWithSamples) := mIn_of 861 (by decide +kernel)
theorem mn_X5_234 : mIn' (.methodLinkNest RX5 234 yX2_holdsTogether "GaugeHall") := mIn'_of 163 (by decide +kernel)
theorem mn_X5_249 : mIn' (.methodLinkNest RX5 249 yX2_readBlocks "GaugeHall") := mIn'_of 636 (by decide +kernel)
theorem mn_X5_251 : mIn' (.methodLinkNest RX5 251 yX2_readRollupsTouching "GaugeHall") := mIn'_of 740 (by decide +kernel)
theorem ml_X0_3 : mIn (.methodLink RX0 3 objectInit) := mIn_of 816 (by decide +kernel)
theorem ml_X1_3 : mIn (.methodLink RX1 3 objectInit) := mIn_of 439 (by decide +kernel)
theorem ml_X1_42 : mIn (.methodLink RX1 42 yX1_timeStepBits) := mIn_of 474 (by decide +kernel)
theorem ml_X1_46 : mIn (.methodLink RX1 46 yX1_valueStepBits) := mIn_of 479 (by decide +kernel)
theorem mn_X1_54 : mIn' (.methodLinkNest RX1 54 yX4_take "GaugeHall") := mIn'_of 648 (by decide +kernel)
theorem ml_X2_3 : mIn (.methodLink RX2 3 objectInit) := mIn_of 313 (by decide +kernel)
theorem mn_X2_37 : mIn' (.methodLinkNest RX2 37 yX3_init "GaugeHall") := mIn'_of 317 (by decide +kernel)
theorem ml_X2_49 : mIn (.methodLink RX2 49 yX2_isFull) := mIn_of 427 (by decide +kernel)
theorem ml_X2_53 : mIn (.methodLink RX2 53 yX2_sortIn) := mIn_of 428 (by decide +kernel)
theorem ml_X2_57 : mIn (.methodLink RX2 57 yX2_toBlock) := mIn_of 432 (by decide +kernel)
theorem mn_X2_61 : mIn' (.methodLinkNest RX2 61 yX3_take "GaugeHall") := mIn'_of 482 (by decide +kernel)
theorem mn_X2_64 : mIn' (.methodLinkNest RX2 64 yX0_see "GaugeHall") := mIn'_of 497 (by decide +kernel)
theorem mn_X2_69 : mIn' (.methodLinkNest RX2 69 yX1_init "GaugeHall") := mIn'_of 436 (by decide +kernel)
theorem mn_X2_71 : mIn' (.methodLinkNest RX2 71 yX1_append "GaugeHall") := mIn'_of 470 (by decide +kernel)
theorem mn_X2_77 : mIn' (.methodLinkNest RX2 77 yX4_clear "GaugeHall") := mIn'_of 640 (by decide +kernel)
theorem mn_X2_82 : mIn' (.methodLinkNest RX2 82 yX1_read "GaugeHall") := mIn'_of 644 (by decide +kernel)
theorem mn_X2_86 : mIn' (.methodLinkNest RX2 86 yX4_take "GaugeHall") := mIn'_of 673 (by decide +kernel)
theorem ml_X2_87 : mIn (.methodLink RX2 87 yX2_rollupStart) := mIn_of 725 (by decide +kernel)
theorem ml_X2_93 : mIn (.methodLink RX2 93 yX2_targetOf) := mIn_of 193 (by decide +kernel)
theorem mn_X2_97 : mIn' (.methodLinkNest RX2 97 yX3_leastReaching "GaugeHall") := mIn'_of 197 (by decide +kernel)
theorem ml_X2_100 : mIn (.methodLink RX2 100 yX2_samplesUpTo) := mIn_of 202 (by decide +kernel)
theorem ml_X2_106 : mIn (.methodLink RX2 106 yX2_blocksTellWhatCame) := mIn_of 167 (by decide +kernel)
theorem mn_X2_109 : mIn' (.methodLinkNest RX2 109 yX3_weightUpTo "GaugeHall") := mIn'_of 184 (by decide +kernel)
theorem ml_X2_112 : mIn (.methodLink RX2 112 yX2_sketchIsWithin) := mIn_of 189 (by decide +kernel)
theorem ml_X2_116 : mIn (.methodLink RX2 116 yX2_blockAt) := mIn_of 171 (by decide +kernel)
theorem mn_X2_120 : mIn' (.methodLinkNest RX2 120 yX1_timeOfSample "GaugeHall") := mIn'_of 175 (by decide +kernel)
theorem mn_X2_124 : mIn' (.methodLinkNest RX2 124 yX1_valueOfSample "GaugeHall") := mIn'_of 180 (by decide +kernel)
theorem ml_X3_3 : mIn (.methodLink RX3 3 objectInit) := mIn_of 320 (by decide +kernel)
theorem ml_X3_27 : mIn (.methodLink RX3 27 yX3_put) := mIn_of 486 (by decide +kernel)
theorem ml_X3_31 : mIn (.methodLink RX3 31 yX3_halve) := mIn_of 490 (by decide +kernel)
theorem ml_X3_35 : mIn (.methodLink RX3 35 yX3_sort) := mIn_of 494 (by decide +kernel)
theorem ml_X3_39 : mIn (.methodLink RX3 39 yX3_weightUpTo) := mIn_of 201 (by decide +kernel)
theorem ml_X4_3 : mIn (.methodLink RX4 3 objectInit) := mIn_of 102 (by decide +kernel)
theorem ml_X4_22 : mIn (.methodLink RX4 22 ⟨"java/lang/Math", "max", "(II)I"⟩) := mIn_of 652 (by decide +kernel)
theorem ml_L_7 : mIn (.methodLink RL 7 yX5_open) := mIn_of 211 (by decide +kernel)
theorem ml_L_17 : mIn (.methodLink RL 17 yX5_pass) := mIn_of 376 (by decide +kernel)
theorem ml_L_21 : mIn (.methodLink RL 21 yX5_add) := mIn_of 385 (by decide +kernel)
theorem ml_L_26 : mIn (.methodLink RL 26 yX5_find) := mIn_of 504 (by decide +kernel)
theorem ml_L_29 : mIn (.methodLink RL 29 yX5_nameOf) := mIn_of 512 (by decide +kernel)
theorem ml_L_33 : mIn (.methodLink RL 33 yX5_hostOf) := mIn_of 519 (by decide +kernel)
theorem ml_L_36 : mIn (.methodLink RL 36 yX5_samples) := mIn_of 526 (by decide +kernel)
theorem ml_L_39 : mIn (.methodLink RL 39 yX5_latest) := mIn_of 533 (by decide +kernel)
theorem ml_L_42 : mIn (.methodLink RL 42 yX5_blocks) := mIn_of 548 (by decide +kernel)
theorem ml_L_45 : mIn (.methodLink RL 45 yX5_bitsOf) := mIn_of 583 (by decide +kernel)
theorem ml_L_50 : mIn (.methodLink RL 50 yX5_timeAt) := mIn_of 604 (by decide +kernel)
theorem ml_L_54 : mIn (.methodLink RL 54 yX5_valueAt) := mIn_of 616 (by decide +kernel)
theorem ml_L_57 : mIn (.methodLink RL 57 yX5_count) := mIn_of 624 (by decide +kernel)
theorem ml_L_61 : mIn (.methodLink RL 61 yX5_sum) := mIn_of 658 (by decide +kernel)
theorem ml_L_65 : mIn (.methodLink RL 65 yX5_sumByReading) := mIn_of 665 (by decide +kernel)
theorem ml_L_68 : mIn (.methodLink RL 68 yX5_maximum) := mIn_of 677 (by decide +kernel)
theorem ml_L_71 : mIn (.methodLink RL 71 yX5_mean) := mIn_of 699 (by decide +kernel)
theorem ml_L_77 : mIn (.methodLink RL 77 yX5_rollupCount) := mIn_of 708 (by decide +kernel)
theorem ml_L_80 : mIn (.methodLink RL 80 yX5_countLow) := mIn_of 717 (by decide +kernel)
theorem ml_L_83 : mIn (.methodLink RL 83 yX5_countHigh) := mIn_of 732 (by decide +kernel)
theorem ml_L_86 : mIn (.methodLink RL 86 yX5_maximumHigh) := mIn_of 747 (by decide +kernel)
theorem ml_L_89 : mIn (.methodLink RL 89 yX5_quantile) := mIn_of 755 (by decide +kernel)
theorem ml_L_92 : mIn (.methodLink RL 92 yX5_exactQuantile) := mIn_of 769 (by decide +kernel)
theorem ml_L_95 : mIn (.methodLink RL 95 yX5_bound) := mIn_of 780 (by decide +kernel)
theorem ml_L_98 : mIn (.methodLink RL 98 yX5_held) := mIn_of 787 (by decide +kernel)
theorem ml_L_101 : mIn (.methodLink RL 101 yX5_isWithin) := mIn_of 798 (by decide +kernel)
theorem ml_L_105 : mIn (.methodLink RL 105 yX5_setAlert) := mIn_of 806 (by decide +kernel)
theorem ml_L_109 : mIn (.methodLink RL 109 yX5_removeAlert) := mIn_of 834 (by decide +kernel)
theorem ml_L_113 : mIn (.methodLink RL 113 yX5_alertOf) := mIn_of 846 (by decide +kernel)
theorem ml_L_116 : mIn (.methodLink RL 116 yX5_joinCount) := mIn_of 853 (by decide +kernel)
theorem ml_L_119 : mIn (.methodLink RL 119 yX5_joinSum) := mIn_of 868 (by decide +kernel)
theorem ml_L_122 : mIn (.methodLink RL 122 yX5_firingShare) := mIn_of 875 (by decide +kernel)
theorem ml_L_126 : mIn (.methodLink RL 126 yX5_init) := mIn_of 89 (by decide +kernel)
theorem ml_L_129 : mIn (.methodLink RL 129 yX6_init) := mIn_of 882 (by decide +kernel)
theorem ml_L_130 : mIn (.methodLink RL 130 yL_open) := mIn_of 206 (by decide +kernel)
theorem ml_L_135 : mIn (.methodLink RL 135 yX6_open) := mIn_of 942 (by decide +kernel)
theorem ml_L_136 : mIn (.methodLink RL 136 yX6_thrown) := mIn_of 938 (by decide +kernel)
theorem ml_L_140 : mIn (.methodLink RL 140 yL_pass) := mIn_of 373 (by decide +kernel)
theorem ml_L_143 : mIn (.methodLink RL 143 yX6_pass) := mIn_of 957 (by decide +kernel)
theorem ml_L_144 : mIn (.methodLink RL 144 yL_add) := mIn_of 381 (by decide +kernel)
theorem ml_L_146 : mIn (.methodLink RL 146 yX6_add) := mIn_of 961 (by decide +kernel)
theorem ml_L_147 : mIn (.methodLink RL 147 yX5_time) := mIn_of 129 (by decide +kernel)
theorem ml_L_151 : mIn (.methodLink RL 151 yX6_time_) := mIn_of 981 (by decide +kernel)
theorem ml_L_152 : mIn (.methodLink RL 152 yX5_seriesCount) := mIn_of 133 (by decide +kernel)
theorem ml_L_155 : mIn (.methodLink RL 155 yX6_seriesCount) := mIn_of 985 (by decide +kernel)
theorem ml_L_156 : mIn (.methodLink RL 156 yL_find) := mIn_of 501 (by decide +kernel)
theorem ml_L_158 : mIn (.methodLink RL 158 yX6_find) := mIn_of 989 (by decide +kernel)
theorem ml_L_159 : mIn (.methodLink RL 159 yL_nameOf) := mIn_of 509 (by decide +kernel)
theorem ml_L_161 : mIn (.methodLink RL 161 yX6_nameOf) := mIn_of 993 (by decide +kernel)
theorem ml_L_162 : mIn (.methodLink RL 162 yL_hostOf) := mIn_of 516 (by decide +kernel)
theorem ml_L_164 : mIn (.methodLink RL 164 yX6_hostOf) := mIn_of 997 (by decide +kernel)
theorem ml_L_165 : mIn (.methodLink RL 165 yL_samples) := mIn_of 523 (by decide +kernel)
theorem ml_L_167 : mIn (.methodLink RL 167 yX6_samples) := mIn_of 1001 (by decide +kernel)
theorem ml_L_168 : mIn (.methodLink RL 168 yL_latest) := mIn_of 530 (by decide +kernel)
theorem ml_L_170 : mIn (.methodLink RL 170 yX6_latest) := mIn_of 1005 (by decide +kernel)
theorem ml_L_171 : mIn (.methodLink RL 171 yL_blocks) := mIn_of 545 (by decide +kernel)
theorem ml_L_173 : mIn (.methodLink RL 173 yX6_blocks) := mIn_of 1017 (by decide +kernel)
theorem ml_L_174 : mIn (.methodLink RL 174 yL_bitsOf) := mIn_of 556 (by decide +kernel)
theorem ml_L_176 : mIn (.methodLink RL 176 yX6_bitsOf) := mIn_of 1025 (by decide +kernel)
theorem ml_L_177 : mIn (.methodLink RL 177 yL_timeAt) := mIn_of 601 (by decide +kernel)
theorem ml_L_179 : mIn (.methodLink RL 179 yX6_timeAt) := mIn_of 1035 (by decide +kernel)
theorem ml_L_180 : mIn (.methodLink RL 180 yL_valueAt) := mIn_of 613 (by decide +kernel)
theorem ml_L_182 : mIn (.methodLink RL 182 yX6_valueAt) := mIn_of 1043 (by decide +kernel)
theorem ml_L_183 : mIn (.methodLink RL 183 yX5_allBits) := mIn_of 137 (by decide +kernel)
theorem ml_L_186 : mIn (.methodLink RL 186 yX6_allBits) := mIn_of 1047 (by decide +kernel)
theorem ml_L_189 : mIn (.methodLink RL 189 yL_count) := mIn_of 621 (by decide +kernel)
theorem ml_L_192 : mIn (.methodLink RL 192 yX6_count) := mIn_of 1051 (by decide +kernel)
theorem ml_L_193 : mIn (.methodLink RL 193 yL_sum) := mIn_of 655 (by decide +kernel)
theorem ml_L_195 : mIn (.methodLink RL 195 yX6_sum) := mIn_of 1067 (by decide +kernel)
theorem ml_L_196 : mIn (.methodLink RL 196 yL_sumByReading) := mIn_of 662 (by decide +kernel)
theorem ml_L_198 : mIn (.methodLink RL 198 yX6_sumByReading) := mIn_of 1075 (by decide +kernel)
theorem ml_L_199 : mIn (.methodLink RL 199 yL_maximum) := mIn_of 674 (by decide +kernel)
theorem ml_L_201 : mIn (.methodLink RL 201 yX6_maximum) := mIn_of 1080 (by decide +kernel)
theorem ml_L_202 : mIn (.methodLink RL 202 yL_mean) := mIn_of 682 (by decide +kernel)
theorem ml_L_205 : mIn (.methodLink RL 205 yX6_mean) := mIn_of 1084 (by decide +kernel)
theorem ml_L_206 : mIn (.methodLink RL 206 yL_rollupCount) := mIn_of 705 (by decide +kernel)
theorem ml_L_208 : mIn (.methodLink RL 208 yX6_rollupCount) := mIn_of 1088 (by decide +kernel)
theorem ml_L_209 : mIn (.methodLink RL 209 yL_countLow) := mIn_of 714 (by decide +kernel)
theorem ml_L_211 : mIn (.methodLink RL 211 yX6_countLow) := mIn_of 1097 (by decide +kernel)
theorem ml_L_212 : mIn (.methodLink RL 212 yL_countHigh) := mIn_of 729 (by decide +kernel)
theorem ml_L_214 : mIn (.methodLink RL 214 yX6_countHigh) := mIn_of 1102 (by decide +kernel)
theorem ml_L_215 : mIn (.methodLink RL 215 yL_maximumHigh) := mIn_of 744 (by decide +kernel)
theorem ml_L_217 : mIn (.methodLink RL 217 yX6_maximumHigh) := mIn_of 1110 (by decide +kernel)
theorem ml_L_218 : mIn (.methodLink RL 218 yL_quantile) := mIn_of 752 (by decide +kernel)
theorem ml_L_220 : mIn (.methodLink RL 220 yX6_quantile) := mIn_of 1114 (by decide +kernel)
theorem ml_L_221 : mIn (.methodLink RL 221 yL_exactQuantile) := mIn_of 766 (by decide +kernel)
theorem ml_L_223 : mIn (.methodLink RL 223 yX6_exactQuantile) := mIn_of 1134 (by decide +kernel)
theorem ml_L_224 : mIn (.methodLink RL 224 yL_bound) := mIn_of 777 (by decide +kernel)
theorem ml_L_226 : mIn (.methodLink RL 226 yX6_bound) := mIn_of 1142 (by decide +kernel)
theorem ml_L_227 : mIn (.methodLink RL 227 yL_held) := mIn_of 784 (by decide +kernel)
theorem ml_L_229 : mIn (.methodLink RL 229 yX6_held) := mIn_of 1146 (by decide +kernel)
theorem ml_L_230 : mIn (.methodLink RL 230 yL_isWithin) := mIn_of 795 (by decide +kernel)
theorem ml_L_232 : mIn (.methodLink RL 232 yX6_isWithin) := mIn_of 1150 (by decide +kernel)
theorem ml_L_233 : mIn (.methodLink RL 233 yL_setAlert) := mIn_of 803 (by decide +kernel)
theorem ml_L_236 : mIn (.methodLink RL 236 yX6_setAlert) := mIn_of 1154 (by decide +kernel)
theorem ml_L_237 : mIn (.methodLink RL 237 yL_removeAlert) := mIn_of 831 (by decide +kernel)
theorem ml_L_239 : mIn (.methodLink RL 239 yX6_removeAlert) := mIn_of 1162 (by decide +kernel)
theorem ml_L_240 : mIn (.methodLink RL 240 yL_alertOf) := mIn_of 843 (by decide +kernel)
theorem ml_L_242 : mIn (.methodLink RL 242 yX6_alertOf) := mIn_of 1170 (by decide +kernel)
theorem ml_L_243 : mIn (.methodLink RL 243 yX5_firing) := mIn_of 146 (by decide +kernel)
theorem ml_L_246 : mIn (.methodLink RL 246 yX6_firing) := mIn_of 1174 (by decide +kernel)
theorem ml_L_247 : mIn (.methodLink RL 247 yL_joinCount) := mIn_of 850 (by decide +kernel)
theorem ml_L_249 : mIn (.methodLink RL 249 yX6_joinCount) := mIn_of 1178 (by decide +kernel)
theorem ml_L_250 : mIn (.methodLink RL 250 yL_joinSum) := mIn_of 865 (by decide +kernel)
theorem ml_L_252 : mIn (.methodLink RL 252 yX6_joinSum) := mIn_of 1190 (by decide +kernel)
theorem ml_L_253 : mIn (.methodLink RL 253 yL_firingShare) := mIn_of 872 (by decide +kernel)
theorem ml_L_256 : mIn (.methodLink RL 256 yX6_firingShare) := mIn_of 1194 (by decide +kernel)
theorem ml_L_257 : mIn (.methodLink RL 257 yX5_isConsistent) := mIn_of 159 (by decide +kernel)
theorem ml_L_261 : mIn (.methodLink RL 261 yX6_isConsistent) := mIn_of 1199 (by decide +kernel)
theorem ml_X6_1 : mIn (.methodLink RX6 1 objectInit) := mIn_of 885 (by decide +kernel)
theorem ml_X6_60 : mIn (.methodLink RX6 60 yX6_isIn) := mIn_of 946 (by decide +kernel)
theorem ml_X6_64 : mIn (.methodLink RX6 64 yX6_value) := mIn_of 1013 (by decide +kernel)
theorem ml_X6_68 : mIn (.methodLink RX6 68 yX6_fail) := mIn_of 949 (by decide +kernel)
theorem ml_X6_72 : mIn (.methodLink RX6 72 yX6_search) := mIn_of 953 (by decide +kernel)
theorem ml_X6_79 : mIn (.methodLink RX6 79 yX6_holds) := mIn_of 973 (by decide +kernel)
theorem ml_X6_83 : mIn (.methodLink RX6 83 yX6_looks) := mIn_of 965 (by decide +kernel)
theorem ml_X6_87 : mIn (.methodLink RX6 87 yX6_time) := mIn_of 969 (by decide +kernel)
theorem ml_X6_91 : mIn (.methodLink RX6 91 yX6_halves) := mIn_of 977 (by decide +kernel)
theorem ml_X6_95 : mIn (.methodLink RX6 95 yX6_last) := mIn_of 1009 (by decide +kernel)
theorem ml_X6_98 : mIn (.methodLink RX6 98 yX6_many) := mIn_of 1021 (by decide +kernel)
theorem ml_X6_104 : mIn (.methodLink RX6 104 yX6_bits) := mIn_of 1029 (by decide +kernel)
theorem ml_X6_107 : mIn (.methodLink RX6 107 yX6_isSample) := mIn_of 1039 (by decide +kernel)
theorem ml_X6_111 : mIn (.methodLink RX6 111 yX6_isInside) := mIn_of 1063 (by decide +kernel)
theorem ml_X6_115 : mIn (.methodLink RX6 115 yX6_isRange) := mIn_of 1055 (by decide +kernel)
theorem ml_X6_119 : mIn (.methodLink RX6 119 yX6_counted) := mIn_of 1059 (by decide +kernel)
theorem ml_X6_123 : mIn (.methodLink RX6 123 yX6_summed) := mIn_of 1071 (by decide +kernel)
theorem ml_X6_127 : mIn (.methodLink RX6 127 yX6_sum) := mIn_of 1079 (by decide +kernel)
theorem ml_X6_132 : mIn (.methodLink RX6 132 yX6_begin) := mIn_of 1092 (by decide +kernel)
theorem ml_X6_137 : mIn (.methodLink RX6 137 yX6_isTouched) := mIn_of 1106 (by decide +kernel)
theorem ml_X6_140 : mIn (.methodLink RX6 140 yX6_standing) := mIn_of 1126 (by decide +kernel)
theorem ml_X6_143 : mIn (.methodLink RX6 143 yX6_target) := mIn_of 1130 (by decide +kernel)
theorem ml_X6_146 : mIn (.methodLink RX6 146 yX6_isPart) := mIn_of 1118 (by decide +kernel)
theorem ml_X6_149 : mIn (.methodLink RX6 149 yX6_sketched) := mIn_of 1122 (by decide +kernel)
theorem ml_X6_152 : mIn (.methodLink RX6 152 yX6_upTo) := mIn_of 1138 (by decide +kernel)
theorem ml_X6_155 : mIn (.methodLink RX6 155 yX6_state) := mIn_of 1158 (by decide +kernel)
theorem ml_X6_159 : mIn (.methodLink RX6 159 yX6_isSet) := mIn_of 1166 (by decide +kernel)
theorem ml_X6_162 : mIn (.methodLink RX6 162 yX6_areNames) := mIn_of 1182 (by decide +kernel)
theorem ml_X6_165 : mIn (.methodLink RX6 165 yX6_joined) := mIn_of 1186 (by decide +kernel)
theorem ml_X6_169 : mIn (.methodLink RX6 169 yX6_firing) := mIn_of 1198 (by decide +kernel)
theorem ci_X0 : mIn (.instantiable RX0 4) := mIn_of 157 (by decide +kernel)
theorem cn_X0 : mIn (.initialized RX0) := mIn_of 86 (by decide +kernel)
theorem ci_X1 : mIn (.instantiable RX1 9) := mIn_of 178 (by decide +kernel)
theorem cn_X1 : mIn (.initialized RX1) := mIn_of 80 (by decide +kernel)
theorem ci_X2 : mIn (.instantiable RX2 9) := mIn_of 144 (by decide +kernel)
theorem cn_X2 : mIn (.initialized RX2) := mIn_of 77 (by decide +kernel)
theorem ci_X3 : mIn (.instantiable RX3 4) := mIn_of 187 (by decide +kernel)
theorem cn_X3 : mIn (.initialized RX3) := mIn_of 78 (by decide +kernel)
theorem ci_X4 : mIn (.instantiable RX4 3) := mIn_of 98 (by decide +kernel)
theorem cn_X4 : mIn (.initialized RX4) := mIn_of 70 (by decide +kernel)
theorem ci_X5 : mIn (.instantiable RX5 4) := mIn_of 88 (by decide +kernel)
theorem cn_X5 : mIn (.initialized RX5) := mIn_of 69 (by decide +kernel)
theorem ci_X6 : mIn (.instantiable RX6 17) := mIn_of 881 (by decide +kernel)
theorem cn_X6 : mIn (.initialized RX6) := mIn_of 71 (by decide +kernel)
theorem wa_long : mIn (.arrayClass .long) := mIn_of 338 (by decide +kernel)
theorem wa_int : mIn (.arrayClass .int) := mIn_of 339 (by decide +kernel)
theorem wa_double : mIn (.arrayClass .double) := mIn_of 1204 (by decide +kernel)
theorem yi_X0_init : mYi yX0_init cX0_init 3 2 := ⟨mIn_of 814 (by decide +kernel), rfl, mIn_of 86 (by decide +kernel), mIn_of 815 (by decide +kernel), by decide +kernel, by decide +kernel, by decide +kernel⟩
theorem yi_X0_see : mYv yX0_see RX0 cX0_see 4 none 2 := ⟨mIn_of 499 (by decide +kernel), mIn_of 25 (by decide +kernel), mIn_of 86 (by decide +kernel), mIn_of 500 (by decide +kernel), by decide +kernel, by decide +kernel, by decide +kernel⟩
theorem yi_X0_stateAt : mYv yX0_stateAt RX0 cX0_stateAt 3 (some .char) 1 := ⟨mIn_of 156 (by decide +kernel), mIn_of 2 (by decide +kernel), mIn_of 86 (by decide +kernel), mIn_of 158 (by decide +kernel), by decide +kernel, by decide +kernel, by decide +kernel⟩
theorem yi_X1_init : mYi yX1_init cX1_init 4 2 := ⟨mIn_of 437 (by decide +kernel), rfl, mIn_of 80 (by decide +kernel), mIn_of 438 (by decide +kernel), by decide +kernel, by decide +kernel, by decide +kernel⟩
theorem yi_X1_append : mYv yX1_append RX1 cX1_append 6 none 2 := ⟨mIn_of 472 (by decide +kernel), mIn_of 21 (by decide +kernel), mIn_of 80 (by decide +kernel), mIn_of 473 (by decide +kernel), by decide +kernel, by decide +kernel, by decide +kernel⟩
theorem yi_X1_timeStepBits : mYs yX1_timeStepBits cX1_timeStepBits 2 (some .int) 1 := ⟨mIn_of 475 (by decide +kernel), mIn_of 80 (by decide +kernel), mIn_of 476 (by decide +kernel), by decide +kernel, by decide +kernel, by decide +kernel⟩
theorem yi_X1_valueStepBits : mYs yX1_valueStepBits cX1_valueStepBits 1 (some .int) 1 := ⟨mIn_of 480 (by decide +kernel), mIn_of 80 (by decide +kernel), mIn_of 481 (by decide +kernel), by decide +kernel, by decide +kernel, by decide +kernel⟩
theorem yi_X1_timeOfSample : mYv yX1_timeOfSample RX1 cX1_timeOfSample 7 (some .long) 1 := ⟨mIn_of 177 (by decide +kernel), mIn_of 6 (by decide +kernel), mIn_of 80 (by decide +kernel), mIn_of 179 (by decide +kernel), by decide +kernel, by decide +kernel, by decide +kernel⟩
theorem yi_X1_valueOfSample : mYv yX1_valueOfSample RX1 cX1_valueOfSample 4 (some .int) 1 := ⟨mIn_of 182 (by decide +kernel), mIn_of 7 (by decide +kernel), mIn_of 80 (by decide +kernel), mIn_of 183 (by decide +kernel), by decide +kernel, by decide +kernel, by decide +kernel⟩
theorem yi_X1_read : mYv yX1_read RX1 cX1_read 12 none 3 := ⟨mIn_of 646 (by decide +kernel), mIn_of 31 (by decide +kernel), mIn_of 80 (by decide +kernel), mIn_of 647 (by decide +kernel), by decide +kernel, by decide +kernel, by decide +kernel⟩
theorem yi_X2_init : mYi yX2_init cX2_init 3 2 := ⟨mIn_of 311 (by decide +kernel), rfl, mIn_of 77 (by decide +kernel), mIn_of 312 (by decide +kernel), by decide +kernel, by decide +kernel, by decide +kernel⟩
theorem yi_X2_isFull : mYv yX2_isFull RX2 cX2_isFull 1 (some .boolean) 0 := ⟨mIn_of 415 (by decide +kernel), mIn_of 16 (by decide +kernel), mIn_of 77 (by decide +kernel), mIn_of 416 (by decide +kernel), by decide +kernel, by decide +kernel, by decide +kernel⟩
theorem yi_X2_hasSampleAt : mYv yX2_hasSampleAt RX2 cX2_hasSampleAt 3 (some .boolean) 1 := ⟨mIn_of 420 (by decide +kernel), mIn_of 17 (by decide +kernel), mIn_of 77 (by decide +kernel), mIn_of 421 (by decide +kernel), by decide +kernel, by decide +kernel, by decide +kernel⟩
theorem yi_X2_newestValue : mYv yX2_newestValue RX2 cX2_newestValue 1 (some .int) 0 := ⟨mIn_of 543 (by decide +kernel), mIn_of 26 (by decide +kernel), mIn_of 77 (by decide +kernel), mIn_of 544 (by decide +kernel), by decide +kernel, by decide +kernel, by decide +kernel⟩
theorem yi_X2_take : mYv yX2_take RX2 cX2_take 4 none 2 := ⟨mIn_of 425 (by decide +kernel), mIn_of 18 (by decide +kernel), mIn_of 77 (by decide +kernel), mIn_of 426 (by decide +kernel), by decide +kernel, by decide +kernel, by decide +kernel⟩
theorem yi_X2_sortIn : mYv yX2_sortIn RX2 cX2_sortIn 3 none 1 := ⟨mIn_of 430 (by decide +kernel), mIn_of 19 (by decide +kernel), mIn_of 77 (by decide +kernel), mIn_of 431 (by decide +kernel), by decide +kernel, by decide +kernel, by decide +kernel⟩
theorem yi_X2_toBlock : mYv yX2_toBlock RX2 cX2_toBlock 6 none 2 := ⟨mIn_of 434 (by decide +kernel), mIn_of 20 (by decide +kernel), mIn_of 77 (by decide +kernel), mIn_of 435 (by decide +kernel), by decide +kernel, by decide +kernel, by decide +kernel⟩
theorem yi_X2_blockAt : mYv yX2_blockAt RX2 cX2_blockAt 2 (some (.object "GaugeHall$Block")) 1 := ⟨mIn_of 173 (by decide +kernel), mIn_of 5 (by decide +kernel), mIn_of 77 (by decide +kernel), mIn_of 174 (by decide +kernel), by decide +kernel, by decide +kernel, by decide +kernel⟩
theorem yi_X2_blockCount : mYv yX2_blockCount RX2 cX2_blockCount 1 (some .int) 0 := ⟨mIn_of 554 (by decide +kernel), mIn_of 27 (by decide +kernel), mIn_of 77 (by decide +kernel), mIn_of 555 (by decide +kernel), by decide +kernel, by decide +kernel, by decide +kernel⟩
theorem yi_X2_blockBits : mYv yX2_blockBits RX2 cX2_blockBits 7 (some .long) 0 := ⟨mIn_of 143 (by decide +kernel), mIn_of 0 (by decide +kernel), mIn_of 77 (by decide +kernel), mIn_of 145 (by decide +kernel), by decide +kernel, by decide +kernel, by decide +kernel⟩
theorem yi_X2_readBlocks : mYv yX2_readBlocks RX2 cX2_readBlocks 10 none 3 := ⟨mIn_of 638 (by decide +kernel), mIn_of 29 (by decide +kernel), mIn_of 77 (by decide +kernel), mIn_of 639 (by decide +kernel), by decide +kernel, by decide +kernel, by decide +kernel⟩
theorem yi_X2_readSamples : mYv yX2_readSamples RX2 cX2_readSamples 7 none 3 := ⟨mIn_of 671 (by decide +kernel), mIn_of 33 (by decide +kernel), mIn_of 77 (by decide +kernel), mIn_of 672 (by decide +kernel), by decide +kernel, by decide +kernel, by decide +kernel⟩
theorem yi_X2_readRollupsInside : mYv yX2_readRollupsInside RX2 cX2_readRollupsInside 9 none 3 := ⟨mIn_of 723 (by decide +kernel), mIn_of 34 (by decide +kernel), mIn_of 77 (by decide +kernel), mIn_of 724 (by decide +kernel), by decide +kernel, by decide +kernel, by decide +kernel⟩
theorem yi_X2_readRollupsTouching : mYv yX2_readRollupsTouching RX2 cX2_readRollupsTouching 9 none 3 := ⟨mIn_of 742 (by decide +kernel), mIn_of 36 (by decide +kernel), mIn_of 77 (by decide +kernel), mIn_of 743 (by decide +kernel), by decide +kernel, by decide +kernel, by decide +kernel⟩
theorem yi_X2_rollupStart : mYs yX2_rollupStart cX2_rollupStart 2 (some .long) 1 := ⟨mIn_of 726 (by decide +kernel), mIn_of 77 (by decide +kernel), mIn_of 727 (by decide +kernel), by decide +kernel, by decide +kernel, by decide +kernel⟩
theorem yi_X2_targetOf : mYv yX2_targetOf RX2 cX2_targetOf 2 (some .int) 1 := ⟨mIn_of 195 (by decide +kernel), mIn_of 10 (by decide +kernel), mIn_of 77 (by decide +kernel), mIn_of 196 (by decide +kernel), by decide +kernel, by decide +kernel, by decide +kernel⟩
theorem yi_X2_leastReaching : mYv yX2_leastReaching RX2 cX2_leastReaching 2 (some .int) 1 := ⟨mIn_of 775 (by decide +kernel), mIn_of 38 (by decide +kernel), mIn_of 77 (by decide +kernel), mIn_of 776 (by decide +kernel), by decide +kernel, by decide +kernel, by decide +kernel⟩
theorem yi_X2_sketchIsWithin : mYv yX2_sketchIsWithin RX2 cX2_sketchIsWithin 4 (some .boolean) 1 := ⟨mIn_of 191 (by decide +kernel), mIn_of 9 (by decide +kernel), mIn_of 77 (by decide +kernel), mIn_of 192 (by decide +kernel), by decide +kernel, by decide +kernel, by decide +kernel⟩
theorem yi_X2_samplesUpTo : mYv yX2_samplesUpTo RX2 cX2_samplesUpTo 3 (some .int) 1 := ⟨mIn_of 204 (by decide +kernel), mIn_of 12 (by decide +kernel), mIn_of 77 (by decide +kernel), mIn_of 205 (by decide +kernel), by decide +kernel, by decide +kernel, by decide +kernel⟩
theorem yi_X2_holdsTogether : mYv yX2_holdsTogether RX2 cX2_holdsTogether 1 (some .boolean) 0 := ⟨mIn_of 165 (by decide +kernel), mIn_of 3 (by decide +kernel), mIn_of 77 (by decide +kernel), mIn_of 166 (by decide +kernel), by decide +kernel, by decide +kernel, by decide +kernel⟩
theorem yi_X2_blocksTellWhatCame : mYv yX2_blocksTellWhatCame RX2 cX2_blocksTellWhatCame 4 (some .boolean) 0 := ⟨mIn_of 169 (by decide +kernel), mIn_of 4 (by decide +kernel), mIn_of 77 (by decide +kernel), mIn_of 170 (by decide +kernel), by decide +kernel, by decide +kernel, by decide +kernel⟩
theorem yi_X3_init : mYi yX3_init cX3_init 1 0 := ⟨mIn_of 318 (by decide +kernel), rfl, mIn_of 78 (by decide +kernel), mIn_of 319 (by decide +kernel), by decide +kernel, by decide +kernel, by decide +kernel⟩
theorem yi_X3_take : mYv yX3_take RX3 cX3_take 3 none 1 := ⟨mIn_of 484 (by decide +kernel), mIn_of 22 (by decide +kernel), mIn_of 78 (by decide +kernel), mIn_of 485 (by decide +kernel), by decide +kernel, by decide +kernel, by decide +kernel⟩
theorem yi_X3_put : mYv yX3_put RX3 cX3_put 4 none 2 := ⟨mIn_of 488 (by decide +kernel), mIn_of 23 (by decide +kernel), mIn_of 78 (by decide +kernel), mIn_of 489 (by decide +kernel), by decide +kernel, by decide +kernel, by decide +kernel⟩
theorem yi_X3_halve : mYv yX3_halve RX3 cX3_halve 4 none 1 := ⟨mIn_of 492 (by decide +kernel), mIn_of 24 (by decide +kernel), mIn_of 78 (by decide +kernel), mIn_of 493 (by decide +kernel), by decide +kernel, by decide +kernel, by decide +kernel⟩
theorem yi_X3_sort : mYs yX3_sort cX3_sort 4 none 1 := ⟨mIn_of 495 (by decide +kernel), mIn_of 78 (by decide +kernel), mIn_of 496 (by decide +kernel), by decide +kernel, by decide +kernel, by decide +kernel⟩
theorem yi_X3_heldValues : mYv yX3_heldValues RX3 cX3_heldValues 6 (some .int) 0 := ⟨mIn_of 793 (by decide +kernel), mIn_of 39 (by decide +kernel), mIn_of 78 (by decide +kernel), mIn_of 794 (by decide +kernel), by decide +kernel, by decide +kernel, by decide +kernel⟩
theorem yi_X3_weightUpTo : mYv yX3_weightUpTo RX3 cX3_weightUpTo 6 (some .int) 1 := ⟨mIn_of 186 (by decide +kernel), mIn_of 8 (by decide +kernel), mIn_of 78 (by decide +kernel), mIn_of 188 (by decide +kernel), by decide +kernel, by decide +kernel, by decide +kernel⟩
theorem yi_X3_leastReaching : mYv yX3_leastReaching RX3 cX3_leastReaching 6 (some .int) 1 := ⟨mIn_of 199 (by decide +kernel), mIn_of 11 (by decide +kernel), mIn_of 78 (by decide +kernel), mIn_of 200 (by decide +kernel), by decide +kernel, by decide +kernel, by decide +kernel⟩
theorem yi_X4_init : mYi yX4_init cX4_init 1 0 := ⟨mIn_of 100 (by decide +kernel), rfl, mIn_of 70 (by decide +kernel), mIn_of 101 (by decide +kernel), by decide +kernel, by decide +kernel, by decide +kernel⟩
theorem yi_X4_clear : mYv yX4_clear RX4 cX4_clear 1 none 0 := ⟨mIn_of 642 (by decide +kernel), mIn_of 30 (by decide +kernel), mIn_of 70 (by decide +kernel), mIn_of 643 (by decide +kernel), by decide +kernel, by decide +kernel, by decide +kernel⟩
theorem yi_X4_take : mYv yX4_take RX4 cX4_take 2 none 1 := ⟨mIn_of 650 (by decide +kernel), mIn_of 32 (by decide +kernel), mIn_of 70 (by decide +kernel), mIn_of 651 (by decide +kernel), by decide +kernel, by decide +kernel, by decide +kernel⟩
theorem yi_X5_init : mYi yX5_init cX5_init 1 0 := ⟨mIn_of 90 (by decide +kernel), rfl, mIn_of 69 (by decide +kernel), mIn_of 91 (by decide +kernel), by decide +kernel, by decide +kernel, by decide +kernel⟩
theorem yi_X5_open : mYv yX5_open RX5 cX5_open 3 (some .int) 2 := ⟨mIn_of 212 (by decide +kernel), mIn_of 213 (by decide +kernel), mIn_of 69 (by decide +kernel), mIn_of 214 (by decide +kernel), by decide +kernel, by decide +kernel, by decide +kernel⟩
theorem yi_X5_pass : mYv yX5_pass RX5 cX5_pass 2 (some .long) 1 := ⟨mIn_of 377 (by decide +kernel), mIn_of 378 (by decide +kernel), mIn_of 69 (by decide +kernel), mIn_of 379 (by decide +kernel), by decide +kernel, by decide +kernel, by decide +kernel⟩
theorem yi_X5_add : mYv yX5_add RX5 cX5_add 4 (some .int) 2 := ⟨mIn_of 386 (by decide +kernel), mIn_of 387 (by decide +kernel), mIn_of 69 (by decide +kernel), mIn_of 388 (by decide +kernel), by decide +kernel, by decide +kernel, by decide +kernel⟩
theorem yi_X5_time : mYv yX5_time RX5 cX5_time 1 (some .long) 0 := ⟨mIn_of 130 (by decide +kernel), mIn_of 131 (by decide +kernel), mIn_of 69 (by decide +kernel), mIn_of 132 (by decide +kernel), by decide +kernel, by decide +kernel, by decide +kernel⟩
theorem yi_X5_seriesCount : mYv yX5_seriesCount RX5 cX5_seriesCount 1 (some .int) 0 := ⟨mIn_of 134 (by decide +kernel), mIn_of 135 (by decide +kernel), mIn_of 69 (by decide +kernel), mIn_of 136 (by decide +kernel), by decide +kernel, by decide +kernel, by decide +kernel⟩
theorem yi_X5_find : mYv yX5_find RX5 cX5_find 4 (some .int) 2 := ⟨mIn_of 505 (by decide +kernel), mIn_of 506 (by decide +kernel), mIn_of 69 (by decide +kernel), mIn_of 507 (by decide +kernel), by decide +kernel, by decide +kernel, by decide +kernel⟩
theorem yi_X5_nameOf : mYv yX5_nameOf RX5 cX5_nameOf 2 (some .int) 1 := ⟨mIn_of 513 (by decide +kernel), mIn_of 514 (by decide +kernel), mIn_of 69 (by decide +kernel), mIn_of 515 (by decide +kernel), by decide +kernel, by decide +kernel, by decide +kernel⟩
theorem yi_X5_hostOf : mYv yX5_hostOf RX5 cX5_hostOf 2 (some .int) 1 := ⟨mIn_of 520 (by decide +kernel), mIn_of 521 (by decide +kernel), mIn_of 69 (by decide +kernel), mIn_of 522 (by decide +kernel), by decide +kernel, by decide +kernel, by decide +kernel⟩
theorem yi_X5_samples : mYv yX5_samples RX5 cX5_samples 2 (some .int) 1 := ⟨mIn_of 527 (by decide +kernel), mIn_of 528 (by decide +kernel), mIn_of 69 (by decide +kernel), mIn_of 529 (by decide +kernel), by decide +kernel, by decide +kernel, by decide +kernel⟩
theorem yi_X5_latest : mYv yX5_latest RX5 cX5_latest 3 (some .int) 1 := ⟨mIn_of 534 (by decide +kernel), mIn_of 535 (by decide +kernel), mIn_of 69 (by decide +kernel), mIn_of 536 (by decide +kernel), by decide +kernel, by decide +kernel, by decide +kernel⟩
theorem yi_X5_blocks : mYv yX5_blocks RX5 cX5_blocks 2 (some .int) 1 := ⟨mIn_of 549 (by decide +kernel), mIn_of 550 (by decide +kernel), mIn_of 69 (by decide +kernel), mIn_of 551 (by decide +kernel), by decide +kernel, by decide +kernel, by decide +kernel⟩
theorem yi_X5_bitsOf : mYv yX5_bitsOf RX5 cX5_bitsOf 4 (some .int) 2 := ⟨mIn_of 584 (by decide +kernel), mIn_of 585 (by decide +kernel), mIn_of 69 (by decide +kernel), mIn_of 586 (by decide +kernel), by decide +kernel, by decide +kernel, by decide +kernel⟩
theorem yi_X5_timeAt : mYv yX5_timeAt RX5 cX5_timeAt 3 (some .long) 2 := ⟨mIn_of 605 (by decide +kernel), mIn_of 606 (by decide +kernel), mIn_of 69 (by decide +kernel), mIn_of 607 (by decide +kernel), by decide +kernel, by decide +kernel, by decide +kernel⟩
theorem yi_X5_valueAt : mYv yX5_valueAt RX5 cX5_valueAt 3 (some .int) 2 := ⟨mIn_of 617 (by decide +kernel), mIn_of 618 (by decide +kernel), mIn_of 69 (by decide +kernel), mIn_of 619 (by decide +kernel), by decide +kernel, by decide +kernel, by decide +kernel⟩
theorem yi_X5_allBits : mYv yX5_allBits RX5 cX5_allBits 7 (some .long) 0 := ⟨mIn_of 138 (by decide +kernel), mIn_of 139 (by decide +kernel), mIn_of 69 (by decide +kernel), mIn_of 140 (by decide +kernel), by decide +kernel, by decide +kernel, by decide +kernel⟩
theorem yi_X5_count : mYv yX5_count RX5 cX5_count 6 (some .int) 3 := ⟨mIn_of 625 (by decide +kernel), mIn_of 626 (by decide +kernel), mIn_of 69 (by decide +kernel), mIn_of 627 (by decide +kernel), by decide +kernel, by decide +kernel, by decide +kernel⟩
theorem yi_X5_sum : mYv yX5_sum RX5 cX5_sum 6 (some .long) 3 := ⟨mIn_of 659 (by decide +kernel), mIn_of 660 (by decide +kernel), mIn_of 69 (by decide +kernel), mIn_of 661 (by decide +kernel), by decide +kernel, by decide +kernel, by decide +kernel⟩
theorem yi_X5_sumByReading : mYv yX5_sumByReading RX5 cX5_sumByReading 7 (some .long) 3 := ⟨mIn_of 666 (by decide +kernel), mIn_of 667 (by decide +kernel), mIn_of 69 (by decide +kernel), mIn_of 668 (by decide +kernel), by decide +kernel, by decide +kernel, by decide +kernel⟩
theorem yi_X5_maximum : mYv yX5_maximum RX5 cX5_maximum 6 (some .int) 3 := ⟨mIn_of 678 (by decide +kernel), mIn_of 679 (by decide +kernel), mIn_of 69 (by decide +kernel), mIn_of 680 (by decide +kernel), by decide +kernel, by decide +kernel, by decide +kernel⟩
theorem yi_X5_mean : mYv yX5_mean RX5 cX5_mean 6 (some .double) 3 := ⟨mIn_of 700 (by decide +kernel), mIn_of 701 (by decide +kernel), mIn_of 69 (by decide +kernel), mIn_of 702 (by decide +kernel), by decide +kernel, by decide +kernel, by decide +kernel⟩
theorem yi_X5_rollupCount : mYv yX5_rollupCount RX5 cX5_rollupCount 6 (some .int) 2 := ⟨mIn_of 709 (by decide +kernel), mIn_of 710 (by decide +kernel), mIn_of 69 (by decide +kernel), mIn_of 711 (by decide +kernel), by decide +kernel, by decide +kernel, by decide +kernel⟩
theorem yi_X5_countLow : mYv yX5_countLow RX5 cX5_countLow 7 (some .int) 3 := ⟨mIn_of 718 (by decide +kernel), mIn_of 719 (by decide +kernel), mIn_of 69 (by decide +kernel), mIn_of 720 (by decide +kernel), by decide +kernel, by decide +kernel, by decide +kernel⟩
theorem yi_X5_countHigh : mYv yX5_countHigh RX5 cX5_countHigh 6 (some .int) 3 := ⟨mIn_of 733 (by decide +kernel), mIn_of 734 (by decide +kernel), mIn_of 69 (by decide +kernel), mIn_of 735 (by decide +kernel), by decide +kernel, by decide +kernel, by decide +kernel⟩
theorem yi_X5_maximumHigh : mYv yX5_maximumHigh RX5 cX5_maximumHigh 6 (some .int) 3 := ⟨mIn_of 748 (by decide +kernel), mIn_of 749 (by decide +kernel), mIn_of 69 (by decide +kernel), mIn_of 750 (by decide +kernel), by decide +kernel, by decide +kernel, by decide +kernel⟩
theorem yi_X5_quantile : mYv yX5_quantile RX5 cX5_quantile 4 (some .int) 2 := ⟨mIn_of 756 (by decide +kernel), mIn_of 757 (by decide +kernel), mIn_of 69 (by decide +kernel), mIn_of 758 (by decide +kernel), by decide +kernel, by decide +kernel, by decide +kernel⟩
theorem yi_X5_exactQuantile : mYv yX5_exactQuantile RX5 cX5_exactQuantile 4 (some .int) 2 := ⟨mIn_of 770 (by decide +kernel), mIn_of 771 (by decide +kernel), mIn_of 69 (by decide +kernel), mIn_of 772 (by decide +kernel), by decide +kernel, by decide +kernel, by decide +kernel⟩
theorem yi_X5_bound : mYv yX5_bound RX5 cX5_bound 2 (some .int) 1 := ⟨mIn_of 781 (by decide +kernel), mIn_of 782 (by decide +kernel), mIn_of 69 (by decide +kernel), mIn_of 783 (by decide +kernel), by decide +kernel, by decide +kernel, by decide +kernel⟩
theorem yi_X5_held : mYv yX5_held RX5 cX5_held 2 (some .int) 1 := ⟨mIn_of 788 (by decide +kernel), mIn_of 789 (by decide +kernel), mIn_of 69 (by decide +kernel), mIn_of 790 (by decide +kernel), by decide +kernel, by decide +kernel, by decide +kernel⟩
theorem yi_X5_isWithin : mYv yX5_isWithin RX5 cX5_isWithin 3 (some .boolean) 2 := ⟨mIn_of 799 (by decide +kernel), mIn_of 800 (by decide +kernel), mIn_of 69 (by decide +kernel), mIn_of 801 (by decide +kernel), by decide +kernel, by decide +kernel, by decide +kernel⟩
theorem yi_X5_setAlert : mYv yX5_setAlert RX5 cX5_setAlert 6 (some .char) 3 := ⟨mIn_of 807 (by decide +kernel), mIn_of 808 (by decide +kernel), mIn_of 69 (by decide +kernel), mIn_of 809 (by decide +kernel), by decide +kernel, by decide +kernel, by decide +kernel⟩
theorem yi_X5_removeAlert : mYv yX5_removeAlert RX5 cX5_removeAlert 4 (some .char) 1 := ⟨mIn_of 835 (by decide +kernel), mIn_of 836 (by decide +kernel), mIn_of 69 (by decide +kernel), mIn_of 837 (by decide +kernel), by decide +kernel, by decide +kernel, by decide +kernel⟩
theorem yi_X5_alertOf : mYv yX5_alertOf RX5 cX5_alertOf 2 (some .char) 1 := ⟨mIn_of 847 (by decide +kernel), mIn_of 848 (by decide +kernel), mIn_of 69 (by decide +kernel), mIn_of 849 (by decide +kernel), by decide +kernel, by decide +kernel, by decide +kernel⟩
theorem yi_X5_firing : mYv yX5_firing RX5 cX5_firing 1 (some .int) 0 := ⟨mIn_of 147 (by decide +kernel), mIn_of 148 (by decide +kernel), mIn_of 69 (by decide +kernel), mIn_of 149 (by decide +kernel), by decide +kernel, by decide +kernel, by decide +kernel⟩
theorem yi_X5_joinCount : mYv yX5_joinCount RX5 cX5_joinCount 5 (some .int) 2 := ⟨mIn_of 854 (by decide +kernel), mIn_of 855 (by decide +kernel), mIn_of 69 (by decide +kernel), mIn_of 856 (by decide +kernel), by decide +kernel, by decide +kernel, by decide +kernel⟩
theorem yi_X5_joinSum : mYv yX5_joinSum RX5 cX5_joinSum 8 (some .long) 2 := ⟨mIn_of 869 (by decide +kernel), mIn_of 870 (by decide +kernel), mIn_of 69 (by decide +kernel), mIn_of 871 (by decide +kernel), by decide +kernel, by decide +kernel, by decide +kernel⟩
theorem yi_X5_firingShare : mYv yX5_firingShare RX5 cX5_firingShare 1 (some .float) 0 := ⟨mIn_of 876 (by decide +kernel), mIn_of 877 (by decide +kernel), mIn_of 69 (by decide +kernel), mIn_of 878 (by decide +kernel), by decide +kernel, by decide +kernel, by decide +kernel⟩
theorem yi_X5_isConsistent : mYv yX5_isConsistent RX5 cX5_isConsistent 5 (some .boolean) 0 := ⟨mIn_of 160 (by decide +kernel), mIn_of 161 (by decide +kernel), mIn_of 69 (by decide +kernel), mIn_of 162 (by decide +kernel), by decide +kernel, by decide +kernel, by decide +kernel⟩
theorem yi_X5_isLabel : mYs yX5_isLabel cX5_isLabel 1 (some .boolean) 1 := ⟨mIn_of 216 (by decide +kernel), mIn_of 69 (by decide +kernel), mIn_of 217 (by decide +kernel), by decide +kernel, by decide +kernel, by decide +kernel⟩
theorem yi_X5_isValue : mYs yX5_isValue cX5_isValue 1 (some .boolean) 1 := ⟨mIn_of 410 (by decide +kernel), mIn_of 69 (by decide +kernel), mIn_of 411 (by decide +kernel), by decide +kernel, by decide +kernel, by decide +kernel⟩
theorem yi_X5_refuseBadNames : mYs yX5_refuseBadNames cX5_refuseBadNames 2 none 2 := ⟨mIn_of 858 (by decide +kernel), mIn_of 69 (by decide +kernel), mIn_of 859 (by decide +kernel), by decide +kernel, by decide +kernel, by decide +kernel⟩
theorem yi_X5_refuseBadRange : mYs yX5_refuseBadRange cX5_refuseBadRange 4 none 2 := ⟨mIn_of 633 (by decide +kernel), mIn_of 69 (by decide +kernel), mIn_of 634 (by decide +kernel), by decide +kernel, by decide +kernel, by decide +kernel⟩
theorem yi_X5_refuseEmpty : mYs yX5_refuseEmpty cX5_refuseEmpty 1 none 1 := ⟨mIn_of 538 (by decide +kernel), mIn_of 69 (by decide +kernel), mIn_of 539 (by decide +kernel), by decide +kernel, by decide +kernel, by decide +kernel⟩
theorem yi_X5_rowOf : mYv yX5_rowOf RX5 cX5_rowOf 3 (some (.object "GaugeHall$Series")) 1 := ⟨mIn_of 391 (by decide +kernel), mIn_of 15 (by decide +kernel), mIn_of 69 (by decide +kernel), mIn_of 392 (by decide +kernel), by decide +kernel, by decide +kernel, by decide +kernel⟩
theorem yi_X5_rowForQuantile : mYv yX5_rowForQuantile RX5 cX5_rowForQuantile 4 (some (.object "GaugeHall$Series")) 2 := ⟨mIn_of 761 (by decide +kernel), mIn_of 37 (by decide +kernel), mIn_of 69 (by decide +kernel), mIn_of 762 (by decide +kernel), by decide +kernel, by decide +kernel, by decide +kernel⟩
theorem yi_X5_numberWith : mYv yX5_numberWith RX5 cX5_numberWith 5 (some .int) 2 := ⟨mIn_of 291 (by decide +kernel), mIn_of 14 (by decide +kernel), mIn_of 69 (by decide +kernel), mIn_of 292 (by decide +kernel), by decide +kernel, by decide +kernel, by decide +kernel⟩
theorem yi_X5_rowWithSamples : mYv yX5_rowWithSamples RX5 cX5_rowWithSamples 5 (some (.object "GaugeHall$Series")) 2 := ⟨mIn_of 863 (by decide +kernel), mIn_of 41 (by decide +kernel), mIn_of 69 (by decide +kernel), mIn_of 864 (by decide +kernel), by decide +kernel, by decide +kernel, by decide +kernel⟩
theorem yi_X5_blockOfSample : mYs yX5_blockOfSample cX5_blockOfSample 3 (some (.object "GaugeHall$Block")) 2 := ⟨mIn_of 609 (by decide +kernel), mIn_of 69 (by decide +kernel), mIn_of 610 (by decide +kernel), by decide +kernel, by decide +kernel, by decide +kernel⟩
theorem yi_X5_readBlocks : mYv yX5_readBlocks RX5 cX5_readBlocks 7 none 3 := ⟨mIn_of 630 (by decide +kernel), mIn_of 28 (by decide +kernel), mIn_of 69 (by decide +kernel), mIn_of 631 (by decide +kernel), by decide +kernel, by decide +kernel, by decide +kernel⟩
theorem yi_X5_readTouchingRollups : mYv yX5_readTouchingRollups RX5 cX5_readTouchingRollups 7 none 3 := ⟨mIn_of 738 (by decide +kernel), mIn_of 35 (by decide +kernel), mIn_of 69 (by decide +kernel), mIn_of 739 (by decide +kernel), by decide +kernel, by decide +kernel, by decide +kernel⟩
theorem yi_X5_stateOfAlert : mYv yX5_stateOfAlert RX5 cX5_stateOfAlert 3 (some .char) 1 := ⟨mIn_of 840 (by decide +kernel), mIn_of 40 (by decide +kernel), mIn_of 69 (by decide +kernel), mIn_of 841 (by decide +kernel), by decide +kernel, by decide +kernel, by decide +kernel⟩
theorem yi_X5_firingAlerts : mYv yX5_firingAlerts RX5 cX5_firingAlerts 6 (some .int) 0 := ⟨mIn_of 152 (by decide +kernel), mIn_of 1 (by decide +kernel), mIn_of 69 (by decide +kernel), mIn_of 153 (by decide +kernel), by decide +kernel, by decide +kernel, by decide +kernel⟩
theorem yi_X6_init : mYi yX6_init cX6_init 1 0 := ⟨mIn_of 883 (by decide +kernel), rfl, mIn_of 71 (by decide +kernel), mIn_of 884 (by decide +kernel), by decide +kernel, by decide +kernel, by decide +kernel⟩
theorem yi_X6_thrown : mYv yX6_thrown RX6 cX6_thrown 1 (some .int) 0 := ⟨mIn_of 939 (by decide +kernel), mIn_of 940 (by decide +kernel), mIn_of 71 (by decide +kernel), mIn_of 941 (by decide +kernel), by decide +kernel, by decide +kernel, by decide +kernel⟩
theorem yi_X6_fail : mYv yX6_fail RX6 cX6_fail 2 (some .int) 1 := ⟨mIn_of 951 (by decide +kernel), mIn_of 42 (by decide +kernel), mIn_of 71 (by decide +kernel), mIn_of 952 (by decide +kernel), by decide +kernel, by decide +kernel, by decide +kernel⟩
theorem yi_X6_isIn : mYs yX6_isIn cX6_isIn 3 (some .boolean) 3 := ⟨mIn_of 947 (by decide +kernel), mIn_of 71 (by decide +kernel), mIn_of 948 (by decide +kernel), by decide +kernel, by decide +kernel, by decide +kernel⟩
theorem yi_X6_looks : mYv yX6_looks RX6 cX6_looks 2 (some .boolean) 1 := ⟨mIn_of 967 (by decide +kernel), mIn_of 44 (by decide +kernel), mIn_of 71 (by decide +kernel), mIn_of 968 (by decide +kernel), by decide +kernel, by decide +kernel, by decide +kernel⟩
theorem yi_X6_search : mYv yX6_search RX6 cX6_search 4 (some .int) 2 := ⟨mIn_of 955 (by decide +kernel), mIn_of 43 (by decide +kernel), mIn_of 71 (by decide +kernel), mIn_of 956 (by decide +kernel), by decide +kernel, by decide +kernel, by decide +kernel⟩
theorem yi_X6_value : mYv yX6_value RX6 cX6_value 3 (some .int) 2 := ⟨mIn_of 1015 (by decide +kernel), mIn_of 49 (by decide +kernel), mIn_of 71 (by decide +kernel), mIn_of 1016 (by decide +kernel), by decide +kernel, by decide +kernel, by decide +kernel⟩
theorem yi_X6_time : mYv yX6_time RX6 cX6_time 3 (some .long) 2 := ⟨mIn_of 971 (by decide +kernel), mIn_of 45 (by decide +kernel), mIn_of 71 (by decide +kernel), mIn_of 972 (by decide +kernel), by decide +kernel, by decide +kernel, by decide +kernel⟩
theorem yi_X6_last : mYv yX6_last RX6 cX6_last 2 (some .int) 1 := ⟨mIn_of 1011 (by decide +kernel), mIn_of 48 (by decide +kernel), mIn_of 71 (by decide +kernel), mIn_of 1012 (by decide +kernel), by decide +kernel, by decide +kernel, by decide +kernel⟩
theorem yi_X6_open : mYv yX6_open RX6 cX6_open 3 (some .int) 2 := ⟨mIn_of 943 (by decide +kernel), mIn_of 944 (by decide +kernel), mIn_of 71 (by decide +kernel), mIn_of 945 (by decide +kernel), by decide +kernel, by decide +kernel, by decide +kernel⟩
theorem yi_X6_pass : mYv yX6_pass RX6 cX6_pass 2 (some .long) 1 := ⟨mIn_of 958 (by decide +kernel), mIn_of 959 (by decide +kernel), mIn_of 71 (by decide +kernel), mIn_of 960 (by decide +kernel), by decide +kernel, by decide +kernel, by decide +kernel⟩
theorem yi_X6_holds : mYv yX6_holds RX6 cX6_holds 5 none 3 := ⟨mIn_of 975 (by decide +kernel), mIn_of 46 (by decide +kernel), mIn_of 71 (by decide +kernel), mIn_of 976 (by decide +kernel), by decide +kernel, by decide +kernel, by decide +kernel⟩
theorem yi_X6_halves : mYv yX6_halves RX6 cX6_halves 7 none 2 := ⟨mIn_of 979 (by decide +kernel), mIn_of 47 (by decide +kernel), mIn_of 71 (by decide +kernel), mIn_of 980 (by decide +kernel), by decide +kernel, by decide +kernel, by decide +kernel⟩
theorem yi_X6_add : mYv yX6_add RX6 cX6_add 4 (some .int) 2 := ⟨mIn_of 962 (by decide +kernel), mIn_of 963 (by decide +kernel), mIn_of 71 (by decide +kernel), mIn_of 964 (by decide +kernel), by decide +kernel, by decide +kernel, by decide +kernel⟩
theorem yi_X6_time_ : mYv yX6_time_ RX6 cX6_time_ 1 (some .long) 0 := ⟨mIn_of 982 (by decide +kernel), mIn_of 983 (by decide +kernel), mIn_of 71 (by decide +kernel), mIn_of 984 (by decide +kernel), by decide +kernel, by decide +kernel, by decide +kernel⟩
theorem yi_X6_seriesCount : mYv yX6_seriesCount RX6 cX6_seriesCount 1 (some .int) 0 := ⟨mIn_of 986 (by decide +kernel), mIn_of 987 (by decide +kernel), mIn_of 71 (by decide +kernel), mIn_of 988 (by decide +kernel), by decide +kernel, by decide +kernel, by decide +kernel⟩
theorem yi_X6_find : mYv yX6_find RX6 cX6_find 4 (some .int) 2 := ⟨mIn_of 990 (by decide +kernel), mIn_of 991 (by decide +kernel), mIn_of 71 (by decide +kernel), mIn_of 992 (by decide +kernel), by decide +kernel, by decide +kernel, by decide +kernel⟩
theorem yi_X6_nameOf : mYv yX6_nameOf RX6 cX6_nameOf 2 (some .int) 1 := ⟨mIn_of 994 (by decide +kernel), mIn_of 995 (by decide +kernel), mIn_of 71 (by decide +kernel), mIn_of 996 (by decide +kernel), by decide +kernel, by decide +kernel, by decide +kernel⟩
theorem yi_X6_hostOf : mYv yX6_hostOf RX6 cX6_hostOf 2 (some .int) 1 := ⟨mIn_of 998 (by decide +kernel), mIn_of 999 (by decide +kernel), mIn_of 71 (by decide +kernel), mIn_of 1000 (by decide +kernel), by decide +kernel, by decide +kernel, by decide +kernel⟩
theorem yi_X6_samples : mYv yX6_samples RX6 cX6_samples 2 (some .int) 1 := ⟨mIn_of 1002 (by decide +kernel), mIn_of 1003 (by decide +kernel), mIn_of 71 (by decide +kernel), mIn_of 1004 (by decide +kernel), by decide +kernel, by decide +kernel, by decide +kernel⟩
theorem yi_X6_latest : mYv yX6_latest RX6 cX6_latest 2 (some .int) 1 := ⟨mIn_of 1006 (by decide +kernel), mIn_of 1007 (by decide +kernel), mIn_of 71 (by decide +kernel), mIn_of 1008 (by decide +kernel), by decide +kernel, by decide +kernel, by decide +kernel⟩
theorem yi_X6_many : mYv yX6_many RX6 cX6_many 2 (some .int) 1 := ⟨mIn_of 1023 (by decide +kernel), mIn_of 50 (by decide +kernel), mIn_of 71 (by decide +kernel), mIn_of 1024 (by decide +kernel), by decide +kernel, by decide +kernel, by decide +kernel⟩
theorem yi_X6_blocks : mYv yX6_blocks RX6 cX6_blocks 2 (some .int) 1 := ⟨mIn_of 1018 (by decide +kernel), mIn_of 1019 (by decide +kernel), mIn_of 71 (by decide +kernel), mIn_of 1020 (by decide +kernel), by decide +kernel, by decide +kernel, by decide +kernel⟩
theorem yi_X6_bits : mYv yX6_bits RX6 cX6_bits 8 (some .int) 2 := ⟨mIn_of 1031 (by decide +kernel), mIn_of 51 (by decide +kernel), mIn_of 71 (by decide +kernel), mIn_of 1032 (by decide +kernel), by decide +kernel, by decide +kernel, by decide +kernel⟩
theorem yi_X6_bitsOf : mYv yX6_bitsOf RX6 cX6_bitsOf 3 (some .int) 2 := ⟨mIn_of 1026 (by decide +kernel), mIn_of 1027 (by decide +kernel), mIn_of 71 (by decide +kernel), mIn_of 1028 (by decide +kernel), by decide +kernel, by decide +kernel, by decide +kernel⟩
theorem yi_X6_isSample : mYv yX6_isSample RX6 cX6_isSample 3 (some .boolean) 2 := ⟨mIn_of 1041 (by decide +kernel), mIn_of 52 (by decide +kernel), mIn_of 71 (by decide +kernel), mIn_of 1042 (by decide +kernel), by decide +kernel, by decide +kernel, by decide +kernel⟩
theorem yi_X6_timeAt : mYv yX6_timeAt RX6 cX6_timeAt 3 (some .long) 2 := ⟨mIn_of 1036 (by decide +kernel), mIn_of 1037 (by decide +kernel), mIn_of 71 (by decide +kernel), mIn_of 1038 (by decide +kernel), by decide +kernel, by decide +kernel, by decide +kernel⟩
theorem yi_X6_valueAt : mYv yX6_valueAt RX6 cX6_valueAt 3 (some .int) 2 := ⟨mIn_of 1044 (by decide +kernel), mIn_of 1045 (by decide +kernel), mIn_of 71 (by decide +kernel), mIn_of 1046 (by decide +kernel), by decide +kernel, by decide +kernel, by decide +kernel⟩
theorem yi_X6_allBits : mYv yX6_allBits RX6 cX6_allBits 5 (some .long) 0 := ⟨mIn_of 1048 (by decide +kernel), mIn_of 1049 (by decide +kernel), mIn_of 71 (by decide +kernel), mIn_of 1050 (by decide +kernel), by decide +kernel, by decide +kernel, by decide +kernel⟩
theorem yi_X6_isRange : mYv yX6_isRange RX6 cX6_isRange 6 (some .boolean) 3 := ⟨mIn_of 1057 (by decide +kernel), mIn_of 53 (by decide +kernel), mIn_of 71 (by decide +kernel), mIn_of 1058 (by decide +kernel), by decide +kernel, by decide +kernel, by decide +kernel⟩
theorem yi_X6_isInside : mYv yX6_isInside RX6 cX6_isInside 7 (some .boolean) 4 := ⟨mIn_of 1065 (by decide +kernel), mIn_of 55 (by decide +kernel), mIn_of 71 (by decide +kernel), mIn_of 1066 (by decide +kernel), by decide +kernel, by decide +kernel, by decide +kernel⟩
theorem yi_X6_counted : mYv yX6_counted RX6 cX6_counted 8 (some .int) 3 := ⟨mIn_of 1061 (by decide +kernel), mIn_of 54 (by decide +kernel), mIn_of 71 (by decide +kernel), mIn_of 1062 (by decide +kernel), by decide +kernel, by decide +kernel, by decide +kernel⟩
theorem yi_X6_summed : mYv yX6_summed RX6 cX6_summed 9 (some .long) 3 := ⟨mIn_of 1073 (by decide +kernel), mIn_of 56 (by decide +kernel), mIn_of 71 (by decide +kernel), mIn_of 1074 (by decide +kernel), by decide +kernel, by decide +kernel, by decide +kernel⟩
theorem yi_X6_count : mYv yX6_count RX6 cX6_count 6 (some .int) 3 := ⟨mIn_of 1052 (by decide +kernel), mIn_of 1053 (by decide +kernel), mIn_of 71 (by decide +kernel), mIn_of 1054 (by decide +kernel), by decide +kernel, by decide +kernel, by decide +kernel⟩
theorem yi_X6_sum : mYv yX6_sum RX6 cX6_sum 6 (some .long) 3 := ⟨mIn_of 1068 (by decide +kernel), mIn_of 1069 (by decide +kernel), mIn_of 71 (by decide +kernel), mIn_of 1070 (by decide +kernel), by decide +kernel, by decide +kernel, by decide +kernel⟩
theorem yi_X6_sumByReading : mYv yX6_sumByReading RX6 cX6_sumByReading 6 (some .long) 3 := ⟨mIn_of 1076 (by decide +kernel), mIn_of 1077 (by decide +kernel), mIn_of 71 (by decide +kernel), mIn_of 1078 (by decide +kernel), by decide +kernel, by decide +kernel, by decide +kernel⟩
theorem yi_X6_maximum : mYv yX6_maximum RX6 cX6_maximum 8 (some .int) 3 := ⟨mIn_of 1081 (by decide +kernel), mIn_of 1082 (by decide +kernel), mIn_of 71 (by decide +kernel), mIn_of 1083 (by decide +kernel), by decide +kernel, by decide +kernel, by decide +kernel⟩
theorem yi_X6_mean : mYv yX6_mean RX6 cX6_mean 7 (some .double) 3 := ⟨mIn_of 1085 (by decide +kernel), mIn_of 1086 (by decide +kernel), mIn_of 71 (by decide +kernel), mIn_of 1087 (by decide +kernel), by decide +kernel, by decide +kernel, by decide +kernel⟩
theorem yi_X6_begin : mYv yX6_begin RX6 cX6_begin 3 (some .long) 2 := ⟨mIn_of 1094 (by decide +kernel), mIn_of 57 (by decide +kernel), mIn_of 71 (by decide +kernel), mIn_of 1095 (by decide +kernel), by decide +kernel, by decide +kernel, by decide +kernel⟩
theorem yi_X6_rollupCount : mYv yX6_rollupCount RX6 cX6_rollupCount 5 (some .int) 2 := ⟨mIn_of 1089 (by decide +kernel), mIn_of 1090 (by decide +kernel), mIn_of 71 (by decide +kernel), mIn_of 1091 (by decide +kernel), by decide +kernel, by decide +kernel, by decide +kernel⟩
theorem yi_X6_countLow : mYv yX6_countLow RX6 cX6_countLow 8 (some .int) 3 := ⟨mIn_of 1098 (by decide +kernel), mIn_of 1099 (by decide +kernel), mIn_of 71 (by decide +kernel), mIn_of 1100 (by decide +kernel), by decide +kernel, by decide +kernel, by decide +kernel⟩
theorem yi_X6_isTouched : mYv yX6_isTouched RX6 cX6_isTouched 7 (some .boolean) 4 := ⟨mIn_of 1108 (by decide +kernel), mIn_of 58 (by decide +kernel), mIn_of 71 (by decide +kernel), mIn_of 1109 (by decide +kernel), by decide +kernel, by decide +kernel, by decide +kernel⟩
theorem yi_X6_countHigh : mYv yX6_countHigh RX6 cX6_countHigh 8 (some .int) 3 := ⟨mIn_of 1103 (by decide +kernel), mIn_of 1104 (by decide +kernel), mIn_of 71 (by decide +kernel), mIn_of 1105 (by decide +kernel), by decide +kernel, by decide +kernel, by decide +kernel⟩
theorem yi_X6_maximumHigh : mYv yX6_maximumHigh RX6 cX6_maximumHigh 8 (some .int) 3 := ⟨mIn_of 1111 (by decide +kernel), mIn_of 1112 (by decide +kernel), mIn_of 71 (by decide +kernel), mIn_of 1113 (by decide +kernel), by decide +kernel, by decide +kernel, by decide +kernel⟩
theorem yi_X6_isPart : mYv yX6_isPart RX6 cX6_isPart 3 (some .boolean) 2 := ⟨mIn_of 1120 (by decide +kernel), mIn_of 59 (by decide +kernel), mIn_of 71 (by decide +kernel), mIn_of 1121 (by decide +kernel), by decide +kernel, by decide +kernel, by decide +kernel⟩
theorem yi_X6_target : mYv yX6_target RX6 cX6_target 3 (some .int) 2 := ⟨mIn_of 1132 (by decide +kernel), mIn_of 62 (by decide +kernel), mIn_of 71 (by decide +kernel), mIn_of 1133 (by decide +kernel), by decide +kernel, by decide +kernel, by decide +kernel⟩
theorem yi_X6_standing : mYv yX6_standing RX6 cX6_standing 7 (some .int) 2 := ⟨mIn_of 1128 (by decide +kernel), mIn_of 61 (by decide +kernel), mIn_of 71 (by decide +kernel), mIn_of 1129 (by decide +kernel), by decide +kernel, by decide +kernel, by decide +kernel⟩
theorem yi_X6_sketched : mYv yX6_sketched RX6 cX6_sketched 8 (some .int) 2 := ⟨mIn_of 1124 (by decide +kernel), mIn_of 60 (by decide +kernel), mIn_of 71 (by decide +kernel), mIn_of 1125 (by decide +kernel), by decide +kernel, by decide +kernel, by decide +kernel⟩
theorem yi_X6_upTo : mYv yX6_upTo RX6 cX6_upTo 5 (some .int) 2 := ⟨mIn_of 1140 (by decide +kernel), mIn_of 63 (by decide +kernel), mIn_of 71 (by decide +kernel), mIn_of 1141 (by decide +kernel), by decide +kernel, by decide +kernel, by decide +kernel⟩
theorem yi_X6_quantile : mYv yX6_quantile RX6 cX6_quantile 3 (some .int) 2 := ⟨mIn_of 1115 (by decide +kernel), mIn_of 1116 (by decide +kernel), mIn_of 71 (by decide +kernel), mIn_of 1117 (by decide +kernel), by decide +kernel, by decide +kernel, by decide +kernel⟩
theorem yi_X6_exactQuantile : mYv yX6_exactQuantile RX6 cX6_exactQuantile 6 (some .int) 2 := ⟨mIn_of 1135 (by decide +kernel), mIn_of 1136 (by decide +kernel), mIn_of 71 (by decide +kernel), mIn_of 1137 (by decide +kernel), by decide +kernel, by decide +kernel, by decide +kernel⟩
theorem yi_X6_bound : mYv yX6_bound RX6 cX6_bound 2 (some .int) 1 := ⟨mIn_of 1143 (by decide +kernel), mIn_of 1144 (by decide +kernel), mIn_of 71 (by decide +kernel), mIn_of 1145 (by decide +kernel), by decide +kernel, by decide +kernel, by decide +kernel⟩
theorem yi_X6_held : mYv yX6_held RX6 cX6_held 4 (some .int) 1 := ⟨mIn_of 1147 (by decide +kernel), mIn_of 1148 (by decide +kernel), mIn_of 71 (by decide +kernel), mIn_of 1149 (by decide +kernel), by decide +kernel, by decide +kernel, by decide +kernel⟩
theorem yi_X6_isWithin : mYv yX6_isWithin RX6 cX6_isWithin 5 (some .boolean) 2 := ⟨mIn_of 1151 (by decide +kernel), mIn_of 1152 (by decide +kernel), mIn_of 71 (by decide +kernel), mIn_of 1153 (by decide +kernel), by decide +kernel, by decide +kernel, by decide +kernel⟩
theorem yi_X6_state : mYv yX6_state RX6 cX6_state 2 (some .char) 1 := ⟨mIn_of 1160 (by decide +kernel), mIn_of 64 (by decide +kernel), mIn_of 71 (by decide +kernel), mIn_of 1161 (by decide +kernel), by decide +kernel, by decide +kernel, by decide +kernel⟩
theorem yi_X6_setAlert : mYv yX6_setAlert RX6 cX6_setAlert 4 (some .char) 3 := ⟨mIn_of 1155 (by decide +kernel), mIn_of 1156 (by decide +kernel), mIn_of 71 (by decide +kernel), mIn_of 1157 (by decide +kernel), by decide +kernel, by decide +kernel, by decide +kernel⟩
theorem yi_X6_isSet : mYv yX6_isSet RX6 cX6_isSet 2 (some .boolean) 1 := ⟨mIn_of 1168 (by decide +kernel), mIn_of 65 (by decide +kernel), mIn_of 71 (by decide +kernel), mIn_of 1169 (by decide +kernel), by decide +kernel, by decide +kernel, by decide +kernel⟩
theorem yi_X6_removeAlert : mYv yX6_removeAlert RX6 cX6_removeAlert 3 (some .char) 1 := ⟨mIn_of 1163 (by decide +kernel), mIn_of 1164 (by decide +kernel), mIn_of 71 (by decide +kernel), mIn_of 1165 (by decide +kernel), by decide +kernel, by decide +kernel, by decide +kernel⟩
theorem yi_X6_alertOf : mYv yX6_alertOf RX6 cX6_alertOf 2 (some .char) 1 := ⟨mIn_of 1171 (by decide +kernel), mIn_of 1172 (by decide +kernel), mIn_of 71 (by decide +kernel), mIn_of 1173 (by decide +kernel), by decide +kernel, by decide +kernel, by decide +kernel⟩
theorem yi_X6_firing : mYv yX6_firing RX6 cX6_firing 3 (some .int) 0 := ⟨mIn_of 1175 (by decide +kernel), mIn_of 1176 (by decide +kernel), mIn_of 71 (by decide +kernel), mIn_of 1177 (by decide +kernel), by decide +kernel, by decide +kernel, by decide +kernel⟩
theorem yi_X6_joined : mYv yX6_joined RX6 cX6_joined 9 (some .long) 3 := ⟨mIn_of 1188 (by decide +kernel), mIn_of 67 (by decide +kernel), mIn_of 71 (by decide +kernel), mIn_of 1189 (by decide +kernel), by decide +kernel, by decide +kernel, by decide +kernel⟩
theorem yi_X6_areNames : mYv yX6_areNames RX6 cX6_areNames 3 (some .boolean) 2 := ⟨mIn_of 1184 (by decide +kernel), mIn_of 66 (by decide +kernel), mIn_of 71 (by decide +kernel), mIn_of 1185 (by decide +kernel), by decide +kernel, by decide +kernel, by decide +kernel⟩
theorem yi_X6_joinCount : mYv yX6_joinCount RX6 cX6_joinCount 3 (some .int) 2 := ⟨mIn_of 1179 (by decide +kernel), mIn_of 1180 (by decide +kernel), mIn_of 71 (by decide +kernel), mIn_of 1181 (by decide +kernel), by decide +kernel, by decide +kernel, by decide +kernel⟩
theorem yi_X6_joinSum : mYv yX6_joinSum RX6 cX6_joinSum 3 (some .long) 2 := ⟨mIn_of 1191 (by decide +kernel), mIn_of 1192 (by decide +kernel), mIn_of 71 (by decide +kernel), mIn_of 1193 (by decide +kernel), by decide +kernel, by decide +kernel, by decide +kernel⟩
theorem yi_X6_firingShare : mYv yX6_firingShare RX6 cX6_firingShare 2 (some .float) 0 := ⟨mIn_of 1195 (by decide +kernel), mIn_of 1196 (by decide +kernel), mIn_of 71 (by decide +kernel), mIn_of 1197 (by decide +kernel), by decide +kernel, by decide +kernel, by decide +kernel⟩
theorem yi_X6_isConsistent : mYv yX6_isConsistent RX6 cX6_isConsistent 1 (some .boolean) 0 := ⟨mIn_of 1200 (by decide +kernel), mIn_of 1201 (by decide +kernel), mIn_of 71 (by decide +kernel), mIn_of 1202 (by decide +kernel), by decide +kernel, by decide +kernel, by decide +kernel⟩
theorem xy_X5_open_14 : mXy RX5 34 36 38 "java/lang/IllegalArgumentException" "a label is not from 0 to 9" ["java/lang/RuntimeException", "java/lang/Exception"] := ⟨by decide +kernel, by decide +kernel, by decide +kernel, mIn'_of 262 (by decide +kernel)⟩
theorem xy_X5_open_33 : mXy RX5 45 47 49 "java/lang/IllegalStateException" "there is a series with these labels" ["java/lang/RuntimeException", "java/lang/Exception"] := ⟨by decide +kernel, by decide +kernel, by decide +kernel, mIn'_of 302 (by decide +kernel)⟩
theorem xy_X5_open_55 : mXy RX5 45 50 49 "java/lang/IllegalStateException" "there are 10 series" ["java/lang/RuntimeException", "java/lang/Exception"] := ⟨by decide +kernel, by decide +kernel, by decide +kernel, mIn'_of 309 (by decide +kernel)⟩
theorem xy_X5_pass_12 : mXy RX5 34 55 38 "java/lang/IllegalArgumentException" "the seconds are not from 1 to 600" ["java/lang/RuntimeException", "java/lang/Exception"] := ⟨by decide +kernel, by decide +kernel, by decide +kernel, mIn'_of 380 (by decide +kernel)⟩
theorem xy_X5_add_13 : mXy RX5 34 64 38 "java/lang/IllegalArgumentException" "the value is not from -10000 to 10000" ["java/lang/RuntimeException", "java/lang/Exception"] := ⟨by decide +kernel, by decide +kernel, by decide +kernel, mIn'_of 412 (by decide +kernel)⟩
theorem xy_X5_add_30 : mXy RX5 45 70 49 "java/lang/IllegalStateException" "the series has 120 samples" ["java/lang/RuntimeException", "java/lang/Exception"] := ⟨by decide +kernel, by decide +kernel, by decide +kernel, mIn'_of 417 (by decide +kernel)⟩
theorem xy_X5_add_51 : mXy RX5 45 76 49 "java/lang/IllegalStateException" "the series has a sample with the present time" ["java/lang/RuntimeException", "java/lang/Exception"] := ⟨by decide +kernel, by decide +kernel, by decide +kernel, mIn'_of 422 (by decide +kernel)⟩
theorem xy_X5_find_11 : mXx RX5 85 87 89 "java/util/NoSuchElementException" 13 ⟨#[0x2a, 0x2b, 0xb7, 0x00, 0x0d, 0xb1]⟩ "there is no series with these labels" ["java/lang/RuntimeException", "java/lang/Exception"] := ⟨by decide +kernel, by decide +kernel, by decide +kernel, by decide +kernel, mIn'_of 508 (by decide +kernel)⟩
theorem xy_X5_bitsOf_14 : mXy RX5 111 113 115 "java/lang/IndexOutOfBoundsException" "there is no such block" ["java/lang/RuntimeException", "java/lang/Exception"] := ⟨by decide +kernel, by decide +kernel, by decide +kernel, mIn'_of 597 (by decide +kernel)⟩
theorem xy_X5_maximum_18 : mXy RX5 45 155 49 "java/lang/IllegalStateException" "the range has no samples" ["java/lang/RuntimeException", "java/lang/Exception"] := ⟨by decide +kernel, by decide +kernel, by decide +kernel, mIn'_of 681 (by decide +kernel)⟩
theorem xy_X5_mean_18 : mXy RX5 160 155 162 "java/lang/ArithmeticException" "the range has no samples" ["java/lang/RuntimeException", "java/lang/Exception"] := ⟨by decide +kernel, by decide +kernel, by decide +kernel, mIn'_of 681 (by decide +kernel)⟩
theorem xy_X5_rollupCount_10 : mXy RX5 34 163 38 "java/lang/IllegalArgumentException" "the index is less than 0" ["java/lang/RuntimeException", "java/lang/Exception"] := ⟨by decide +kernel, by decide +kernel, by decide +kernel, mIn'_of 712 (by decide +kernel)⟩
theorem xy_X5_maximumHigh_18 : mXy RX5 45 173 49 "java/lang/IllegalStateException" "no rollup with samples touches the range" ["java/lang/RuntimeException", "java/lang/Exception"] := ⟨by decide +kernel, by decide +kernel, by decide +kernel, mIn'_of 751 (by decide +kernel)⟩
theorem xy_X5_setAlert_14 : mXy RX5 34 201 38 "java/lang/IllegalArgumentException" "the limit is not from -10000 to 10000" ["java/lang/RuntimeException", "java/lang/Exception"] := ⟨by decide +kernel, by decide +kernel, by decide +kernel, mIn'_of 810 (by decide +kernel)⟩
theorem xy_X5_setAlert_35 : mXy RX5 34 203 38 "java/lang/IllegalArgumentException" "the seconds are not from 0 to 600" ["java/lang/RuntimeException", "java/lang/Exception"] := ⟨by decide +kernel, by decide +kernel, by decide +kernel, mIn'_of 811 (by decide +kernel)⟩
theorem xy_X5_firingShare_7 : mXy RX5 160 232 162 "java/lang/ArithmeticException" "there are no series" ["java/lang/RuntimeException", "java/lang/Exception"] := ⟨by decide +kernel, by decide +kernel, by decide +kernel, mIn'_of 879 (by decide +kernel)⟩
theorem xy_X5_refuseBadNames_14 : mXy RX5 34 237 38 "java/lang/IllegalArgumentException" "a name is not from 0 to 9" ["java/lang/RuntimeException", "java/lang/Exception"] := ⟨by decide +kernel, by decide +kernel, by decide +kernel, mIn'_of 860 (by decide +kernel)⟩
theorem xy_X5_refuseBadRange_12 : mXy RX5 34 239 38 "java/lang/IllegalArgumentException" "the first time is less than 0 or greater than the last one" ["java/lang/RuntimeException", "java/lang/Exception"] := ⟨by decide +kernel, by decide +kernel, by decide +kernel, mIn'_of 635 (by decide +kernel)⟩
theorem xy_X5_refuseEmpty_7 : mXy RX5 45 241 49 "java/lang/IllegalStateException" "the series has no samples" ["java/lang/RuntimeException", "java/lang/Exception"] := ⟨by decide +kernel, by decide +kernel, by decide +kernel, mIn'_of 540 (by decide +kernel)⟩
theorem xy_X5_rowOf_28 : mXx RX5 85 243 89 "java/util/NoSuchElementException" 13 ⟨#[0x2a, 0x2b, 0xb7, 0x00, 0x0d, 0xb1]⟩ "there is no such series" ["java/lang/RuntimeException", "java/lang/Exception"] := ⟨by decide +kernel, by decide +kernel, by decide +kernel, by decide +kernel, mIn'_of 402 (by decide +kernel)⟩
theorem xy_X5_rowForQuantile_17 : mXy RX5 34 245 38 "java/lang/IllegalArgumentException" "the percent are not from 1 to 100" ["java/lang/RuntimeException", "java/lang/Exception"] := ⟨by decide +kernel, by decide +kernel, by decide +kernel, mIn'_of 763 (by decide +kernel)⟩
theorem xy_X5_blockOfSample_29 : mXy RX5 111 247 115 "java/lang/IndexOutOfBoundsException" "there is no such sample" ["java/lang/RuntimeException", "java/lang/Exception"] := ⟨by decide +kernel, by decide +kernel, by decide +kernel, mIn'_of 611 (by decide +kernel)⟩
theorem xy_X5_stateOfAlert_9 : mXy RX5 45 254 49 "java/lang/IllegalStateException" "the series has no alert" ["java/lang/RuntimeException", "java/lang/Exception"] := ⟨by decide +kernel, by decide +kernel, by decide +kernel, mIn'_of 842 (by decide +kernel)⟩
end
section
section
variable {p : Program} {l : Launch} {e : Env} {R : Room} {s : State} {m : MethodId} {args : Array Value} {below : List Frame} {meth : Method} {c : Code} {H : Heap} {locs : List Loc} {cells slots : Nat} {Q : State → Prop}
variable {cc : ByteArray} {pc nL : Nat} {ls : Array Slot} {rest st0 : List Value} {G : mG} {s0 : State} {a0 : Array Value} {own nm : String} {ret : Option FieldType} {h : Hp} {a b : Nat}
theorem oi_in : mIn (.instanceMethod objectInit) ∧ mIn (.code objectInit ⟨#[0xb1]⟩ 1 none) := ⟨mIn_of 93 (by decide +kernel), mIn_of 94 (by decide +kernel)⟩
theorem m_objInit (Z : mZ l G a0 s0) (C : mC s0 p s m meth c cc nL own ret nm) {index : Nat} (wl : mIn (.methodLink own index objectInit)) (hlz : ls.size = nL) (hdg : decode cc pc = .ok (.invokespecial index, 3)) (hR : 1 ≤ R.frames ∧ (rest.map fun v => v.category).sum + 12 ≤ R.locals)
    (kk : W p l e R s m args below meth c H locs cells slots Q (F0 m (pc + 3) ls rest)) : W p l e R s m args below meth c H locs cells slots Q (F0 m pc ls (.ref a :: rest)) := by
  obtain ⟨hx, hb, hml, hown, hlk, hr, hE, -⟩ := C
  refine W.objInit hx hb hown (hE.good Z wl args) (hE.good Z oi_in.1 args) (hE.good Z oi_in.2 args) rfl (hlz.trans hml.symm) rfl hdg hR.1 ?_ kk
  have h0 : (F0 m pc ls (.ref a :: rest)).monitorRoom = 0 := rfl
  rw [h0]
  simpa using hR.2
theorem mx_in : mIn (.static Lib.Math.max.name) ∧ mIn (.initialized "java/lang/Math") ∧ mIn (.code Lib.Math.max.name Lib.Math.max.code 2 (some .int)) := by
  unfold mIn
  decide +kernel
theorem m_imax (Z : mZ l G a0 s0) (C : mC s0 p s m meth c cc nL own ret nm) {index : Nat} (wl : mIn (.methodLink own index Lib.Math.max.name)) (hlz : ls.size = nL) (hdg : decode cc pc = .ok (.invokestatic index, 3)) (hR : 1 ≤ R.frames ∧ (rest.map fun v => v.category).sum + 13 ≤ R.locals ∧ cells ≤ R.cells ∧ slots ≤ R.slots) {x y : Int32}
    (kk : W p l e R s m args below meth c H locs cells slots Q (F0 m (pc + 3) ls (.int (if x < y then y else x) :: rest))) : W p l e R s m args below meth c H locs cells slots Q (F0 m pc ls (.int y :: .int x :: rest)) := by
  obtain ⟨hx, hb, hml, hown, hlk, hr, hE, -⟩ := C
  exact va_mmax hx hb (hml.trans hlz.symm) hown (hE.good Z wl args) (hE.good Z mx_in.1 args) (hE.good Z mx_in.2.1 args) (hE.good Z mx_in.2.2 args) hR.1 hR.2.1 hR.2.2.1 hR.2.2.2 hdg kk
/-- an array class over a class, from the law's start on -/
theorem mE.AO (E : mE s0 s) (Z : mZ l G a0 s0) {C : String} (w : mIn' (.arrayOver (.object C))) : va_AO C s := va_AO.moved E.1.alike (va_AO.of (Z.1 _ w))
theorem m_newq (Z : mZ l G a0 s0) (C : mC s0 p s m meth c cc nL own ret nm) (hM : MW G s0.heap.size h H) (hS : va_S (fun q => s0.heap.size ≤ q) s.heap H locs) {Cn : String} (t0 : Nat) (ht : (mTy G.2)[t0]? = some (G.2 t0, .object Cn)) {index : Nat} (wl : mIn (.classLink own index Cn)) (wo : mIn' (.arrayOver (.object Cn))) {n : Int32} (N' : Nat) (hn : ¬ n < 0) (hN : n.toNatClampNeg = N') (hbytes : N' * 4 ≤ 536870912) (hcells : cells + 1 ≤ R.cells) (hslots : slots + N' ≤ R.slots) (hdg : decode cc pc = .ok (.anewarray index, 3))
    (kk : ∀ (q : Nat) (H1 : Heap), q ∉ h.1 → MW G s0.heap.size (hnew h q (.inl (G.2 t0, N', .inr (.inr (.inr (.inr (fun _ => none))))))) H1 → va_S (fun q => s0.heap.size ≤ q) s.heap H1 locs → W p l e R s m args below meth c H1 locs (cells + 1) (slots + N') Q (F0 m (pc + 3) ls (.ref q :: rest))) : W p l e R s m args below meth c H locs cells slots Q (F0 m pc ls (.int n :: rest)) := by
  obtain ⟨hx, hb, hml, hown, hlk, hr, hE, hn0⟩ := C
  have hA : ∀ q : Nat, s.heap.size ≤ q → s0.heap.size ≤ q := fun q z => Nat.le_trans hE.2.1 z
  refine va_newq hx hb hown (hE.good Z wl args) (hE.AO Z wo) (hE.K Z) hM.1 hM.2 hS hA hn hN hbytes hcells hslots hdg fun q cA H1 hK1 hP1 hD1 hS1 => ?_
  have h1 := ((hE.K Z).2 t0 _ ht).2
  have h2 := (hK1.2 6 _ rfl).2
  obtain ⟨kA, comp, -, -, -, e1⟩ := h1
  obtain ⟨kA2, comp2, -, -, -, e2⟩ := h2
  have hcc : cA = G.2 t0 := Option.some.inj (e2.symm.trans e1)
  subst hcc
  have hnin : q ∉ h.1 := va_pl_fresh2 (X := []) hD1
  rw [va_pl_push0 hnin] at hP1
  rw [va_pl_push0 hnin] at hD1
  exact kk q H1 hnin ⟨hP1, hD1⟩ hS1
theorem m_mna (Z : mZ l G a0 s0) (C : mC s0 p s m meth c cc nL own ret nm) (hM : MW G s0.heap.size h H) (hS : va_S (fun q => s0.heap.size ≤ q) s.heap H locs) {index : Nat} (wl : mIn (.classLink own index "[[I")) (wa : mIn (.arrayClass .int)) (wo : mIn' (.arrayOver (.array .int))) {n k : Int32} (N K : Nat) (hn : ¬ n < 0) (hk : ¬ k < 0) (hN : n.toNatClampNeg = N) (hK : k.toNatClampNeg = K) (hb1 : N * 4 ≤ 536870912) (hb2 : K * 4 ≤ 536870912) (hcells : cells + (1 + N) ≤ R.cells) (hslots : slots + (N + N * K) ≤ R.slots) (hdg : decode cc pc = .ok (.multianewarray index 2, 4))
    (kk : ∀ (q : Nat) (r : Nat → Nat) (h' : Hp) (H1 : Heap), (∀ i j : Nat, i < N → j < N → r i = r j → i = j) → (∀ i : Nat, i < N → r i ∉ h.1) → q ∉ h.1 → (∀ i : Nat, i < N → q ≠ r i) → hat h' q (eA G N (fun i => if i < N then some (r i) else none)) → (∀ i : Nat, i < N → hat h' (r i) (eI G K (fun _ => 0))) → (∀ a e, hat h a e → hat h' a e) → MW G s0.heap.size h' H1 → va_S (fun q => s0.heap.size ≤ q) s.heap H1 locs → W p l e R s m args below meth c H1 locs (cells + 1 + N) (slots + N + N * K) Q (F0 m (pc + 4) ls (.ref q :: rest))) : W p l e R s m args below meth c H locs cells slots Q (F0 m pc ls (.int k :: .int n :: rest)) := by
  obtain ⟨hx, hb, hml, hown, hlk, hr, hE, hn0⟩ := C
  have hA : ∀ q : Nat, s.heap.size ≤ q → s0.heap.size ≤ q := fun q z => Nat.le_trans hE.2.1 z
  have hover : va_AOA .int s := by
    have h0 : va_AOA .int s0 := va_AOA.of (Z.1 _ wo)
    exact over_moved (a := #[]) (a' := #[]) hE.1.alike h0
  have hra0 : s.vm.findClass ("[" ++ FieldType.int.toString) = some (G.2 0) := ((hE.K Z).2 0 _ rfl).2
  refine va_mna (X := []) (L := h.1) (f := h.2) (ty := .int) (cy := G.2 0) (z := (K, .inl (fun _ => 0))) hx hb hown (hE.good Z wl args) hover (hE.good Z wa args) hra0 (hE.K Z) hM.1 hM.2 hS hA hn hk hN hK hb1 hb2 (by omega) rfl rfl hcells hslots (fun c => ?_) hdg fun q r cA H1 hinj hrn hK1 hP1 hD1 hS1 => ?_
  · show _ = vp_cell c (K, .inl (fun _ => 0))
    rw [vp_cell_i]
    exact arrV_new _ _ _
  · have e1 : s.vm.findClass ("[" ++ (FieldType.array .int).toString) = some (G.2 4) := ((hE.K Z).2 4 _ rfl).2
    have e2 : s.vm.findClass ("[" ++ (FieldType.array .int).toString) = some cA := (hK1.2 6 _ rfl).2
    have hcc : cA = G.2 4 := Option.some.inj (e2.symm.trans e1)
    subst hcc
    generalize hrs : (List.range N).map r = rs at hP1 hD1
    have hin : ∀ i, i < N → r i ∈ rs := fun i hi => by rw [← hrs]; exact List.mem_map.mpr ⟨i, List.mem_range.mpr hi, rfl⟩
    generalize hE9 : (.inl (G.2 4, N, .inr (.inr (.inr (.inr (fun i => if i < N then some (r i) else none))))) : va_E) = E9 at hP1 hD1
    generalize hE8 : (.inl (G.2 0, K, .inl (fun _ => 0)) : va_E) = E8 at hP1 hD1
    have hq : ∀ x, x ∈ h.1 ++ rs → x ≠ q := by
      intro x hx9 hxq
      subst hxq
      obtain ⟨k9, hk9⟩ := va_pl_get (X := [(x, E9)]) (f := vr_up h.2 rs E8) hx9
      have h3 : (([] ++ [(x, E9)]) ++ va_pl (h.1 ++ rs) (vr_up h.2 rs E8))[0]? = some (x, E9) := rfl
      have h5 := hD1.1 0 k9 _ _ h3 hk9 rfl
      subst h5
      have h6 : (x, E9) = (x, vr_up h.2 rs E8 x) := Option.some.inj (h3.symm.trans hk9)
      have h7 : E9 = vr_up h.2 rs E8 x := congrArg Prod.snd h6
      obtain ⟨j9, hj9⟩ := va_pl_get (X := []) (f := vr_up h.2 rs E8) hx9
      have h8 : (([] ++ [(x, E9)]) ++ va_pl (h.1 ++ rs) (vr_up h.2 rs E8))[j9 + 1]? = some (x, vr_up h.2 rs E8 x) := hj9
      have h10 := hD1.1 0 (j9 + 1) _ _ h3 h8 rfl
      omega
    have hw : ([] ++ [(q, E9)]) ++ va_pl (h.1 ++ rs) (vr_up h.2 rs E8) = va_pl (q :: (h.1 ++ rs)) (va_up (vr_up h.2 rs E8) q E9) := by
      show (q, E9) :: va_pl (h.1 ++ rs) (vr_up h.2 rs E8) = (q, va_up (vr_up h.2 rs E8) q E9 q) :: va_pl (h.1 ++ rs) (va_up (vr_up h.2 rs E8) q E9)
      rw [va_up_self]
      refine congrArg (fun l => (q, E9) :: l) ?_
      unfold va_pl
      refine List.map_congr_left fun x hx9 => ?_
      rw [va_up_ne _ _ (hq x hx9)]
    rw [hw] at hP1 hD1
    refine kk q r (q :: (h.1 ++ rs), va_up (vr_up h.2 rs E8) q E9) H1 hinj hrn (fun z => hq q (List.mem_append_left _ z) rfl) (fun i hi z => hq (r i) (List.mem_append_right _ (hin i hi)) z.symm) ⟨List.mem_cons_self, ?_⟩ (fun i hi => ⟨List.mem_cons_of_mem _ (List.mem_append_right _ (hin i hi)), ?_⟩) (fun a e w => ⟨List.mem_cons_of_mem _ (List.mem_append_left _ w.1), ?_⟩) ⟨hP1, hD1⟩ hS1
    · exact (va_up_self _ _ _).trans hE9.symm
    · show va_up (vr_up h.2 rs E8) q E9 (r i) = _
      rw [va_up_ne _ _ (hq (r i) (List.mem_append_right _ (hin i hi))), vr_up_in (hin i hi)]
      exact hE8.symm
    · show va_up (vr_up h.2 rs E8) q E9 a = _
      rw [va_up_ne _ _ (hq a (List.mem_append_left _ w.1)), vr_up_ne, w.2]
      rw [← hrs]
      intro z
      obtain ⟨i, hi, rfl⟩ := List.mem_map.mp z
      exact hrn i (List.mem_range.mp hi) w.1
end
end
