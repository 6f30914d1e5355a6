/-! THE LAW'S HELPERS: what the tables say of them (written by wip/whole/gen/law2.py) -/
theorem cl_L_13 : mIn (.classLink RL 13 "java/lang/IllegalArgumentException") := mIn_of 209 (by decide +kernel)
theorem cl_L_15 : mIn (.classLink RL 15 "java/lang/IllegalStateException") := mIn_of 210 (by decide +kernel)
theorem cl_L_24 : mIn (.classLink RL 24 "java/util/NoSuchElementException") := mIn_of 384 (by decide +kernel)
theorem cl_L_48 : mIn (.classLink RL 48 "java/lang/IndexOutOfBoundsException") := mIn_of 559 (by decide +kernel)
theorem cl_L_75 : mIn (.classLink RL 75 "java/lang/ArithmeticException") := mIn_of 685 (by decide +kernel)
theorem ca_IAE : Cond.castable "java/lang/IllegalArgumentException" "java/lang/IllegalArgumentException" ∈ lw_tbl := mIn'_of 220 (by decide +kernel)
theorem ca_ISE : Cond.castable "java/lang/IllegalStateException" "java/lang/IllegalStateException" ∈ lw_tbl := mIn'_of 295 (by decide +kernel)
theorem ca_NSE : Cond.castable "java/util/NoSuchElementException" "java/util/NoSuchElementException" ∈ lw_tbl := mIn'_of 395 (by decide +kernel)
theorem ca_IOB : Cond.castable "java/lang/IndexOutOfBoundsException" "java/lang/IndexOutOfBoundsException" ∈ lw_tbl := mIn'_of 590 (by decide +kernel)
theorem ca_AE : Cond.castable "java/lang/ArithmeticException" "java/lang/ArithmeticException" ∈ lw_tbl := mIn'_of 697 (by decide +kernel)
theorem yi_L_open : mYh yL_open cL_open 5 (some .int) [(0, 10, 13, 13), (0, 10, 17, 15)] 4 := ⟨mIn_of 207 (by decide +kernel), mIn_of 68 (by decide +kernel), mIn_of 208 (by decide +kernel), by decide +kernel, by decide +kernel, by decide +kernel⟩
theorem yi_L_pass : mYh yL_pass cL_pass 4 (some .int) [(0, 8, 11, 13)] 3 := ⟨mIn_of 374 (by decide +kernel), mIn_of 68 (by decide +kernel), mIn_of 375 (by decide +kernel), by decide +kernel, by decide +kernel, by decide +kernel⟩
theorem yi_L_add : mYh yL_add cL_add 5 (some .int) [(0, 10, 13, 24), (0, 10, 17, 13), (0, 10, 21, 15)] 4 := ⟨mIn_of 382 (by decide +kernel), mIn_of 68 (by decide +kernel), mIn_of 383 (by decide +kernel), by decide +kernel, by decide +kernel, by decide +kernel⟩
theorem yi_L_find : mYh yL_find cL_find 5 (some .int) [(0, 10, 13, 24)] 4 := ⟨mIn_of 502 (by decide +kernel), mIn_of 68 (by decide +kernel), mIn_of 503 (by decide +kernel), by decide +kernel, by decide +kernel, by decide +kernel⟩
theorem yi_L_nameOf : mYh yL_nameOf cL_nameOf 4 (some .int) [(0, 9, 12, 24)] 3 := ⟨mIn_of 510 (by decide +kernel), mIn_of 68 (by decide +kernel), mIn_of 511 (by decide +kernel), by decide +kernel, by decide +kernel, by decide +kernel⟩
theorem yi_L_hostOf : mYh yL_hostOf cL_hostOf 4 (some .int) [(0, 9, 12, 24)] 3 := ⟨mIn_of 517 (by decide +kernel), mIn_of 68 (by decide +kernel), mIn_of 518 (by decide +kernel), by decide +kernel, by decide +kernel, by decide +kernel⟩
theorem yi_L_samples : mYh yL_samples cL_samples 4 (some .int) [(0, 9, 12, 24)] 3 := ⟨mIn_of 524 (by decide +kernel), mIn_of 68 (by decide +kernel), mIn_of 525 (by decide +kernel), by decide +kernel, by decide +kernel, by decide +kernel⟩
theorem yi_L_latest : mYh yL_latest cL_latest 4 (some .int) [(0, 9, 12, 24), (0, 9, 15, 15)] 3 := ⟨mIn_of 531 (by decide +kernel), mIn_of 68 (by decide +kernel), mIn_of 532 (by decide +kernel), by decide +kernel, by decide +kernel, by decide +kernel⟩
theorem yi_L_blocks : mYh yL_blocks cL_blocks 4 (some .int) [(0, 9, 12, 24)] 3 := ⟨mIn_of 546 (by decide +kernel), mIn_of 68 (by decide +kernel), mIn_of 547 (by decide +kernel), by decide +kernel, by decide +kernel, by decide +kernel⟩
theorem yi_L_bitsOf : mYh yL_bitsOf cL_bitsOf 5 (some .int) [(0, 10, 13, 24), (0, 10, 17, 48)] 4 := ⟨mIn_of 557 (by decide +kernel), mIn_of 68 (by decide +kernel), mIn_of 558 (by decide +kernel), by decide +kernel, by decide +kernel, by decide +kernel⟩
theorem yi_L_timeAt : mYh yL_timeAt cL_timeAt 5 (some .int) [(0, 9, 12, 24), (0, 9, 16, 48)] 4 := ⟨mIn_of 602 (by decide +kernel), mIn_of 68 (by decide +kernel), mIn_of 603 (by decide +kernel), by decide +kernel, by decide +kernel, by decide +kernel⟩
theorem yi_L_valueAt : mYh yL_valueAt cL_valueAt 5 (some .int) [(0, 10, 13, 24), (0, 10, 17, 48)] 4 := ⟨mIn_of 614 (by decide +kernel), mIn_of 68 (by decide +kernel), mIn_of 615 (by decide +kernel), by decide +kernel, by decide +kernel, by decide +kernel⟩
theorem yi_L_count : mYh yL_count cL_count 8 (some .int) [(0, 13, 16, 24), (0, 13, 20, 13)] 5 := ⟨mIn_of 622 (by decide +kernel), mIn_of 68 (by decide +kernel), mIn_of 623 (by decide +kernel), by decide +kernel, by decide +kernel, by decide +kernel⟩
theorem yi_L_sum : mYh yL_sum cL_sum 8 (some .int) [(0, 12, 15, 24), (0, 12, 19, 13)] 5 := ⟨mIn_of 656 (by decide +kernel), mIn_of 68 (by decide +kernel), mIn_of 657 (by decide +kernel), by decide +kernel, by decide +kernel, by decide +kernel⟩
theorem yi_L_sumByReading : mYh yL_sumByReading cL_sumByReading 8 (some .int) [(0, 12, 15, 24), (0, 12, 19, 13)] 5 := ⟨mIn_of 663 (by decide +kernel), mIn_of 68 (by decide +kernel), mIn_of 664 (by decide +kernel), by decide +kernel, by decide +kernel, by decide +kernel⟩
theorem yi_L_maximum : mYh yL_maximum cL_maximum 8 (some .int) [(0, 13, 16, 24), (0, 13, 20, 13), (0, 13, 24, 15)] 5 := ⟨mIn_of 675 (by decide +kernel), mIn_of 68 (by decide +kernel), mIn_of 676 (by decide +kernel), by decide +kernel, by decide +kernel, by decide +kernel⟩
theorem yi_L_mean : mYh yL_mean cL_mean 8 (some .int) [(0, 12, 15, 24), (0, 12, 19, 13), (0, 12, 23, 75)] 5 := ⟨mIn_of 683 (by decide +kernel), mIn_of 68 (by decide +kernel), mIn_of 684 (by decide +kernel), by decide +kernel, by decide +kernel, by decide +kernel⟩
theorem yi_L_rollupCount : mYh yL_rollupCount cL_rollupCount 5 (some .int) [(0, 10, 13, 24), (0, 10, 17, 13)] 4 := ⟨mIn_of 706 (by decide +kernel), mIn_of 68 (by decide +kernel), mIn_of 707 (by decide +kernel), by decide +kernel, by decide +kernel, by decide +kernel⟩
theorem yi_L_countLow : mYh yL_countLow cL_countLow 8 (some .int) [(0, 13, 16, 24), (0, 13, 20, 13)] 5 := ⟨mIn_of 715 (by decide +kernel), mIn_of 68 (by decide +kernel), mIn_of 716 (by decide +kernel), by decide +kernel, by decide +kernel, by decide +kernel⟩
theorem yi_L_countHigh : mYh yL_countHigh cL_countHigh 8 (some .int) [(0, 13, 16, 24), (0, 13, 20, 13)] 5 := ⟨mIn_of 730 (by decide +kernel), mIn_of 68 (by decide +kernel), mIn_of 731 (by decide +kernel), by decide +kernel, by decide +kernel, by decide +kernel⟩
theorem yi_L_maximumHigh : mYh yL_maximumHigh cL_maximumHigh 8 (some .int) [(0, 13, 16, 24), (0, 13, 20, 13), (0, 13, 24, 15)] 5 := ⟨mIn_of 745 (by decide +kernel), mIn_of 68 (by decide +kernel), mIn_of 746 (by decide +kernel), by decide +kernel, by decide +kernel, by decide +kernel⟩
theorem yi_L_quantile : mYh yL_quantile cL_quantile 5 (some .int) [(0, 10, 13, 24), (0, 10, 17, 13), (0, 10, 21, 15)] 4 := ⟨mIn_of 753 (by decide +kernel), mIn_of 68 (by decide +kernel), mIn_of 754 (by decide +kernel), by decide +kernel, by decide +kernel, by decide +kernel⟩
theorem yi_L_exactQuantile : mYh yL_exactQuantile cL_exactQuantile 5 (some .int) [(0, 10, 13, 24), (0, 10, 17, 13), (0, 10, 21, 15)] 4 := ⟨mIn_of 767 (by decide +kernel), mIn_of 68 (by decide +kernel), mIn_of 768 (by decide +kernel), by decide +kernel, by decide +kernel, by decide +kernel⟩
theorem yi_L_bound : mYh yL_bound cL_bound 4 (some .int) [(0, 9, 12, 24)] 3 := ⟨mIn_of 778 (by decide +kernel), mIn_of 68 (by decide +kernel), mIn_of 779 (by decide +kernel), by decide +kernel, by decide +kernel, by decide +kernel⟩
theorem yi_L_held : mYh yL_held cL_held 4 (some .int) [(0, 9, 12, 24)] 3 := ⟨mIn_of 785 (by decide +kernel), mIn_of 68 (by decide +kernel), mIn_of 786 (by decide +kernel), by decide +kernel, by decide +kernel, by decide +kernel⟩
theorem yi_L_isWithin : mYh yL_isWithin cL_isWithin 5 (some .int) [(0, 17, 20, 24), (0, 17, 24, 13), (0, 17, 28, 15)] 4 := ⟨mIn_of 796 (by decide +kernel), mIn_of 68 (by decide +kernel), mIn_of 797 (by decide +kernel), by decide +kernel, by decide +kernel, by decide +kernel⟩
theorem yi_L_setAlert : mYh yL_setAlert cL_setAlert 6 (some .int) [(0, 12, 15, 24), (0, 12, 19, 13)] 5 := ⟨mIn_of 804 (by decide +kernel), mIn_of 68 (by decide +kernel), mIn_of 805 (by decide +kernel), by decide +kernel, by decide +kernel, by decide +kernel⟩
theorem yi_L_removeAlert : mYh yL_removeAlert cL_removeAlert 4 (some .int) [(0, 9, 12, 24), (0, 9, 15, 15)] 3 := ⟨mIn_of 832 (by decide +kernel), mIn_of 68 (by decide +kernel), mIn_of 833 (by decide +kernel), by decide +kernel, by decide +kernel, by decide +kernel⟩
theorem yi_L_alertOf : mYh yL_alertOf cL_alertOf 4 (some .int) [(0, 9, 12, 24), (0, 9, 15, 15)] 3 := ⟨mIn_of 844 (by decide +kernel), mIn_of 68 (by decide +kernel), mIn_of 845 (by decide +kernel), by decide +kernel, by decide +kernel, by decide +kernel⟩
theorem yi_L_joinCount : mYh yL_joinCount cL_joinCount 5 (some .int) [(0, 10, 13, 13)] 4 := ⟨mIn_of 851 (by decide +kernel), mIn_of 68 (by decide +kernel), mIn_of 852 (by decide +kernel), by decide +kernel, by decide +kernel, by decide +kernel⟩
theorem yi_L_joinSum : mYh yL_joinSum cL_joinSum 5 (some .int) [(0, 9, 12, 13)] 4 := ⟨mIn_of 866 (by decide +kernel), mIn_of 68 (by decide +kernel), mIn_of 867 (by decide +kernel), by decide +kernel, by decide +kernel, by decide +kernel⟩
theorem yi_L_firingShare : mYh yL_firingShare cL_firingShare 3 (some .int) [(0, 8, 11, 75)] 2 := ⟨mIn_of 873 (by decide +kernel), mIn_of 68 (by decide +kernel), mIn_of 874 (by decide +kernel), by decide +kernel, by decide +kernel, by decide +kernel⟩
theorem NW_thr {G : mG} {h0 h9 : Hp} {A : Cd → Nat} {tg : Nat → Cd} {st : Ms} (w : NW G h0 h9 A tg st) (t : Int32) : NW G h0 h9 A tg (s_thr st t) := by
  obtain ⟨A9, tg9, X9, fd9, tt9, gr9, g1, g2, g3, g4⟩ := w
  exact ⟨A9, tg9, X9, fd9, tt9, gr9, g1, g2, g3, fun k hk => Rx_thr (g4 k hk) t⟩
theorem b2_ne {p : Prop} [Decidable p] (z : ¬ b2 p = 0) : lN 1 = (b2 p).toInt64 := by
  by_cases q : p
  · have e : b2 p = nI 1 := by unfold b2; exact if_pos q
    rw [e]; decide
  · exact absurd (show b2 p = nI 0 by unfold b2; exact if_neg q) z
theorem ad_thr (st : Ms) (k : Nat) (w : Int32) : st_thr (s_add st k w) = nI 0 := by unfold s_add; rw [s_se_thr, s_lv_thr, s_ho_thr, s_tv_thr]
