set_option maxRecDepth 100000 in
set_option maxHeartbeats 4000000 in
theorem c_X6_timeAt {l : Launch} {G : mG} {a0 : Array Value} {s0 : State} (Z : mZ l G a0 s0) (h0 : Hp) (m : Nat) (q : Nat → Nat) (st : Ms) (hW : MdlW G h0 m q st) (x : Int32) (y : Int32) (hk : Mok st) : mM l G s0 yX6_timeAt cX6_timeAt 3 (some .long) 3 65 0 0 h0 [.ref m, .int x, .int y] (fun v h9 => (∃ k : Nat, ∃ j : Nat, (k < st_many st) ∧ (x = nI k) ∧ (j < st_n st k) ∧ (y = nI j) ∧ v = some (.long (lN (st_T st (120 * k + j)))) ∧ MdlW G h9 m q (se_now (se_many (se_thr st (nI 0)) (st_many st)) (st_now st)) ∧ mFr h0 h9 m q) ∨ (∃ k : Nat, (k < st_many st) ∧ (x = nI k) ∧ (∀ j : Nat, j < st_n st k → y ≠ nI j) ∧ v = some (.long (lN 0)) ∧ MdlW G h9 m q (se_now (se_many (se_thr st (nI 2)) (st_many st)) (st_now st)) ∧ mFr h0 h9 m q) ∨ ((∀ k : Nat, k < st_many st → x ≠ nI k) ∧ v = some (.long (lN 0)) ∧ MdlW G h9 m q (se_now (se_many (se_thr st (nI 1)) (st_many st)) (st_now st)) ∧ mFr h0 h9 m q)) := by
  refine mM_in RX6 "timeAt" rfl rfl (by decide +kernel) (Nat.le_of_ble_eq_true rfl) ?_
  intro p e s mt below meth c H locs C hM hS ls hl
  have hx := C.1
  have hb := C.2.1
  have hown := C.2.2.2.1
  have hE := C.2.2.2.2.2.2.1
  have hl : lv_has ls 3 [(0, .ref m), (1, .int x), (2, .int y)] := hl
  have hF : mFr h0 h0 m q := mFr.rf
  obtain ⟨h, hM, hW, hF⟩ : ∃ h9, MW G s0.heap.size h9 H ∧ MdlW G h9 m q st ∧ mFr h0 h9 m q := ⟨_, hM, hW, hF⟩
  have hm := hk.1
  have hnow := hk.2.1
  refine lv_aload_n hx hb dX6_timeAt_0 rfl (lv_at hl 0 rfl) ?_
  refine lv_iload_n hx hb dX6_timeAt_1 rfl (lv_at hl 1 rfl) ?_
  refine lv_iload_n hx hb dX6_timeAt_2 rfl (lv_at hl 2 rfl) ?_
  refine m_callV Z C hM hS (As := [.int x, .int y]) (rest := []) (c_X6_isSample Z h m q st hW x y hk) yi_X6_isSample ml_X6_107 hW.o rfl ⟨Nat.le_of_ble_eq_true rfl, Nat.le_of_ble_eq_true rfl⟩ (Nat.le_of_ble_eq_true rfl) hl.1 rfl rfl dX6_timeAt_3 ⟨Nat.le_of_ble_eq_true rfl, Nat.le_of_ble_eq_true rfl⟩ (fun v h9 H locs hv hM hS => ?_)
  rcases hv with ⟨k_1, j_2, f_3, f_4, f_5, f_6, hv, hW, hF9⟩ | ⟨k_7, f_8, f_9, f_10, hv, hW, hF9⟩ | ⟨f_11, hv, hW, hF9⟩
  · -- of 3
    subst hv
    have hF := hF.trans hF9
    obtain ⟨h, hM, hW, hF⟩ : ∃ h8, MW G s0.heap.size h8 H ∧ MdlW G h8 m q (se_now (se_many (se_thr st (nI 0)) (st_many st)) (st_now st)) ∧ mFr h0 h8 m q := ⟨_, hM, hW, hF⟩
    subst f_4
    subst f_6
    refine W.eq (g2 := F0 mt 6 ls [.int (nI 1)]) rfl ?_
    obtain ⟨hn, hT, hZ, hsi, hbd, hhv⟩ := hk.2.2 k_1 f_3
    refine lv_if_eq (tgt := 18) hx hb dX6_timeAt_6 (by decide) (fun q => absurd q (by decide)) (fun _ => ?_)
    refine lv_aload_n hx hb dX6_timeAt_9 rfl (lv_at hl 0 rfl) ?_
    refine lv_iload_n hx hb dX6_timeAt_10 rfl (lv_at hl 1 rfl) ?_
    refine lv_iload_n hx hb dX6_timeAt_11 rfl (lv_at hl 2 rfl) ?_
    refine m_callV Z C hM hS (As := [.int (nI k_1), .int (nI j_2)]) (rest := []) (c_X6_time Z h m q (se_now (se_many (se_thr st (nI 0)) (st_many st)) (st_now st)) hW k_1 j_2 (show k_1 < 10 by omega) (show j_2 < 120 by omega)) yi_X6_time ml_X6_87 hW.o rfl ⟨Nat.le_of_ble_eq_true rfl, Nat.le_of_ble_eq_true rfl⟩ (Nat.le_of_ble_eq_true rfl) hl.1 rfl rfl dX6_timeAt_12 ⟨Nat.le_of_ble_eq_true rfl, Nat.le_of_ble_eq_true rfl⟩ (fun v h9 H locs hv hM hS => ?_)
    obtain ⟨hv, hh9⟩ := hv
    subst hv
    rw [hh9] at hM
    refine W.eq (g2 := F0 mt 15 ls [.long (lN (st_T st (120 * k_1 + j_2)))]) rfl ?_
    refine lv_goto (tgt := 19) hx hb dX6_timeAt_15 (by decide) ?_
    exact m_lret C hM hS (Nat.le_of_ble_eq_true rfl) (Nat.le_of_ble_eq_true rfl) dX6_timeAt_19 (Or.inl ⟨k_1, j_2, f_3, rfl, f_5, rfl, rfl, hW, hF⟩)
  · -- of 3
    subst hv
    have hF := hF.trans hF9
    obtain ⟨h, hM, hW, hF⟩ : ∃ h8, MW G s0.heap.size h8 H ∧ MdlW G h8 m q (se_now (se_many (se_thr st (nI 2)) (st_many st)) (st_now st)) ∧ mFr h0 h8 m q := ⟨_, hM, hW, hF⟩
    subst f_9
    refine W.eq (g2 := F0 mt 6 ls [.int (nI 0)]) rfl ?_
    refine lv_if_eq (tgt := 18) hx hb dX6_timeAt_6 (by decide) (fun _ => ?_) (fun q => absurd (by decide) q)
    refine lv_lconst (v := lN 0) hx hb dX6_timeAt_18 (by decide) ?_
    exact m_lret C hM hS (Nat.le_of_ble_eq_true rfl) (Nat.le_of_ble_eq_true rfl) dX6_timeAt_19 (Or.inr (Or.inl ⟨k_7, f_8, rfl, f_10, rfl, hW, hF⟩))
  · -- of 3
    subst hv
    have hF := hF.trans hF9
    obtain ⟨h, hM, hW, hF⟩ : ∃ h8, MW G s0.heap.size h8 H ∧ MdlW G h8 m q (se_now (se_many (se_thr st (nI 1)) (st_many st)) (st_now st)) ∧ mFr h0 h8 m q := ⟨_, hM, hW, hF⟩
    refine W.eq (g2 := F0 mt 6 ls [.int (nI 0)]) rfl ?_
    refine lv_if_eq (tgt := 18) hx hb dX6_timeAt_6 (by decide) (fun _ => ?_) (fun q => absurd (by decide) q)
    refine lv_lconst (v := lN 0) hx hb dX6_timeAt_18 (by decide) ?_
    exact m_lret C hM hS (Nat.le_of_ble_eq_true rfl) (Nat.le_of_ble_eq_true rfl) dX6_timeAt_19 (Or.inr (Or.inr ⟨f_11, rfl, hW, hF⟩))
set_option maxRecDepth 100000 in
set_option maxHeartbeats 4000000 in
theorem c_X6_valueAt {l : Launch} {G : mG} {a0 : Array Value} {s0 : State} (Z : mZ l G a0 s0) (h0 : Hp) (m : Nat) (q : Nat → Nat) (st : Ms) (hW : MdlW G h0 m q st) (x : Int32) (y : Int32) (hk : Mok st) : mM l G s0 yX6_valueAt cX6_valueAt 3 (some .int) 3 65 0 0 h0 [.ref m, .int x, .int y] (fun v h9 => (∃ k : Nat, ∃ j : Nat, (k < st_many st) ∧ (x = nI k) ∧ (j < st_n st k) ∧ (y = nI j) ∧ v = some (.int (z_v st k j)) ∧ MdlW G h9 m q (se_now (se_many (se_thr st (nI 0)) (st_many st)) (st_now st)) ∧ mFr h0 h9 m q) ∨ (∃ k : Nat, (k < st_many st) ∧ (x = nI k) ∧ (∀ j : Nat, j < st_n st k → y ≠ nI j) ∧ v = some (.int (nI 0)) ∧ MdlW G h9 m q (se_now (se_many (se_thr st (nI 2)) (st_many st)) (st_now st)) ∧ mFr h0 h9 m q) ∨ ((∀ k : Nat, k < st_many st → x ≠ nI k) ∧ v = some (.int (nI 0)) ∧ MdlW G h9 m q (se_now (se_many (se_thr st (nI 1)) (st_many st)) (st_now st)) ∧ mFr h0 h9 m q)) := by
  refine mM_in RX6 "valueAt" rfl rfl (by decide +kernel) (Nat.le_of_ble_eq_true rfl) ?_
  intro p e s mt below meth c H locs C hM hS ls hl
  have hx := C.1
  have hb := C.2.1
  have hown := C.2.2.2.1
  have hE := C.2.2.2.2.2.2.1
  have hl : lv_has ls 3 [(0, .ref m), (1, .int x), (2, .int y)] := hl
  have hF : mFr h0 h0 m q := mFr.rf
  obtain ⟨h, hM, hW, hF⟩ : ∃ h9, MW G s0.heap.size h9 H ∧ MdlW G h9 m q st ∧ mFr h0 h9 m q := ⟨_, hM, hW, hF⟩
  have hm := hk.1
  have hnow := hk.2.1
  refine lv_aload_n hx hb dX6_valueAt_0 rfl (lv_at hl 0 rfl) ?_
  refine lv_iload_n hx hb dX6_valueAt_1 rfl (lv_at hl 1 rfl) ?_
  refine lv_iload_n hx hb dX6_valueAt_2 rfl (lv_at hl 2 rfl) ?_
  refine m_callV Z C hM hS (As := [.int x, .int y]) (rest := []) (c_X6_isSample Z h m q st hW x y hk) yi_X6_isSample ml_X6_107 hW.o rfl ⟨Nat.le_of_ble_eq_true rfl, Nat.le_of_ble_eq_true rfl⟩ (Nat.le_of_ble_eq_true rfl) hl.1 rfl rfl dX6_valueAt_3 ⟨Nat.le_of_ble_eq_true rfl, Nat.le_of_ble_eq_true rfl⟩ (fun v h9 H locs hv hM hS => ?_)
  rcases hv with ⟨k_1, j_2, f_3, f_4, f_5, f_6, hv, hW, hF9⟩ | ⟨k_7, f_8, f_9, f_10, hv, hW, hF9⟩ | ⟨f_11, hv, hW, hF9⟩
  · -- of 3
    subst hv
    have hF := hF.trans hF9
    obtain ⟨h, hM, hW, hF⟩ : ∃ h8, MW G s0.heap.size h8 H ∧ MdlW G h8 m q (se_now (se_many (se_thr st (nI 0)) (st_many st)) (st_now st)) ∧ mFr h0 h8 m q := ⟨_, hM, hW, hF⟩
    subst f_4
    subst f_6
    refine W.eq (g2 := F0 mt 6 ls [.int (nI 1)]) rfl ?_
    obtain ⟨hn, hT, hZ, hsi, hbd, hhv⟩ := hk.2.2 k_1 f_3
    refine lv_if_eq (tgt := 18) hx hb dX6_valueAt_6 (by decide) (fun q => absurd q (by decide)) (fun _ => ?_)
    refine lv_aload_n hx hb dX6_valueAt_9 rfl (lv_at hl 0 rfl) ?_
    refine lv_iload_n hx hb dX6_valueAt_10 rfl (lv_at hl 1 rfl) ?_
    refine lv_iload_n hx hb dX6_valueAt_11 rfl (lv_at hl 2 rfl) ?_
    refine m_callV Z C hM hS (As := [.int (nI k_1), .int (nI j_2)]) (rest := []) (c_X6_value Z h m q (se_now (se_many (se_thr st (nI 0)) (st_many st)) (st_now st)) hW k_1 j_2 (show k_1 < 10 by omega) (show j_2 < 120 by omega)) yi_X6_value ml_X6_64 hW.o rfl ⟨Nat.le_of_ble_eq_true rfl, Nat.le_of_ble_eq_true rfl⟩ (Nat.le_of_ble_eq_true rfl) hl.1 rfl rfl dX6_valueAt_12 ⟨Nat.le_of_ble_eq_true rfl, Nat.le_of_ble_eq_true rfl⟩ (fun v h9 H locs hv hM hS => ?_)
    obtain ⟨hv, hh9⟩ := hv
    subst hv
    rw [hh9] at hM
    refine W.eq (g2 := F0 mt 15 ls [.int (st_V st (120 * k_1 + j_2))]) rfl ?_
    refine lv_goto (tgt := 19) hx hb dX6_valueAt_15 (by decide) ?_
    exact m_iret C hM hS (Nat.le_of_ble_eq_true rfl) (Nat.le_of_ble_eq_true rfl) dX6_valueAt_19 (Or.inl ⟨k_1, j_2, f_3, rfl, f_5, rfl, rfl, hW, hF⟩)
  · -- of 3
    subst hv
    have hF := hF.trans hF9
    obtain ⟨h, hM, hW, hF⟩ : ∃ h8, MW G s0.heap.size h8 H ∧ MdlW G h8 m q (se_now (se_many (se_thr st (nI 2)) (st_many st)) (st_now st)) ∧ mFr h0 h8 m q := ⟨_, hM, hW, hF⟩
    subst f_9
    refine W.eq (g2 := F0 mt 6 ls [.int (nI 0)]) rfl ?_
    refine lv_if_eq (tgt := 18) hx hb dX6_valueAt_6 (by decide) (fun _ => ?_) (fun q => absurd (by decide) q)
    refine lv_iconst (v := nI 0) hx hb dX6_valueAt_18 (by decide) ?_
    exact m_iret C hM hS (Nat.le_of_ble_eq_true rfl) (Nat.le_of_ble_eq_true rfl) dX6_valueAt_19 (Or.inr (Or.inl ⟨k_7, f_8, rfl, f_10, rfl, hW, hF⟩))
  · -- of 3
    subst hv
    have hF := hF.trans hF9
    obtain ⟨h, hM, hW, hF⟩ : ∃ h8, MW G s0.heap.size h8 H ∧ MdlW G h8 m q (se_now (se_many (se_thr st (nI 1)) (st_many st)) (st_now st)) ∧ mFr h0 h8 m q := ⟨_, hM, hW, hF⟩
    refine W.eq (g2 := F0 mt 6 ls [.int (nI 0)]) rfl ?_
    refine lv_if_eq (tgt := 18) hx hb dX6_valueAt_6 (by decide) (fun _ => ?_) (fun q => absurd (by decide) q)
    refine lv_iconst (v := nI 0) hx hb dX6_valueAt_18 (by decide) ?_
    exact m_iret C hM hS (Nat.le_of_ble_eq_true rfl) (Nat.le_of_ble_eq_true rfl) dX6_valueAt_19 (Or.inr (Or.inr ⟨f_11, rfl, hW, hF⟩))
set_option maxRecDepth 100000 in
set_option maxHeartbeats 4000000 in
theorem c_X6_count {l : Launch} {G : mG} {a0 : Array Value} {s0 : State} (Z : mZ l G a0 s0) (h0 : Hp) (m : Nat) (q : Nat → Nat) (st : Ms) (hW : MdlW G h0 m q st) (x : Int32) (a : Int64) (d : Int64) (hk : Mok st) : mM l G s0 yX6_count cX6_count 6 (some .int) 3 75 0 0 h0 [.ref m, .int x, .long a, .long d] (fun v h9 => (∃ k : Nat, (k < st_many st) ∧ (x = nI k) ∧ (¬ z_bad a d) ∧ v = some (.int (nI (z_ct (z_in st k a d) (st_n st k)))) ∧ MdlW G h9 m q (se_now (se_many (se_thr st (nI 0)) (st_many st)) (st_now st)) ∧ mFr h0 h9 m q) ∨ (∃ k : Nat, (k < st_many st) ∧ (x = nI k) ∧ (z_bad a d) ∧ v = some (.int (nI 0)) ∧ MdlW G h9 m q (se_now (se_many (se_thr st (nI 2)) (st_many st)) (st_now st)) ∧ mFr h0 h9 m q) ∨ ((∀ k : Nat, k < st_many st → x ≠ nI k) ∧ v = some (.int (nI 0)) ∧ MdlW G h9 m q (se_now (se_many (se_thr st (nI 1)) (st_many st)) (st_now st)) ∧ mFr h0 h9 m q)) := by
  refine mM_in RX6 "count" rfl rfl (by decide +kernel) (Nat.le_of_ble_eq_true rfl) ?_
  intro p e s mt below meth c H locs C hM hS ls hl
  have hx := C.1
  have hb := C.2.1
  have hown := C.2.2.2.1
  have hE := C.2.2.2.2.2.2.1
  have hl : lv_has ls 6 [(0, .ref m), (1, .int x), (2, .long a), (4, .long d)] := hl
  have hF : mFr h0 h0 m q := mFr.rf
  obtain ⟨h, hM, hW, hF⟩ : ∃ h9, MW G s0.heap.size h9 H ∧ MdlW G h9 m q st ∧ mFr h0 h9 m q := ⟨_, hM, hW, hF⟩
  have hm := hk.1
  have hnow := hk.2.1
  refine lv_aload_n hx hb dX6_count_0 rfl (lv_at hl 0 rfl) ?_
  refine lv_iload_n hx hb dX6_count_1 rfl (lv_at hl 1 rfl) ?_
  refine lv_lload_n hx hb dX6_count_2 rfl (lv_at hl 2 rfl) ?_
  refine lv_lload hx hb dX6_count_3 (lv_at hl 3 rfl) ?_
  refine m_callV Z C hM hS (As := [.int x, .long a, .long d]) (rest := []) (c_X6_isRange Z h m q st hW x a d hk) yi_X6_isRange ml_X6_115 hW.o rfl ⟨Nat.le_of_ble_eq_true rfl, Nat.le_of_ble_eq_true rfl⟩ (Nat.le_of_ble_eq_true rfl) hl.1 rfl rfl dX6_count_5 ⟨Nat.le_of_ble_eq_true rfl, Nat.le_of_ble_eq_true rfl⟩ (fun v h9 H locs hv hM hS => ?_)
  rcases hv with ⟨k_1, f_2, f_3, f_4, hv, hW, hF9⟩ | ⟨k_5, f_6, f_7, f_8, hv, hW, hF9⟩ | ⟨f_9, hv, hW, hF9⟩
  · -- of 5
    subst hv
    have hF := hF.trans hF9
    obtain ⟨h, hM, hW, hF⟩ : ∃ h8, MW G s0.heap.size h8 H ∧ MdlW G h8 m q (se_now (se_many (se_thr st (nI 0)) (st_many st)) (st_now st)) ∧ mFr h0 h8 m q := ⟨_, hM, hW, hF⟩
    subst f_3
    refine W.eq (g2 := F0 mt 8 ls [.int (nI 1)]) rfl ?_
    obtain ⟨hn, hT, hZ, hsi, hbd, hhv⟩ := hk.2.2 k_1 f_2
    refine lv_if_eq (tgt := 22) hx hb dX6_count_8 (by decide) (fun q => absurd q (by decide)) (fun _ => ?_)
    refine lv_aload_n hx hb dX6_count_11 rfl (lv_at hl 0 rfl) ?_
    refine lv_iload_n hx hb dX6_count_12 rfl (lv_at hl 1 rfl) ?_
    refine lv_lload_n hx hb dX6_count_13 rfl (lv_at hl 2 rfl) ?_
    refine lv_lload hx hb dX6_count_14 (lv_at hl 3 rfl) ?_
    refine m_callV Z C hM hS (As := [.int (nI k_1), .long a, .long d]) (rest := []) (c_X6_counted Z h m q (se_now (se_many (se_thr st (nI 0)) (st_many st)) (st_now st)) hW k_1 a d hk (show k_1 < st_many st by omega)) yi_X6_counted ml_X6_119 hW.o rfl ⟨Nat.le_of_ble_eq_true rfl, Nat.le_of_ble_eq_true rfl⟩ (Nat.le_of_ble_eq_true rfl) hl.1 rfl rfl dX6_count_16 ⟨Nat.le_of_ble_eq_true rfl, Nat.le_of_ble_eq_true rfl⟩ (fun v h9 H locs hv hM hS => ?_)
    obtain ⟨hv, hh9⟩ := hv
    subst hv
    rw [hh9] at hM
    refine W.eq (g2 := F0 mt 19 ls [.int (nI (z_ct (z_in st k_1 a d) (st_n st k_1)))]) rfl ?_
    refine lv_goto (tgt := 23) hx hb dX6_count_19 (by decide) ?_
    exact m_iret C hM hS (Nat.le_of_ble_eq_true rfl) (Nat.le_of_ble_eq_true rfl) dX6_count_23 (Or.inl ⟨k_1, f_2, rfl, f_4, rfl, hW, hF⟩)
  · -- of 5
    subst hv
    have hF := hF.trans hF9
    obtain ⟨h, hM, hW, hF⟩ : ∃ h8, MW G s0.heap.size h8 H ∧ MdlW G h8 m q (se_now (se_many (se_thr st (nI 2)) (st_many st)) (st_now st)) ∧ mFr h0 h8 m q := ⟨_, hM, hW, hF⟩
    subst f_7
    refine W.eq (g2 := F0 mt 8 ls [.int (nI 0)]) rfl ?_
    refine lv_if_eq (tgt := 22) hx hb dX6_count_8 (by decide) (fun _ => ?_) (fun q => absurd (by decide) q)
    refine lv_iconst (v := nI 0) hx hb dX6_count_22 (by decide) ?_
    exact m_iret C hM hS (Nat.le_of_ble_eq_true rfl) (Nat.le_of_ble_eq_true rfl) dX6_count_23 (Or.inr (Or.inl ⟨k_5, f_6, rfl, f_8, rfl, hW, hF⟩))
  · -- of 5
    subst hv
    have hF := hF.trans hF9
    obtain ⟨h, hM, hW, hF⟩ : ∃ h8, MW G s0.heap.size h8 H ∧ MdlW G h8 m q (se_now (se_many (se_thr st (nI 1)) (st_many st)) (st_now st)) ∧ mFr h0 h8 m q := ⟨_, hM, hW, hF⟩
    refine W.eq (g2 := F0 mt 8 ls [.int (nI 0)]) rfl ?_
    refine lv_if_eq (tgt := 22) hx hb dX6_count_8 (by decide) (fun _ => ?_) (fun q => absurd (by decide) q)
    refine lv_iconst (v := nI 0) hx hb dX6_count_22 (by decide) ?_
    exact m_iret C hM hS (Nat.le_of_ble_eq_true rfl) (Nat.le_of_ble_eq_true rfl) dX6_count_23 (Or.inr (Or.inr ⟨f_9, rfl, hW, hF⟩))
set_option maxRecDepth 100000 in
set_option maxHeartbeats 4000000 in
theorem c_X6_sum {l : Launch} {G : mG} {a0 : Array Value} {s0 : State} (Z : mZ l G a0 s0) (h0 : Hp) (m : Nat) (q : Nat → Nat) (st : Ms) (hW : MdlW G h0 m q st) (x : Int32) (a : Int64) (d : Int64) (hk : Mok st) : mM l G s0 yX6_sum cX6_sum 6 (some .long) 3 76 0 0 h0 [.ref m, .int x, .long a, .long d] (fun v h9 => (∃ k : Nat, (k < st_many st) ∧ (x = nI k) ∧ (¬ z_bad a d) ∧ v = some (.long (z_sm (z_in st k a d) (fun i => (z_v st k i).toInt64) (st_n st k))) ∧ MdlW G h9 m q (se_now (se_many (se_thr st (nI 0)) (st_many st)) (st_now st)) ∧ mFr h0 h9 m q) ∨ (∃ k : Nat, (k < st_many st) ∧ (x = nI k) ∧ (z_bad a d) ∧ v = some (.long (lN 0)) ∧ MdlW G h9 m q (se_now (se_many (se_thr st (nI 2)) (st_many st)) (st_now st)) ∧ mFr h0 h9 m q) ∨ ((∀ k : Nat, k < st_many st → x ≠ nI k) ∧ v = some (.long (lN 0)) ∧ MdlW G h9 m q (se_now (se_many (se_thr st (nI 1)) (st_many st)) (st_now st)) ∧ mFr h0 h9 m q)) := by
  refine mM_in RX6 "sum" rfl rfl (by decide +kernel) (Nat.le_of_ble_eq_true rfl) ?_
  intro p e s mt below meth c H locs C hM hS ls hl
  have hx := C.1
  have hb := C.2.1
  have hown := C.2.2.2.1
  have hE := C.2.2.2.2.2.2.1
  have hl : lv_has ls 6 [(0, .ref m), (1, .int x), (2, .long a), (4, .long d)] := hl
  have hF : mFr h0 h0 m q := mFr.rf
  obtain ⟨h, hM, hW, hF⟩ : ∃ h9, MW G s0.heap.size h9 H ∧ MdlW G h9 m q st ∧ mFr h0 h9 m q := ⟨_, hM, hW, hF⟩
  have hm := hk.1
  have hnow := hk.2.1
  refine lv_aload_n hx hb dX6_sum_0 rfl (lv_at hl 0 rfl) ?_
  refine lv_iload_n hx hb dX6_sum_1 rfl (lv_at hl 1 rfl) ?_
  refine lv_lload_n hx hb dX6_sum_2 rfl (lv_at hl 2 rfl) ?_
  refine lv_lload hx hb dX6_sum_3 (lv_at hl 3 rfl) ?_
  refine m_callV Z C hM hS (As := [.int x, .long a, .long d]) (rest := []) (c_X6_isRange Z h m q st hW x a d hk) yi_X6_isRange ml_X6_115 hW.o rfl ⟨Nat.le_of_ble_eq_true rfl, Nat.le_of_ble_eq_true rfl⟩ (Nat.le_of_ble_eq_true rfl) hl.1 rfl rfl dX6_sum_5 ⟨Nat.le_of_ble_eq_true rfl, Nat.le_of_ble_eq_true rfl⟩ (fun v h9 H locs hv hM hS => ?_)
  rcases hv with ⟨k_1, f_2, f_3, f_4, hv, hW, hF9⟩ | ⟨k_5, f_6, f_7, f_8, hv, hW, hF9⟩ | ⟨f_9, hv, hW, hF9⟩
  · -- of 5
    subst hv
    have hF := hF.trans hF9
    obtain ⟨h, hM, hW, hF⟩ : ∃ h8, MW G s0.heap.size h8 H ∧ MdlW G h8 m q (se_now (se_many (se_thr st (nI 0)) (st_many st)) (st_now st)) ∧ mFr h0 h8 m q := ⟨_, hM, hW, hF⟩
    subst f_3
    refine W.eq (g2 := F0 mt 8 ls [.int (nI 1)]) rfl ?_
    obtain ⟨hn, hT, hZ, hsi, hbd, hhv⟩ := hk.2.2 k_1 f_2
    refine lv_if_eq (tgt := 22) hx hb dX6_sum_8 (by decide) (fun q => absurd q (by decide)) (fun _ => ?_)
    refine lv_aload_n hx hb dX6_sum_11 rfl (lv_at hl 0 rfl) ?_
    refine lv_iload_n hx hb dX6_sum_12 rfl (lv_at hl 1 rfl) ?_
    refine lv_lload_n hx hb dX6_sum_13 rfl (lv_at hl 2 rfl) ?_
    refine lv_lload hx hb dX6_sum_14 (lv_at hl 3 rfl) ?_
    refine m_callV Z C hM hS (As := [.int (nI k_1), .long a, .long d]) (rest := []) (c_X6_summed Z h m q (se_now (se_many (se_thr st (nI 0)) (st_many st)) (st_now st)) hW k_1 a d hk (show k_1 < st_many st by omega)) yi_X6_summed ml_X6_123 hW.o rfl ⟨Nat.le_of_ble_eq_true rfl, Nat.le_of_ble_eq_true rfl⟩ (Nat.le_of_ble_eq_true rfl) hl.1 rfl rfl dX6_sum_16 ⟨Nat.le_of_ble_eq_true rfl, Nat.le_of_ble_eq_true rfl⟩ (fun v h9 H locs hv hM hS => ?_)
    obtain ⟨hv, hh9⟩ := hv
    subst hv
    rw [hh9] at hM
    refine W.eq (g2 := F0 mt 19 ls [.long (z_sm (z_in st k_1 a d) (fun i => (z_v st k_1 i).toInt64) (st_n st k_1))]) rfl ?_
    refine lv_goto (tgt := 23) hx hb dX6_sum_19 (by decide) ?_
    exact m_lret C hM hS (Nat.le_of_ble_eq_true rfl) (Nat.le_of_ble_eq_true rfl) dX6_sum_23 (Or.inl ⟨k_1, f_2, rfl, f_4, rfl, hW, hF⟩)
  · -- of 5
    subst hv
    have hF := hF.trans hF9
    obtain ⟨h, hM, hW, hF⟩ : ∃ h8, MW G s0.heap.size h8 H ∧ MdlW G h8 m q (se_now (se_many (se_thr st (nI 2)) (st_many st)) (st_now st)) ∧ mFr h0 h8 m q := ⟨_, hM, hW, hF⟩
    subst f_7
    refine W.eq (g2 := F0 mt 8 ls [.int (nI 0)]) rfl ?_
    refine lv_if_eq (tgt := 22) hx hb dX6_sum_8 (by decide) (fun _ => ?_) (fun q => absurd (by decide) q)
    refine lv_lconst (v := lN 0) hx hb dX6_sum_22 (by decide) ?_
    exact m_lret C hM hS (Nat.le_of_ble_eq_true rfl) (Nat.le_of_ble_eq_true rfl) dX6_sum_23 (Or.inr (Or.inl ⟨k_5, f_6, rfl, f_8, rfl, hW, hF⟩))
  · -- of 5
    subst hv
    have hF := hF.trans hF9
    obtain ⟨h, hM, hW, hF⟩ : ∃ h8, MW G s0.heap.size h8 H ∧ MdlW G h8 m q (se_now (se_many (se_thr st (nI 1)) (st_many st)) (st_now st)) ∧ mFr h0 h8 m q := ⟨_, hM, hW, hF⟩
    refine W.eq (g2 := F0 mt 8 ls [.int (nI 0)]) rfl ?_
    refine lv_if_eq (tgt := 22) hx hb dX6_sum_8 (by decide) (fun _ => ?_) (fun q => absurd (by decide) q)
    refine lv_lconst (v := lN 0) hx hb dX6_sum_22 (by decide) ?_
    exact m_lret C hM hS (Nat.le_of_ble_eq_true rfl) (Nat.le_of_ble_eq_true rfl) dX6_sum_23 (Or.inr (Or.inr ⟨f_9, rfl, hW, hF⟩))
set_option maxRecDepth 100000 in
set_option maxHeartbeats 4000000 in
theorem c_X6_sumByReading {l : Launch} {G : mG} {a0 : Array Value} {s0 : State} (Z : mZ l G a0 s0) (h0 : Hp) (m : Nat) (q : Nat → Nat) (st : Ms) (hW : MdlW G h0 m q st) (x : Int32) (a : Int64) (d : Int64) (hk : Mok st) : mM l G s0 yX6_sumByReading cX6_sumByReading 6 (some .long) 4 101 0 0 h0 [.ref m, .int x, .long a, .long d] (fun v h9 => (∃ k : Nat, (k < st_many st) ∧ (x = nI k) ∧ (¬ z_bad a d) ∧ v = some (.long (z_sm (z_in st k a d) (fun i => (z_v st k i).toInt64) (st_n st k))) ∧ MdlW G h9 m q (se_now (se_many (se_thr st (nI 0)) (st_many st)) (st_now st)) ∧ mFr h0 h9 m q) ∨ (∃ k : Nat, (k < st_many st) ∧ (x = nI k) ∧ (z_bad a d) ∧ v = some (.long (lN 0)) ∧ MdlW G h9 m q (se_now (se_many (se_thr st (nI 2)) (st_many st)) (st_now st)) ∧ mFr h0 h9 m q) ∨ ((∀ k : Nat, k < st_many st → x ≠ nI k) ∧ v = some (.long (lN 0)) ∧ MdlW G h9 m q (se_now (se_many (se_thr st (nI 1)) (st_many st)) (st_now st)) ∧ mFr h0 h9 m q)) := by
  refine mM_in RX6 "sumByReading" rfl rfl (by decide +kernel) (Nat.le_of_ble_eq_true rfl) ?_
  intro p e s mt below meth c H locs C hM hS ls hl
  have hx := C.1
  have hb := C.2.1
  have hown := C.2.2.2.1
  have hE := C.2.2.2.2.2.2.1
  have hl : lv_has ls 6 [(0, .ref m), (1, .int x), (2, .long a), (4, .long d)] := hl
  have hF : mFr h0 h0 m q := mFr.rf
  obtain ⟨h, hM, hW, hF⟩ : ∃ h9, MW G s0.heap.size h9 H ∧ MdlW G h9 m q st ∧ mFr h0 h9 m q := ⟨_, hM, hW, hF⟩
  have hm := hk.1
  have hnow := hk.2.1
  refine lv_aload_n hx hb dX6_sumByReading_0 rfl (lv_at hl 0 rfl) ?_
  refine lv_iload_n hx hb dX6_sumByReading_1 rfl (lv_at hl 1 rfl) ?_
  refine lv_lload_n hx hb dX6_sumByReading_2 rfl (lv_at hl 2 rfl) ?_
  refine lv_lload hx hb dX6_sumByReading_3 (lv_at hl 3 rfl) ?_
  refine m_callV Z C hM hS (As := [.int x, .long a, .long d]) (rest := []) (c_X6_sum Z h m q st hW x a d hk) yi_X6_sum ml_X6_127 hW.o rfl ⟨Nat.le_of_ble_eq_true rfl, Nat.le_of_ble_eq_true rfl⟩ (Nat.le_of_ble_eq_true rfl) hl.1 rfl rfl dX6_sumByReading_5 ⟨Nat.le_of_ble_eq_true rfl, Nat.le_of_ble_eq_true rfl⟩ (fun v h9 H locs hv hM hS => ?_)
  rcases hv with ⟨k_1, f_2, f_3, f_4, hv, hW, hF9⟩ | ⟨k_5, f_6, f_7, f_8, hv, hW, hF9⟩ | ⟨f_9, hv, hW, hF9⟩
  · -- of 5
    subst hv
    have hF := hF.trans hF9
    obtain ⟨h, hM, hW, hF⟩ : ∃ h8, MW G s0.heap.size h8 H ∧ MdlW G h8 m q (se_now (se_many (se_thr st (nI 0)) (st_many st)) (st_now st)) ∧ mFr h0 h8 m q := ⟨_, hM, hW, hF⟩
    refine W.eq (g2 := F0 mt 8 ls [.long (z_sm (z_in st k_1 a d) (fun i => (z_v st k_1 i).toInt64) (st_n st k_1))]) rfl ?_
    exact m_lret C hM hS (Nat.le_of_ble_eq_true rfl) (Nat.le_of_ble_eq_true rfl) dX6_sumByReading_8 (Or.inl ⟨k_1, f_2, f_3, f_4, rfl, hW, hF⟩)
  · -- of 5
    subst hv
    have hF := hF.trans hF9
    obtain ⟨h, hM, hW, hF⟩ : ∃ h8, MW G s0.heap.size h8 H ∧ MdlW G h8 m q (se_now (se_many (se_thr st (nI 2)) (st_many st)) (st_now st)) ∧ mFr h0 h8 m q := ⟨_, hM, hW, hF⟩
    refine W.eq (g2 := F0 mt 8 ls [.long (lN 0)]) rfl ?_
    exact m_lret C hM hS (Nat.le_of_ble_eq_true rfl) (Nat.le_of_ble_eq_true rfl) dX6_sumByReading_8 (Or.inr (Or.inl ⟨k_5, f_6, f_7, f_8, rfl, hW, hF⟩))
  · -- of 5
    subst hv
    have hF := hF.trans hF9
    obtain ⟨h, hM, hW, hF⟩ : ∃ h8, MW G s0.heap.size h8 H ∧ MdlW G h8 m q (se_now (se_many (se_thr st (nI 1)) (st_many st)) (st_now st)) ∧ mFr h0 h8 m q := ⟨_, hM, hW, hF⟩
    refine W.eq (g2 := F0 mt 8 ls [.long (lN 0)]) rfl ?_
    exact m_lret C hM hS (Nat.le_of_ble_eq_true rfl) (Nat.le_of_ble_eq_true rfl) dX6_sumByReading_8 (Or.inr (Or.inr ⟨f_9, rfl, hW, hF⟩))
set_option maxRecDepth 100000 in
set_option maxHeartbeats 4000000 in
theorem c_X6_countLow {l : Launch} {G : mG} {a0 : Array Value} {s0 : State} (Z : mZ l G a0 s0) (h0 : Hp) (m : Nat) (q : Nat → Nat) (st : Ms) (hW : MdlW G h0 m q st) (x : Int32) (a : Int64) (d : Int64) (hk : Mok st) : mM l G s0 yX6_countLow cX6_countLow 8 (some .int) 3 68 0 0 h0 [.ref m, .int x, .long a, .long d] (fun v h9 => (∃ k : Nat, (k < st_many st) ∧ (x = nI k) ∧ (¬ z_bad a d) ∧ v = some (.int (nI (z_ct (z_lo st k a d) (st_n st k)))) ∧ MdlW G h9 m q (se_now (se_many (se_thr st (nI 0)) (st_many st)) (st_now st)) ∧ mFr h0 h9 m q) ∨ (∃ k : Nat, (k < st_many st) ∧ (x = nI k) ∧ (z_bad a d) ∧ v = some (.int (nI 0)) ∧ MdlW G h9 m q (se_now (se_many (se_thr st (nI 2)) (st_many st)) (st_now st)) ∧ mFr h0 h9 m q) ∨ ((∀ k : Nat, k < st_many st → x ≠ nI k) ∧ v = some (.int (nI 0)) ∧ MdlW G h9 m q (se_now (se_many (se_thr st (nI 1)) (st_many st)) (st_now st)) ∧ mFr h0 h9 m q)) := by
  refine mM_in RX6 "countLow" rfl rfl (by decide +kernel) (Nat.le_of_ble_eq_true rfl) ?_
  intro p e s mt below meth c H locs C hM hS ls hl
  have hx := C.1
  have hb := C.2.1
  have hown := C.2.2.2.1
  have hE := C.2.2.2.2.2.2.1
  have hl : lv_has ls 8 [(0, .ref m), (1, .int x), (2, .long a), (4, .long d)] := hl
  have hF : mFr h0 h0 m q := mFr.rf
  obtain ⟨h, hM, hW, hF⟩ : ∃ h9, MW G s0.heap.size h9 H ∧ MdlW G h9 m q st ∧ mFr h0 h9 m q := ⟨_, hM, hW, hF⟩
  have hm := hk.1
  have hnow := hk.2.1
  refine lv_aload_n hx hb dX6_countLow_0 rfl (lv_at hl 0 rfl) ?_
  refine lv_iload_n hx hb dX6_countLow_1 rfl (lv_at hl 1 rfl) ?_
  refine lv_lload_n hx hb dX6_countLow_2 rfl (lv_at hl 2 rfl) ?_
  refine lv_lload hx hb dX6_countLow_3 (lv_at hl 3 rfl) ?_
  refine m_callV Z C hM hS (As := [.int x, .long a, .long d]) (rest := []) (c_X6_isRange Z h m q st hW x a d hk) yi_X6_isRange ml_X6_115 hW.o rfl ⟨Nat.le_of_ble_eq_true rfl, Nat.le_of_ble_eq_true rfl⟩ (Nat.le_of_ble_eq_true rfl) hl.1 rfl rfl dX6_countLow_5 ⟨Nat.le_of_ble_eq_true rfl, Nat.le_of_ble_eq_true rfl⟩ (fun v h9 H locs hv hM hS => ?_)
  rcases hv with ⟨k_1, f_2, f_3, f_4, hv, hW, hF9⟩ | ⟨k_5, f_6, f_7, f_8, hv, hW, hF9⟩ | ⟨f_9, hv, hW, hF9⟩
  · -- of 5
    subst hv
    have hF := hF.trans hF9
    obtain ⟨h, hM, hW, hF⟩ : ∃ h8, MW G s0.heap.size h8 H ∧ MdlW G h8 m q (se_now (se_many (se_thr st (nI 0)) (st_many st)) (st_now st)) ∧ mFr h0 h8 m q := ⟨_, hM, hW, hF⟩
    subst f_3
    refine W.eq (g2 := F0 mt 8 ls [.int (nI 1)]) rfl ?_
    obtain ⟨hn, hT, hZ, hsi, hbd, hhv⟩ := hk.2.2 k_1 f_2
    refine lv_if_ne (tgt := 13) hx hb dX6_countLow_8 (by decide) (fun _ => ?_) (fun q => absurd q (by decide))
    refine lv_iconst (v := nI 0) hx hb dX6_countLow_13 (by decide) ?_
    refine lv_istore (lv' := [(6, .int (nI 0)), (0, .ref m), (1, .int (nI k_1)), (2, .long a), (4, .long d)]) hx hb dX6_countLow_14 hl (by decide) rfl (fun ls hl => ?_)
    refine lv_iconst (v := nI 0) hx hb dX6_countLow_16 (by decide) ?_
    refine lv_istore (lv' := [(7, .int (nI 0)), (6, .int (nI 0)), (0, .ref m), (1, .int (nI k_1)), (2, .long a), (4, .long d)]) hx hb dX6_countLow_17 hl (by decide) rfl (fun ls hl => ?_)
    have lp_11 : ∀ (fu : Nat) (j : Nat), st_n st k_1 < j + fu → j ≤ st_n st k_1 → ∀ (H : Heap) (locs : List Loc), MW G s0.heap.size h H → va_S (fun q => s0.heap.size ≤ q) s.heap H locs → ∀ ls : Array Slot, lv_has ls 8 [(7, .int (nI j)), (6, .int (nI (z_ct (z_lo st k_1 a d) j))), (0, .ref m), (1, .int (nI k_1)), (2, .long a), (4, .long d)] → W p l e (mRm 3 68 0 0) s mt ([.ref m, .int (nI k_1), .long a, .long d] : List Value).toArray below meth c H locs 0 0 (MQ below (mQc G s0 (fun v h9 => (∃ k : Nat, (k < st_many st) ∧ ((nI k_1) = nI k) ∧ (¬ z_bad a d) ∧ v = some (.int (nI (z_ct (z_lo st k a d) (st_n st k)))) ∧ MdlW G h9 m q (se_now (se_many (se_thr st (nI 0)) (st_many st)) (st_now st)) ∧ mFr h0 h9 m q) ∨ (∃ k : Nat, (k < st_many st) ∧ ((nI k_1) = nI k) ∧ (z_bad a d) ∧ v = some (.int (nI 0)) ∧ MdlW G h9 m q (se_now (se_many (se_thr st (nI 2)) (st_many st)) (st_now st)) ∧ mFr h0 h9 m q) ∨ ((∀ k : Nat, k < st_many st → (nI k_1) ≠ nI k) ∧ v = some (.int (nI 0)) ∧ MdlW G h9 m q (se_now (se_many (se_thr st (nI 1)) (st_many st)) (st_now st)) ∧ mFr h0 h9 m q))) ([.ref m, .int (nI k_1), .long a, .long d] : List Value).toArray s 0 0 (fun q => s0.heap.size ≤ q)) (F0 mt 19 ls []) := by
      intro fu
      induction fu with
      | zero => intro j hfu _; exact absurd hfu (by omega)
      | succ fu ih =>
        intro j hfu hk9 H locs hM hS ls hl
        refine lv_iload hx hb dX6_countLow_19 (lv_at hl 0 rfl) ?_
        refine lv_aload_n hx hb dX6_countLow_21 rfl (lv_at hl 2 rfl) ?_
        refine m_get Z C hM hW.o K_X6 5 (by decide) fl_X6_16 (v := .ref (q 5)) rfl dX6_countLow_22 ?_
        refine lv_iload_n hx hb dX6_countLow_25 rfl (lv_at hl 3 rfl) ?_
        refine m_iald Z C hM (f := fun k => nI ((st_n st) k)) hW.a5 k_1 rfl (by omega) (by decide) dX6_countLow_26 ?_
        refine lv_icmp_ge (tgt := 75) hx hb dX6_countLow_27 (by decide) (fun c_12 => ?_) (fun c_12 => ?_)
        · -- 27 t
          have c_12 : (st_n st) k_1 ≤ j := (nI_leI (by omega) (by omega)).mp c_12
          refine lv_iload hx hb dX6_countLow_75 (lv_at hl 1 rfl) ?_
          exact m_iret C hM hS (Nat.le_of_ble_eq_true rfl) (Nat.le_of_ble_eq_true rfl) dX6_countLow_77 (Or.inl ⟨k_1, f_2, rfl, f_4, (by rw [show j = st_n st k_1 by omega]), hW, hF⟩)
        · -- 27 f
          have c_12 : ¬ (st_n st) k_1 ≤ j := fun q => c_12 ((nI_leI (by omega) (by omega)).mpr q)
          have hTj := hT j (by omega)
          refine lv_iload hx hb dX6_countLow_30 (lv_at hl 1 rfl) ?_
          refine lv_aload_n hx hb dX6_countLow_32 rfl (lv_at hl 2 rfl) ?_
          refine lv_iload_n hx hb dX6_countLow_33 rfl (lv_at hl 3 rfl) ?_
          refine lv_iload hx hb dX6_countLow_34 (lv_at hl 0 rfl) ?_
          refine m_callV Z C hM hS (As := [.int (nI k_1), .int (nI j)]) (rest := [.int (nI (z_ct (z_lo st k_1 a d) j))]) (c_X6_begin Z h m q (se_now (se_many (se_thr st (nI 0)) (st_many st)) (st_now st)) hW k_1 j (show k_1 < 10 by omega) (show j < 120 by omega) (show st_T st (120 * k_1 + j) < 1073741824 by omega)) yi_X6_begin ml_X6_132 hW.o rfl ⟨Nat.le_of_ble_eq_true rfl, Nat.le_of_ble_eq_true rfl⟩ (Nat.le_of_ble_eq_true rfl) hl.1 rfl rfl dX6_countLow_36 ⟨Nat.le_of_ble_eq_true rfl, Nat.le_of_ble_eq_true rfl⟩ (fun v h9 H locs hv hM hS => ?_)
          obtain ⟨hv, hh9⟩ := hv
          subst hv
          rw [hh9] at hM
          refine W.eq (g2 := F0 mt 39 ls [.long (lN (z_bg st k_1 j)), .int (nI (z_ct (z_lo st k_1 a d) j))]) rfl ?_
          refine lv_lload_n hx hb dX6_countLow_39 rfl (lv_at hl 4 rfl) ?_
          refine W.lcmp hx hb dX6_countLow_40 ?_
          refine n_lc_lt (tgt := 65) hx hb dX6_countLow_41 (by decide) (fun c_13 => ?_) (fun c_13 => ?_)
          · -- 41 t
            refine lv_iconst (v := nI 0) hx hb dX6_countLow_65 (by decide) ?_
            refine n_iadd hx hb dX6_countLow_66 ?_
            refine lv_istore (lv' := [(6, .int (nI (z_ct (z_lo st k_1 a d) j + 0))), (7, .int (nI j)), (0, .ref m), (1, .int (nI k_1)), (2, .long a), (4, .long d)]) hx hb dX6_countLow_67 hl (by decide) rfl (fun ls hl => ?_)
            refine lv_iinc (v := nI (j + 1)) (lv' := [(7, .int (nI (j + 1))), (6, .int (nI (z_ct (z_lo st k_1 a d) j + 0))), (0, .ref m), (1, .int (nI k_1)), (2, .long a), (4, .long d)]) hx hb dX6_countLow_69 hl (k := 1) rfl (nI_add _ _) (by decide) rfl (fun ls hl => ?_)
            refine lv_goto (tgt := 19) hx hb dX6_countLow_72 (by decide) ?_
            have e_6 : z_ct (z_lo st k_1 a d) (j + 1) = z_ct (z_lo st k_1 a d) j + 0 := z_ct_f0 (fun q => l_ltn c_13 q.1)
            rw [← e_6] at hl
            exact ih (j + 1) (by omega) (by omega) H locs hM hS ls (lv_sub hl [0, 1, 2, 3, 4, 5] rfl)
          · -- 41 f
            refine lv_aload_n hx hb dX6_countLow_44 rfl (lv_at hl 2 rfl) ?_
            refine lv_iload_n hx hb dX6_countLow_45 rfl (lv_at hl 3 rfl) ?_
            refine lv_iload hx hb dX6_countLow_46 (lv_at hl 0 rfl) ?_
            refine m_callV Z C hM hS (As := [.int (nI k_1), .int (nI j)]) (rest := [.int (nI (z_ct (z_lo st k_1 a d) j))]) (c_X6_begin Z h m q (se_now (se_many (se_thr st (nI 0)) (st_many st)) (st_now st)) hW k_1 j (show k_1 < 10 by omega) (show j < 120 by omega) (show st_T st (120 * k_1 + j) < 1073741824 by omega)) yi_X6_begin ml_X6_132 hW.o rfl ⟨Nat.le_of_ble_eq_true rfl, Nat.le_of_ble_eq_true rfl⟩ (Nat.le_of_ble_eq_true rfl) hl.1 rfl rfl dX6_countLow_48 ⟨Nat.le_of_ble_eq_true rfl, Nat.le_of_ble_eq_true rfl⟩ (fun v h9 H locs hv hM hS => ?_)
            obtain ⟨hv, hh9⟩ := hv
            subst hv
            rw [hh9] at hM
            refine W.eq (g2 := F0 mt 51 ls [.long (lN (z_bg st k_1 j)), .int (nI (z_ct (z_lo st k_1 a d) j))]) rfl ?_
            refine lv_ldc2 (v := lN 9) hx hb hown (hE.good Z kl_X6_135 _) dX6_countLow_51 ?_
            refine n_ladd hx hb dX6_countLow_54 ?_
            refine lv_lload hx hb dX6_countLow_55 (lv_at hl 5 rfl) ?_
            refine W.lcmp hx hb dX6_countLow_57 ?_
            refine n_lc_gt (tgt := 65) hx hb dX6_countLow_58 (by decide) (fun c_14 => ?_) (fun c_14 => ?_)
            · -- 58 t
              refine lv_iconst (v := nI 0) hx hb dX6_countLow_65 (by decide) ?_
              refine n_iadd hx hb dX6_countLow_66 ?_
              refine lv_istore (lv' := [(6, .int (nI (z_ct (z_lo st k_1 a d) j + 0))), (7, .int (nI j)), (0, .ref m), (1, .int (nI k_1)), (2, .long a), (4, .long d)]) hx hb dX6_countLow_67 hl (by decide) rfl (fun ls hl => ?_)
              refine lv_iinc (v := nI (j + 1)) (lv' := [(7, .int (nI (j + 1))), (6, .int (nI (z_ct (z_lo st k_1 a d) j + 0))), (0, .ref m), (1, .int (nI k_1)), (2, .long a), (4, .long d)]) hx hb dX6_countLow_69 hl (k := 1) rfl (nI_add _ _) (by decide) rfl (fun ls hl => ?_)
              refine lv_goto (tgt := 19) hx hb dX6_countLow_72 (by decide) ?_
              have e_6 : z_ct (z_lo st k_1 a d) (j + 1) = z_ct (z_lo st k_1 a d) j + 0 := z_ct_f0 (fun q => l_ltn c_14 q.2)
              rw [← e_6] at hl
              exact ih (j + 1) (by omega) (by omega) H locs hM hS ls (lv_sub hl [0, 1, 2, 3, 4, 5] rfl)
            · -- 58 f
              refine lv_iconst (v := nI 1) hx hb dX6_countLow_61 (by decide) ?_
              refine lv_goto (tgt := 66) hx hb dX6_countLow_62 (by decide) ?_
              refine n_iadd hx hb dX6_countLow_66 ?_
              refine lv_istore (lv' := [(6, .int (nI (z_ct (z_lo st k_1 a d) j + 1))), (7, .int (nI j)), (0, .ref m), (1, .int (nI k_1)), (2, .long a), (4, .long d)]) hx hb dX6_countLow_67 hl (by decide) rfl (fun ls hl => ?_)
              refine lv_iinc (v := nI (j + 1)) (lv' := [(7, .int (nI (j + 1))), (6, .int (nI (z_ct (z_lo st k_1 a d) j + 1))), (0, .ref m), (1, .int (nI k_1)), (2, .long a), (4, .long d)]) hx hb dX6_countLow_69 hl (k := 1) rfl (nI_add _ _) (by decide) rfl (fun ls hl => ?_)
              refine lv_goto (tgt := 19) hx hb dX6_countLow_72 (by decide) ?_
              have e_6 : z_ct (z_lo st k_1 a d) (j + 1) = z_ct (z_lo st k_1 a d) j + 1 := z_ct_t ⟨l_nlt c_13, l_nlt c_14⟩
              rw [← e_6] at hl
              exact ih (j + 1) (by omega) (by omega) H locs hM hS ls (lv_sub hl [0, 1, 2, 3, 4, 5] rfl)
    exact lp_11 (st_n st k_1 + 1) 0 (by omega) (Nat.zero_le _) H locs hM hS ls (lv_sub hl [0, 1, 2, 3, 4, 5] rfl)
  · -- of 5
    subst hv
    have hF := hF.trans hF9
    obtain ⟨h, hM, hW, hF⟩ : ∃ h8, MW G s0.heap.size h8 H ∧ MdlW G h8 m q (se_now (se_many (se_thr st (nI 2)) (st_many st)) (st_now st)) ∧ mFr h0 h8 m q := ⟨_, hM, hW, hF⟩
    subst f_7
    refine W.eq (g2 := F0 mt 8 ls [.int (nI 0)]) rfl ?_
    refine lv_if_ne (tgt := 13) hx hb dX6_countLow_8 (by decide) (fun q => absurd (by decide) q) (fun _ => ?_)
    refine lv_iconst (v := nI 0) hx hb dX6_countLow_11 (by decide) ?_
    exact m_iret C hM hS (Nat.le_of_ble_eq_true rfl) (Nat.le_of_ble_eq_true rfl) dX6_countLow_12 (Or.inr (Or.inl ⟨k_5, f_6, rfl, f_8, rfl, hW, hF⟩))
  · -- of 5
    subst hv
    have hF := hF.trans hF9
    obtain ⟨h, hM, hW, hF⟩ : ∃ h8, MW G s0.heap.size h8 H ∧ MdlW G h8 m q (se_now (se_many (se_thr st (nI 1)) (st_many st)) (st_now st)) ∧ mFr h0 h8 m q := ⟨_, hM, hW, hF⟩
    refine W.eq (g2 := F0 mt 8 ls [.int (nI 0)]) rfl ?_
    refine lv_if_ne (tgt := 13) hx hb dX6_countLow_8 (by decide) (fun q => absurd (by decide) q) (fun _ => ?_)
    refine lv_iconst (v := nI 0) hx hb dX6_countLow_11 (by decide) ?_
    exact m_iret C hM hS (Nat.le_of_ble_eq_true rfl) (Nat.le_of_ble_eq_true rfl) dX6_countLow_12 (Or.inr (Or.inr ⟨f_9, rfl, hW, hF⟩))
set_option maxRecDepth 100000 in
set_option maxHeartbeats 4000000 in
theorem c_X6_countHigh {l : Launch} {G : mG} {a0 : Array Value} {s0 : State} (Z : mZ l G a0 s0) (h0 : Hp) (m : Nat) (q : Nat → Nat) (st : Ms) (hW : MdlW G h0 m q st) (x : Int32) (a : Int64) (d : Int64) (hk : Mok st) : mM l G s0 yX6_countHigh cX6_countHigh 8 (some .int) 3 70 0 0 h0 [.ref m, .int x, .long a, .long d] (fun v h9 => (∃ k : Nat, (k < st_many st) ∧ (x = nI k) ∧ (¬ z_bad a d) ∧ v = some (.int (nI (z_ct (z_hi st k a d) (st_n st k)))) ∧ MdlW G h9 m q (se_now (se_many (se_thr st (nI 0)) (st_many st)) (st_now st)) ∧ mFr h0 h9 m q) ∨ (∃ k : Nat, (k < st_many st) ∧ (x = nI k) ∧ (z_bad a d) ∧ v = some (.int (nI 0)) ∧ MdlW G h9 m q (se_now (se_many (se_thr st (nI 2)) (st_many st)) (st_now st)) ∧ mFr h0 h9 m q) ∨ ((∀ k : Nat, k < st_many st → x ≠ nI k) ∧ v = some (.int (nI 0)) ∧ MdlW G h9 m q (se_now (se_many (se_thr st (nI 1)) (st_many st)) (st_now st)) ∧ mFr h0 h9 m q)) := by
  refine mM_in RX6 "countHigh" rfl rfl (by decide +kernel) (Nat.le_of_ble_eq_true rfl) ?_
  intro p e s mt below meth c H locs C hM hS ls hl
  have hx := C.1
  have hb := C.2.1
  have hown := C.2.2.2.1
  have hE := C.2.2.2.2.2.2.1
  have hl : lv_has ls 8 [(0, .ref m), (1, .int x), (2, .long a), (4, .long d)] := hl
  have hF : mFr h0 h0 m q := mFr.rf
  obtain ⟨h, hM, hW, hF⟩ : ∃ h9, MW G s0.heap.size h9 H ∧ MdlW G h9 m q st ∧ mFr h0 h9 m q := ⟨_, hM, hW, hF⟩
  have hm := hk.1
  have hnow := hk.2.1
  refine lv_aload_n hx hb dX6_countHigh_0 rfl (lv_at hl 0 rfl) ?_
  refine lv_iload_n hx hb dX6_countHigh_1 rfl (lv_at hl 1 rfl) ?_
  refine lv_lload_n hx hb dX6_countHigh_2 rfl (lv_at hl 2 rfl) ?_
  refine lv_lload hx hb dX6_countHigh_3 (lv_at hl 3 rfl) ?_
  refine m_callV Z C hM hS (As := [.int x, .long a, .long d]) (rest := []) (c_X6_isRange Z h m q st hW x a d hk) yi_X6_isRange ml_X6_115 hW.o rfl ⟨Nat.le_of_ble_eq_true rfl, Nat.le_of_ble_eq_true rfl⟩ (Nat.le_of_ble_eq_true rfl) hl.1 rfl rfl dX6_countHigh_5 ⟨Nat.le_of_ble_eq_true rfl, Nat.le_of_ble_eq_true rfl⟩ (fun v h9 H locs hv hM hS => ?_)
  rcases hv with ⟨k_1, f_2, f_3, f_4, hv, hW, hF9⟩ | ⟨k_5, f_6, f_7, f_8, hv, hW, hF9⟩ | ⟨f_9, hv, hW, hF9⟩
  · -- of 5
    subst hv
    have hF := hF.trans hF9
    obtain ⟨h, hM, hW, hF⟩ : ∃ h8, MW G s0.heap.size h8 H ∧ MdlW G h8 m q (se_now (se_many (se_thr st (nI 0)) (st_many st)) (st_now st)) ∧ mFr h0 h8 m q := ⟨_, hM, hW, hF⟩
    subst f_3
    refine W.eq (g2 := F0 mt 8 ls [.int (nI 1)]) rfl ?_
    obtain ⟨hn, hT, hZ, hsi, hbd, hhv⟩ := hk.2.2 k_1 f_2
    refine lv_if_ne (tgt := 13) hx hb dX6_countHigh_8 (by decide) (fun _ => ?_) (fun q => absurd q (by decide))
    refine lv_iconst (v := nI 0) hx hb dX6_countHigh_13 (by decide) ?_
    refine lv_istore (lv' := [(6, .int (nI 0)), (0, .ref m), (1, .int (nI k_1)), (2, .long a), (4, .long d)]) hx hb dX6_countHigh_14 hl (by decide) rfl (fun ls hl => ?_)
    refine lv_iconst (v := nI 0) hx hb dX6_countHigh_16 (by decide) ?_
    refine lv_istore (lv' := [(7, .int (nI 0)), (6, .int (nI 0)), (0, .ref m), (1, .int (nI k_1)), (2, .long a), (4, .long d)]) hx hb dX6_countHigh_17 hl (by decide) rfl (fun ls hl => ?_)
    have lp_11 : ∀ (fu : Nat) (j : Nat), st_n st k_1 < j + fu → j ≤ st_n st k_1 → ∀ (H : Heap) (locs : List Loc), MW G s0.heap.size h H → va_S (fun q => s0.heap.size ≤ q) s.heap H locs → ∀ ls : Array Slot, lv_has ls 8 [(7, .int (nI j)), (6, .int (nI (z_ct (z_hi st k_1 a d) j))), (0, .ref m), (1, .int (nI k_1)), (2, .long a), (4, .long d)] → W p l e (mRm 3 70 0 0) s mt ([.ref m, .int (nI k_1), .long a, .long d] : List Value).toArray below meth c H locs 0 0 (MQ below (mQc G s0 (fun v h9 => (∃ k : Nat, (k < st_many st) ∧ ((nI k_1) = nI k) ∧ (¬ z_bad a d) ∧ v = some (.int (nI (z_ct (z_hi st k a d) (st_n st k)))) ∧ MdlW G h9 m q (se_now (se_many (se_thr st (nI 0)) (st_many st)) (st_now st)) ∧ mFr h0 h9 m q) ∨ (∃ k : Nat, (k < st_many st) ∧ ((nI k_1) = nI k) ∧ (z_bad a d) ∧ v = some (.int (nI 0)) ∧ MdlW G h9 m q (se_now (se_many (se_thr st (nI 2)) (st_many st)) (st_now st)) ∧ mFr h0 h9 m q) ∨ ((∀ k : Nat, k < st_many st → (nI k_1) ≠ nI k) ∧ v = some (.int (nI 0)) ∧ MdlW G h9 m q (se_now (se_many (se_thr st (nI 1)) (st_many st)) (st_now st)) ∧ mFr h0 h9 m q))) ([.ref m, .int (nI k_1), .long a, .long d] : List Value).toArray s 0 0 (fun q => s0.heap.size ≤ q)) (F0 mt 19 ls []) := by
      intro fu
      induction fu with
      | zero => intro j hfu _; exact absurd hfu (by omega)
      | succ fu ih =>
        intro j hfu hk9 H locs hM hS ls hl
        refine lv_iload hx hb dX6_countHigh_19 (lv_at hl 0 rfl) ?_
        refine lv_aload_n hx hb dX6_countHigh_21 rfl (lv_at hl 2 rfl) ?_
        refine m_get Z C hM hW.o K_X6 5 (by decide) fl_X6_16 (v := .ref (q 5)) rfl dX6_countHigh_22 ?_
        refine lv_iload_n hx hb dX6_countHigh_25 rfl (lv_at hl 3 rfl) ?_
        refine m_iald Z C hM (f := fun k => nI ((st_n st) k)) hW.a5 k_1 rfl (by omega) (by decide) dX6_countHigh_26 ?_
        refine lv_icmp_ge (tgt := 59) hx hb dX6_countHigh_27 (by decide) (fun c_12 => ?_) (fun c_12 => ?_)
        · -- 27 t
          have c_12 : (st_n st) k_1 ≤ j := (nI_leI (by omega) (by omega)).mp c_12
          refine lv_iload hx hb dX6_countHigh_59 (lv_at hl 1 rfl) ?_
          exact m_iret C hM hS (Nat.le_of_ble_eq_true rfl) (Nat.le_of_ble_eq_true rfl) dX6_countHigh_61 (Or.inl ⟨k_1, f_2, rfl, f_4, (by rw [show j = st_n st k_1 by omega]), hW, hF⟩)
        · -- 27 f
          have c_12 : ¬ (st_n st) k_1 ≤ j := fun q => c_12 ((nI_leI (by omega) (by omega)).mpr q)
          have hTj := hT j (by omega)
          refine lv_iload hx hb dX6_countHigh_30 (lv_at hl 1 rfl) ?_
          refine lv_aload_n hx hb dX6_countHigh_32 rfl (lv_at hl 2 rfl) ?_
          refine lv_iload_n hx hb dX6_countHigh_33 rfl (lv_at hl 3 rfl) ?_
          refine lv_iload hx hb dX6_countHigh_34 (lv_at hl 0 rfl) ?_
          refine lv_lload_n hx hb dX6_countHigh_36 rfl (lv_at hl 4 rfl) ?_
          refine lv_lload hx hb dX6_countHigh_37 (lv_at hl 5 rfl) ?_
          refine m_callV Z C hM hS (As := [.int (nI k_1), .int (nI j), .long a, .long d]) (rest := [.int (nI (z_ct (z_hi st k_1 a d) j))]) (c_X6_isTouched Z h m q (se_now (se_many (se_thr st (nI 0)) (st_many st)) (st_now st)) hW k_1 j a d (show k_1 < 10 by omega) (show j < 120 by omega) (show st_T st (120 * k_1 + j) < 1073741824 by omega)) yi_X6_isTouched ml_X6_137 hW.o rfl ⟨Nat.le_of_ble_eq_true rfl, Nat.le_of_ble_eq_true rfl⟩ (Nat.le_of_ble_eq_true rfl) hl.1 rfl rfl dX6_countHigh_39 ⟨Nat.le_of_ble_eq_true rfl, Nat.le_of_ble_eq_true rfl⟩ (fun v h9 H locs hv hM hS => ?_)
          obtain ⟨hv, hh9⟩ := hv
          rcases Decidable.em (z_hi st k_1 a d j) with g_13 | g_13
          · -- of 39: True
            replace hv : v = some (.int (b2 (z_hi st k_1 a d j))) := hv
            rw [b2_t g_13] at hv
            subst hv
            rw [hh9] at hM
            refine W.eq (g2 := F0 mt 42 ls [.int (nI 1), .int (nI (z_ct (z_hi st k_1 a d) j))]) rfl ?_
            refine lv_if_eq (tgt := 49) hx hb dX6_countHigh_42 (by decide) (fun q => absurd q (by decide)) (fun _ => ?_)
            refine lv_iconst (v := nI 1) hx hb dX6_countHigh_45 (by decide) ?_
            refine lv_goto (tgt := 50) hx hb dX6_countHigh_46 (by decide) ?_
            refine n_iadd hx hb dX6_countHigh_50 ?_
            refine lv_istore (lv' := [(6, .int (nI (z_ct (z_hi st k_1 a d) j + 1))), (7, .int (nI j)), (0, .ref m), (1, .int (nI k_1)), (2, .long a), (4, .long d)]) hx hb dX6_countHigh_51 hl (by decide) rfl (fun ls hl => ?_)
            refine lv_iinc (v := nI (j + 1)) (lv' := [(7, .int (nI (j + 1))), (6, .int (nI (z_ct (z_hi st k_1 a d) j + 1))), (0, .ref m), (1, .int (nI k_1)), (2, .long a), (4, .long d)]) hx hb dX6_countHigh_53 hl (k := 1) rfl (nI_add _ _) (by decide) rfl (fun ls hl => ?_)
            refine lv_goto (tgt := 19) hx hb dX6_countHigh_56 (by decide) ?_
            have e_6 : z_ct (z_hi st k_1 a d) (j + 1) = z_ct (z_hi st k_1 a d) j + 1 := z_ct_t g_13
            rw [← e_6] at hl
            exact ih (j + 1) (by omega) (by omega) H locs hM hS ls (lv_sub hl [0, 1, 2, 3, 4, 5] rfl)
          · -- of 39: False
            replace hv : v = some (.int (b2 (z_hi st k_1 a d j))) := hv
            rw [b2_f g_13] at hv
            subst hv
            rw [hh9] at hM
            refine W.eq (g2 := F0 mt 42 ls [.int (nI 0), .int (nI (z_ct (z_hi st k_1 a d) j))]) rfl ?_
            refine lv_if_eq (tgt := 49) hx hb dX6_countHigh_42 (by decide) (fun _ => ?_) (fun q => absurd (by decide) q)
            refine lv_iconst (v := nI 0) hx hb dX6_countHigh_49 (by decide) ?_
            refine n_iadd hx hb dX6_countHigh_50 ?_
            refine lv_istore (lv' := [(6, .int (nI (z_ct (z_hi st k_1 a d) j + 0))), (7, .int (nI j)), (0, .ref m), (1, .int (nI k_1)), (2, .long a), (4, .long d)]) hx hb dX6_countHigh_51 hl (by decide) rfl (fun ls hl => ?_)
            refine lv_iinc (v := nI (j + 1)) (lv' := [(7, .int (nI (j + 1))), (6, .int (nI (z_ct (z_hi st k_1 a d) j + 0))), (0, .ref m), (1, .int (nI k_1)), (2, .long a), (4, .long d)]) hx hb dX6_countHigh_53 hl (k := 1) rfl (nI_add _ _) (by decide) rfl (fun ls hl => ?_)
            refine lv_goto (tgt := 19) hx hb dX6_countHigh_56 (by decide) ?_
            have e_6 : z_ct (z_hi st k_1 a d) (j + 1) = z_ct (z_hi st k_1 a d) j + 0 := z_ct_f0 g_13
            rw [← e_6] at hl
            exact ih (j + 1) (by omega) (by omega) H locs hM hS ls (lv_sub hl [0, 1, 2, 3, 4, 5] rfl)
    exact lp_11 (st_n st k_1 + 1) 0 (by omega) (Nat.zero_le _) H locs hM hS ls (lv_sub hl [0, 1, 2, 3, 4, 5] rfl)
  · -- of 5
    subst hv
    have hF := hF.trans hF9
    obtain ⟨h, hM, hW, hF⟩ : ∃ h8, MW G s0.heap.size h8 H ∧ MdlW G h8 m q (se_now (se_many (se_thr st (nI 2)) (st_many st)) (st_now st)) ∧ mFr h0 h8 m q := ⟨_, hM, hW, hF⟩
    subst f_7
    refine W.eq (g2 := F0 mt 8 ls [.int (nI 0)]) rfl ?_
    refine lv_if_ne (tgt := 13) hx hb dX6_countHigh_8 (by decide) (fun q => absurd (by decide) q) (fun _ => ?_)
    refine lv_iconst (v := nI 0) hx hb dX6_countHigh_11 (by decide) ?_
    exact m_iret C hM hS (Nat.le_of_ble_eq_true rfl) (Nat.le_of_ble_eq_true rfl) dX6_countHigh_12 (Or.inr (Or.inl ⟨k_5, f_6, rfl, f_8, rfl, hW, hF⟩))
  · -- of 5
    subst hv
    have hF := hF.trans hF9
    obtain ⟨h, hM, hW, hF⟩ : ∃ h8, MW G s0.heap.size h8 H ∧ MdlW G h8 m q (se_now (se_many (se_thr st (nI 1)) (st_many st)) (st_now st)) ∧ mFr h0 h8 m q := ⟨_, hM, hW, hF⟩
    refine W.eq (g2 := F0 mt 8 ls [.int (nI 0)]) rfl ?_
    refine lv_if_ne (tgt := 13) hx hb dX6_countHigh_8 (by decide) (fun q => absurd (by decide) q) (fun _ => ?_)
    refine lv_iconst (v := nI 0) hx hb dX6_countHigh_11 (by decide) ?_
    exact m_iret C hM hS (Nat.le_of_ble_eq_true rfl) (Nat.le_of_ble_eq_true rfl) dX6_countHigh_12 (Or.inr (Or.inr ⟨f_9, rfl, hW, hF⟩))
set_option maxRecDepth 100000 in
set_option maxHeartbeats 4000000 in
theorem c_X6_maximum {l : Launch} {G : mG} {a0 : Array Value} {s0 : State} (Z : mZ l G a0 s0) (h0 : Hp) (m : Nat) (q : Nat → Nat) (st : Ms) (hW : MdlW G h0 m q st) (x : Int32) (a : Int64) (d : Int64) (hk : Mok st) : mM l G s0 yX6_maximum cX6_maximum 8 (some .int) 3 68 0 0 h0 [.ref m, .int x, .long a, .long d] (fun v h9 => (∃ k : Nat, (k < st_many st) ∧ (x = nI k) ∧ (¬ z_bad a d) ∧ (¬ z_mx (z_in st k a d) (z_v st k) (-20000) (st_n st k) = -20000) ∧ v = some (.int (z_mx (z_in st k a d) (z_v st k) (-20000) (st_n st k))) ∧ MdlW G h9 m q (se_now (se_many (se_thr st (nI 0)) (st_many st)) (st_now st)) ∧ mFr h0 h9 m q) ∨ (∃ k : Nat, (k < st_many st) ∧ (x = nI k) ∧ (¬ z_bad a d) ∧ (z_mx (z_in st k a d) (z_v st k) (-20000) (st_n st k) = -20000) ∧ v = some (.int (nI 0)) ∧ MdlW G h9 m q (se_now (se_many (se_thr st (nI 3)) (st_many st)) (st_now st)) ∧ mFr h0 h9 m q) ∨ (∃ k : Nat, (k < st_many st) ∧ (x = nI k) ∧ (z_bad a d) ∧ v = some (.int (nI 0)) ∧ MdlW G h9 m q (se_now (se_many (se_thr st (nI 2)) (st_many st)) (st_now st)) ∧ mFr h0 h9 m q) ∨ ((∀ k : Nat, k < st_many st → x ≠ nI k) ∧ v = some (.int (nI 0)) ∧ MdlW G h9 m q (se_now (se_many (se_thr st (nI 1)) (st_many st)) (st_now st)) ∧ mFr h0 h9 m q)) := by
  refine mM_in RX6 "maximum" rfl rfl (by decide +kernel) (Nat.le_of_ble_eq_true rfl) ?_
  intro p e s mt below meth c H locs C hM hS ls hl
  have hx := C.1
  have hb := C.2.1
  have hown := C.2.2.2.1
  have hE := C.2.2.2.2.2.2.1
  have hl : lv_has ls 8 [(0, .ref m), (1, .int x), (2, .long a), (4, .long d)] := hl
  have hF : mFr h0 h0 m q := mFr.rf
  obtain ⟨h, hM, hW, hF⟩ : ∃ h9, MW G s0.heap.size h9 H ∧ MdlW G h9 m q st ∧ mFr h0 h9 m q := ⟨_, hM, hW, hF⟩
  have hm := hk.1
  have hnow := hk.2.1
  refine lv_aload_n hx hb dX6_maximum_0 rfl (lv_at hl 0 rfl) ?_
  refine lv_iload_n hx hb dX6_maximum_1 rfl (lv_at hl 1 rfl) ?_
  refine lv_lload_n hx hb dX6_maximum_2 rfl (lv_at hl 2 rfl) ?_
  refine lv_lload hx hb dX6_maximum_3 (lv_at hl 3 rfl) ?_
  refine m_callV Z C hM hS (As := [.int x, .long a, .long d]) (rest := []) (c_X6_isRange Z h m q st hW x a d hk) yi_X6_isRange ml_X6_115 hW.o rfl ⟨Nat.le_of_ble_eq_true rfl, Nat.le_of_ble_eq_true rfl⟩ (Nat.le_of_ble_eq_true rfl) hl.1 rfl rfl dX6_maximum_5 ⟨Nat.le_of_ble_eq_true rfl, Nat.le_of_ble_eq_true rfl⟩ (fun v h9 H locs hv hM hS => ?_)
  rcases hv with ⟨k_1, f_2, f_3, f_4, hv, hW, hF9⟩ | ⟨k_5, f_6, f_7, f_8, hv, hW, hF9⟩ | ⟨f_9, hv, hW, hF9⟩
  · -- of 5
    subst hv
    have hF := hF.trans hF9
    obtain ⟨h, hM, hW, hF⟩ : ∃ h8, MW G s0.heap.size h8 H ∧ MdlW G h8 m q (se_now (se_many (se_thr st (nI 0)) (st_many st)) (st_now st)) ∧ mFr h0 h8 m q := ⟨_, hM, hW, hF⟩
    subst f_3
    refine W.eq (g2 := F0 mt 8 ls [.int (nI 1)]) rfl ?_
    obtain ⟨hn, hT, hZ, hsi, hbd, hhv⟩ := hk.2.2 k_1 f_2
    refine lv_if_ne (tgt := 13) hx hb dX6_maximum_8 (by decide) (fun _ => ?_) (fun q => absurd q (by decide))
    refine lv_sipush (v := -20000) hx hb dX6_maximum_13 (by decide) ?_
    refine lv_istore (lv' := [(6, .int ((-20000))), (0, .ref m), (1, .int (nI k_1)), (2, .long a), (4, .long d)]) hx hb dX6_maximum_16 hl (by decide) rfl (fun ls hl => ?_)
    refine lv_iconst (v := nI 0) hx hb dX6_maximum_18 (by decide) ?_
    refine lv_istore (lv' := [(7, .int (nI 0)), (6, .int ((-20000))), (0, .ref m), (1, .int (nI k_1)), (2, .long a), (4, .long d)]) hx hb dX6_maximum_19 hl (by decide) rfl (fun ls hl => ?_)
    have lp_11 : ∀ (fu : Nat) (j : Nat), st_n st k_1 < j + fu → j ≤ st_n st k_1 → ∀ (H : Heap) (locs : List Loc), MW G s0.heap.size h H → va_S (fun q => s0.heap.size ≤ q) s.heap H locs → ∀ ls : Array Slot, lv_has ls 8 [(7, .int (nI j)), (6, .int (z_mx (z_in st k_1 a d) (z_v st k_1) (-20000) j)), (0, .ref m), (1, .int (nI k_1)), (2, .long a), (4, .long d)] → W p l e (mRm 3 68 0 0) s mt ([.ref m, .int (nI k_1), .long a, .long d] : List Value).toArray below meth c H locs 0 0 (MQ below (mQc G s0 (fun v h9 => (∃ k : Nat, (k < st_many st) ∧ ((nI k_1) = nI k) ∧ (¬ z_bad a d) ∧ (¬ z_mx (z_in st k a d) (z_v st k) (-20000) (st_n st k) = -20000) ∧ v = some (.int (z_mx (z_in st k a d) (z_v st k) (-20000) (st_n st k))) ∧ MdlW G h9 m q (se_now (se_many (se_thr st (nI 0)) (st_many st)) (st_now st)) ∧ mFr h0 h9 m q) ∨ (∃ k : Nat, (k < st_many st) ∧ ((nI k_1) = nI k) ∧ (¬ z_bad a d) ∧ (z_mx (z_in st k a d) (z_v st k) (-20000) (st_n st k) = -20000) ∧ v = some (.int (nI 0)) ∧ MdlW G h9 m q (se_now (se_many (se_thr st (nI 3)) (st_many st)) (st_now st)) ∧ mFr h0 h9 m q) ∨ (∃ k : Nat, (k < st_many st) ∧ ((nI k_1) = nI k) ∧ (z_bad a d) ∧ v = some (.int (nI 0)) ∧ MdlW G h9 m q (se_now (se_many (se_thr st (nI 2)) (st_many st)) (st_now st)) ∧ mFr h0 h9 m q) ∨ ((∀ k : Nat, k < st_many st → (nI k_1) ≠ nI k) ∧ v = some (.int (nI 0)) ∧ MdlW G h9 m q (se_now (se_many (se_thr st (nI 1)) (st_many st)) (st_now st)) ∧ mFr h0 h9 m q))) ([.ref m, .int (nI k_1), .long a, .long d] : List Value).toArray s 0 0 (fun q => s0.heap.size ≤ q)) (F0 mt 21 ls []) := by
      intro fu
      induction fu with
      | zero => intro j hfu _; exact absurd hfu (by omega)
      | succ fu ih =>
        intro j hfu hk9 H locs hM hS ls hl
        refine lv_iload hx hb dX6_maximum_21 (lv_at hl 0 rfl) ?_
        refine lv_aload_n hx hb dX6_maximum_23 rfl (lv_at hl 2 rfl) ?_
        refine m_get Z C hM hW.o K_X6 5 (by decide) fl_X6_16 (v := .ref (q 5)) rfl dX6_maximum_24 ?_
        refine lv_iload_n hx hb dX6_maximum_27 rfl (lv_at hl 3 rfl) ?_
        refine m_iald Z C hM (f := fun k => nI ((st_n st) k)) hW.a5 k_1 rfl (by omega) (by decide) dX6_maximum_28 ?_
        refine lv_icmp_ge (tgt := 72) hx hb dX6_maximum_29 (by decide) (fun c_12 => ?_) (fun c_12 => ?_)
        · -- 29 t
          have c_12 : (st_n st) k_1 ≤ j := (nI_leI (by omega) (by omega)).mp c_12
          refine lv_aload_n hx hb dX6_maximum_72 rfl (lv_at hl 2 rfl) ?_
          refine lv_iload hx hb dX6_maximum_73 (lv_at hl 1 rfl) ?_
          refine lv_sipush (v := -20000) hx hb dX6_maximum_75 (by decide) ?_
          refine lv_icmp_ne (tgt := 85) hx hb dX6_maximum_78 (by decide) (fun c_13 => ?_) (fun c_13 => ?_)
          · -- 78 t
            refine lv_iconst (v := nI 0) hx hb dX6_maximum_85 (by decide) ?_
            refine m_put Z C hM hS hW.o K_X6 0 (by decide) fl_X6_53 (v := .int (nI 0)) rfl rfl rfl (fs' := mObj q (se_now (se_many (se_thr (se_now (se_many (se_thr st (nI 0)) (st_many st)) (st_now st)) (nI 0)) (st_many st)) (st_now st))) rfl (Nat.le_of_ble_eq_true rfl) dX6_maximum_86 (fun H locs hM hS => ?_)
            obtain ⟨h, hM, hW, hF⟩ : ∃ h9, MW G s0.heap.size h9 H ∧ MdlW G h9 m q (se_now (se_many (se_thr (se_now (se_many (se_thr st (nI 0)) (st_many st)) (st_now st)) (nI 0)) (st_many st)) (st_now st)) ∧ mFr h0 h9 m q := ⟨_, hM, hW.uo (nI 0) (st_many st) (st_now st), hF.o _⟩
            refine lv_aload_n hx hb dX6_maximum_89 rfl (lv_at hl 2 rfl) ?_
            refine m_get Z C hM hW.o K_X6 0 (by decide) fl_X6_53 (v := .int (nI 0)) rfl dX6_maximum_90 ?_
            refine lv_if_ne (tgt := 101) hx hb dX6_maximum_93 (by decide) (fun q => absurd (by decide) q) (fun _ => ?_)
            refine lv_iload hx hb dX6_maximum_96 (lv_at hl 1 rfl) ?_
            refine lv_goto (tgt := 102) hx hb dX6_maximum_98 (by decide) ?_
            exact m_iret C hM hS (Nat.le_of_ble_eq_true rfl) (Nat.le_of_ble_eq_true rfl) dX6_maximum_102 (Or.inl ⟨k_1, f_2, rfl, f_4, (by rw [show st_n st k_1 = j by omega]; exact c_13), (by rw [show j = st_n st k_1 by omega]), hW, hF⟩)
          · -- 78 f
            refine lv_iconst (v := nI 3) hx hb dX6_maximum_81 (by decide) ?_
            refine lv_goto (tgt := 86) hx hb dX6_maximum_82 (by decide) ?_
            refine m_put Z C hM hS hW.o K_X6 0 (by decide) fl_X6_53 (v := .int (nI 3)) rfl rfl rfl (fs' := mObj q (se_now (se_many (se_thr (se_now (se_many (se_thr st (nI 0)) (st_many st)) (st_now st)) (nI 3)) (st_many st)) (st_now st))) rfl (Nat.le_of_ble_eq_true rfl) dX6_maximum_86 (fun H locs hM hS => ?_)
            obtain ⟨h, hM, hW, hF⟩ : ∃ h9, MW G s0.heap.size h9 H ∧ MdlW G h9 m q (se_now (se_many (se_thr (se_now (se_many (se_thr st (nI 0)) (st_many st)) (st_now st)) (nI 3)) (st_many st)) (st_now st)) ∧ mFr h0 h9 m q := ⟨_, hM, hW.uo (nI 3) (st_many st) (st_now st), hF.o _⟩
            refine lv_aload_n hx hb dX6_maximum_89 rfl (lv_at hl 2 rfl) ?_
            refine m_get Z C hM hW.o K_X6 0 (by decide) fl_X6_53 (v := .int (nI 3)) rfl dX6_maximum_90 ?_
            refine lv_if_ne (tgt := 101) hx hb dX6_maximum_93 (by decide) (fun _ => ?_) (fun q => absurd q (by decide))
            refine lv_iconst (v := nI 0) hx hb dX6_maximum_101 (by decide) ?_
            exact m_iret C hM hS (Nat.le_of_ble_eq_true rfl) (Nat.le_of_ble_eq_true rfl) dX6_maximum_102 (Or.inr (Or.inl ⟨k_1, f_2, rfl, f_4, (by rw [show st_n st k_1 = j by omega]; exact c_13), rfl, hW, hF⟩))
        · -- 29 f
          have c_12 : ¬ (st_n st) k_1 ≤ j := fun q => c_12 ((nI_leI (by omega) (by omega)).mpr q)
          have hTj := hT j (by omega)
          refine lv_aload_n hx hb dX6_maximum_32 rfl (lv_at hl 2 rfl) ?_
          refine lv_iload_n hx hb dX6_maximum_33 rfl (lv_at hl 3 rfl) ?_
          refine lv_iload hx hb dX6_maximum_34 (lv_at hl 0 rfl) ?_
          refine lv_lload_n hx hb dX6_maximum_36 rfl (lv_at hl 4 rfl) ?_
          refine lv_lload hx hb dX6_maximum_37 (lv_at hl 5 rfl) ?_
          refine m_callV Z C hM hS (As := [.int (nI k_1), .int (nI j), .long a, .long d]) (rest := []) (c_X6_isInside Z h m q (se_now (se_many (se_thr st (nI 0)) (st_many st)) (st_now st)) hW k_1 j a d (show k_1 < 10 by omega) (show j < 120 by omega)) yi_X6_isInside ml_X6_111 hW.o rfl ⟨Nat.le_of_ble_eq_true rfl, Nat.le_of_ble_eq_true rfl⟩ (Nat.le_of_ble_eq_true rfl) hl.1 rfl rfl dX6_maximum_39 ⟨Nat.le_of_ble_eq_true rfl, Nat.le_of_ble_eq_true rfl⟩ (fun v h9 H locs hv hM hS => ?_)
          obtain ⟨hv, hh9⟩ := hv
          rcases Decidable.em (z_in st k_1 a d j) with g_16 | g_16
          · -- of 39: True
            replace hv : v = some (.int (b2 (z_in st k_1 a d j))) := hv
            rw [b2_t g_16] at hv
            subst hv
            rw [hh9] at hM
            refine W.eq (g2 := F0 mt 42 ls [.int (nI 1)]) rfl ?_
            refine lv_if_eq (tgt := 66) hx hb dX6_maximum_42 (by decide) (fun q => absurd q (by decide)) (fun _ => ?_)
            refine lv_aload_n hx hb dX6_maximum_45 rfl (lv_at hl 2 rfl) ?_
            refine lv_iload_n hx hb dX6_maximum_46 rfl (lv_at hl 3 rfl) ?_
            refine lv_iload hx hb dX6_maximum_47 (lv_at hl 0 rfl) ?_
            refine m_callV Z C hM hS (As := [.int (nI k_1), .int (nI j)]) (rest := []) (c_X6_value Z h m q (se_now (se_many (se_thr st (nI 0)) (st_many st)) (st_now st)) hW k_1 j (show k_1 < 10 by omega) (show j < 120 by omega)) yi_X6_value ml_X6_64 hW.o rfl ⟨Nat.le_of_ble_eq_true rfl, Nat.le_of_ble_eq_true rfl⟩ (Nat.le_of_ble_eq_true rfl) hl.1 rfl rfl dX6_maximum_49 ⟨Nat.le_of_ble_eq_true rfl, Nat.le_of_ble_eq_true rfl⟩ (fun v h9 H locs hv hM hS => ?_)
            obtain ⟨hv, hh9⟩ := hv
            subst hv
            rw [hh9] at hM
            refine W.eq (g2 := F0 mt 52 ls [.int (st_V st (120 * k_1 + j))]) rfl ?_
            refine lv_iload hx hb dX6_maximum_52 (lv_at hl 1 rfl) ?_
            refine lv_icmp_le (tgt := 66) hx hb dX6_maximum_54 (by decide) (fun c_18 => ?_) (fun c_18 => ?_)
            · -- 54 t
              refine lv_iinc (v := nI (j + 1)) (lv' := [(7, .int (nI (j + 1))), (6, .int (z_mx (z_in st k_1 a d) (z_v st k_1) (-20000) j)), (0, .ref m), (1, .int (nI k_1)), (2, .long a), (4, .long d)]) hx hb dX6_maximum_66 hl (k := 0) rfl (nI_add _ _) (by decide) rfl (fun ls hl => ?_)
              refine lv_goto (tgt := 21) hx hb dX6_maximum_69 (by decide) ?_
              have e_6 : z_mx (z_in st k_1 a d) (z_v st k_1) (-20000) (j + 1) = z_mx (z_in st k_1 a d) (z_v st k_1) (-20000) j := z_mx_f (fun q => i_len c_18 q.2)
              rw [← e_6] at hl
              exact ih (j + 1) (by omega) (by omega) H locs hM hS ls (lv_sub hl [0, 1, 2, 3, 4, 5] rfl)
            · -- 54 f
              refine lv_aload_n hx hb dX6_maximum_57 rfl (lv_at hl 2 rfl) ?_
              refine lv_iload_n hx hb dX6_maximum_58 rfl (lv_at hl 3 rfl) ?_
              refine lv_iload hx hb dX6_maximum_59 (lv_at hl 0 rfl) ?_
              refine m_callV Z C hM hS (As := [.int (nI k_1), .int (nI j)]) (rest := []) (c_X6_value Z h m q (se_now (se_many (se_thr st (nI 0)) (st_many st)) (st_now st)) hW k_1 j (show k_1 < 10 by omega) (show j < 120 by omega)) yi_X6_value ml_X6_64 hW.o rfl ⟨Nat.le_of_ble_eq_true rfl, Nat.le_of_ble_eq_true rfl⟩ (Nat.le_of_ble_eq_true rfl) hl.1 rfl rfl dX6_maximum_61 ⟨Nat.le_of_ble_eq_true rfl, Nat.le_of_ble_eq_true rfl⟩ (fun v h9 H locs hv hM hS => ?_)
              obtain ⟨hv, hh9⟩ := hv
              subst hv
              rw [hh9] at hM
              refine W.eq (g2 := F0 mt 64 ls [.int (st_V st (120 * k_1 + j))]) rfl ?_
              refine lv_istore (lv' := [(6, .int (st_V st (120 * k_1 + j))), (7, .int (nI j)), (0, .ref m), (1, .int (nI k_1)), (2, .long a), (4, .long d)]) hx hb dX6_maximum_64 hl (by decide) rfl (fun ls hl => ?_)
              refine lv_iinc (v := nI (j + 1)) (lv' := [(7, .int (nI (j + 1))), (6, .int (st_V st (120 * k_1 + j))), (0, .ref m), (1, .int (nI k_1)), (2, .long a), (4, .long d)]) hx hb dX6_maximum_66 hl (k := 1) rfl (nI_add _ _) (by decide) rfl (fun ls hl => ?_)
              refine lv_goto (tgt := 21) hx hb dX6_maximum_69 (by decide) ?_
              have e_6 : z_mx (z_in st k_1 a d) (z_v st k_1) (-20000) (j + 1) = st_V st (120 * k_1 + j) := z_mx_t g_16 (i_nle c_18)
              rw [← e_6] at hl
              exact ih (j + 1) (by omega) (by omega) H locs hM hS ls (lv_sub hl [0, 1, 2, 3, 4, 5] rfl)
          · -- of 39: False
            replace hv : v = some (.int (b2 (z_in st k_1 a d j))) := hv
            rw [b2_f g_16] at hv
            subst hv
            rw [hh9] at hM
            refine W.eq (g2 := F0 mt 42 ls [.int (nI 0)]) rfl ?_
            refine lv_if_eq (tgt := 66) hx hb dX6_maximum_42 (by decide) (fun _ => ?_) (fun q => absurd (by decide) q)
            refine lv_iinc (v := nI (j + 1)) (lv' := [(7, .int (nI (j + 1))), (6, .int (z_mx (z_in st k_1 a d) (z_v st k_1) (-20000) j)), (0, .ref m), (1, .int (nI k_1)), (2, .long a), (4, .long d)]) hx hb dX6_maximum_66 hl (k := 0) rfl (nI_add _ _) (by decide) rfl (fun ls hl => ?_)
            refine lv_goto (tgt := 21) hx hb dX6_maximum_69 (by decide) ?_
            have e_6 : z_mx (z_in st k_1 a d) (z_v st k_1) (-20000) (j + 1) = z_mx (z_in st k_1 a d) (z_v st k_1) (-20000) j := z_mx_f (fun q => g_16 q.1)
            rw [← e_6] at hl
            exact ih (j + 1) (by omega) (by omega) H locs hM hS ls (lv_sub hl [0, 1, 2, 3, 4, 5] rfl)
    exact lp_11 (st_n st k_1 + 1) 0 (by omega) (Nat.zero_le _) H locs hM hS ls (lv_sub hl [0, 1, 2, 3, 4, 5] rfl)
  · -- of 5
    subst hv
    have hF := hF.trans hF9
    obtain ⟨h, hM, hW, hF⟩ : ∃ h8, MW G s0.heap.size h8 H ∧ MdlW G h8 m q (se_now (se_many (se_thr st (nI 2)) (st_many st)) (st_now st)) ∧ mFr h0 h8 m q := ⟨_, hM, hW, hF⟩
    subst f_7
    refine W.eq (g2 := F0 mt 8 ls [.int (nI 0)]) rfl ?_
    refine lv_if_ne (tgt := 13) hx hb dX6_maximum_8 (by decide) (fun q => absurd (by decide) q) (fun _ => ?_)
    refine lv_iconst (v := nI 0) hx hb dX6_maximum_11 (by decide) ?_
    exact m_iret C hM hS (Nat.le_of_ble_eq_true rfl) (Nat.le_of_ble_eq_true rfl) dX6_maximum_12 (Or.inr (Or.inr (Or.inl ⟨k_5, f_6, rfl, f_8, rfl, hW, hF⟩)))
  · -- of 5
    subst hv
    have hF := hF.trans hF9
    obtain ⟨h, hM, hW, hF⟩ : ∃ h8, MW G s0.heap.size h8 H ∧ MdlW G h8 m q (se_now (se_many (se_thr st (nI 1)) (st_many st)) (st_now st)) ∧ mFr h0 h8 m q := ⟨_, hM, hW, hF⟩
    refine W.eq (g2 := F0 mt 8 ls [.int (nI 0)]) rfl ?_
    refine lv_if_ne (tgt := 13) hx hb dX6_maximum_8 (by decide) (fun q => absurd (by decide) q) (fun _ => ?_)
    refine lv_iconst (v := nI 0) hx hb dX6_maximum_11 (by decide) ?_
    exact m_iret C hM hS (Nat.le_of_ble_eq_true rfl) (Nat.le_of_ble_eq_true rfl) dX6_maximum_12 (Or.inr (Or.inr (Or.inr ⟨f_9, rfl, hW, hF⟩)))
set_option maxRecDepth 100000 in
set_option maxHeartbeats 4000000 in
theorem c_X6_maximumHigh {l : Launch} {G : mG} {a0 : Array Value} {s0 : State} (Z : mZ l G a0 s0) (h0 : Hp) (m : Nat) (q : Nat → Nat) (st : Ms) (hW : MdlW G h0 m q st) (x : Int32) (a : Int64) (d : Int64) (hk : Mok st) : mM l G s0 yX6_maximumHigh cX6_maximumHigh 8 (some .int) 3 70 0 0 h0 [.ref m, .int x, .long a, .long d] (fun v h9 => (∃ k : Nat, (k < st_many st) ∧ (x = nI k) ∧ (¬ z_bad a d) ∧ (¬ z_mx (z_hi st k a d) (z_v st k) (-20000) (st_n st k) = -20000) ∧ v = some (.int (z_mx (z_hi st k a d) (z_v st k) (-20000) (st_n st k))) ∧ MdlW G h9 m q (se_now (se_many (se_thr st (nI 0)) (st_many st)) (st_now st)) ∧ mFr h0 h9 m q) ∨ (∃ k : Nat, (k < st_many st) ∧ (x = nI k) ∧ (¬ z_bad a d) ∧ (z_mx (z_hi st k a d) (z_v st k) (-20000) (st_n st k) = -20000) ∧ v = some (.int (nI 0)) ∧ MdlW G h9 m q (se_now (se_many (se_thr st (nI 3)) (st_many st)) (st_now st)) ∧ mFr h0 h9 m q) ∨ (∃ k : Nat, (k < st_many st) ∧ (x = nI k) ∧ (z_bad a d) ∧ v = some (.int (nI 0)) ∧ MdlW G h9 m q (se_now (se_many (se_thr st (nI 2)) (st_many st)) (st_now st)) ∧ mFr h0 h9 m q) ∨ ((∀ k : Nat, k < st_many st → x ≠ nI k) ∧ v = some (.int (nI 0)) ∧ MdlW G h9 m q (se_now (se_many (se_thr st (nI 1)) (st_many st)) (st_now st)) ∧ mFr h0 h9 m q)) := by
  refine mM_in RX6 "maximumHigh" rfl rfl (by decide +kernel) (Nat.le_of_ble_eq_true rfl) ?_
  intro p e s mt below meth c H locs C hM hS ls hl
  have hx := C.1
  have hb := C.2.1
  have hown := C.2.2.2.1
  have hE := C.2.2.2.2.2.2.1
  have hl : lv_has ls 8 [(0, .ref m), (1, .int x), (2, .long a), (4, .long d)] := hl
  have hF : mFr h0 h0 m q := mFr.rf
  obtain ⟨h, hM, hW, hF⟩ : ∃ h9, MW G s0.heap.size h9 H ∧ MdlW G h9 m q st ∧ mFr h0 h9 m q := ⟨_, hM, hW, hF⟩
  have hm := hk.1
  have hnow := hk.2.1
  refine lv_aload_n hx hb dX6_maximumHigh_0 rfl (lv_at hl 0 rfl) ?_
  refine lv_iload_n hx hb dX6_maximumHigh_1 rfl (lv_at hl 1 rfl) ?_
  refine lv_lload_n hx hb dX6_maximumHigh_2 rfl (lv_at hl 2 rfl) ?_
  refine lv_lload hx hb dX6_maximumHigh_3 (lv_at hl 3 rfl) ?_
  refine m_callV Z C hM hS (As := [.int x, .long a, .long d]) (rest := []) (c_X6_isRange Z h m q st hW x a d hk) yi_X6_isRange ml_X6_115 hW.o rfl ⟨Nat.le_of_ble_eq_true rfl, Nat.le_of_ble_eq_true rfl⟩ (Nat.le_of_ble_eq_true rfl) hl.1 rfl rfl dX6_maximumHigh_5 ⟨Nat.le_of_ble_eq_true rfl, Nat.le_of_ble_eq_true rfl⟩ (fun v h9 H locs hv hM hS => ?_)
  rcases hv with ⟨k_1, f_2, f_3, f_4, hv, hW, hF9⟩ | ⟨k_5, f_6, f_7, f_8, hv, hW, hF9⟩ | ⟨f_9, hv, hW, hF9⟩
  · -- of 5
    subst hv
    have hF := hF.trans hF9
    obtain ⟨h, hM, hW, hF⟩ : ∃ h8, MW G s0.heap.size h8 H ∧ MdlW G h8 m q (se_now (se_many (se_thr st (nI 0)) (st_many st)) (st_now st)) ∧ mFr h0 h8 m q := ⟨_, hM, hW, hF⟩
    subst f_3
    refine W.eq (g2 := F0 mt 8 ls [.int (nI 1)]) rfl ?_
    obtain ⟨hn, hT, hZ, hsi, hbd, hhv⟩ := hk.2.2 k_1 f_2
    refine lv_if_ne (tgt := 13) hx hb dX6_maximumHigh_8 (by decide) (fun _ => ?_) (fun q => absurd q (by decide))
    refine lv_sipush (v := -20000) hx hb dX6_maximumHigh_13 (by decide) ?_
    refine lv_istore (lv' := [(6, .int ((-20000))), (0, .ref m), (1, .int (nI k_1)), (2, .long a), (4, .long d)]) hx hb dX6_maximumHigh_16 hl (by decide) rfl (fun ls hl => ?_)
    refine lv_iconst (v := nI 0) hx hb dX6_maximumHigh_18 (by decide) ?_
    refine lv_istore (lv' := [(7, .int (nI 0)), (6, .int ((-20000))), (0, .ref m), (1, .int (nI k_1)), (2, .long a), (4, .long d)]) hx hb dX6_maximumHigh_19 hl (by decide) rfl (fun ls hl => ?_)
    have lp_11 : ∀ (fu : Nat) (j : Nat), st_n st k_1 < j + fu → j ≤ st_n st k_1 → ∀ (H : Heap) (locs : List Loc), MW G s0.heap.size h H → va_S (fun q => s0.heap.size ≤ q) s.heap H locs → ∀ ls : Array Slot, lv_has ls 8 [(7, .int (nI j)), (6, .int (z_mx (z_hi st k_1 a d) (z_v st k_1) (-20000) j)), (0, .ref m), (1, .int (nI k_1)), (2, .long a), (4, .long d)] → W p l e (mRm 3 70 0 0) s mt ([.ref m, .int (nI k_1), .long a, .long d] : List Value).toArray below meth c H locs 0 0 (MQ below (mQc G s0 (fun v h9 => (∃ k : Nat, (k < st_many st) ∧ ((nI k_1) = nI k) ∧ (¬ z_bad a d) ∧ (¬ z_mx (z_hi st k a d) (z_v st k) (-20000) (st_n st k) = -20000) ∧ v = some (.int (z_mx (z_hi st k a d) (z_v st k) (-20000) (st_n st k))) ∧ MdlW G h9 m q (se_now (se_many (se_thr st (nI 0)) (st_many st)) (st_now st)) ∧ mFr h0 h9 m q) ∨ (∃ k : Nat, (k < st_many st) ∧ ((nI k_1) = nI k) ∧ (¬ z_bad a d) ∧ (z_mx (z_hi st k a d) (z_v st k) (-20000) (st_n st k) = -20000) ∧ v = some (.int (nI 0)) ∧ MdlW G h9 m q (se_now (se_many (se_thr st (nI 3)) (st_many st)) (st_now st)) ∧ mFr h0 h9 m q) ∨ (∃ k : Nat, (k < st_many st) ∧ ((nI k_1) = nI k) ∧ (z_bad a d) ∧ v = some (.int (nI 0)) ∧ MdlW G h9 m q (se_now (se_many (se_thr st (nI 2)) (st_many st)) (st_now st)) ∧ mFr h0 h9 m q) ∨ ((∀ k : Nat, k < st_many st → (nI k_1) ≠ nI k) ∧ v = some (.int (nI 0)) ∧ MdlW G h9 m q (se_now (se_many (se_thr st (nI 1)) (st_many st)) (st_now st)) ∧ mFr h0 h9 m q))) ([.ref m, .int (nI k_1), .long a, .long d] : List Value).toArray s 0 0 (fun q => s0.heap.size ≤ q)) (F0 mt 21 ls []) := by
      intro fu
      induction fu with
      | zero => intro j hfu _; exact absurd hfu (by omega)
      | succ fu ih =>
        intro j hfu hk9 H locs hM hS ls hl
        refine lv_iload hx hb dX6_maximumHigh_21 (lv_at hl 0 rfl) ?_
        refine lv_aload_n hx hb dX6_maximumHigh_23 rfl (lv_at hl 2 rfl) ?_
        refine m_get Z C hM hW.o K_X6 5 (by decide) fl_X6_16 (v := .ref (q 5)) rfl dX6_maximumHigh_24 ?_
        refine lv_iload_n hx hb dX6_maximumHigh_27 rfl (lv_at hl 3 rfl) ?_
        refine m_iald Z C hM (f := fun k => nI ((st_n st) k)) hW.a5 k_1 rfl (by omega) (by decide) dX6_maximumHigh_28 ?_
        refine lv_icmp_ge (tgt := 72) hx hb dX6_maximumHigh_29 (by decide) (fun c_12 => ?_) (fun c_12 => ?_)
        · -- 29 t
          have c_12 : (st_n st) k_1 ≤ j := (nI_leI (by omega) (by omega)).mp c_12
          refine lv_aload_n hx hb dX6_maximumHigh_72 rfl (lv_at hl 2 rfl) ?_
          refine lv_iload hx hb dX6_maximumHigh_73 (lv_at hl 1 rfl) ?_
          refine lv_sipush (v := -20000) hx hb dX6_maximumHigh_75 (by decide) ?_
          refine lv_icmp_ne (tgt := 85) hx hb dX6_maximumHigh_78 (by decide) (fun c_13 => ?_) (fun c_13 => ?_)
          · -- 78 t
            refine lv_iconst (v := nI 0) hx hb dX6_maximumHigh_85 (by decide) ?_
            refine m_put Z C hM hS hW.o K_X6 0 (by decide) fl_X6_53 (v := .int (nI 0)) rfl rfl rfl (fs' := mObj q (se_now (se_many (se_thr (se_now (se_many (se_thr st (nI 0)) (st_many st)) (st_now st)) (nI 0)) (st_many st)) (st_now st))) rfl (Nat.le_of_ble_eq_true rfl) dX6_maximumHigh_86 (fun H locs hM hS => ?_)
            obtain ⟨h, hM, hW, hF⟩ : ∃ h9, MW G s0.heap.size h9 H ∧ MdlW G h9 m q (se_now (se_many (se_thr (se_now (se_many (se_thr st (nI 0)) (st_many st)) (st_now st)) (nI 0)) (st_many st)) (st_now st)) ∧ mFr h0 h9 m q := ⟨_, hM, hW.uo (nI 0) (st_many st) (st_now st), hF.o _⟩
            refine lv_aload_n hx hb dX6_maximumHigh_89 rfl (lv_at hl 2 rfl) ?_
            refine m_get Z C hM hW.o K_X6 0 (by decide) fl_X6_53 (v := .int (nI 0)) rfl dX6_maximumHigh_90 ?_
            refine lv_if_ne (tgt := 101) hx hb dX6_maximumHigh_93 (by decide) (fun q => absurd (by decide) q) (fun _ => ?_)
            refine lv_iload hx hb dX6_maximumHigh_96 (lv_at hl 1 rfl) ?_
            refine lv_goto (tgt := 102) hx hb dX6_maximumHigh_98 (by decide) ?_
            exact m_iret C hM hS (Nat.le_of_ble_eq_true rfl) (Nat.le_of_ble_eq_true rfl) dX6_maximumHigh_102 (Or.inl ⟨k_1, f_2, rfl, f_4, (by rw [show st_n st k_1 = j by omega]; exact c_13), (by rw [show j = st_n st k_1 by omega]), hW, hF⟩)
          · -- 78 f
            refine lv_iconst (v := nI 3) hx hb dX6_maximumHigh_81 (by decide) ?_
            refine lv_goto (tgt := 86) hx hb dX6_maximumHigh_82 (by decide) ?_
            refine m_put Z C hM hS hW.o K_X6 0 (by decide) fl_X6_53 (v := .int (nI 3)) rfl rfl rfl (fs' := mObj q (se_now (se_many (se_thr (se_now (se_many (se_thr st (nI 0)) (st_many st)) (st_now st)) (nI 3)) (st_many st)) (st_now st))) rfl (Nat.le_of_ble_eq_true rfl) dX6_maximumHigh_86 (fun H locs hM hS => ?_)
            obtain ⟨h, hM, hW, hF⟩ : ∃ h9, MW G s0.heap.size h9 H ∧ MdlW G h9 m q (se_now (se_many (se_thr (se_now (se_many (se_thr st (nI 0)) (st_many st)) (st_now st)) (nI 3)) (st_many st)) (st_now st)) ∧ mFr h0 h9 m q := ⟨_, hM, hW.uo (nI 3) (st_many st) (st_now st), hF.o _⟩
            refine lv_aload_n hx hb dX6_maximumHigh_89 rfl (lv_at hl 2 rfl) ?_
            refine m_get Z C hM hW.o K_X6 0 (by decide) fl_X6_53 (v := .int (nI 3)) rfl dX6_maximumHigh_90 ?_
            refine lv_if_ne (tgt := 101) hx hb dX6_maximumHigh_93 (by decide) (fun _ => ?_) (fun q => absurd q (by decide))
            refine lv_iconst (v := nI 0) hx hb dX6_maximumHigh_101 (by decide) ?_
            exact m_iret C hM hS (Nat.le_of_ble_eq_true rfl) (Nat.le_of_ble_eq_true rfl) dX6_maximumHigh_102 (Or.inr (Or.inl ⟨k_1, f_2, rfl, f_4, (by rw [show st_n st k_1 = j by omega]; exact c_13), rfl, hW, hF⟩))
        · -- 29 f
          have c_12 : ¬ (st_n st) k_1 ≤ j := fun q => c_12 ((nI_leI (by omega) (by omega)).mpr q)
          have hTj := hT j (by omega)
          refine lv_aload_n hx hb dX6_maximumHigh_32 rfl (lv_at hl 2 rfl) ?_
          refine lv_iload_n hx hb dX6_maximumHigh_33 rfl (lv_at hl 3 rfl) ?_
          refine lv_iload hx hb dX6_maximumHigh_34 (lv_at hl 0 rfl) ?_
          refine lv_lload_n hx hb dX6_maximumHigh_36 rfl (lv_at hl 4 rfl) ?_
          refine lv_lload hx hb dX6_maximumHigh_37 (lv_at hl 5 rfl) ?_
          refine m_callV Z C hM hS (As := [.int (nI k_1), .int (nI j), .long a, .long d]) (rest := []) (c_X6_isTouched Z h m q (se_now (se_many (se_thr st (nI 0)) (st_many st)) (st_now st)) hW k_1 j a d (show k_1 < 10 by omega) (show j < 120 by omega) (show st_T st (120 * k_1 + j) < 1073741824 by omega)) yi_X6_isTouched ml_X6_137 hW.o rfl ⟨Nat.le_of_ble_eq_true rfl, Nat.le_of_ble_eq_true rfl⟩ (Nat.le_of_ble_eq_true rfl) hl.1 rfl rfl dX6_maximumHigh_39 ⟨Nat.le_of_ble_eq_true rfl, Nat.le_of_ble_eq_true rfl⟩ (fun v h9 H locs hv hM hS => ?_)
          obtain ⟨hv, hh9⟩ := hv
          rcases Decidable.em (z_hi st k_1 a d j) with g_16 | g_16
          · -- of 39: True
            replace hv : v = some (.int (b2 (z_hi st k_1 a d j))) := hv
            rw [b2_t g_16] at hv
            subst hv
            rw [hh9] at hM
            refine W.eq (g2 := F0 mt 42 ls [.int (nI 1)]) rfl ?_
            refine lv_if_eq (tgt := 66) hx hb dX6_maximumHigh_42 (by decide) (fun q => absurd q (by decide)) (fun _ => ?_)
            refine lv_aload_n hx hb dX6_maximumHigh_45 rfl (lv_at hl 2 rfl) ?_
            refine lv_iload_n hx hb dX6_maximumHigh_46 rfl (lv_at hl 3 rfl) ?_
            refine lv_iload hx hb dX6_maximumHigh_47 (lv_at hl 0 rfl) ?_
            refine m_callV Z C hM hS (As := [.int (nI k_1), .int (nI j)]) (rest := []) (c_X6_value Z h m q (se_now (se_many (se_thr st (nI 0)) (st_many st)) (st_now st)) hW k_1 j (show k_1 < 10 by omega) (show j < 120 by omega)) yi_X6_value ml_X6_64 hW.o rfl ⟨Nat.le_of_ble_eq_true rfl, Nat.le_of_ble_eq_true rfl⟩ (Nat.le_of_ble_eq_true rfl) hl.1 rfl rfl dX6_maximumHigh_49 ⟨Nat.le_of_ble_eq_true rfl, Nat.le_of_ble_eq_true rfl⟩ (fun v h9 H locs hv hM hS => ?_)
            obtain ⟨hv, hh9⟩ := hv
            subst hv
            rw [hh9] at hM
            refine W.eq (g2 := F0 mt 52 ls [.int (st_V st (120 * k_1 + j))]) rfl ?_
            refine lv_iload hx hb dX6_maximumHigh_52 (lv_at hl 1 rfl) ?_
            refine lv_icmp_le (tgt := 66) hx hb dX6_maximumHigh_54 (by decide) (fun c_18 => ?_) (fun c_18 => ?_)
            · -- 54 t
              refine lv_iinc (v := nI (j + 1)) (lv' := [(7, .int (nI (j + 1))), (6, .int (z_mx (z_hi st k_1 a d) (z_v st k_1) (-20000) j)), (0, .ref m), (1, .int (nI k_1)), (2, .long a), (4, .long d)]) hx hb dX6_maximumHigh_66 hl (k := 0) rfl (nI_add _ _) (by decide) rfl (fun ls hl => ?_)
              refine lv_goto (tgt := 21) hx hb dX6_maximumHigh_69 (by decide) ?_
              have e_6 : z_mx (z_hi st k_1 a d) (z_v st k_1) (-20000) (j + 1) = z_mx (z_hi st k_1 a d) (z_v st k_1) (-20000) j := z_mx_f (fun q => i_len c_18 q.2)
              rw [← e_6] at hl
              exact ih (j + 1) (by omega) (by omega) H locs hM hS ls (lv_sub hl [0, 1, 2, 3, 4, 5] rfl)
            · -- 54 f
              refine lv_aload_n hx hb dX6_maximumHigh_57 rfl (lv_at hl 2 rfl) ?_
              refine lv_iload_n hx hb dX6_maximumHigh_58 rfl (lv_at hl 3 rfl) ?_
              refine lv_iload hx hb dX6_maximumHigh_59 (lv_at hl 0 rfl) ?_
              refine m_callV Z C hM hS (As := [.int (nI k_1), .int (nI j)]) (rest := []) (c_X6_value Z h m q (se_now (se_many (se_thr st (nI 0)) (st_many st)) (st_now st)) hW k_1 j (show k_1 < 10 by omega) (show j < 120 by omega)) yi_X6_value ml_X6_64 hW.o rfl ⟨Nat.le_of_ble_eq_true rfl, Nat.le_of_ble_eq_true rfl⟩ (Nat.le_of_ble_eq_true rfl) hl.1 rfl rfl dX6_maximumHigh_61 ⟨Nat.le_of_ble_eq_true rfl, Nat.le_of_ble_eq_true rfl⟩ (fun v h9 H locs hv hM hS => ?_)
              obtain ⟨hv, hh9⟩ := hv
              subst hv
              rw [hh9] at hM
              refine W.eq (g2 := F0 mt 64 ls [.int (st_V st (120 * k_1 + j))]) rfl ?_
              refine lv_istore (lv' := [(6, .int (st_V st (120 * k_1 + j))), (7, .int (nI j)), (0, .ref m), (1, .int (nI k_1)), (2, .long a), (4, .long d)]) hx hb dX6_maximumHigh_64 hl (by decide) rfl (fun ls hl => ?_)
              refine lv_iinc (v := nI (j + 1)) (lv' := [(7, .int (nI (j + 1))), (6, .int (st_V st (120 * k_1 + j))), (0, .ref m), (1, .int (nI k_1)), (2, .long a), (4, .long d)]) hx hb dX6_maximumHigh_66 hl (k := 1) rfl (nI_add _ _) (by decide) rfl (fun ls hl => ?_)
              refine lv_goto (tgt := 21) hx hb dX6_maximumHigh_69 (by decide) ?_
              have e_6 : z_mx (z_hi st k_1 a d) (z_v st k_1) (-20000) (j + 1) = st_V st (120 * k_1 + j) := z_mx_t g_16 (i_nle c_18)
              rw [← e_6] at hl
              exact ih (j + 1) (by omega) (by omega) H locs hM hS ls (lv_sub hl [0, 1, 2, 3, 4, 5] rfl)
          · -- of 39: False
            replace hv : v = some (.int (b2 (z_hi st k_1 a d j))) := hv
            rw [b2_f g_16] at hv
            subst hv
            rw [hh9] at hM
            refine W.eq (g2 := F0 mt 42 ls [.int (nI 0)]) rfl ?_
            refine lv_if_eq (tgt := 66) hx hb dX6_maximumHigh_42 (by decide) (fun _ => ?_) (fun q => absurd (by decide) q)
            refine lv_iinc (v := nI (j + 1)) (lv' := [(7, .int (nI (j + 1))), (6, .int (z_mx (z_hi st k_1 a d) (z_v st k_1) (-20000) j)), (0, .ref m), (1, .int (nI k_1)), (2, .long a), (4, .long d)]) hx hb dX6_maximumHigh_66 hl (k := 0) rfl (nI_add _ _) (by decide) rfl (fun ls hl => ?_)
            refine lv_goto (tgt := 21) hx hb dX6_maximumHigh_69 (by decide) ?_
            have e_6 : z_mx (z_hi st k_1 a d) (z_v st k_1) (-20000) (j + 1) = z_mx (z_hi st k_1 a d) (z_v st k_1) (-20000) j := z_mx_f (fun q => g_16 q.1)
            rw [← e_6] at hl
            exact ih (j + 1) (by omega) (by omega) H locs hM hS ls (lv_sub hl [0, 1, 2, 3, 4, 5] rfl)
    exact lp_11 (st_n st k_1 + 1) 0 (by omega) (Nat.zero_le _) H locs hM hS ls (lv_sub hl [0, 1, 2, 3, 4, 5] rfl)
  · -- of 5
    subst hv
    have hF := hF.trans hF9
    obtain ⟨h, hM, hW, hF⟩ : ∃ h8, MW G s0.heap.size h8 H ∧ MdlW G h8 m q (se_now (se_many (se_thr st (nI 2)) (st_many st)) (st_now st)) ∧ mFr h0 h8 m q := ⟨_, hM, hW, hF⟩
    subst f_7
    refine W.eq (g2 := F0 mt 8 ls [.int (nI 0)]) rfl ?_
    refine lv_if_ne (tgt := 13) hx hb dX6_maximumHigh_8 (by decide) (fun q => absurd (by decide) q) (fun _ => ?_)
    refine lv_iconst (v := nI 0) hx hb dX6_maximumHigh_11 (by decide) ?_
    exact m_iret C hM hS (Nat.le_of_ble_eq_true rfl) (Nat.le_of_ble_eq_true rfl) dX6_maximumHigh_12 (Or.inr (Or.inr (Or.inl ⟨k_5, f_6, rfl, f_8, rfl, hW, hF⟩)))
  · -- of 5
    subst hv
    have hF := hF.trans hF9
    obtain ⟨h, hM, hW, hF⟩ : ∃ h8, MW G s0.heap.size h8 H ∧ MdlW G h8 m q (se_now (se_many (se_thr st (nI 1)) (st_many st)) (st_now st)) ∧ mFr h0 h8 m q := ⟨_, hM, hW, hF⟩
    refine W.eq (g2 := F0 mt 8 ls [.int (nI 0)]) rfl ?_
    refine lv_if_ne (tgt := 13) hx hb dX6_maximumHigh_8 (by decide) (fun q => absurd (by decide) q) (fun _ => ?_)
    refine lv_iconst (v := nI 0) hx hb dX6_maximumHigh_11 (by decide) ?_
    exact m_iret C hM hS (Nat.le_of_ble_eq_true rfl) (Nat.le_of_ble_eq_true rfl) dX6_maximumHigh_12 (Or.inr (Or.inr (Or.inr ⟨f_9, rfl, hW, hF⟩)))
set_option maxRecDepth 100000 in
set_option maxHeartbeats 4000000 in
theorem c_X6_rollupCount {l : Launch} {G : mG} {a0 : Array Value} {s0 : State} (Z : mZ l G a0 s0) (h0 : Hp) (m : Nat) (q : Nat → Nat) (st : Ms) (hW : MdlW G h0 m q st) (x : Int32) (y : Int32) (hk : Mok st) : mM l G s0 yX6_rollupCount cX6_rollupCount 5 (some .int) 2 44 0 0 h0 [.ref m, .int x, .int y] (fun v h9 => (∃ k : Nat, (k < st_many st) ∧ (x = nI k) ∧ (¬ y < 0) ∧ v = some (.int (nI (z_ct (z_ro st k y) (st_n st k)))) ∧ MdlW G h9 m q (se_now (se_many (se_thr st (nI 0)) (st_many st)) (st_now st)) ∧ mFr h0 h9 m q) ∨ (∃ k : Nat, (k < st_many st) ∧ (x = nI k) ∧ (y < 0) ∧ v = some (.int (nI 0)) ∧ MdlW G h9 m q (se_now (se_many (se_thr st (nI 2)) (st_many st)) (st_now st)) ∧ mFr h0 h9 m q) ∨ ((∀ k : Nat, k < st_many st → x ≠ nI k) ∧ v = some (.int (nI 0)) ∧ MdlW G h9 m q (se_now (se_many (se_thr st (nI 1)) (st_many st)) (st_now st)) ∧ mFr h0 h9 m q)) := by
  refine mM_in RX6 "rollupCount" rfl rfl (by decide +kernel) (Nat.le_of_ble_eq_true rfl) ?_
  intro p e s mt below meth c H locs C hM hS ls hl
  have hx := C.1
  have hb := C.2.1
  have hown := C.2.2.2.1
  have hE := C.2.2.2.2.2.2.1
  have hl : lv_has ls 5 [(0, .ref m), (1, .int x), (2, .int y)] := hl
  have hF : mFr h0 h0 m q := mFr.rf
  obtain ⟨h, hM, hW, hF⟩ : ∃ h9, MW G s0.heap.size h9 H ∧ MdlW G h9 m q st ∧ mFr h0 h9 m q := ⟨_, hM, hW, hF⟩
  have hm := hk.1
  have hnow := hk.2.1
  refine lv_aload_n hx hb dX6_rollupCount_0 rfl (lv_at hl 0 rfl) ?_
  refine lv_iload_n hx hb dX6_rollupCount_1 rfl (lv_at hl 1 rfl) ?_
  refine m_callV Z C hM hS (As := [.int x]) (rest := []) (c_X6_looks Z h m q st hW x (show st_many st ≤ 10 by omega)) yi_X6_looks ml_X6_83 hW.o rfl ⟨Nat.le_of_ble_eq_true rfl, Nat.le_of_ble_eq_true rfl⟩ (Nat.le_of_ble_eq_true rfl) hl.1 rfl rfl dX6_rollupCount_2 ⟨Nat.le_of_ble_eq_true rfl, Nat.le_of_ble_eq_true rfl⟩ (fun v h9 H locs hv hM hS => ?_)
  rcases hv with ⟨k_1, f_2, f_3, hv, hW, hF9⟩ | ⟨f_4, hv, hW, hF9⟩
  · -- of 2
    subst hv
    have hF := hF.trans hF9
    obtain ⟨h, hM, hW, hF⟩ : ∃ h8, MW G s0.heap.size h8 H ∧ MdlW G h8 m q (se_now (se_many (se_thr st (nI 0)) (st_many st)) (st_now st)) ∧ mFr h0 h8 m q := ⟨_, hM, hW, hF⟩
    subst f_3
    refine W.eq (g2 := F0 mt 5 ls [.int (nI 1)]) rfl ?_
    obtain ⟨hn, hT, hZ, hsi, hbd, hhv⟩ := hk.2.2 k_1 f_2
    refine lv_if_ne (tgt := 10) hx hb dX6_rollupCount_5 (by decide) (fun _ => ?_) (fun q => absurd q (by decide))
    refine lv_iload_n hx hb dX6_rollupCount_10 rfl (lv_at hl 2 rfl) ?_
    refine lv_if_ge (tgt := 20) hx hb dX6_rollupCount_11 (by decide) (fun c_6 => ?_) (fun c_6 => ?_)
    · -- 11 t
      refine lv_iconst (v := nI 0) hx hb dX6_rollupCount_20 (by decide) ?_
      refine lv_istore_n (lv' := [(3, .int (nI 0)), (0, .ref m), (1, .int (nI k_1)), (2, .int y)]) hx hb dX6_rollupCount_21 rfl hl (by decide) rfl (fun ls hl => ?_)
      refine lv_iconst (v := nI 0) hx hb dX6_rollupCount_22 (by decide) ?_
      refine lv_istore (lv' := [(4, .int (nI 0)), (3, .int (nI 0)), (0, .ref m), (1, .int (nI k_1)), (2, .int y)]) hx hb dX6_rollupCount_23 hl (by decide) rfl (fun ls hl => ?_)
      have lp_7 : ∀ (fu : Nat) (j : Nat), st_n st k_1 < j + fu → j ≤ st_n st k_1 → ∀ (H : Heap) (locs : List Loc), MW G s0.heap.size h H → va_S (fun q => s0.heap.size ≤ q) s.heap H locs → ∀ ls : Array Slot, lv_has ls 5 [(4, .int (nI j)), (3, .int (nI (z_ct (z_ro st k_1 y) j))), (0, .ref m), (1, .int (nI k_1)), (2, .int y)] → W p l e (mRm 2 44 0 0) s mt ([.ref m, .int (nI k_1), .int y] : List Value).toArray below meth c H locs 0 0 (MQ below (mQc G s0 (fun v h9 => (∃ k : Nat, (k < st_many st) ∧ ((nI k_1) = nI k) ∧ (¬ y < 0) ∧ v = some (.int (nI (z_ct (z_ro st k y) (st_n st k)))) ∧ MdlW G h9 m q (se_now (se_many (se_thr st (nI 0)) (st_many st)) (st_now st)) ∧ mFr h0 h9 m q) ∨ (∃ k : Nat, (k < st_many st) ∧ ((nI k_1) = nI k) ∧ (y < 0) ∧ v = some (.int (nI 0)) ∧ MdlW G h9 m q (se_now (se_many (se_thr st (nI 2)) (st_many st)) (st_now st)) ∧ mFr h0 h9 m q) ∨ ((∀ k : Nat, k < st_many st → (nI k_1) ≠ nI k) ∧ v = some (.int (nI 0)) ∧ MdlW G h9 m q (se_now (se_many (se_thr st (nI 1)) (st_many st)) (st_now st)) ∧ mFr h0 h9 m q))) ([.ref m, .int (nI k_1), .int y] : List Value).toArray s 0 0 (fun q => s0.heap.size ≤ q)) (F0 mt 25 ls []) := by
        intro fu
        induction fu with
        | zero => intro j hfu _; exact absurd hfu (by omega)
        | succ fu ih =>
          intro j hfu hk9 H locs hM hS ls hl
          refine lv_iload hx hb dX6_rollupCount_25 (lv_at hl 0 rfl) ?_
          refine lv_aload_n hx hb dX6_rollupCount_27 rfl (lv_at hl 2 rfl) ?_
          refine m_get Z C hM hW.o K_X6 5 (by decide) fl_X6_16 (v := .ref (q 5)) rfl dX6_rollupCount_28 ?_
          refine lv_iload_n hx hb dX6_rollupCount_31 rfl (lv_at hl 3 rfl) ?_
          refine m_iald Z C hM (f := fun k => nI ((st_n st) k)) hW.a5 k_1 rfl (by omega) (by decide) dX6_rollupCount_32 ?_
          refine lv_icmp_ge (tgt := 67) hx hb dX6_rollupCount_33 (by decide) (fun c_8 => ?_) (fun c_8 => ?_)
          · -- 33 t
            have c_8 : (st_n st) k_1 ≤ j := (nI_leI (by omega) (by omega)).mp c_8
            refine lv_iload_n hx hb dX6_rollupCount_67 rfl (lv_at hl 1 rfl) ?_
            exact m_iret C hM hS (Nat.le_of_ble_eq_true rfl) (Nat.le_of_ble_eq_true rfl) dX6_rollupCount_68 (Or.inl ⟨k_1, f_2, rfl, (i_len c_6), (by rw [show j = st_n st k_1 by omega]), hW, hF⟩)
          · -- 33 f
            have c_8 : ¬ (st_n st) k_1 ≤ j := fun q => c_8 ((nI_leI (by omega) (by omega)).mpr q)
            have hTj := hT j (by omega)
            refine lv_iload_n hx hb dX6_rollupCount_36 rfl (lv_at hl 1 rfl) ?_
            refine lv_aload_n hx hb dX6_rollupCount_37 rfl (lv_at hl 2 rfl) ?_
            refine lv_iload_n hx hb dX6_rollupCount_38 rfl (lv_at hl 3 rfl) ?_
            refine lv_iload hx hb dX6_rollupCount_39 (lv_at hl 0 rfl) ?_
            refine m_callV Z C hM hS (As := [.int (nI k_1), .int (nI j)]) (rest := [.int (nI (z_ct (z_ro st k_1 y) j))]) (c_X6_begin Z h m q (se_now (se_many (se_thr st (nI 0)) (st_many st)) (st_now st)) hW k_1 j (show k_1 < 10 by omega) (show j < 120 by omega) (show st_T st (120 * k_1 + j) < 1073741824 by omega)) yi_X6_begin ml_X6_132 hW.o rfl ⟨Nat.le_of_ble_eq_true rfl, Nat.le_of_ble_eq_true rfl⟩ (Nat.le_of_ble_eq_true rfl) hl.1 rfl rfl dX6_rollupCount_41 ⟨Nat.le_of_ble_eq_true rfl, Nat.le_of_ble_eq_true rfl⟩ (fun v h9 H locs hv hM hS => ?_)
            obtain ⟨hv, hh9⟩ := hv
            subst hv
            rw [hh9] at hM
            refine W.eq (g2 := F0 mt 44 ls [.long (lN (z_bg st k_1 j)), .int (nI (z_ct (z_ro st k_1 y) j))]) rfl ?_
            refine lv_ldc2 (v := lN 10) hx hb hown (hE.good Z kl_X6_130 _) dX6_rollupCount_44 ?_
            refine lv_iload_n hx hb dX6_rollupCount_47 rfl (lv_at hl 4 rfl) ?_
            refine lv_i2l (v := y.toInt64) hx hb dX6_rollupCount_48 rfl ?_
            refine lv_lmul hx hb dX6_rollupCount_49 ?_
            refine W.lcmp hx hb dX6_rollupCount_50 ?_
            refine n_lc_ne (tgt := 58) hx hb dX6_rollupCount_51 (by decide) (fun c_9 => ?_) (fun c_9 => ?_)
            · -- 51 t
              refine lv_iconst (v := nI 0) hx hb dX6_rollupCount_58 (by decide) ?_
              refine n_iadd hx hb dX6_rollupCount_59 ?_
              refine lv_istore_n (lv' := [(3, .int (nI (z_ct (z_ro st k_1 y) j + 0))), (4, .int (nI j)), (0, .ref m), (1, .int (nI k_1)), (2, .int y)]) hx hb dX6_rollupCount_60 rfl hl (by decide) rfl (fun ls hl => ?_)
              refine lv_iinc (v := nI (j + 1)) (lv' := [(4, .int (nI (j + 1))), (3, .int (nI (z_ct (z_ro st k_1 y) j + 0))), (0, .ref m), (1, .int (nI k_1)), (2, .int y)]) hx hb dX6_rollupCount_61 hl (k := 1) rfl (nI_add _ _) (by decide) rfl (fun ls hl => ?_)
              refine lv_goto (tgt := 25) hx hb dX6_rollupCount_64 (by decide) ?_
              have e_3 : z_ct (z_ro st k_1 y) (j + 1) = z_ct (z_ro st k_1 y) j + 0 := z_ct_f0 c_9
              rw [← e_3] at hl
              exact ih (j + 1) (by omega) (by omega) H locs hM hS ls (lv_sub hl [0, 1, 2, 3, 4] rfl)
            · -- 51 f
              refine lv_iconst (v := nI 1) hx hb dX6_rollupCount_54 (by decide) ?_
              refine lv_goto (tgt := 59) hx hb dX6_rollupCount_55 (by decide) ?_
              refine n_iadd hx hb dX6_rollupCount_59 ?_
              refine lv_istore_n (lv' := [(3, .int (nI (z_ct (z_ro st k_1 y) j + 1))), (4, .int (nI j)), (0, .ref m), (1, .int (nI k_1)), (2, .int y)]) hx hb dX6_rollupCount_60 rfl hl (by decide) rfl (fun ls hl => ?_)
              refine lv_iinc (v := nI (j + 1)) (lv' := [(4, .int (nI (j + 1))), (3, .int (nI (z_ct (z_ro st k_1 y) j + 1))), (0, .ref m), (1, .int (nI k_1)), (2, .int y)]) hx hb dX6_rollupCount_61 hl (k := 1) rfl (nI_add _ _) (by decide) rfl (fun ls hl => ?_)
              refine lv_goto (tgt := 25) hx hb dX6_rollupCount_64 (by decide) ?_
              have e_3 : z_ct (z_ro st k_1 y) (j + 1) = z_ct (z_ro st k_1 y) j + 1 := z_ct_t c_9
              rw [← e_3] at hl
              exact ih (j + 1) (by omega) (by omega) H locs hM hS ls (lv_sub hl [0, 1, 2, 3, 4] rfl)
      exact lp_7 (st_n st k_1 + 1) 0 (by omega) (Nat.zero_le _) H locs hM hS ls (lv_sub hl [0, 1, 2, 3, 4] rfl)
    · -- 11 f
      refine lv_aload_n hx hb dX6_rollupCount_14 rfl (lv_at hl 0 rfl) ?_
      refine lv_iconst (v := nI 2) hx hb dX6_rollupCount_15 (by decide) ?_
      refine m_callV Z C hM hS (As := [.int (nI 2)]) (rest := []) (c_X6_fail Z h m q (se_now (se_many (se_thr st (nI 0)) (st_many st)) (st_now st)) hW (nI 2)) yi_X6_fail ml_X6_68 hW.o rfl ⟨Nat.le_of_ble_eq_true rfl, Nat.le_of_ble_eq_true rfl⟩ (Nat.le_of_ble_eq_true rfl) hl.1 rfl rfl dX6_rollupCount_16 ⟨Nat.le_of_ble_eq_true rfl, Nat.le_of_ble_eq_true rfl⟩ (fun v h9 H locs hv hM hS => ?_)
      obtain ⟨hv, hW, hF9⟩ := hv
      subst hv
      have hF := hF.trans hF9
      obtain ⟨h, hM, hW, hF⟩ : ∃ h8, MW G s0.heap.size h8 H ∧ MdlW G h8 m q (se_now (se_many (se_thr (se_now (se_many (se_thr st (nI 0)) (st_many st)) (st_now st)) ((nI 2))) (st_many (se_now (se_many (se_thr st (nI 0)) (st_many st)) (st_now st)))) (st_now (se_now (se_many (se_thr st (nI 0)) (st_many st)) (st_now st)))) ∧ mFr h0 h8 m q := ⟨_, hM, hW, hF⟩
      refine W.eq (g2 := F0 mt 19 ls [.int (nI 0)]) rfl ?_
      exact m_iret C hM hS (Nat.le_of_ble_eq_true rfl) (Nat.le_of_ble_eq_true rfl) dX6_rollupCount_19 (Or.inr (Or.inl ⟨k_1, f_2, rfl, (i_nle c_6), rfl, hW, hF⟩))
  · -- of 2
    subst hv
    have hF := hF.trans hF9
    obtain ⟨h, hM, hW, hF⟩ : ∃ h8, MW G s0.heap.size h8 H ∧ MdlW G h8 m q (se_now (se_many (se_thr st (nI 1)) (st_many st)) (st_now st)) ∧ mFr h0 h8 m q := ⟨_, hM, hW, hF⟩
    refine W.eq (g2 := F0 mt 5 ls [.int (nI 0)]) rfl ?_
    refine lv_if_ne (tgt := 10) hx hb dX6_rollupCount_5 (by decide) (fun q => absurd (by decide) q) (fun _ => ?_)
    refine lv_iconst (v := nI 0) hx hb dX6_rollupCount_8 (by decide) ?_
    exact m_iret C hM hS (Nat.le_of_ble_eq_true rfl) (Nat.le_of_ble_eq_true rfl) dX6_rollupCount_9 (Or.inr (Or.inr ⟨f_4, rfl, hW, hF⟩))
