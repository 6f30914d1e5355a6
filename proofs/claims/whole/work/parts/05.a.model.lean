set_option maxRecDepth 100000 in
set_option maxHeartbeats 4000000 in
theorem c_X6_isIn {l : Launch} {G : mG} {a0 : Array Value} {s0 : State} (Z : mZ l G a0 s0) (h0 : Hp) (x : Int32) (lo : Int32) (hi : Int32) : mM l G s0 yX6_isIn cX6_isIn 3 (some .boolean) 0 0 0 0 h0 [.int x, .int lo, .int hi] (fun v h9 => (v = some (.int (b2 (lo ≤ x ∧ x ≤ hi))) ∧ h9 = h0)) := by
  refine mM_in RX6 "isIn" rfl rfl (by decide +kernel) (Nat.le_of_ble_eq_true rfl) ?_
  intro p e s mt below meth c H locs C hM hS ls hl
  have hx := C.1
  have hb := C.2.1
  have hown := C.2.2.2.1
  have hE := C.2.2.2.2.2.2.1
  have hl : lv_has ls 3 [(0, .int x), (1, .int lo), (2, .int hi)] := hl
  obtain ⟨h, hh⟩ : ∃ z, z = h0 := ⟨_, rfl⟩
  rw [← hh] at hM
  refine lv_iload_n hx hb dX6_isIn_0 rfl (lv_at hl 0 rfl) ?_
  refine lv_iload_n hx hb dX6_isIn_1 rfl (lv_at hl 1 rfl) ?_
  refine lv_icmp_lt (tgt := 14) hx hb dX6_isIn_2 (by decide) (fun c_1 => ?_) (fun c_1 => ?_)
  · -- 2 t
    refine lv_iconst (v := nI 0) hx hb dX6_isIn_14 (by decide) ?_
    exact m_zret C hM hS (Nat.le_of_ble_eq_true rfl) (Nat.le_of_ble_eq_true rfl) rfl dX6_isIn_15 ⟨by rw [b2_f (by have k0 := c_1; simp only [Int32.lt_iff_toInt_lt, Int32.le_iff_toInt_le, ← Int32.toInt_inj, Int64.lt_iff_toInt_lt, Int64.le_iff_toInt_le, ← Int64.toInt_inj, kt, ktL] at k0 ⊢; omega)], hh⟩
  · -- 2 f
    refine lv_iload_n hx hb dX6_isIn_5 rfl (lv_at hl 0 rfl) ?_
    refine lv_iload_n hx hb dX6_isIn_6 rfl (lv_at hl 2 rfl) ?_
    refine lv_icmp_gt (tgt := 14) hx hb dX6_isIn_7 (by decide) (fun c_2 => ?_) (fun c_2 => ?_)
    · -- 7 t
      refine lv_iconst (v := nI 0) hx hb dX6_isIn_14 (by decide) ?_
      exact m_zret C hM hS (Nat.le_of_ble_eq_true rfl) (Nat.le_of_ble_eq_true rfl) rfl dX6_isIn_15 ⟨by rw [b2_f (by have k0 := c_1; have k1 := c_2; simp only [Int32.lt_iff_toInt_lt, Int32.le_iff_toInt_le, ← Int32.toInt_inj, Int64.lt_iff_toInt_lt, Int64.le_iff_toInt_le, ← Int64.toInt_inj, kt, ktL] at k0 k1 ⊢; omega)], hh⟩
    · -- 7 f
      refine lv_iconst (v := nI 1) hx hb dX6_isIn_10 (by decide) ?_
      refine lv_goto (tgt := 15) hx hb dX6_isIn_11 (by decide) ?_
      exact m_zret C hM hS (Nat.le_of_ble_eq_true rfl) (Nat.le_of_ble_eq_true rfl) rfl dX6_isIn_15 ⟨by rw [b2_t (by have k0 := c_1; have k1 := c_2; simp only [Int32.lt_iff_toInt_lt, Int32.le_iff_toInt_le, ← Int32.toInt_inj, Int64.lt_iff_toInt_lt, Int64.le_iff_toInt_le, ← Int64.toInt_inj, kt, ktL] at k0 k1 ⊢; omega)], hh⟩
set_option maxRecDepth 100000 in
set_option maxHeartbeats 4000000 in
theorem c_X6_thrown {l : Launch} {G : mG} {a0 : Array Value} {s0 : State} (Z : mZ l G a0 s0) (h0 : Hp) (m : Nat) (q : Nat → Nat) (st : Ms) (hW : MdlW G h0 m q st) : mM l G s0 yX6_thrown cX6_thrown 1 (some .int) 0 0 0 0 h0 [.ref m] (fun v h9 => (v = some (.int (st_thr st)) ∧ h9 = h0)) := by
  refine mM_in RX6 "thrown" rfl rfl (by decide +kernel) (Nat.le_of_ble_eq_true rfl) ?_
  intro p e s mt below meth c H locs C hM hS ls hl
  have hx := C.1
  have hb := C.2.1
  have hown := C.2.2.2.1
  have hE := C.2.2.2.2.2.2.1
  have hl : lv_has ls 1 [(0, .ref m)] := hl
  have hF : mFr h0 h0 m q := mFr.rf
  obtain ⟨h, hh⟩ : ∃ z, z = h0 := ⟨_, rfl⟩
  rw [← hh] at hM hW
  refine lv_aload_n hx hb dX6_thrown_0 rfl (lv_at hl 0 rfl) ?_
  refine m_get Z C hM hW.o K_X6 0 (by decide) fl_X6_53 (v := .int (st_thr st)) rfl dX6_thrown_1 ?_
  exact m_iret C hM hS (Nat.le_of_ble_eq_true rfl) (Nat.le_of_ble_eq_true rfl) dX6_thrown_4 ⟨rfl, hh⟩
set_option maxRecDepth 100000 in
set_option maxHeartbeats 4000000 in
theorem c_X6_fail {l : Launch} {G : mG} {a0 : Array Value} {s0 : State} (Z : mZ l G a0 s0) (h0 : Hp) (m : Nat) (q : Nat → Nat) (st : Ms) (hW : MdlW G h0 m q st) (x : Int32) : mM l G s0 yX6_fail cX6_fail 2 (some .int) 0 0 0 0 h0 [.ref m, .int x] (fun v h9 => (v = some (.int (nI 0)) ∧ MdlW G h9 m q (se_now (se_many (se_thr st (x)) (st_many st)) (st_now st)) ∧ mFr h0 h9 m q)) := by
  refine mM_in RX6 "fail" rfl rfl (by decide +kernel) (Nat.le_of_ble_eq_true rfl) ?_
  intro p e s mt below meth c H locs C hM hS ls hl
  have hx := C.1
  have hb := C.2.1
  have hown := C.2.2.2.1
  have hE := C.2.2.2.2.2.2.1
  have hl : lv_has ls 2 [(0, .ref m), (1, .int x)] := hl
  have hF : mFr h0 h0 m q := mFr.rf
  obtain ⟨h, hM, hW, hF⟩ : ∃ h9, MW G s0.heap.size h9 H ∧ MdlW G h9 m q st ∧ mFr h0 h9 m q := ⟨_, hM, hW, hF⟩
  refine lv_aload_n hx hb dX6_fail_0 rfl (lv_at hl 0 rfl) ?_
  refine lv_iload_n hx hb dX6_fail_1 rfl (lv_at hl 1 rfl) ?_
  refine m_put Z C hM hS hW.o K_X6 0 (by decide) fl_X6_53 (v := .int x) rfl rfl rfl (fs' := mObj q (se_now (se_many (se_thr st x) (st_many st)) (st_now st))) rfl (Nat.le_of_ble_eq_true rfl) dX6_fail_2 (fun H locs hM hS => ?_)
  obtain ⟨h, hM, hW, hF⟩ : ∃ h9, MW G s0.heap.size h9 H ∧ MdlW G h9 m q (se_now (se_many (se_thr st x) (st_many st)) (st_now st)) ∧ mFr h0 h9 m q := ⟨_, hM, hW.uo x (st_many st) (st_now st), hF.o _⟩
  refine lv_iconst (v := nI 0) hx hb dX6_fail_5 (by decide) ?_
  exact m_iret C hM hS (Nat.le_of_ble_eq_true rfl) (Nat.le_of_ble_eq_true rfl) dX6_fail_6 ⟨rfl, hW, hF⟩
set_option maxRecDepth 100000 in
set_option maxHeartbeats 4000000 in
theorem c_X6_value {l : Launch} {G : mG} {a0 : Array Value} {s0 : State} (Z : mZ l G a0 s0) (h0 : Hp) (m : Nat) (q : Nat → Nat) (st : Ms) (hW : MdlW G h0 m q st) (z : Nat) (i : Nat) (hz : z < 10) (hi : i < 120) : mM l G s0 yX6_value cX6_value 3 (some .int) 0 0 0 0 h0 [.ref m, .int (nI z), .int (nI i)] (fun v h9 => (v = some (.int (st_V st (120 * z + i))) ∧ h9 = h0)) := by
  refine mM_in RX6 "value" rfl rfl (by decide +kernel) (Nat.le_of_ble_eq_true rfl) ?_
  intro p e s mt below meth c H locs C hM hS ls hl
  have hx := C.1
  have hb := C.2.1
  have hown := C.2.2.2.1
  have hE := C.2.2.2.2.2.2.1
  have hl : lv_has ls 3 [(0, .ref m), (1, .int (nI z)), (2, .int (nI i))] := hl
  have hF : mFr h0 h0 m q := mFr.rf
  obtain ⟨h, hh⟩ : ∃ z, z = h0 := ⟨_, rfl⟩
  rw [← hh] at hM hW
  refine lv_aload_n hx hb dX6_value_0 rfl (lv_at hl 0 rfl) ?_
  refine m_get Z C hM hW.o K_X6 6 (by decide) fl_X6_19 (v := .ref (q 6)) rfl dX6_value_1 ?_
  refine lv_bipush (v := nI 120) hx hb dX6_value_4 (by decide) ?_
  refine lv_iload_n hx hb dX6_value_6 rfl (lv_at hl 1 rfl) ?_
  refine n_imul hx hb dX6_value_7 ?_
  refine lv_iload_n hx hb dX6_value_8 rfl (lv_at hl 2 rfl) ?_
  refine n_iadd hx hb dX6_value_9 ?_
  refine m_iald Z C hM hW.a6 (120 * z + i) rfl (by omega) (by decide) dX6_value_10 ?_
  exact m_iret C hM hS (Nat.le_of_ble_eq_true rfl) (Nat.le_of_ble_eq_true rfl) dX6_value_11 ⟨rfl, hh⟩
set_option maxRecDepth 100000 in
set_option maxHeartbeats 4000000 in
theorem c_X6_time {l : Launch} {G : mG} {a0 : Array Value} {s0 : State} (Z : mZ l G a0 s0) (h0 : Hp) (m : Nat) (q : Nat → Nat) (st : Ms) (hW : MdlW G h0 m q st) (z : Nat) (i : Nat) (hz : z < 10) (hi : i < 120) : mM l G s0 yX6_time cX6_time 3 (some .long) 0 0 0 0 h0 [.ref m, .int (nI z), .int (nI i)] (fun v h9 => (v = some (.long (lN (st_T st (120 * z + i)))) ∧ h9 = h0)) := by
  refine mM_in RX6 "time" rfl rfl (by decide +kernel) (Nat.le_of_ble_eq_true rfl) ?_
  intro p e s mt below meth c H locs C hM hS ls hl
  have hx := C.1
  have hb := C.2.1
  have hown := C.2.2.2.1
  have hE := C.2.2.2.2.2.2.1
  have hl : lv_has ls 3 [(0, .ref m), (1, .int (nI z)), (2, .int (nI i))] := hl
  have hF : mFr h0 h0 m q := mFr.rf
  obtain ⟨h, hh⟩ : ∃ z, z = h0 := ⟨_, rfl⟩
  rw [← hh] at hM hW
  refine lv_aload_n hx hb dX6_time_0 rfl (lv_at hl 0 rfl) ?_
  refine m_get Z C hM hW.o K_X6 8 (by decide) fl_X6_25 (v := .ref (q 8)) rfl dX6_time_1 ?_
  refine lv_bipush (v := nI 120) hx hb dX6_time_4 (by decide) ?_
  refine lv_iload_n hx hb dX6_time_6 rfl (lv_at hl 1 rfl) ?_
  refine n_imul hx hb dX6_time_7 ?_
  refine lv_iload_n hx hb dX6_time_8 rfl (lv_at hl 2 rfl) ?_
  refine n_iadd hx hb dX6_time_9 ?_
  refine m_lald Z C hM hW.a8 (120 * z + i) rfl (by omega) (by decide) dX6_time_10 ?_
  exact m_lret C hM hS (Nat.le_of_ble_eq_true rfl) (Nat.le_of_ble_eq_true rfl) dX6_time_11 ⟨rfl, hh⟩
