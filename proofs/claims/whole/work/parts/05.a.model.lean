set_option maxRecDepth 100000 in
set_option maxHeartbeats 4000000 in
theorem c_X6_isIn {l : Launch} {G : mG} {a0 : Array Value} {s0 : State} (Z : mZ l G a0 s0) (h0 : Hp) (x : Int32) (lo : Int32) (hi : Int32) : mM l G s0 yX6_isIn cX6_isIn 3 (some .boolean) 0 0 0 0 h0 [.int x, .int lo, .int hi] (fun v h9 => (v = some (.int (b2 (lo ≤ x ∧ x ≤ hi))) ∧ h9 = h0)) := by
  refine mM_in RX6 "isIn" rfl rfl (by decide +kernel) (Nat.le_of_ble_eq_true rfl) ?_
  intro p e s mt below meth c H locs C hM hS ls hl
  have hx := C.1
  have hb := C.2.1
  have hown := C.2.2.2.1
  have hE := C.2.2.2.2.2.2.1
  have hl : lv_has ls 3 [(0, .int x), (1, .int lo), (2, .int hi)] := hl
  obtain ⟨h, hh⟩ : ∃ z, z = h0 := ⟨_, rfl⟩
  rw [← hh] at hM
  refine lv_iload_n hx hb dX6_isIn_0 rfl (lv_at hl 0 rfl) ?_
  refine lv_iload_n hx hb dX6_isIn_1 rfl (lv_at hl 1 rfl) ?_
  refine lv_icmp_lt (tgt := 14) hx hb dX6_isIn_2 (by decide) (fun c_1 => ?_) (fun c_1 => ?_)
  · -- 2 t
    refine lv_iconst (v := nI 0) hx hb dX6_isIn_14 (by decide) ?_
    exact m_zret C hM hS (Nat.le_of_ble_eq_true rfl) (Nat.le_of_ble_eq_true rfl) rfl dX6_isIn_15 ⟨by rw [b2_f (by have k0 := c_1; simp only [Int32.lt_iff_toInt_lt, Int32.le_iff_toInt_le, ← Int32.toInt_inj, Int64.lt_iff_toInt_lt, Int64.le_iff_toInt_le, ← Int64.toInt_inj, kt, ktL] at k0 ⊢; omega)], hh⟩
  · -- 2 f
    refine lv_iload_n hx hb dX6_isIn_5 rfl (lv_at hl 0 rfl) ?_
    refine lv_iload_n hx hb dX6_isIn_6 rfl (lv_at hl 2 rfl) ?_
    refine lv_icmp_gt (tgt := 14) hx hb dX6_isIn_7 (by decide) (fun c_2 => ?_) (fun c_2 => ?_)
    · -- 7 t
      refine lv_iconst (v := nI 0) hx hb dX6_isIn_14 (by decide) ?_
      exact m_zret C hM hS (Nat.le_of_ble_eq_true rfl) (Nat.le_of_ble_eq_true rfl) rfl dX6_isIn_15 ⟨by rw [b2_f (by have k0 := c_1; have k1 := c_2; simp only [Int32.lt_iff_toInt_lt, Int32.le_iff_toInt_le, ← Int32.toInt_inj, Int64.lt_iff_toInt_lt, Int64.le_iff_toInt_le, ← Int64.toInt_inj, kt, ktL] at k0 k1 ⊢; omega)], hh⟩
    · -- 7 f
      refine lv_iconst (v := nI 1) hx hb dX6_isIn_10 (by decide) ?_
      refine lv_goto (tgt := 15) hx hb dX6_isIn_11 (by decide) ?_
      exact m_zret C hM hS (Nat.le_of_ble_eq_true rfl) (Nat.le_of_ble_eq_true rfl) rfl dX6_isIn_15 ⟨by rw [b2_t (by have k0 := c_1; have k1 := c_2; simp only [Int32.lt_iff_toInt_lt, Int32.le_iff_toInt_le, ← Int32.toInt_inj, Int64.lt_iff_toInt_lt, Int64.le_iff_toInt_le, ← Int64.toInt_inj, kt, ktL] at k0 k1 ⊢; omega)], hh⟩
set_option maxRecDepth 100000 in
set_option maxHeartbeats 4000000 in
theorem c_X6_thrown {l : Launch} {G : mG} {a0 : Array Value} {s0 : State} (Z : mZ l G a0 s0) (h0 : Hp) (m : Nat) (q : Nat → Nat) (st : Ms) (hW : MdlW G h0 m q st) : mM l G s0 yX6_thrown cX6_thrown 1 (some .int) 0 0 0 0 h0 [.ref m] (fun v h9 => (v = some (.int (st_thr st)) ∧ h9 = h0)) := by
  refine mM_in RX6 "thrown" rfl rfl (by decide +kernel) (Nat.le_of_ble_eq_true rfl) ?_
  intro p e s mt below meth c H locs C hM hS ls hl
  have hx := C.1
  have hb := C.2.1
  have hown := C.2.2.2.1
  have hE := C.2.2.2.2.2.2.1
  have hl : lv_has ls 1 [(0, .ref m)] := hl
  have hF : mFr h0 h0 m q := mFr.rf
  obtain ⟨h, hh⟩ : ∃ z, z = h0 := ⟨_, rfl⟩
  rw [← hh] at hM hW
  refine lv_aload_n hx hb dX6_thrown_0 rfl (lv_at hl 0 rfl) ?_
  refine m_get Z C hM hW.o K_X6 0 (by decide) fl_X6_53 (v := .int (st_thr st)) rfl dX6_thrown_1 ?_
  exact m_iret C hM hS (Nat.le_of_ble_eq_true rfl) (Nat.le_of_ble_eq_true rfl) dX6_thrown_4 ⟨rfl, hh⟩
set_option maxRecDepth 100000 in
set_option maxHeartbeats 4000000 in
theorem c_X6_fail {l : Launch} {G : mG} {a0 : Array Value} {s0 : State} (Z : mZ l G a0 s0) (h0 : Hp) (m : Nat) (q : Nat → Nat) (st : Ms) (hW : MdlW G h0 m q st) (x : Int32) : mM l G s0 yX6_fail cX6_fail 2 (some .int) 0 0 0 0 h0 [.ref m, .int x] (fun v h9 => (v = some (.int (nI 0)) ∧ MdlW G h9 m q (se_now (se_many (se_thr st (x)) (st_many st)) (st_now st)) ∧ mFr h0 h9 m q)) := by
  refine mM_in RX6 "fail" rfl rfl (by decide +kernel) (Nat.le_of_ble_eq_true rfl) ?_
  intro p e s mt below meth c H locs C hM hS ls hl
  have hx := C.1
  have hb := C.2.1
  have hown := C.2.2.2.1
  have hE := C.2.2.2.2.2.2.1
  have hl : lv_has ls 2 [(0, .ref m), (1, .int x)] := hl
  have hF : mFr h0 h0 m q := mFr.rf
  obtain ⟨h, hM, hW, hF⟩ : ∃ h9, MW G s0.heap.size h9 H ∧ MdlW G h9 m q st ∧ mFr h0 h9 m q := ⟨_, hM, hW, hF⟩
  refine lv_aload_n hx hb dX6_fail_0 rfl (lv_at hl 0 rfl) ?_
  refine lv_iload_n hx hb dX6_fail_1 rfl (lv_at hl 1 rfl) ?_
  refine m_put Z C hM hS hW.o K_X6 0 (by decide) fl_X6_53 (v := .int x) rfl rfl rfl (fs' := mObj q (se_now (se_many (se_thr st x) (st_many st)) (st_now st))) rfl (Nat.le_of_ble_eq_true rfl) dX6_fail_2 (fun H locs hM hS => ?_)
  obtain ⟨h, hM, hW, hF⟩ : ∃ h9, MW G s0.heap.size h9 H ∧ MdlW G h9 m q (se_now (se_many (se_thr st x) (st_many st)) (st_now st)) ∧ mFr h0 h9 m q := ⟨_, hM, hW.uo x (st_many st) (st_now st), hF.o _⟩
  refine lv_iconst (v := nI 0) hx hb dX6_fail_5 (by decide) ?_
  exact m_iret C hM hS (Nat.le_of_ble_eq_true rfl) (Nat.le_of_ble_eq_true rfl) dX6_fail_6 ⟨rfl, hW, hF⟩
set_option maxRecDepth 100000 in
set_option maxHeartbeats 4000000 in
theorem c_X6_value {l : Launch} {G : mG} {a0 : Array Value} {s0 : State} (Z : mZ l G a0 s0) (h0 : Hp) (m : Nat) (q : Nat → Nat) (st : Ms) (hW : MdlW G h0 m q st) (z : Nat) (i : Nat) (hz : z < 10) (hi : i < 120) : mM l G s0 yX6_value cX6_value 3 (some .int) 0 0 0 0 h0 [.ref m, .int (nI z), .int (nI i)] (fun v h9 => (v = some (.int (st_V st (120 * z + i))) ∧ h9 = h0)) := by
  refine mM_in RX6 "value" rfl rfl (by decide +kernel) (Nat.le_of_ble_eq_true rfl) ?_
  intro p e s mt below meth c H locs C hM hS ls hl
  have hx := C.1
  have hb := C.2.1
  have hown := C.2.2.2.1
  have hE := C.2.2.2.2.2.2.1
  have hl : lv_has ls 3 [(0, .ref m), (1, .int (nI z)), (2, .int (nI i))] := hl
  have hF : mFr h0 h0 m q := mFr.rf
  obtain ⟨h, hh⟩ : ∃ z, z = h0 := ⟨_, rfl⟩
  rw [← hh] at hM hW
  refine lv_aload_n hx hb dX6_value_0 rfl (lv_at hl 0 rfl) ?_
  refine m_get Z C hM hW.o K_X6 6 (by decide) fl_X6_19 (v := .ref (q 6)) rfl dX6_value_1 ?_
  refine lv_bipush (v := nI 120) hx hb dX6_value_4 (by decide) ?_
  refine lv_iload_n hx hb dX6_value_6 rfl (lv_at hl 1 rfl) ?_
  refine n_imul hx hb dX6_value_7 ?_
  refine lv_iload_n hx hb dX6_value_8 rfl (lv_at hl 2 rfl) ?_
  refine n_iadd hx hb dX6_value_9 ?_
  refine m_iald Z C hM (f := st_V st) hW.a6 (120 * z + i) rfl (by omega) (by decide) dX6_value_10 ?_
  exact m_iret C hM hS (Nat.le_of_ble_eq_true rfl) (Nat.le_of_ble_eq_true rfl) dX6_value_11 ⟨rfl, hh⟩
set_option maxRecDepth 100000 in
set_option maxHeartbeats 4000000 in
theorem c_X6_time {l : Launch} {G : mG} {a0 : Array Value} {s0 : State} (Z : mZ l G a0 s0) (h0 : Hp) (m : Nat) (q : Nat → Nat) (st : Ms) (hW : MdlW G h0 m q st) (z : Nat) (i : Nat) (hz : z < 10) (hi : i < 120) : mM l G s0 yX6_time cX6_time 3 (some .long) 0 0 0 0 h0 [.ref m, .int (nI z), .int (nI i)] (fun v h9 => (v = some (.long (lN (st_T st (120 * z + i)))) ∧ h9 = h0)) := by
  refine mM_in RX6 "time" rfl rfl (by decide +kernel) (Nat.le_of_ble_eq_true rfl) ?_
  intro p e s mt below meth c H locs C hM hS ls hl
  have hx := C.1
  have hb := C.2.1
  have hown := C.2.2.2.1
  have hE := C.2.2.2.2.2.2.1
  have hl : lv_has ls 3 [(0, .ref m), (1, .int (nI z)), (2, .int (nI i))] := hl
  have hF : mFr h0 h0 m q := mFr.rf
  obtain ⟨h, hh⟩ : ∃ z, z = h0 := ⟨_, rfl⟩
  rw [← hh] at hM hW
  refine lv_aload_n hx hb dX6_time_0 rfl (lv_at hl 0 rfl) ?_
  refine m_get Z C hM hW.o K_X6 8 (by decide) fl_X6_25 (v := .ref (q 8)) rfl dX6_time_1 ?_
  refine lv_bipush (v := nI 120) hx hb dX6_time_4 (by decide) ?_
  refine lv_iload_n hx hb dX6_time_6 rfl (lv_at hl 1 rfl) ?_
  refine n_imul hx hb dX6_time_7 ?_
  refine lv_iload_n hx hb dX6_time_8 rfl (lv_at hl 2 rfl) ?_
  refine n_iadd hx hb dX6_time_9 ?_
  refine m_lald Z C hM (f := fun k => lN ((st_T st) k)) hW.a8 (120 * z + i) rfl (by omega) (by decide) dX6_time_10 ?_
  exact m_lret C hM hS (Nat.le_of_ble_eq_true rfl) (Nat.le_of_ble_eq_true rfl) dX6_time_11 ⟨rfl, hh⟩
set_option maxRecDepth 100000 in
set_option maxHeartbeats 4000000 in
theorem c_X6_looks {l : Launch} {G : mG} {a0 : Array Value} {s0 : State} (Z : mZ l G a0 s0) (h0 : Hp) (m : Nat) (q : Nat → Nat) (st : Ms) (hW : MdlW G h0 m q st) (x : Int32) (hm : st_many st ≤ 10) : mM l G s0 yX6_looks cX6_looks 2 (some .boolean) 1 22 0 0 h0 [.ref m, .int x] (fun v h9 => (∃ k : Nat, (k < st_many st) ∧ (x = nI k) ∧ v = some (.int (nI 1)) ∧ MdlW G h9 m q (se_now (se_many (se_thr st (nI 0)) (st_many st)) (st_now st)) ∧ mFr h0 h9 m q) ∨ ((∀ k : Nat, k < st_many st → x ≠ nI k) ∧ v = some (.int (nI 0)) ∧ MdlW G h9 m q (se_now (se_many (se_thr st (nI 1)) (st_many st)) (st_now st)) ∧ mFr h0 h9 m q)) := by
  refine mM_in RX6 "looks" rfl rfl (by decide +kernel) (Nat.le_of_ble_eq_true rfl) ?_
  intro p e s mt below meth c H locs C hM hS ls hl
  have hx := C.1
  have hb := C.2.1
  have hown := C.2.2.2.1
  have hE := C.2.2.2.2.2.2.1
  have hl : lv_has ls 2 [(0, .ref m), (1, .int x)] := hl
  have hF : mFr h0 h0 m q := mFr.rf
  obtain ⟨h, hM, hW, hF⟩ : ∃ h9, MW G s0.heap.size h9 H ∧ MdlW G h9 m q st ∧ mFr h0 h9 m q := ⟨_, hM, hW, hF⟩
  refine lv_aload_n hx hb dX6_looks_0 rfl (lv_at hl 0 rfl) ?_
  refine lv_iload_n hx hb dX6_looks_1 rfl (lv_at hl 1 rfl) ?_
  refine lv_iconst (v := nI 0) hx hb dX6_looks_2 (by decide) ?_
  refine lv_aload_n hx hb dX6_looks_3 rfl (lv_at hl 0 rfl) ?_
  refine m_get Z C hM hW.o K_X6 1 (by decide) fl_X6_57 (v := .int (nI (st_many st))) rfl dX6_looks_4 ?_
  refine lv_iconst (v := nI 1) hx hb dX6_looks_7 (by decide) ?_
  refine lv_isub hx hb dX6_looks_8 ?_
  refine m_callS Z C hM hS (As := [.int x, .int (nI 0), .int (nI (st_many st) - nI 1)]) (rest := [.ref m]) (c_X6_isIn Z h x (nI 0) (nI (st_many st) - nI 1)) yi_X6_isIn ml_X6_60 ⟨Nat.le_of_ble_eq_true rfl, Nat.le_of_ble_eq_true rfl⟩ (Nat.le_of_ble_eq_true rfl) hl.1 rfl rfl dX6_looks_9 ⟨Nat.le_of_ble_eq_true rfl, Nat.le_of_ble_eq_true rfl⟩ (fun v h9 H locs hv hM hS => ?_)
  obtain ⟨hv, hh9⟩ := hv
  rcases Decidable.em ((nI 0) ≤ x ∧ x ≤ (nI (st_many st) - nI 1)) with g_1 | g_1
  · -- of 9: True
    rw [b2_t g_1] at hv
    subst hv
    rw [hh9] at hM
    refine W.eq (g2 := F0 mt 12 ls [.int (nI 1), .ref m]) rfl ?_
    refine lv_if_eq (tgt := 19) hx hb dX6_looks_12 (by decide) (fun q => absurd q (by decide)) (fun _ => ?_)
    refine lv_iconst (v := nI 0) hx hb dX6_looks_15 (by decide) ?_
    refine lv_goto (tgt := 20) hx hb dX6_looks_16 (by decide) ?_
    refine m_put Z C hM hS hW.o K_X6 0 (by decide) fl_X6_53 (v := .int (nI 0)) rfl rfl rfl (fs' := mObj q (se_now (se_many (se_thr st (nI 0)) (st_many st)) (st_now st))) rfl (Nat.le_of_ble_eq_true rfl) dX6_looks_20 (fun H locs hM hS => ?_)
    obtain ⟨h, hM, hW, hF⟩ : ∃ h9, MW G s0.heap.size h9 H ∧ MdlW G h9 m q (se_now (se_many (se_thr st (nI 0)) (st_many st)) (st_now st)) ∧ mFr h0 h9 m q := ⟨_, hM, hW.uo (nI 0) (st_many st) (st_now st), hF.o _⟩
    refine lv_aload_n hx hb dX6_looks_23 rfl (lv_at hl 0 rfl) ?_
    refine m_get Z C hM hW.o K_X6 0 (by decide) fl_X6_53 (v := .int (nI 0)) rfl dX6_looks_24 ?_
    refine lv_if_ne (tgt := 34) hx hb dX6_looks_27 (by decide) (fun q => absurd (by decide) q) (fun _ => ?_)
    refine lv_iconst (v := nI 1) hx hb dX6_looks_30 (by decide) ?_
    refine lv_goto (tgt := 35) hx hb dX6_looks_31 (by decide) ?_
    exact m_zret C hM hS (Nat.le_of_ble_eq_true rfl) (Nat.le_of_ble_eq_true rfl) rfl dX6_looks_35 (Or.inl (by obtain ⟨k, k1, k2⟩ := (isIn_k hm x).mp g_1; exact ⟨k, k1, k2, rfl, hW, hF⟩))
  · -- of 9: False
    rw [b2_f g_1] at hv
    subst hv
    rw [hh9] at hM
    refine W.eq (g2 := F0 mt 12 ls [.int (nI 0), .ref m]) rfl ?_
    refine lv_if_eq (tgt := 19) hx hb dX6_looks_12 (by decide) (fun _ => ?_) (fun q => absurd (by decide) q)
    refine lv_iconst (v := nI 1) hx hb dX6_looks_19 (by decide) ?_
    refine m_put Z C hM hS hW.o K_X6 0 (by decide) fl_X6_53 (v := .int (nI 1)) rfl rfl rfl (fs' := mObj q (se_now (se_many (se_thr st (nI 1)) (st_many st)) (st_now st))) rfl (Nat.le_of_ble_eq_true rfl) dX6_looks_20 (fun H locs hM hS => ?_)
    obtain ⟨h, hM, hW, hF⟩ : ∃ h9, MW G s0.heap.size h9 H ∧ MdlW G h9 m q (se_now (se_many (se_thr st (nI 1)) (st_many st)) (st_now st)) ∧ mFr h0 h9 m q := ⟨_, hM, hW.uo (nI 1) (st_many st) (st_now st), hF.o _⟩
    refine lv_aload_n hx hb dX6_looks_23 rfl (lv_at hl 0 rfl) ?_
    refine m_get Z C hM hW.o K_X6 0 (by decide) fl_X6_53 (v := .int (nI 1)) rfl dX6_looks_24 ?_
    refine lv_if_ne (tgt := 34) hx hb dX6_looks_27 (by decide) (fun _ => ?_) (fun q => absurd q (by decide))
    refine lv_iconst (v := nI 0) hx hb dX6_looks_34 (by decide) ?_
    exact m_zret C hM hS (Nat.le_of_ble_eq_true rfl) (Nat.le_of_ble_eq_true rfl) rfl dX6_looks_35 (Or.inr ⟨fun k k1 k2 => g_1 ((isIn_k hm x).mpr ⟨k, k1, k2⟩), rfl, hW, hF⟩)
set_option maxRecDepth 100000 in
set_option maxHeartbeats 4000000 in
theorem c_X6_search {l : Launch} {G : mG} {a0 : Array Value} {s0 : State} (Z : mZ l G a0 s0) (h0 : Hp) (m : Nat) (q : Nat → Nat) (st : Ms) (hW : MdlW G h0 m q st) (a : Int32) (d : Int32) (hm : st_many st ≤ 10) : mM l G s0 yX6_search cX6_search 4 (some .int) 0 0 0 0 h0 [.ref m, .int a, .int d] (fun v h9 => (∃ k : Nat, (k < st_many st) ∧ (st_nm st k = a ∧ st_ho st k = d) ∧ (∀ j : Nat, j < k → ¬ (st_nm st j = a ∧ st_ho st j = d)) ∧ v = some (.int (nI k)) ∧ h9 = h0) ∨ ((∀ j : Nat, j < st_many st → ¬ (st_nm st j = a ∧ st_ho st j = d)) ∧ v = some (.int ((-1))) ∧ h9 = h0)) := by
  refine mM_in RX6 "search" rfl rfl (by decide +kernel) (Nat.le_of_ble_eq_true rfl) ?_
  intro p e s mt below meth c H locs C hM hS ls hl
  have hx := C.1
  have hb := C.2.1
  have hown := C.2.2.2.1
  have hE := C.2.2.2.2.2.2.1
  have hl : lv_has ls 4 [(0, .ref m), (1, .int a), (2, .int d)] := hl
  have hF : mFr h0 h0 m q := mFr.rf
  obtain ⟨h, hh⟩ : ∃ z, z = h0 := ⟨_, rfl⟩
  rw [← hh] at hM hW
  refine lv_iconst (v := nI 0) hx hb dX6_search_0 (by decide) ?_
  refine lv_istore_n (lv' := [(3, .int (nI 0)), (0, .ref m), (1, .int a), (2, .int d)]) hx hb dX6_search_1 rfl hl (by decide) rfl (fun ls hl => ?_)
  have lp_1 : ∀ (fu : Nat) (k : Nat), st_many st < k + fu → k ≤ st_many st → (∀ j : Nat, j < k → ¬ (st_nm st j = a ∧ st_ho st j = d)) → ∀ (H : Heap) (locs : List Loc), MW G s0.heap.size h H → va_S (fun q => s0.heap.size ≤ q) s.heap H locs → ∀ ls : Array Slot, lv_has ls 4 [(3, .int (nI k)), (0, .ref m), (1, .int a), (2, .int d)] → W p l e (mRm 0 0 0 0) s mt ([.ref m, .int a, .int d] : List Value).toArray below meth c H locs 0 0 (MQ below (mQc G s0 (fun v h9 => (∃ k : Nat, (k < st_many st) ∧ (st_nm st k = a ∧ st_ho st k = d) ∧ (∀ j : Nat, j < k → ¬ (st_nm st j = a ∧ st_ho st j = d)) ∧ v = some (.int (nI k)) ∧ h9 = h0) ∨ ((∀ j : Nat, j < st_many st → ¬ (st_nm st j = a ∧ st_ho st j = d)) ∧ v = some (.int ((-1))) ∧ h9 = h0))) ([.ref m, .int a, .int d] : List Value).toArray s 0 0 (fun q => s0.heap.size ≤ q)) (F0 mt 2 ls []) := by
    intro fu
    induction fu with
    | zero => intro k hfu _ _; exact absurd hfu (by omega)
    | succ fu ih =>
      intro k hfu hk hno H locs hM hS ls hl
      refine lv_iload_n hx hb dX6_search_2 rfl (lv_at hl 0 rfl) ?_
      refine lv_aload_n hx hb dX6_search_3 rfl (lv_at hl 1 rfl) ?_
      refine m_get Z C hM hW.o K_X6 1 (by decide) fl_X6_57 (v := .int (nI (st_many st))) rfl dX6_search_4 ?_
      refine lv_icmp_ge (tgt := 38) hx hb dX6_search_7 (by decide) (fun c_2 => ?_) (fun c_2 => ?_)
      · -- 7 t
        have c_2 : st_many st ≤ k := (nI_leI (by omega) (by omega)).mp c_2
        refine lv_iconst (v := -1) hx hb dX6_search_38 (by decide) ?_
        exact m_iret C hM hS (Nat.le_of_ble_eq_true rfl) (Nat.le_of_ble_eq_true rfl) dX6_search_39 (Or.inr ⟨fun j hj => hno j (by omega), rfl, hh⟩)
      · -- 7 f
        have c_2 : ¬ st_many st ≤ k := fun q => c_2 ((nI_leI (by omega) (by omega)).mpr q)
        refine lv_aload_n hx hb dX6_search_10 rfl (lv_at hl 1 rfl) ?_
        refine m_get Z C hM hW.o K_X6 3 (by decide) fl_X6_7 (v := .ref (q 3)) rfl dX6_search_11 ?_
        refine lv_iload_n hx hb dX6_search_14 rfl (lv_at hl 0 rfl) ?_
        refine m_iald Z C hM (f := st_nm st) hW.a3 k rfl (by omega) (by decide) dX6_search_15 ?_
        refine lv_iload_n hx hb dX6_search_16 rfl (lv_at hl 2 rfl) ?_
        refine lv_icmp_ne (tgt := 32) hx hb dX6_search_17 (by decide) (fun c_3 => ?_) (fun c_3 => ?_)
        · -- 17 t
          refine lv_iinc (v := nI (k + 1)) (lv' := [(3, .int (nI (k + 1))), (0, .ref m), (1, .int a), (2, .int d)]) hx hb dX6_search_32 hl (k := 0) rfl (nI_add _ _) (by decide) rfl (fun ls hl => ?_)
          refine lv_goto (tgt := 2) hx hb dX6_search_35 (by decide) ?_
          exact ih (k + 1) (by omega) (by omega) (lt_s hno (fun q => c_3 q.1)) H locs hM hS ls (lv_sub hl [0, 1, 2, 3] rfl)
        · -- 17 f
          refine lv_aload_n hx hb dX6_search_20 rfl (lv_at hl 1 rfl) ?_
          refine m_get Z C hM hW.o K_X6 4 (by decide) fl_X6_13 (v := .ref (q 4)) rfl dX6_search_21 ?_
          refine lv_iload_n hx hb dX6_search_24 rfl (lv_at hl 0 rfl) ?_
          refine m_iald Z C hM (f := st_ho st) hW.a4 k rfl (by omega) (by decide) dX6_search_25 ?_
          refine lv_iload_n hx hb dX6_search_26 rfl (lv_at hl 3 rfl) ?_
          refine lv_icmp_ne (tgt := 32) hx hb dX6_search_27 (by decide) (fun c_4 => ?_) (fun c_4 => ?_)
          · -- 27 t
            refine lv_iinc (v := nI (k + 1)) (lv' := [(3, .int (nI (k + 1))), (0, .ref m), (1, .int a), (2, .int d)]) hx hb dX6_search_32 hl (k := 0) rfl (nI_add _ _) (by decide) rfl (fun ls hl => ?_)
            refine lv_goto (tgt := 2) hx hb dX6_search_35 (by decide) ?_
            exact ih (k + 1) (by omega) (by omega) (lt_s hno (fun q => c_4 q.2)) H locs hM hS ls (lv_sub hl [0, 1, 2, 3] rfl)
          · -- 27 f
            refine lv_iload_n hx hb dX6_search_30 rfl (lv_at hl 0 rfl) ?_
            exact m_iret C hM hS (Nat.le_of_ble_eq_true rfl) (Nat.le_of_ble_eq_true rfl) dX6_search_31 (Or.inl ⟨k, by omega, ⟨c_3, c_4⟩, hno, rfl, hh⟩)
  exact lp_1 (st_many st + 1) 0 (by omega) (Nat.zero_le _) (fun j hj => absurd hj (Nat.not_lt_zero j)) H locs hM hS ls (lv_sub hl [0, 1, 2, 3] rfl)
set_option maxRecDepth 100000 in
set_option maxHeartbeats 4000000 in
theorem c_X6_last {l : Launch} {G : mG} {a0 : Array Value} {s0 : State} (Z : mZ l G a0 s0) (h0 : Hp) (m : Nat) (q : Nat → Nat) (st : Ms) (hW : MdlW G h0 m q st) (z : Nat) (hz : z < 10) (h1 : 0 < st_n st z) (h2 : st_n st z ≤ 120) : mM l G s0 yX6_last cX6_last 2 (some .int) 1 22 0 0 h0 [.ref m, .int (nI z)] (fun v h9 => (v = some (.int (st_V st (120 * z + (st_n st z - 1)))) ∧ h9 = h0)) := by
  refine mM_in RX6 "last" rfl rfl (by decide +kernel) (Nat.le_of_ble_eq_true rfl) ?_
  intro p e s mt below meth c H locs C hM hS ls hl
  have hx := C.1
  have hb := C.2.1
  have hown := C.2.2.2.1
  have hE := C.2.2.2.2.2.2.1
  have hl : lv_has ls 2 [(0, .ref m), (1, .int (nI z))] := hl
  have hF : mFr h0 h0 m q := mFr.rf
  obtain ⟨h, hh⟩ : ∃ z, z = h0 := ⟨_, rfl⟩
  rw [← hh] at hM hW
  refine lv_aload_n hx hb dX6_last_0 rfl (lv_at hl 0 rfl) ?_
  refine lv_iload_n hx hb dX6_last_1 rfl (lv_at hl 1 rfl) ?_
  refine lv_aload_n hx hb dX6_last_2 rfl (lv_at hl 0 rfl) ?_
  refine m_get Z C hM hW.o K_X6 5 (by decide) fl_X6_16 (v := .ref (q 5)) rfl dX6_last_3 ?_
  refine lv_iload_n hx hb dX6_last_6 rfl (lv_at hl 1 rfl) ?_
  refine m_iald Z C hM (f := fun k => nI ((st_n st) k)) hW.a5 z rfl (by omega) (by decide) dX6_last_7 ?_
  refine lv_iconst (v := nI 1) hx hb dX6_last_8 (by decide) ?_
  refine n_isub hx hb (by omega) dX6_last_9 ?_
  refine m_callV Z C hM hS (As := [.int (nI z), .int (nI ((st_n st) z - 1))]) (rest := []) (c_X6_value Z h m q st hW z ((st_n st) z - 1) (show z < 10 by omega) (show ((st_n st) z - 1) < 120 by omega)) yi_X6_value ml_X6_64 hW.o rfl ⟨Nat.le_of_ble_eq_true rfl, Nat.le_of_ble_eq_true rfl⟩ (Nat.le_of_ble_eq_true rfl) hl.1 rfl rfl dX6_last_10 ⟨Nat.le_of_ble_eq_true rfl, Nat.le_of_ble_eq_true rfl⟩ (fun v h9 H locs hv hM hS => ?_)
  obtain ⟨hv, hh9⟩ := hv
  subst hv
  rw [hh9] at hM
  refine W.eq (g2 := F0 mt 13 ls [.int (st_V st (120 * z + ((st_n st) z - 1)))]) rfl ?_
  exact m_iret C hM hS (Nat.le_of_ble_eq_true rfl) (Nat.le_of_ble_eq_true rfl) dX6_last_13 ⟨rfl, hh⟩
