set_option maxRecDepth 100000 in
set_option maxHeartbeats 4000000 in
theorem c_X6_quantile {l : Launch} {G : mG} {a0 : Array Value} {s0 : State} (Z : mZ l G a0 s0) (h0 : Hp) (m : Nat) (q : Nat → Nat) (st : Ms) (hW : MdlW G h0 m q st) (x : Int32) (y : Int32) (hk : Mok st) : mM l G s0 yX6_quantile cX6_quantile 3 (some .int) 3 65 0 0 h0 [.ref m, .int x, .int y] (fun v h9 => (∃ k : Nat, ∃ d : Nat, (k < st_many st) ∧ (x = nI k) ∧ (1 ≤ d ∧ d ≤ 100) ∧ (y = nI d) ∧ (0 < st_n st k) ∧ v = some (.int (z_sq st k d)) ∧ MdlW G h9 m q (se_now (se_many (se_thr st (nI 0)) (st_many st)) (st_now st)) ∧ mFr h0 h9 m q) ∨ (∃ k : Nat, (k < st_many st) ∧ (x = nI k) ∧ (∀ d : Nat, 1 ≤ d → d ≤ 100 → y ≠ nI d) ∧ v = some (.int (nI 0)) ∧ MdlW G h9 m q (se_now (se_many (se_thr st (nI 2)) (st_many st)) (st_now st)) ∧ mFr h0 h9 m q) ∨ (∃ k : Nat, (k < st_many st) ∧ (x = nI k) ∧ (∃ d : Nat, (1 ≤ d ∧ d ≤ 100) ∧ y = nI d) ∧ (st_n st k = 0) ∧ v = some (.int (nI 0)) ∧ MdlW G h9 m q (se_now (se_many (se_thr st (nI 3)) (st_many st)) (st_now st)) ∧ mFr h0 h9 m q) ∨ ((∀ k : Nat, k < st_many st → x ≠ nI k) ∧ v = some (.int (nI 0)) ∧ MdlW G h9 m q (se_now (se_many (se_thr st (nI 1)) (st_many st)) (st_now st)) ∧ mFr h0 h9 m q)) := by
  refine mM_in RX6 "quantile" rfl rfl (by decide +kernel) (Nat.le_of_ble_eq_true rfl) ?_
  intro p e s mt below meth c H locs C hM hS ls hl
  have hx := C.1
  have hb := C.2.1
  have hown := C.2.2.2.1
  have hE := C.2.2.2.2.2.2.1
  have hl : lv_has ls 3 [(0, .ref m), (1, .int x), (2, .int y)] := hl
  have hF : mFr h0 h0 m q := mFr.rf
  obtain ⟨h, hM, hW, hF⟩ : ∃ h9, MW G s0.heap.size h9 H ∧ MdlW G h9 m q st ∧ mFr h0 h9 m q := ⟨_, hM, hW, hF⟩
  have hm := hk.1
  have hnow := hk.2.1
  refine lv_aload_n hx hb dX6_quantile_0 rfl (lv_at hl 0 rfl) ?_
  refine lv_iload_n hx hb dX6_quantile_1 rfl (lv_at hl 1 rfl) ?_
  refine lv_iload_n hx hb dX6_quantile_2 rfl (lv_at hl 2 rfl) ?_
  refine m_callV Z C hM hS (As := [.int x, .int y]) (rest := []) (c_X6_isPart Z h m q st hW x y hk) yi_X6_isPart ml_X6_146 hW.o rfl ⟨Nat.le_of_ble_eq_true rfl, Nat.le_of_ble_eq_true rfl⟩ (Nat.le_of_ble_eq_true rfl) hl.1 rfl rfl dX6_quantile_3 ⟨Nat.le_of_ble_eq_true rfl, Nat.le_of_ble_eq_true rfl⟩ (fun v h9 H locs hv hM hS => ?_)
  rcases hv with ⟨k_1, d_2, f_3, f_4, f_5, f_6, f_7, hv, hW, hF9⟩ | ⟨k_8, f_9, f_10, f_11, hv, hW, hF9⟩ | ⟨k_12, f_13, f_14, f_15, f_16, hv, hW, hF9⟩ | ⟨f_17, hv, hW, hF9⟩
  · -- of 3
    subst hv
    have hF := hF.trans hF9
    obtain ⟨h, hM, hW, hF⟩ : ∃ h8, MW G s0.heap.size h8 H ∧ MdlW G h8 m q (se_now (se_many (se_thr st (nI 0)) (st_many st)) (st_now st)) ∧ mFr h0 h8 m q := ⟨_, hM, hW, hF⟩
    subst f_4
    subst f_6
    refine W.eq (g2 := F0 mt 6 ls [.int (nI 1)]) rfl ?_
    obtain ⟨hn, hT, hZ, hsi, hbd, hhv⟩ := hk.2.2 k_1 f_3
    obtain ⟨hd1, hd2⟩ := f_5
    have hmul : st_n st k_1 * d_2 ≤ 120 * 100 := Nat.mul_le_mul hn hd2
    have htg : z_tg st k_1 d_2 ≤ 121 := by unfold z_tg; omega
    refine lv_if_eq (tgt := 18) hx hb dX6_quantile_6 (by decide) (fun q => absurd q (by decide)) (fun _ => ?_)
    refine lv_aload_n hx hb dX6_quantile_9 rfl (lv_at hl 0 rfl) ?_
    refine lv_iload_n hx hb dX6_quantile_10 rfl (lv_at hl 1 rfl) ?_
    refine lv_iload_n hx hb dX6_quantile_11 rfl (lv_at hl 2 rfl) ?_
    refine m_callV Z C hM hS (As := [.int (nI k_1), .int (nI d_2)]) (rest := []) (c_X6_sketched Z h m q (se_now (se_many (se_thr st (nI 0)) (st_many st)) (st_now st)) hW k_1 d_2 hk (show k_1 < st_many st by omega) (show d_2 ≤ 100 by omega)) yi_X6_sketched ml_X6_149 hW.o rfl ⟨Nat.le_of_ble_eq_true rfl, Nat.le_of_ble_eq_true rfl⟩ (Nat.le_of_ble_eq_true rfl) hl.1 rfl rfl dX6_quantile_12 ⟨Nat.le_of_ble_eq_true rfl, Nat.le_of_ble_eq_true rfl⟩ (fun v h9 H locs hv hM hS => ?_)
    obtain ⟨hv, hh9⟩ := hv
    replace hv : v = some (.int (z_sq st k_1 d_2)) := by rw [hv, z_sq_w (sw := (se_now (se_many (se_thr st (nI 0)) (st_many st)) (st_now st))) (st := st) rfl rfl rfl] <;> rfl
    subst hv
    rw [hh9] at hM
    refine W.eq (g2 := F0 mt 15 ls [.int (z_sq st k_1 d_2)]) rfl ?_
    refine lv_goto (tgt := 19) hx hb dX6_quantile_15 (by decide) ?_
    exact m_iret C hM hS (Nat.le_of_ble_eq_true rfl) (Nat.le_of_ble_eq_true rfl) dX6_quantile_19 (Or.inl ⟨k_1, d_2, f_3, rfl, ⟨hd1, hd2⟩, rfl, f_7, rfl, hW, hF⟩)
  · -- of 3
    subst hv
    have hF := hF.trans hF9
    obtain ⟨h, hM, hW, hF⟩ : ∃ h8, MW G s0.heap.size h8 H ∧ MdlW G h8 m q (se_now (se_many (se_thr st (nI 2)) (st_many st)) (st_now st)) ∧ mFr h0 h8 m q := ⟨_, hM, hW, hF⟩
    subst f_10
    refine W.eq (g2 := F0 mt 6 ls [.int (nI 0)]) rfl ?_
    refine lv_if_eq (tgt := 18) hx hb dX6_quantile_6 (by decide) (fun _ => ?_) (fun q => absurd (by decide) q)
    refine lv_iconst (v := nI 0) hx hb dX6_quantile_18 (by decide) ?_
    exact m_iret C hM hS (Nat.le_of_ble_eq_true rfl) (Nat.le_of_ble_eq_true rfl) dX6_quantile_19 (Or.inr (Or.inl ⟨k_8, f_9, rfl, f_11, rfl, hW, hF⟩))
  · -- of 3
    subst hv
    have hF := hF.trans hF9
    obtain ⟨h, hM, hW, hF⟩ : ∃ h8, MW G s0.heap.size h8 H ∧ MdlW G h8 m q (se_now (se_many (se_thr st (nI 3)) (st_many st)) (st_now st)) ∧ mFr h0 h8 m q := ⟨_, hM, hW, hF⟩
    subst f_14
    refine W.eq (g2 := F0 mt 6 ls [.int (nI 0)]) rfl ?_
    refine lv_if_eq (tgt := 18) hx hb dX6_quantile_6 (by decide) (fun _ => ?_) (fun q => absurd (by decide) q)
    refine lv_iconst (v := nI 0) hx hb dX6_quantile_18 (by decide) ?_
    exact m_iret C hM hS (Nat.le_of_ble_eq_true rfl) (Nat.le_of_ble_eq_true rfl) dX6_quantile_19 (Or.inr (Or.inr (Or.inl ⟨k_12, f_13, rfl, f_15, f_16, rfl, hW, hF⟩)))
  · -- of 3
    subst hv
    have hF := hF.trans hF9
    obtain ⟨h, hM, hW, hF⟩ : ∃ h8, MW G s0.heap.size h8 H ∧ MdlW G h8 m q (se_now (se_many (se_thr st (nI 1)) (st_many st)) (st_now st)) ∧ mFr h0 h8 m q := ⟨_, hM, hW, hF⟩
    refine W.eq (g2 := F0 mt 6 ls [.int (nI 0)]) rfl ?_
    refine lv_if_eq (tgt := 18) hx hb dX6_quantile_6 (by decide) (fun _ => ?_) (fun q => absurd (by decide) q)
    refine lv_iconst (v := nI 0) hx hb dX6_quantile_18 (by decide) ?_
    exact m_iret C hM hS (Nat.le_of_ble_eq_true rfl) (Nat.le_of_ble_eq_true rfl) dX6_quantile_19 (Or.inr (Or.inr (Or.inr ⟨f_17, rfl, hW, hF⟩)))
set_option maxRecDepth 100000 in
set_option maxHeartbeats 4000000 in
theorem c_X6_exactQuantile {l : Launch} {G : mG} {a0 : Array Value} {s0 : State} (Z : mZ l G a0 s0) (h0 : Hp) (m : Nat) (q : Nat → Nat) (st : Ms) (hW : MdlW G h0 m q st) (x : Int32) (y : Int32) (hk : Mok st) : mM l G s0 yX6_exactQuantile cX6_exactQuantile 6 (some .int) 3 65 0 0 h0 [.ref m, .int x, .int y] (fun v h9 => (∃ k : Nat, ∃ d : Nat, (k < st_many st) ∧ (x = nI k) ∧ (1 ≤ d ∧ d ≤ 100) ∧ (y = nI d) ∧ (0 < st_n st k) ∧ v = some (.int (z_eq st k (z_tg st k d) (st_n st k))) ∧ MdlW G h9 m q (se_now (se_many (se_thr st (nI 0)) (st_many st)) (st_now st)) ∧ mFr h0 h9 m q) ∨ (∃ k : Nat, (k < st_many st) ∧ (x = nI k) ∧ (∀ d : Nat, 1 ≤ d → d ≤ 100 → y ≠ nI d) ∧ v = some (.int (nI 0)) ∧ MdlW G h9 m q (se_now (se_many (se_thr st (nI 2)) (st_many st)) (st_now st)) ∧ mFr h0 h9 m q) ∨ (∃ k : Nat, (k < st_many st) ∧ (x = nI k) ∧ (∃ d : Nat, (1 ≤ d ∧ d ≤ 100) ∧ y = nI d) ∧ (st_n st k = 0) ∧ v = some (.int (nI 0)) ∧ MdlW G h9 m q (se_now (se_many (se_thr st (nI 3)) (st_many st)) (st_now st)) ∧ mFr h0 h9 m q) ∨ ((∀ k : Nat, k < st_many st → x ≠ nI k) ∧ v = some (.int (nI 0)) ∧ MdlW G h9 m q (se_now (se_many (se_thr st (nI 1)) (st_many st)) (st_now st)) ∧ mFr h0 h9 m q)) := by
  refine mM_in RX6 "exactQuantile" rfl rfl (by decide +kernel) (Nat.le_of_ble_eq_true rfl) ?_
  intro p e s mt below meth c H locs C hM hS ls hl
  have hx := C.1
  have hb := C.2.1
  have hown := C.2.2.2.1
  have hE := C.2.2.2.2.2.2.1
  have hl : lv_has ls 6 [(0, .ref m), (1, .int x), (2, .int y)] := hl
  have hF : mFr h0 h0 m q := mFr.rf
  obtain ⟨h, hM, hW, hF⟩ : ∃ h9, MW G s0.heap.size h9 H ∧ MdlW G h9 m q st ∧ mFr h0 h9 m q := ⟨_, hM, hW, hF⟩
  have hm := hk.1
  have hnow := hk.2.1
  refine lv_aload_n hx hb dX6_exactQuantile_0 rfl (lv_at hl 0 rfl) ?_
  refine lv_iload_n hx hb dX6_exactQuantile_1 rfl (lv_at hl 1 rfl) ?_
  refine lv_iload_n hx hb dX6_exactQuantile_2 rfl (lv_at hl 2 rfl) ?_
  refine m_callV Z C hM hS (As := [.int x, .int y]) (rest := []) (c_X6_isPart Z h m q st hW x y hk) yi_X6_isPart ml_X6_146 hW.o rfl ⟨Nat.le_of_ble_eq_true rfl, Nat.le_of_ble_eq_true rfl⟩ (Nat.le_of_ble_eq_true rfl) hl.1 rfl rfl dX6_exactQuantile_3 ⟨Nat.le_of_ble_eq_true rfl, Nat.le_of_ble_eq_true rfl⟩ (fun v h9 H locs hv hM hS => ?_)
  rcases hv with ⟨k_1, d_2, f_3, f_4, f_5, f_6, f_7, hv, hW, hF9⟩ | ⟨k_8, f_9, f_10, f_11, hv, hW, hF9⟩ | ⟨k_12, f_13, f_14, f_15, f_16, hv, hW, hF9⟩ | ⟨f_17, hv, hW, hF9⟩
  · -- of 3
    subst hv
    have hF := hF.trans hF9
    obtain ⟨h, hM, hW, hF⟩ : ∃ h8, MW G s0.heap.size h8 H ∧ MdlW G h8 m q (se_now (se_many (se_thr st (nI 0)) (st_many st)) (st_now st)) ∧ mFr h0 h8 m q := ⟨_, hM, hW, hF⟩
    subst f_4
    subst f_6
    refine W.eq (g2 := F0 mt 6 ls [.int (nI 1)]) rfl ?_
    obtain ⟨hn, hT, hZ, hsi, hbd, hhv⟩ := hk.2.2 k_1 f_3
    obtain ⟨hd1, hd2⟩ := f_5
    have hmul : st_n st k_1 * d_2 ≤ 120 * 100 := Nat.mul_le_mul hn hd2
    have htg : z_tg st k_1 d_2 ≤ 121 := by unfold z_tg; omega
    refine lv_if_ne (tgt := 11) hx hb dX6_exactQuantile_6 (by decide) (fun _ => ?_) (fun q => absurd q (by decide))
    refine lv_sipush (v := nI 20000) hx hb dX6_exactQuantile_11 (by decide) ?_
    refine lv_istore_n (lv' := [(3, .int (nI 20000)), (0, .ref m), (1, .int (nI k_1)), (2, .int (nI d_2))]) hx hb dX6_exactQuantile_14 rfl hl (by decide) rfl (fun ls hl => ?_)
    refine lv_iconst (v := nI 0) hx hb dX6_exactQuantile_15 (by decide) ?_
    refine lv_istore (lv' := [(4, .int (nI 0)), (3, .int (nI 20000)), (0, .ref m), (1, .int (nI k_1)), (2, .int (nI d_2))]) hx hb dX6_exactQuantile_16 hl (by decide) rfl (fun ls hl => ?_)
    have lp_19 : ∀ (fu : Nat) (j : Nat), st_n st k_1 < j + fu → j ≤ st_n st k_1 → ∀ (H : Heap) (locs : List Loc), MW G s0.heap.size h H → va_S (fun q => s0.heap.size ≤ q) s.heap H locs → ∀ ls : Array Slot, lv_has ls 6 [(4, .int (nI j)), (3, .int (z_eq st k_1 (z_tg st k_1 d_2) j)), (0, .ref m), (1, .int (nI k_1)), (2, .int (nI d_2))] → W p l e (mRm 3 65 0 0) s mt ([.ref m, .int (nI k_1), .int (nI d_2)] : List Value).toArray below meth c H locs 0 0 (MQ below (mQc G s0 (fun v h9 => (∃ k : Nat, ∃ d : Nat, (k < st_many st) ∧ ((nI k_1) = nI k) ∧ (1 ≤ d ∧ d ≤ 100) ∧ ((nI d_2) = nI d) ∧ (0 < st_n st k) ∧ v = some (.int (z_eq st k (z_tg st k d) (st_n st k))) ∧ MdlW G h9 m q (se_now (se_many (se_thr st (nI 0)) (st_many st)) (st_now st)) ∧ mFr h0 h9 m q) ∨ (∃ k : Nat, (k < st_many st) ∧ ((nI k_1) = nI k) ∧ (∀ d : Nat, 1 ≤ d → d ≤ 100 → (nI d_2) ≠ nI d) ∧ v = some (.int (nI 0)) ∧ MdlW G h9 m q (se_now (se_many (se_thr st (nI 2)) (st_many st)) (st_now st)) ∧ mFr h0 h9 m q) ∨ (∃ k : Nat, (k < st_many st) ∧ ((nI k_1) = nI k) ∧ (∃ d : Nat, (1 ≤ d ∧ d ≤ 100) ∧ (nI d_2) = nI d) ∧ (st_n st k = 0) ∧ v = some (.int (nI 0)) ∧ MdlW G h9 m q (se_now (se_many (se_thr st (nI 3)) (st_many st)) (st_now st)) ∧ mFr h0 h9 m q) ∨ ((∀ k : Nat, k < st_many st → (nI k_1) ≠ nI k) ∧ v = some (.int (nI 0)) ∧ MdlW G h9 m q (se_now (se_many (se_thr st (nI 1)) (st_many st)) (st_now st)) ∧ mFr h0 h9 m q))) ([.ref m, .int (nI k_1), .int (nI d_2)] : List Value).toArray s 0 0 (fun q => s0.heap.size ≤ q)) (F0 mt 18 ls []) := by
      intro fu
      induction fu with
      | zero => intro j hfu _; exact absurd hfu (by omega)
      | succ fu ih =>
        intro j hfu hj9 H locs hM hS ls hl
        refine lv_iload hx hb dX6_exactQuantile_18 (lv_at hl 0 rfl) ?_
        refine lv_aload_n hx hb dX6_exactQuantile_20 rfl (lv_at hl 2 rfl) ?_
        refine m_get Z C hM hW.o K_X6 5 (by decide) fl_X6_16 (v := .ref (q 5)) rfl dX6_exactQuantile_21 ?_
        refine lv_iload_n hx hb dX6_exactQuantile_24 rfl (lv_at hl 3 rfl) ?_
        refine m_iald Z C hM (f := fun k => nI ((st_n st) k)) hW.a5 k_1 rfl (by omega) (by decide) dX6_exactQuantile_25 ?_
        refine lv_icmp_ge (tgt := 69) hx hb dX6_exactQuantile_26 (by decide) (fun c_20 => ?_) (fun c_20 => ?_)
        · -- 26 t
          have c_20 : (st_n st) k_1 ≤ j := (nI_leI (by omega) (by omega)).mp c_20
          refine lv_iload_n hx hb dX6_exactQuantile_69 rfl (lv_at hl 1 rfl) ?_
          exact m_iret C hM hS (Nat.le_of_ble_eq_true rfl) (Nat.le_of_ble_eq_true rfl) dX6_exactQuantile_70 (Or.inl ⟨k_1, d_2, f_3, rfl, ⟨hd1, hd2⟩, rfl, f_7, (by rw [show j = st_n st k_1 by omega]), hW, hF⟩)
        · -- 26 f
          have c_20 : ¬ (st_n st) k_1 ≤ j := fun q => c_20 ((nI_leI (by omega) (by omega)).mpr q)
          refine lv_aload_n hx hb dX6_exactQuantile_29 rfl (lv_at hl 2 rfl) ?_
          refine lv_iload_n hx hb dX6_exactQuantile_30 rfl (lv_at hl 3 rfl) ?_
          refine lv_iload hx hb dX6_exactQuantile_31 (lv_at hl 0 rfl) ?_
          refine m_callV Z C hM hS (As := [.int (nI k_1), .int (nI j)]) (rest := []) (c_X6_value Z h m q (se_now (se_many (se_thr st (nI 0)) (st_many st)) (st_now st)) hW k_1 j (show k_1 < 10 by omega) (show j < 120 by omega)) yi_X6_value ml_X6_64 hW.o rfl ⟨Nat.le_of_ble_eq_true rfl, Nat.le_of_ble_eq_true rfl⟩ (Nat.le_of_ble_eq_true rfl) hl.1 rfl rfl dX6_exactQuantile_33 ⟨Nat.le_of_ble_eq_true rfl, Nat.le_of_ble_eq_true rfl⟩ (fun v h9 H locs hv hM hS => ?_)
          obtain ⟨hv, hh9⟩ := hv
          subst hv
          rw [hh9] at hM
          refine W.eq (g2 := F0 mt 36 ls [.int (st_V st (120 * k_1 + j))]) rfl ?_
          refine lv_istore (lv' := [(5, .int (st_V st (120 * k_1 + j))), (4, .int (nI j)), (3, .int (z_eq st k_1 (z_tg st k_1 d_2) j)), (0, .ref m), (1, .int (nI k_1)), (2, .int (nI d_2))]) hx hb dX6_exactQuantile_36 hl (by decide) rfl (fun ls hl => ?_)
          refine lv_iload hx hb dX6_exactQuantile_38 (lv_at hl 0 rfl) ?_
          refine lv_iload_n hx hb dX6_exactQuantile_40 rfl (lv_at hl 2 rfl) ?_
          refine lv_icmp_ge (tgt := 63) hx hb dX6_exactQuantile_41 (by decide) (fun c_21 => ?_) (fun c_21 => ?_)
          · -- 41 t
            refine lv_iinc (v := nI (j + 1)) (lv' := [(4, .int (nI (j + 1))), (5, .int (st_V st (120 * k_1 + j))), (3, .int (z_eq st k_1 (z_tg st k_1 d_2) j)), (0, .ref m), (1, .int (nI k_1)), (2, .int (nI d_2))]) hx hb dX6_exactQuantile_63 hl (k := 1) rfl (nI_add _ _) (by decide) rfl (fun ls hl => ?_)
            refine lv_goto (tgt := 18) hx hb dX6_exactQuantile_66 (by decide) ?_
            have e_3 : z_eq st k_1 (z_tg st k_1 d_2) (j + 1) = z_eq st k_1 (z_tg st k_1 d_2) j := if_neg (fun q => absurd q.1 (i_len c_21))
            replace hl : lv_has ls 6 [(4, .int (nI (j + 1))), (5, .int (st_V st (120 * k_1 + j))), (3, .int (z_eq st k_1 (z_tg st k_1 d_2) j)), (0, .ref m), (1, .int (nI k_1)), (2, .int (nI d_2))] := hl
            rw [← e_3] at hl
            exact ih (j + 1) (by omega) (by omega) H locs hM hS ls (lv_sub hl [0, 2, 3, 4, 5] rfl)
          · -- 41 f
            refine lv_aload_n hx hb dX6_exactQuantile_44 rfl (lv_at hl 3 rfl) ?_
            refine lv_iload_n hx hb dX6_exactQuantile_45 rfl (lv_at hl 4 rfl) ?_
            refine lv_iload hx hb dX6_exactQuantile_46 (lv_at hl 0 rfl) ?_
            refine m_callV Z C hM hS (As := [.int (nI k_1), .int (st_V st (120 * k_1 + j))]) (rest := []) (c_X6_upTo Z h m q (se_now (se_many (se_thr st (nI 0)) (st_many st)) (st_now st)) hW k_1 (st_V st (120 * k_1 + j)) hk (show k_1 < st_many st by omega)) yi_X6_upTo ml_X6_152 hW.o rfl ⟨Nat.le_of_ble_eq_true rfl, Nat.le_of_ble_eq_true rfl⟩ (Nat.le_of_ble_eq_true rfl) hl.1 rfl rfl dX6_exactQuantile_48 ⟨Nat.le_of_ble_eq_true rfl, Nat.le_of_ble_eq_true rfl⟩ (fun v h9 H locs hv hM hS => ?_)
            obtain ⟨hv, hh9⟩ := hv
            subst hv
            rw [hh9] at hM
            refine W.eq (g2 := F0 mt 51 ls [.int (nI (z_up st k_1 (st_V st (120 * k_1 + j))))]) rfl ?_
            have hup : z_up st k_1 (z_v st k_1 j) < 2147483648 := Nat.lt_of_le_of_lt (z_ct_le _ _) (by omega)
            refine lv_aload_n hx hb dX6_exactQuantile_51 rfl (lv_at hl 3 rfl) ?_
            refine lv_iload_n hx hb dX6_exactQuantile_52 rfl (lv_at hl 4 rfl) ?_
            refine lv_iload_n hx hb dX6_exactQuantile_53 rfl (lv_at hl 5 rfl) ?_
            refine m_callV Z C hM hS (As := [.int (nI k_1), .int (nI d_2)]) (rest := [.int (nI (z_up st k_1 (st_V st (120 * k_1 + j))))]) (c_X6_target Z h m q (se_now (se_many (se_thr st (nI 0)) (st_many st)) (st_now st)) hW k_1 d_2 hk (show k_1 < st_many st by omega) (show d_2 ≤ 100 by omega)) yi_X6_target ml_X6_143 hW.o rfl ⟨Nat.le_of_ble_eq_true rfl, Nat.le_of_ble_eq_true rfl⟩ (Nat.le_of_ble_eq_true rfl) hl.1 rfl rfl dX6_exactQuantile_54 ⟨Nat.le_of_ble_eq_true rfl, Nat.le_of_ble_eq_true rfl⟩ (fun v h9 H locs hv hM hS => ?_)
            obtain ⟨hv, hh9⟩ := hv
            subst hv
            rw [hh9] at hM
            refine W.eq (g2 := F0 mt 57 ls [.int (nI (z_tg st k_1 d_2)), .int (nI (z_up st k_1 (st_V st (120 * k_1 + j))))]) rfl ?_
            refine lv_icmp_lt (tgt := 63) hx hb dX6_exactQuantile_57 (by decide) (fun c_22 => ?_) (fun c_22 => ?_)
            · -- 57 t
              have c_22 : z_up st k_1 (st_V st (120 * k_1 + j)) < z_tg st k_1 d_2 := (nI_ltI (by omega) (by omega)).mp c_22
              refine lv_iinc (v := nI (j + 1)) (lv' := [(4, .int (nI (j + 1))), (5, .int (st_V st (120 * k_1 + j))), (3, .int (z_eq st k_1 (z_tg st k_1 d_2) j)), (0, .ref m), (1, .int (nI k_1)), (2, .int (nI d_2))]) hx hb dX6_exactQuantile_63 hl (k := 1) rfl (nI_add _ _) (by decide) rfl (fun ls hl => ?_)
              refine lv_goto (tgt := 18) hx hb dX6_exactQuantile_66 (by decide) ?_
              have e_3 : z_eq st k_1 (z_tg st k_1 d_2) (j + 1) = z_eq st k_1 (z_tg st k_1 d_2) j := if_neg (fun q => absurd q.2 (Nat.not_le.mpr c_22))
              replace hl : lv_has ls 6 [(4, .int (nI (j + 1))), (5, .int (st_V st (120 * k_1 + j))), (3, .int (z_eq st k_1 (z_tg st k_1 d_2) j)), (0, .ref m), (1, .int (nI k_1)), (2, .int (nI d_2))] := hl
              rw [← e_3] at hl
              exact ih (j + 1) (by omega) (by omega) H locs hM hS ls (lv_sub hl [0, 2, 3, 4, 5] rfl)
            · -- 57 f
              have c_22 : ¬ z_up st k_1 (st_V st (120 * k_1 + j)) < z_tg st k_1 d_2 := fun q => c_22 ((nI_ltI (by omega) (by omega)).mpr q)
              refine lv_iload hx hb dX6_exactQuantile_60 (lv_at hl 0 rfl) ?_
              refine lv_istore_n (lv' := [(3, .int (st_V st (120 * k_1 + j))), (5, .int (st_V st (120 * k_1 + j))), (4, .int (nI j)), (0, .ref m), (1, .int (nI k_1)), (2, .int (nI d_2))]) hx hb dX6_exactQuantile_62 rfl hl (by decide) rfl (fun ls hl => ?_)
              refine lv_iinc (v := nI (j + 1)) (lv' := [(4, .int (nI (j + 1))), (3, .int (st_V st (120 * k_1 + j))), (5, .int (st_V st (120 * k_1 + j))), (0, .ref m), (1, .int (nI k_1)), (2, .int (nI d_2))]) hx hb dX6_exactQuantile_63 hl (k := 2) rfl (nI_add _ _) (by decide) rfl (fun ls hl => ?_)
              refine lv_goto (tgt := 18) hx hb dX6_exactQuantile_66 (by decide) ?_
              have e_3 : z_eq st k_1 (z_tg st k_1 d_2) (j + 1) = z_v st k_1 j := if_pos ⟨i_nle c_21, Nat.le_of_not_lt c_22⟩
              replace hl : lv_has ls 6 [(4, .int (nI (j + 1))), (3, .int (z_v st k_1 j)), (5, .int (st_V st (120 * k_1 + j))), (0, .ref m), (1, .int (nI k_1)), (2, .int (nI d_2))] := hl
              rw [← e_3] at hl
              exact ih (j + 1) (by omega) (by omega) H locs hM hS ls (lv_sub hl [0, 1, 3, 4, 5] rfl)
    exact lp_19 (st_n st k_1 + 1) 0 (by omega) (Nat.zero_le _) H locs hM hS ls (lv_sub hl [0, 1, 2, 3, 4] rfl)
  · -- of 3
    subst hv
    have hF := hF.trans hF9
    obtain ⟨h, hM, hW, hF⟩ : ∃ h8, MW G s0.heap.size h8 H ∧ MdlW G h8 m q (se_now (se_many (se_thr st (nI 2)) (st_many st)) (st_now st)) ∧ mFr h0 h8 m q := ⟨_, hM, hW, hF⟩
    subst f_10
    refine W.eq (g2 := F0 mt 6 ls [.int (nI 0)]) rfl ?_
    refine lv_if_ne (tgt := 11) hx hb dX6_exactQuantile_6 (by decide) (fun q => absurd (by decide) q) (fun _ => ?_)
    refine lv_iconst (v := nI 0) hx hb dX6_exactQuantile_9 (by decide) ?_
    exact m_iret C hM hS (Nat.le_of_ble_eq_true rfl) (Nat.le_of_ble_eq_true rfl) dX6_exactQuantile_10 (Or.inr (Or.inl ⟨k_8, f_9, rfl, f_11, rfl, hW, hF⟩))
  · -- of 3
    subst hv
    have hF := hF.trans hF9
    obtain ⟨h, hM, hW, hF⟩ : ∃ h8, MW G s0.heap.size h8 H ∧ MdlW G h8 m q (se_now (se_many (se_thr st (nI 3)) (st_many st)) (st_now st)) ∧ mFr h0 h8 m q := ⟨_, hM, hW, hF⟩
    subst f_14
    refine W.eq (g2 := F0 mt 6 ls [.int (nI 0)]) rfl ?_
    refine lv_if_ne (tgt := 11) hx hb dX6_exactQuantile_6 (by decide) (fun q => absurd (by decide) q) (fun _ => ?_)
    refine lv_iconst (v := nI 0) hx hb dX6_exactQuantile_9 (by decide) ?_
    exact m_iret C hM hS (Nat.le_of_ble_eq_true rfl) (Nat.le_of_ble_eq_true rfl) dX6_exactQuantile_10 (Or.inr (Or.inr (Or.inl ⟨k_12, f_13, rfl, f_15, f_16, rfl, hW, hF⟩)))
  · -- of 3
    subst hv
    have hF := hF.trans hF9
    obtain ⟨h, hM, hW, hF⟩ : ∃ h8, MW G s0.heap.size h8 H ∧ MdlW G h8 m q (se_now (se_many (se_thr st (nI 1)) (st_many st)) (st_now st)) ∧ mFr h0 h8 m q := ⟨_, hM, hW, hF⟩
    refine W.eq (g2 := F0 mt 6 ls [.int (nI 0)]) rfl ?_
    refine lv_if_ne (tgt := 11) hx hb dX6_exactQuantile_6 (by decide) (fun q => absurd (by decide) q) (fun _ => ?_)
    refine lv_iconst (v := nI 0) hx hb dX6_exactQuantile_9 (by decide) ?_
    exact m_iret C hM hS (Nat.le_of_ble_eq_true rfl) (Nat.le_of_ble_eq_true rfl) dX6_exactQuantile_10 (Or.inr (Or.inr (Or.inr ⟨f_17, rfl, hW, hF⟩)))
set_option maxRecDepth 100000 in
set_option maxHeartbeats 4000000 in
theorem c_X6_held {l : Launch} {G : mG} {a0 : Array Value} {s0 : State} (Z : mZ l G a0 s0) (h0 : Hp) (m : Nat) (q : Nat → Nat) (st : Ms) (hW : MdlW G h0 m q st) (x : Int32) (hk : Mok st) : mM l G s0 yX6_held cX6_held 4 (some .int) 2 43 0 0 h0 [.ref m, .int x] (fun v h9 => (∃ k : Nat, (k < st_many st) ∧ (x = nI k) ∧ v = some (.int (nI (z_held st k))) ∧ MdlW G h9 m q (se_now (se_many (se_thr st (nI 0)) (st_many st)) (st_now st)) ∧ mFr h0 h9 m q) ∨ ((∀ k : Nat, k < st_many st → x ≠ nI k) ∧ v = some (.int (nI 0)) ∧ MdlW G h9 m q (se_now (se_many (se_thr st (nI 1)) (st_many st)) (st_now st)) ∧ mFr h0 h9 m q)) := by
  refine mM_in RX6 "held" rfl rfl (by decide +kernel) (Nat.le_of_ble_eq_true rfl) ?_
  intro p e s mt below meth c H locs C hM hS ls hl
  have hx := C.1
  have hb := C.2.1
  have hown := C.2.2.2.1
  have hE := C.2.2.2.2.2.2.1
  have hl : lv_has ls 4 [(0, .ref m), (1, .int x)] := hl
  have hF : mFr h0 h0 m q := mFr.rf
  obtain ⟨h, hM, hW, hF⟩ : ∃ h9, MW G s0.heap.size h9 H ∧ MdlW G h9 m q st ∧ mFr h0 h9 m q := ⟨_, hM, hW, hF⟩
  have hm := hk.1
  have hnow := hk.2.1
  refine lv_aload_n hx hb dX6_held_0 rfl (lv_at hl 0 rfl) ?_
  refine lv_iload_n hx hb dX6_held_1 rfl (lv_at hl 1 rfl) ?_
  refine m_callV Z C hM hS (As := [.int x]) (rest := []) (c_X6_looks Z h m q st hW x (show st_many st ≤ 10 by omega)) yi_X6_looks ml_X6_83 hW.o rfl ⟨Nat.le_of_ble_eq_true rfl, Nat.le_of_ble_eq_true rfl⟩ (Nat.le_of_ble_eq_true rfl) hl.1 rfl rfl dX6_held_2 ⟨Nat.le_of_ble_eq_true rfl, Nat.le_of_ble_eq_true rfl⟩ (fun v h9 H locs hv hM hS => ?_)
  rcases hv with ⟨k_1, f_2, f_3, hv, hW, hF9⟩ | ⟨f_4, hv, hW, hF9⟩
  · -- of 2
    subst hv
    have hF := hF.trans hF9
    obtain ⟨h, hM, hW, hF⟩ : ∃ h8, MW G s0.heap.size h8 H ∧ MdlW G h8 m q (se_now (se_many (se_thr st (nI 0)) (st_many st)) (st_now st)) ∧ mFr h0 h8 m q := ⟨_, hM, hW, hF⟩
    subst f_3
    refine W.eq (g2 := F0 mt 5 ls [.int (nI 1)]) rfl ?_
    obtain ⟨hn, hT, hZ, hsi, hbd, hhv⟩ := hk.2.2 k_1 f_2
    refine lv_if_ne (tgt := 10) hx hb dX6_held_5 (by decide) (fun _ => ?_) (fun q => absurd q (by decide))
    refine lv_iconst (v := nI 0) hx hb dX6_held_10 (by decide) ?_
    refine lv_istore_n (lv' := [(2, .int (nI 0)), (0, .ref m), (1, .int (nI k_1))]) hx hb dX6_held_11 rfl hl (by decide) rfl (fun ls hl => ?_)
    refine lv_iconst (v := nI 0) hx hb dX6_held_12 (by decide) ?_
    refine lv_istore_n (lv' := [(3, .int (nI 0)), (2, .int (nI 0)), (0, .ref m), (1, .int (nI k_1))]) hx hb dX6_held_13 rfl hl (by decide) rfl (fun ls hl => ?_)
    have lp_6 : ∀ (fu : Nat) (y : Nat), 6 < y + fu → y ≤ 6 → ∀ (H : Heap) (locs : List Loc), MW G s0.heap.size h H → va_S (fun q => s0.heap.size ≤ q) s.heap H locs → ∀ ls : Array Slot, lv_has ls 4 [(3, .int (nI y)), (2, .int (nI (z_su (fun y => z_z st k_1 y) y))), (0, .ref m), (1, .int (nI k_1))] → W p l e (mRm 2 43 0 0) s mt ([.ref m, .int (nI k_1)] : List Value).toArray below meth c H locs 0 0 (MQ below (mQc G s0 (fun v h9 => (∃ k : Nat, (k < st_many st) ∧ ((nI k_1) = nI k) ∧ v = some (.int (nI (z_held st k))) ∧ MdlW G h9 m q (se_now (se_many (se_thr st (nI 0)) (st_many st)) (st_now st)) ∧ mFr h0 h9 m q) ∨ ((∀ k : Nat, k < st_many st → (nI k_1) ≠ nI k) ∧ v = some (.int (nI 0)) ∧ MdlW G h9 m q (se_now (se_many (se_thr st (nI 1)) (st_many st)) (st_now st)) ∧ mFr h0 h9 m q))) ([.ref m, .int (nI k_1)] : List Value).toArray s 0 0 (fun q => s0.heap.size ≤ q)) (F0 mt 14 ls []) := by
      intro fu
      induction fu with
      | zero => intro y hfu _; exact absurd hfu (by omega)
      | succ fu ih =>
        intro y hfu hy6 H locs hM hS ls hl
        refine lv_iload_n hx hb dX6_held_14 rfl (lv_at hl 0 rfl) ?_
        refine lv_bipush (v := nI 6) hx hb dX6_held_15 (by decide) ?_
        refine lv_icmp_ge (tgt := 40) hx hb dX6_held_17 (by decide) (fun c_7 => ?_) (fun c_7 => ?_)
        · -- 17 t
          have c_7 : 6 ≤ y := (nI_leI (by decide) (by omega)).mp c_7
          refine lv_iload_n hx hb dX6_held_40 rfl (lv_at hl 1 rfl) ?_
          exact m_iret C hM hS (Nat.le_of_ble_eq_true rfl) (Nat.le_of_ble_eq_true rfl) dX6_held_41 (Or.inl ⟨k_1, f_2, rfl, (by rw [show y = 6 by omega]; rfl), hW, hF⟩)
        · -- 17 f
          have c_7 : ¬ 6 ≤ y := fun q => c_7 ((nI_leI (by decide) (by omega)).mpr q)
          refine lv_iload_n hx hb dX6_held_20 rfl (lv_at hl 1 rfl) ?_
          refine lv_aload_n hx hb dX6_held_21 rfl (lv_at hl 2 rfl) ?_
          refine m_get Z C hM hW.o K_X6 10 (by decide) fl_X6_32 (v := .ref (q 10)) rfl dX6_held_22 ?_
          refine lv_bipush (v := nI 6) hx hb dX6_held_25 (by decide) ?_
          refine lv_iload_n hx hb dX6_held_27 rfl (lv_at hl 3 rfl) ?_
          refine n_imul hx hb dX6_held_28 ?_
          refine lv_iload_n hx hb dX6_held_29 rfl (lv_at hl 0 rfl) ?_
          refine n_iadd hx hb dX6_held_30 ?_
          refine m_iald Z C hM (f := fun k => nI ((st_sz st) k)) hW.a10 (6 * k_1 + y) rfl (by omega) (by decide) dX6_held_31 ?_
          refine n_iadd hx hb dX6_held_32 ?_
          refine lv_istore_n (lv' := [(2, .int (nI (z_su (fun y => z_z st k_1 y) y + (st_sz st) (6 * k_1 + y)))), (3, .int (nI y)), (0, .ref m), (1, .int (nI k_1))]) hx hb dX6_held_33 rfl hl (by decide) rfl (fun ls hl => ?_)
          refine lv_iinc (v := nI (y + 1)) (lv' := [(3, .int (nI (y + 1))), (2, .int (nI (z_su (fun y => z_z st k_1 y) y + (st_sz st) (6 * k_1 + y)))), (0, .ref m), (1, .int (nI k_1))]) hx hb dX6_held_34 hl (k := 1) rfl (nI_add _ _) (by decide) rfl (fun ls hl => ?_)
          refine lv_goto (tgt := 14) hx hb dX6_held_37 (by decide) ?_
          exact ih (y + 1) (by omega) (by omega) H locs hM hS ls (lv_sub hl [0, 1, 2, 3] rfl)
    exact lp_6 7 0 (by omega) (by omega) H locs hM hS ls (lv_sub hl [0, 1, 2, 3] rfl)
  · -- of 2
    subst hv
    have hF := hF.trans hF9
    obtain ⟨h, hM, hW, hF⟩ : ∃ h8, MW G s0.heap.size h8 H ∧ MdlW G h8 m q (se_now (se_many (se_thr st (nI 1)) (st_many st)) (st_now st)) ∧ mFr h0 h8 m q := ⟨_, hM, hW, hF⟩
    refine W.eq (g2 := F0 mt 5 ls [.int (nI 0)]) rfl ?_
    refine lv_if_ne (tgt := 10) hx hb dX6_held_5 (by decide) (fun q => absurd (by decide) q) (fun _ => ?_)
    refine lv_iconst (v := nI 0) hx hb dX6_held_8 (by decide) ?_
    exact m_iret C hM hS (Nat.le_of_ble_eq_true rfl) (Nat.le_of_ble_eq_true rfl) dX6_held_9 (Or.inr ⟨f_4, rfl, hW, hF⟩)
set_option maxRecDepth 100000 in
set_option maxHeartbeats 4000000 in
theorem c_X6_isWithin {l : Launch} {G : mG} {a0 : Array Value} {s0 : State} (Z : mZ l G a0 s0) (h0 : Hp) (m : Nat) (q : Nat → Nat) (st : Ms) (hW : MdlW G h0 m q st) (x : Int32) (y : Int32) (hk : Mok st) : mM l G s0 yX6_isWithin cX6_isWithin 5 (some .boolean) 3 65 0 0 h0 [.ref m, .int x, .int y] (fun v h9 => (∃ k : Nat, ∃ d : Nat, (k < st_many st) ∧ (x = nI k) ∧ (1 ≤ d ∧ d ≤ 100) ∧ (y = nI d) ∧ (0 < st_n st k) ∧ v = some (.int (b2 (z_wi st k d))) ∧ MdlW G h9 m q (se_now (se_many (se_thr st (nI 0)) (st_many st)) (st_now st)) ∧ mFr h0 h9 m q) ∨ (∃ k : Nat, (k < st_many st) ∧ (x = nI k) ∧ (∀ d : Nat, 1 ≤ d → d ≤ 100 → y ≠ nI d) ∧ v = some (.int (nI 0)) ∧ MdlW G h9 m q (se_now (se_many (se_thr st (nI 2)) (st_many st)) (st_now st)) ∧ mFr h0 h9 m q) ∨ (∃ k : Nat, (k < st_many st) ∧ (x = nI k) ∧ (∃ d : Nat, (1 ≤ d ∧ d ≤ 100) ∧ y = nI d) ∧ (st_n st k = 0) ∧ v = some (.int (nI 0)) ∧ MdlW G h9 m q (se_now (se_many (se_thr st (nI 3)) (st_many st)) (st_now st)) ∧ mFr h0 h9 m q) ∨ ((∀ k : Nat, k < st_many st → x ≠ nI k) ∧ v = some (.int (nI 0)) ∧ MdlW G h9 m q (se_now (se_many (se_thr st (nI 1)) (st_many st)) (st_now st)) ∧ mFr h0 h9 m q)) := by
  refine mM_in RX6 "isWithin" rfl rfl (by decide +kernel) (Nat.le_of_ble_eq_true rfl) ?_
  intro p e s mt below meth c H locs C hM hS ls hl
  have hx := C.1
  have hb := C.2.1
  have hown := C.2.2.2.1
  have hE := C.2.2.2.2.2.2.1
  have hl : lv_has ls 5 [(0, .ref m), (1, .int x), (2, .int y)] := hl
  have hF : mFr h0 h0 m q := mFr.rf
  obtain ⟨h, hM, hW, hF⟩ : ∃ h9, MW G s0.heap.size h9 H ∧ MdlW G h9 m q st ∧ mFr h0 h9 m q := ⟨_, hM, hW, hF⟩
  have hm := hk.1
  have hnow := hk.2.1
  refine lv_aload_n hx hb dX6_isWithin_0 rfl (lv_at hl 0 rfl) ?_
  refine lv_iload_n hx hb dX6_isWithin_1 rfl (lv_at hl 1 rfl) ?_
  refine lv_iload_n hx hb dX6_isWithin_2 rfl (lv_at hl 2 rfl) ?_
  refine m_callV Z C hM hS (As := [.int x, .int y]) (rest := []) (c_X6_isPart Z h m q st hW x y hk) yi_X6_isPart ml_X6_146 hW.o rfl ⟨Nat.le_of_ble_eq_true rfl, Nat.le_of_ble_eq_true rfl⟩ (Nat.le_of_ble_eq_true rfl) hl.1 rfl rfl dX6_isWithin_3 ⟨Nat.le_of_ble_eq_true rfl, Nat.le_of_ble_eq_true rfl⟩ (fun v h9 H locs hv hM hS => ?_)
  rcases hv with ⟨k_1, d_2, f_3, f_4, f_5, f_6, f_7, hv, hW, hF9⟩ | ⟨k_8, f_9, f_10, f_11, hv, hW, hF9⟩ | ⟨k_12, f_13, f_14, f_15, f_16, hv, hW, hF9⟩ | ⟨f_17, hv, hW, hF9⟩
  · -- of 3
    subst hv
    have hF := hF.trans hF9
    obtain ⟨h, hM, hW, hF⟩ : ∃ h8, MW G s0.heap.size h8 H ∧ MdlW G h8 m q (se_now (se_many (se_thr st (nI 0)) (st_many st)) (st_now st)) ∧ mFr h0 h8 m q := ⟨_, hM, hW, hF⟩
    subst f_4
    subst f_6
    refine W.eq (g2 := F0 mt 6 ls [.int (nI 1)]) rfl ?_
    obtain ⟨hn, hT, hZ, hsi, hbd, hhv⟩ := hk.2.2 k_1 f_3
    obtain ⟨hd1, hd2⟩ := f_5
    have hmul : st_n st k_1 * d_2 ≤ 120 * 100 := Nat.mul_le_mul hn hd2
    have htg : z_tg st k_1 d_2 ≤ 121 := by unfold z_tg; omega
    refine lv_if_ne (tgt := 11) hx hb dX6_isWithin_6 (by decide) (fun _ => ?_) (fun q => absurd q (by decide))
    refine lv_aload_n hx hb dX6_isWithin_11 rfl (lv_at hl 0 rfl) ?_
    refine lv_iload_n hx hb dX6_isWithin_12 rfl (lv_at hl 1 rfl) ?_
    refine lv_iload_n hx hb dX6_isWithin_13 rfl (lv_at hl 2 rfl) ?_
    refine m_callV Z C hM hS (As := [.int (nI k_1), .int (nI d_2)]) (rest := []) (c_X6_sketched Z h m q (se_now (se_many (se_thr st (nI 0)) (st_many st)) (st_now st)) hW k_1 d_2 hk (show k_1 < st_many st by omega) (show d_2 ≤ 100 by omega)) yi_X6_sketched ml_X6_149 hW.o rfl ⟨Nat.le_of_ble_eq_true rfl, Nat.le_of_ble_eq_true rfl⟩ (Nat.le_of_ble_eq_true rfl) hl.1 rfl rfl dX6_isWithin_14 ⟨Nat.le_of_ble_eq_true rfl, Nat.le_of_ble_eq_true rfl⟩ (fun v h9 H locs hv hM hS => ?_)
    obtain ⟨hv, hh9⟩ := hv
    replace hv : v = some (.int (z_sq st k_1 d_2)) := by rw [hv, z_sq_w (sw := (se_now (se_many (se_thr st (nI 0)) (st_many st)) (st_now st))) (st := st) rfl rfl rfl] <;> rfl
    subst hv
    rw [hh9] at hM
    refine W.eq (g2 := F0 mt 17 ls [.int (z_sq st k_1 d_2)]) rfl ?_
    refine lv_istore_n (lv' := [(3, .int (z_sq st k_1 d_2)), (0, .ref m), (1, .int (nI k_1)), (2, .int (nI d_2))]) hx hb dX6_isWithin_17 rfl hl (by decide) rfl (fun ls hl => ?_)
    refine lv_aload_n hx hb dX6_isWithin_18 rfl (lv_at hl 1 rfl) ?_
    refine lv_iload_n hx hb dX6_isWithin_19 rfl (lv_at hl 2 rfl) ?_
    refine lv_iload_n hx hb dX6_isWithin_20 rfl (lv_at hl 3 rfl) ?_
    refine m_callV Z C hM hS (As := [.int (nI k_1), .int (nI d_2)]) (rest := []) (c_X6_target Z h m q (se_now (se_many (se_thr st (nI 0)) (st_many st)) (st_now st)) hW k_1 d_2 hk (show k_1 < st_many st by omega) (show d_2 ≤ 100 by omega)) yi_X6_target ml_X6_143 hW.o rfl ⟨Nat.le_of_ble_eq_true rfl, Nat.le_of_ble_eq_true rfl⟩ (Nat.le_of_ble_eq_true rfl) hl.1 rfl rfl dX6_isWithin_21 ⟨Nat.le_of_ble_eq_true rfl, Nat.le_of_ble_eq_true rfl⟩ (fun v h9 H locs hv hM hS => ?_)
    obtain ⟨hv, hh9⟩ := hv
    subst hv
    rw [hh9] at hM
    refine W.eq (g2 := F0 mt 24 ls [.int (nI (z_tg st k_1 d_2))]) rfl ?_
    refine lv_istore (lv' := [(4, .int (nI (z_tg st k_1 d_2))), (3, .int (z_sq st k_1 d_2)), (0, .ref m), (1, .int (nI k_1)), (2, .int (nI d_2))]) hx hb dX6_isWithin_24 hl (by decide) rfl (fun ls hl => ?_)
    refine lv_aload_n hx hb dX6_isWithin_26 rfl (lv_at hl 2 rfl) ?_
    refine lv_iload_n hx hb dX6_isWithin_27 rfl (lv_at hl 3 rfl) ?_
    refine lv_iload_n hx hb dX6_isWithin_28 rfl (lv_at hl 1 rfl) ?_
    refine m_callV Z C hM hS (As := [.int (nI k_1), .int (z_sq st k_1 d_2)]) (rest := []) (c_X6_upTo Z h m q (se_now (se_many (se_thr st (nI 0)) (st_many st)) (st_now st)) hW k_1 (z_sq st k_1 d_2) hk (show k_1 < st_many st by omega)) yi_X6_upTo ml_X6_152 hW.o rfl ⟨Nat.le_of_ble_eq_true rfl, Nat.le_of_ble_eq_true rfl⟩ (Nat.le_of_ble_eq_true rfl) hl.1 rfl rfl dX6_isWithin_29 ⟨Nat.le_of_ble_eq_true rfl, Nat.le_of_ble_eq_true rfl⟩ (fun v h9 H locs hv hM hS => ?_)
    obtain ⟨hv, hh9⟩ := hv
    subst hv
    rw [hh9] at hM
    refine W.eq (g2 := F0 mt 32 ls [.int (nI (z_up st k_1 (z_sq st k_1 d_2)))]) rfl ?_
    refine lv_iload hx hb dX6_isWithin_32 (lv_at hl 0 rfl) ?_
    refine lv_aload_n hx hb dX6_isWithin_34 rfl (lv_at hl 2 rfl) ?_
    refine m_get Z C hM hW.o K_X6 7 (by decide) fl_X6_22 (v := .ref (q 7)) rfl dX6_isWithin_35 ?_
    refine lv_iload_n hx hb dX6_isWithin_38 rfl (lv_at hl 3 rfl) ?_
    refine m_iald Z C hM (f := fun k => nI ((st_bd st) k)) hW.a7 k_1 rfl (by omega) (by decide) dX6_isWithin_39 ?_
    refine lv_isub hx hb dX6_isWithin_40 ?_
    refine lv_icmp_lt (tgt := 68) hx hb dX6_isWithin_41 (by decide) (fun c_19 => ?_) (fun c_19 => ?_)
    · -- 41 t
      refine lv_iconst (v := nI 0) hx hb dX6_isWithin_68 (by decide) ?_
      exact m_zret C hM hS (Nat.le_of_ble_eq_true rfl) (Nat.le_of_ble_eq_true rfl) rfl dX6_isWithin_69 (Or.inl ⟨k_1, d_2, f_3, rfl, ⟨hd1, hd2⟩, rfl, f_7, (by rw [b2_f (show ¬ z_wi st k_1 d_2 from fun q => i_ltn c_19 q.1)]), hW, hF⟩)
    · -- 41 f
      refine lv_aload_n hx hb dX6_isWithin_44 rfl (lv_at hl 2 rfl) ?_
      refine lv_iload_n hx hb dX6_isWithin_45 rfl (lv_at hl 3 rfl) ?_
      refine lv_iload_n hx hb dX6_isWithin_46 rfl (lv_at hl 1 rfl) ?_
      refine lv_iconst (v := nI 1) hx hb dX6_isWithin_47 (by decide) ?_
      refine lv_isub hx hb dX6_isWithin_48 ?_
      refine m_callV Z C hM hS (As := [.int (nI k_1), .int ((z_sq st k_1 d_2) - nI 1)]) (rest := []) (c_X6_upTo Z h m q (se_now (se_many (se_thr st (nI 0)) (st_many st)) (st_now st)) hW k_1 ((z_sq st k_1 d_2) - nI 1) hk (show k_1 < st_many st by omega)) yi_X6_upTo ml_X6_152 hW.o rfl ⟨Nat.le_of_ble_eq_true rfl, Nat.le_of_ble_eq_true rfl⟩ (Nat.le_of_ble_eq_true rfl) hl.1 rfl rfl dX6_isWithin_49 ⟨Nat.le_of_ble_eq_true rfl, Nat.le_of_ble_eq_true rfl⟩ (fun v h9 H locs hv hM hS => ?_)
      obtain ⟨hv, hh9⟩ := hv
      subst hv
      rw [hh9] at hM
      refine W.eq (g2 := F0 mt 52 ls [.int (nI (z_up st k_1 ((z_sq st k_1 d_2) - nI 1)))]) rfl ?_
      have hup2 : z_up st k_1 (z_sq st k_1 d_2 - nI 1) ≤ 120 := Nat.le_trans (z_ct_le _ _) hn
      refine lv_iload hx hb dX6_isWithin_52 (lv_at hl 0 rfl) ?_
      refine lv_aload_n hx hb dX6_isWithin_54 rfl (lv_at hl 2 rfl) ?_
      refine m_get Z C hM hW.o K_X6 7 (by decide) fl_X6_22 (v := .ref (q 7)) rfl dX6_isWithin_55 ?_
      refine lv_iload_n hx hb dX6_isWithin_58 rfl (lv_at hl 3 rfl) ?_
      refine m_iald Z C hM (f := fun k => nI ((st_bd st) k)) hW.a7 k_1 rfl (by omega) (by decide) dX6_isWithin_59 ?_
      refine n_iadd hx hb dX6_isWithin_60 ?_
      refine lv_icmp_ge (tgt := 68) hx hb dX6_isWithin_61 (by decide) (fun c_20 => ?_) (fun c_20 => ?_)
      · -- 61 t
        have c_20 : z_tg st k_1 d_2 + (st_bd st) k_1 ≤ z_up st k_1 ((z_sq st k_1 d_2) - nI 1) := (nI_leI (by omega) (by omega)).mp c_20
        refine lv_iconst (v := nI 0) hx hb dX6_isWithin_68 (by decide) ?_
        exact m_zret C hM hS (Nat.le_of_ble_eq_true rfl) (Nat.le_of_ble_eq_true rfl) rfl dX6_isWithin_69 (Or.inl ⟨k_1, d_2, f_3, rfl, ⟨hd1, hd2⟩, rfl, f_7, (by rw [b2_f (show ¬ z_wi st k_1 d_2 from fun q => absurd ((nI_ltI (by omega) (by omega)).mp q.2) (by omega))]), hW, hF⟩)
      · -- 61 f
        have c_20 : ¬ z_tg st k_1 d_2 + (st_bd st) k_1 ≤ z_up st k_1 ((z_sq st k_1 d_2) - nI 1) := fun q => c_20 ((nI_leI (by omega) (by omega)).mpr q)
        refine lv_iconst (v := nI 1) hx hb dX6_isWithin_64 (by decide) ?_
        refine lv_goto (tgt := 69) hx hb dX6_isWithin_65 (by decide) ?_
        exact m_zret C hM hS (Nat.le_of_ble_eq_true rfl) (Nat.le_of_ble_eq_true rfl) rfl dX6_isWithin_69 (Or.inl ⟨k_1, d_2, f_3, rfl, ⟨hd1, hd2⟩, rfl, f_7, (by rw [b2_t (show z_wi st k_1 d_2 from ⟨i_nlt c_19, nI_lt (by omega) (by omega)⟩)]), hW, hF⟩)
  · -- of 3
    subst hv
    have hF := hF.trans hF9
    obtain ⟨h, hM, hW, hF⟩ : ∃ h8, MW G s0.heap.size h8 H ∧ MdlW G h8 m q (se_now (se_many (se_thr st (nI 2)) (st_many st)) (st_now st)) ∧ mFr h0 h8 m q := ⟨_, hM, hW, hF⟩
    subst f_10
    refine W.eq (g2 := F0 mt 6 ls [.int (nI 0)]) rfl ?_
    refine lv_if_ne (tgt := 11) hx hb dX6_isWithin_6 (by decide) (fun q => absurd (by decide) q) (fun _ => ?_)
    refine lv_iconst (v := nI 0) hx hb dX6_isWithin_9 (by decide) ?_
    exact m_zret C hM hS (Nat.le_of_ble_eq_true rfl) (Nat.le_of_ble_eq_true rfl) rfl dX6_isWithin_10 (Or.inr (Or.inl ⟨k_8, f_9, rfl, f_11, rfl, hW, hF⟩))
  · -- of 3
    subst hv
    have hF := hF.trans hF9
    obtain ⟨h, hM, hW, hF⟩ : ∃ h8, MW G s0.heap.size h8 H ∧ MdlW G h8 m q (se_now (se_many (se_thr st (nI 3)) (st_many st)) (st_now st)) ∧ mFr h0 h8 m q := ⟨_, hM, hW, hF⟩
    subst f_14
    refine W.eq (g2 := F0 mt 6 ls [.int (nI 0)]) rfl ?_
    refine lv_if_ne (tgt := 11) hx hb dX6_isWithin_6 (by decide) (fun q => absurd (by decide) q) (fun _ => ?_)
    refine lv_iconst (v := nI 0) hx hb dX6_isWithin_9 (by decide) ?_
    exact m_zret C hM hS (Nat.le_of_ble_eq_true rfl) (Nat.le_of_ble_eq_true rfl) rfl dX6_isWithin_10 (Or.inr (Or.inr (Or.inl ⟨k_12, f_13, rfl, f_15, f_16, rfl, hW, hF⟩)))
  · -- of 3
    subst hv
    have hF := hF.trans hF9
    obtain ⟨h, hM, hW, hF⟩ : ∃ h8, MW G s0.heap.size h8 H ∧ MdlW G h8 m q (se_now (se_many (se_thr st (nI 1)) (st_many st)) (st_now st)) ∧ mFr h0 h8 m q := ⟨_, hM, hW, hF⟩
    refine W.eq (g2 := F0 mt 6 ls [.int (nI 0)]) rfl ?_
    refine lv_if_ne (tgt := 11) hx hb dX6_isWithin_6 (by decide) (fun q => absurd (by decide) q) (fun _ => ?_)
    refine lv_iconst (v := nI 0) hx hb dX6_isWithin_9 (by decide) ?_
    exact m_zret C hM hS (Nat.le_of_ble_eq_true rfl) (Nat.le_of_ble_eq_true rfl) rfl dX6_isWithin_10 (Or.inr (Or.inr (Or.inr ⟨f_17, rfl, hW, hF⟩)))
set_option maxRecDepth 100000 in
set_option maxHeartbeats 4000000 in
theorem c_X6_alertOf {l : Launch} {G : mG} {a0 : Array Value} {s0 : State} (Z : mZ l G a0 s0) (h0 : Hp) (m : Nat) (q : Nat → Nat) (st : Ms) (hW : MdlW G h0 m q st) (x : Int32) (hk : Mok st) : mM l G s0 yX6_alertOf cX6_alertOf 2 (some .char) 3 64 0 0 h0 [.ref m, .int x] (fun v h9 => (∃ k : Nat, (k < st_many st) ∧ (x = nI k) ∧ (¬ st_ha st k = nI 0) ∧ v = some (.int (nI (z_al st k))) ∧ MdlW G h9 m q (se_now (se_many (se_thr st (nI 0)) (st_many st)) (st_now st)) ∧ mFr h0 h9 m q) ∨ (∃ k : Nat, (k < st_many st) ∧ (x = nI k) ∧ (st_ha st k = nI 0) ∧ v = some (.int (nI 111)) ∧ MdlW G h9 m q (se_now (se_many (se_thr st (nI 2)) (st_many st)) (st_now st)) ∧ mFr h0 h9 m q) ∨ ((∀ k : Nat, k < st_many st → x ≠ nI k) ∧ v = some (.int (nI 111)) ∧ MdlW G h9 m q (se_now (se_many (se_thr st (nI 1)) (st_many st)) (st_now st)) ∧ mFr h0 h9 m q)) := by
  refine mM_in RX6 "alertOf" rfl rfl (by decide +kernel) (Nat.le_of_ble_eq_true rfl) ?_
  intro p e s mt below meth c H locs C hM hS ls hl
  have hx := C.1
  have hb := C.2.1
  have hown := C.2.2.2.1
  have hE := C.2.2.2.2.2.2.1
  have hl : lv_has ls 2 [(0, .ref m), (1, .int x)] := hl
  have hF : mFr h0 h0 m q := mFr.rf
  obtain ⟨h, hM, hW, hF⟩ : ∃ h9, MW G s0.heap.size h9 H ∧ MdlW G h9 m q st ∧ mFr h0 h9 m q := ⟨_, hM, hW, hF⟩
  have hm := hk.1
  have hnow := hk.2.1
  refine lv_aload_n hx hb dX6_alertOf_0 rfl (lv_at hl 0 rfl) ?_
  refine lv_iload_n hx hb dX6_alertOf_1 rfl (lv_at hl 1 rfl) ?_
  refine m_callV Z C hM hS (As := [.int x]) (rest := []) (c_X6_isSet Z h m q st hW x hk) yi_X6_isSet ml_X6_159 hW.o rfl ⟨Nat.le_of_ble_eq_true rfl, Nat.le_of_ble_eq_true rfl⟩ (Nat.le_of_ble_eq_true rfl) hl.1 rfl rfl dX6_alertOf_2 ⟨Nat.le_of_ble_eq_true rfl, Nat.le_of_ble_eq_true rfl⟩ (fun v h9 H locs hv hM hS => ?_)
  rcases hv with ⟨k_1, f_2, f_3, f_4, hv, hW, hF9⟩ | ⟨k_5, f_6, f_7, f_8, hv, hW, hF9⟩ | ⟨f_9, hv, hW, hF9⟩
  · -- of 2
    subst hv
    have hF := hF.trans hF9
    obtain ⟨h, hM, hW, hF⟩ : ∃ h8, MW G s0.heap.size h8 H ∧ MdlW G h8 m q (se_now (se_many (se_thr st (nI 0)) (st_many st)) (st_now st)) ∧ mFr h0 h8 m q := ⟨_, hM, hW, hF⟩
    subst f_3
    refine W.eq (g2 := F0 mt 5 ls [.int (nI 1)]) rfl ?_
    obtain ⟨hn, hT, hZ, hsi, hbd, hhv⟩ := hk.2.2 k_1 f_2
    refine lv_if_eq (tgt := 16) hx hb dX6_alertOf_5 (by decide) (fun q => absurd q (by decide)) (fun _ => ?_)
    refine lv_aload_n hx hb dX6_alertOf_8 rfl (lv_at hl 0 rfl) ?_
    refine lv_iload_n hx hb dX6_alertOf_9 rfl (lv_at hl 1 rfl) ?_
    refine m_callV Z C hM hS (As := [.int (nI k_1)]) (rest := []) (c_X6_state Z h m q (se_now (se_many (se_thr st (nI 0)) (st_many st)) (st_now st)) hW k_1 hk (show k_1 < st_many st by omega)) yi_X6_state ml_X6_155 hW.o rfl ⟨Nat.le_of_ble_eq_true rfl, Nat.le_of_ble_eq_true rfl⟩ (Nat.le_of_ble_eq_true rfl) hl.1 rfl rfl dX6_alertOf_10 ⟨Nat.le_of_ble_eq_true rfl, Nat.le_of_ble_eq_true rfl⟩ (fun v h9 H locs hv hM hS => ?_)
    obtain ⟨hv, hh9⟩ := hv
    subst hv
    rw [hh9] at hM
    refine W.eq (g2 := F0 mt 13 ls [.int (nI (z_al st k_1))]) rfl ?_
    refine lv_goto (tgt := 18) hx hb dX6_alertOf_13 (by decide) ?_
    exact m_zret C hM hS (Nat.le_of_ble_eq_true rfl) (Nat.le_of_ble_eq_true rfl) (z_al_nar _ _) dX6_alertOf_18 (Or.inl ⟨k_1, f_2, rfl, f_4, rfl, hW, hF⟩)
  · -- of 2
    subst hv
    have hF := hF.trans hF9
    obtain ⟨h, hM, hW, hF⟩ : ∃ h8, MW G s0.heap.size h8 H ∧ MdlW G h8 m q (se_now (se_many (se_thr st (nI 2)) (st_many st)) (st_now st)) ∧ mFr h0 h8 m q := ⟨_, hM, hW, hF⟩
    subst f_7
    refine W.eq (g2 := F0 mt 5 ls [.int (nI 0)]) rfl ?_
    refine lv_if_eq (tgt := 16) hx hb dX6_alertOf_5 (by decide) (fun _ => ?_) (fun q => absurd (by decide) q)
    refine lv_bipush (v := nI 111) hx hb dX6_alertOf_16 (by decide) ?_
    exact m_zret C hM hS (Nat.le_of_ble_eq_true rfl) (Nat.le_of_ble_eq_true rfl) rfl dX6_alertOf_18 (Or.inr (Or.inl ⟨k_5, f_6, rfl, f_8, rfl, hW, hF⟩))
  · -- of 2
    subst hv
    have hF := hF.trans hF9
    obtain ⟨h, hM, hW, hF⟩ : ∃ h8, MW G s0.heap.size h8 H ∧ MdlW G h8 m q (se_now (se_many (se_thr st (nI 1)) (st_many st)) (st_now st)) ∧ mFr h0 h8 m q := ⟨_, hM, hW, hF⟩
    refine W.eq (g2 := F0 mt 5 ls [.int (nI 0)]) rfl ?_
    refine lv_if_eq (tgt := 16) hx hb dX6_alertOf_5 (by decide) (fun _ => ?_) (fun q => absurd (by decide) q)
    refine lv_bipush (v := nI 111) hx hb dX6_alertOf_16 (by decide) ?_
    exact m_zret C hM hS (Nat.le_of_ble_eq_true rfl) (Nat.le_of_ble_eq_true rfl) rfl dX6_alertOf_18 (Or.inr (Or.inr ⟨f_9, rfl, hW, hF⟩))
set_option maxRecDepth 100000 in
set_option maxHeartbeats 4000000 in
theorem c_X6_firing {l : Launch} {G : mG} {a0 : Array Value} {s0 : State} (Z : mZ l G a0 s0) (h0 : Hp) (m : Nat) (q : Nat → Nat) (st : Ms) (hW : MdlW G h0 m q st) (hk : Mok st) : mM l G s0 yX6_firing cX6_firing 3 (some .int) 1 21 0 0 h0 [.ref m] (fun v h9 => (v = some (.int (nI (z_ct (z_fi st) (st_many st)))) ∧ MdlW G h9 m q (se_now (se_many (se_thr st (nI 0)) (st_many st)) (st_now st)) ∧ mFr h0 h9 m q)) := by
  refine mM_in RX6 "firing" rfl rfl (by decide +kernel) (Nat.le_of_ble_eq_true rfl) ?_
  intro p e s mt below meth c H locs C hM hS ls hl
  have hx := C.1
  have hb := C.2.1
  have hown := C.2.2.2.1
  have hE := C.2.2.2.2.2.2.1
  have hl : lv_has ls 3 [(0, .ref m)] := hl
  have hF : mFr h0 h0 m q := mFr.rf
  obtain ⟨h, hM, hW, hF⟩ : ∃ h9, MW G s0.heap.size h9 H ∧ MdlW G h9 m q st ∧ mFr h0 h9 m q := ⟨_, hM, hW, hF⟩
  have hm := hk.1
  have hnow := hk.2.1
  refine lv_aload_n hx hb dX6_firing_0 rfl (lv_at hl 0 rfl) ?_
  refine lv_iconst (v := nI 0) hx hb dX6_firing_1 (by decide) ?_
  refine m_put Z C hM hS hW.o K_X6 0 (by decide) fl_X6_53 (v := .int (nI 0)) rfl rfl rfl (fs' := mObj q (se_now (se_many (se_thr st (nI 0)) (st_many st)) (st_now st))) rfl (Nat.le_of_ble_eq_true rfl) dX6_firing_2 (fun H locs hM hS => ?_)
  obtain ⟨h, hM, hW, hF⟩ : ∃ h9, MW G s0.heap.size h9 H ∧ MdlW G h9 m q (se_now (se_many (se_thr st (nI 0)) (st_many st)) (st_now st)) ∧ mFr h0 h9 m q := ⟨_, hM, hW.uo (nI 0) (st_many st) (st_now st), hF.o _⟩
  refine lv_iconst (v := nI 0) hx hb dX6_firing_5 (by decide) ?_
  refine lv_istore_n (lv' := [(1, .int (nI 0)), (0, .ref m)]) hx hb dX6_firing_6 rfl hl (by decide) rfl (fun ls hl => ?_)
  refine lv_iconst (v := nI 0) hx hb dX6_firing_7 (by decide) ?_
  refine lv_istore_n (lv' := [(2, .int (nI 0)), (1, .int (nI 0)), (0, .ref m)]) hx hb dX6_firing_8 rfl hl (by decide) rfl (fun ls hl => ?_)
  have lp_1 : ∀ (fu : Nat) (k : Nat), st_many st < k + fu → k ≤ st_many st → ∀ (H : Heap) (locs : List Loc), MW G s0.heap.size h H → va_S (fun q => s0.heap.size ≤ q) s.heap H locs → ∀ ls : Array Slot, lv_has ls 3 [(2, .int (nI k)), (1, .int (nI (z_ct (z_fi st) k))), (0, .ref m)] → W p l e (mRm 1 21 0 0) s mt ([.ref m] : List Value).toArray below meth c H locs 0 0 (MQ below (mQc G s0 (fun v h9 => (v = some (.int (nI (z_ct (z_fi st) (st_many st)))) ∧ MdlW G h9 m q (se_now (se_many (se_thr st (nI 0)) (st_many st)) (st_now st)) ∧ mFr h0 h9 m q))) ([.ref m] : List Value).toArray s 0 0 (fun q => s0.heap.size ≤ q)) (F0 mt 9 ls []) := by
    intro fu
    induction fu with
    | zero => intro k hfu _; exact absurd hfu (by omega)
    | succ fu ih =>
      intro k hfu hk9 H locs hM hS ls hl
      refine lv_iload_n hx hb dX6_firing_9 rfl (lv_at hl 0 rfl) ?_
      refine lv_aload_n hx hb dX6_firing_10 rfl (lv_at hl 2 rfl) ?_
      refine m_get Z C hM hW.o K_X6 1 (by decide) fl_X6_57 (v := .int (nI (st_many st))) rfl dX6_firing_11 ?_
      refine lv_icmp_ge (tgt := 51) hx hb dX6_firing_14 (by decide) (fun c_2 => ?_) (fun c_2 => ?_)
      · -- 14 t
        have c_2 : st_many st ≤ k := (nI_leI (by omega) (by omega)).mp c_2
        refine lv_iload_n hx hb dX6_firing_51 rfl (lv_at hl 1 rfl) ?_
        exact m_iret C hM hS (Nat.le_of_ble_eq_true rfl) (Nat.le_of_ble_eq_true rfl) dX6_firing_52 ⟨by rw [show k = st_many st by omega], hW, hF⟩
      · -- 14 f
        have c_2 : ¬ st_many st ≤ k := fun q => c_2 ((nI_leI (by omega) (by omega)).mpr q)
        refine lv_iload_n hx hb dX6_firing_17 rfl (lv_at hl 1 rfl) ?_
        refine lv_aload_n hx hb dX6_firing_18 rfl (lv_at hl 2 rfl) ?_
        refine m_get Z C hM hW.o K_X6 12 (by decide) fl_X6_38 (v := .ref (q 12)) rfl dX6_firing_19 ?_
        refine lv_iload_n hx hb dX6_firing_22 rfl (lv_at hl 0 rfl) ?_
        refine m_iald Z C hM (f := st_ha st) hW.a12 k rfl (by omega) (by decide) dX6_firing_23 ?_
        refine lv_iconst (v := nI 1) hx hb dX6_firing_24 (by decide) ?_
        refine lv_icmp_ne (tgt := 42) hx hb dX6_firing_25 (by decide) (fun c_3 => ?_) (fun c_3 => ?_)
        · -- 25 t
          refine lv_iconst (v := nI 0) hx hb dX6_firing_42 (by decide) ?_
          refine n_iadd hx hb dX6_firing_43 ?_
          refine lv_istore_n (lv' := [(1, .int (nI (z_ct (z_fi st) k + 0))), (2, .int (nI k)), (0, .ref m)]) hx hb dX6_firing_44 rfl hl (by decide) rfl (fun ls hl => ?_)
          refine lv_iinc (v := nI (k + 1)) (lv' := [(2, .int (nI (k + 1))), (1, .int (nI (z_ct (z_fi st) k + 0))), (0, .ref m)]) hx hb dX6_firing_45 hl (k := 1) rfl (nI_add _ _) (by decide) rfl (fun ls hl => ?_)
          refine lv_goto (tgt := 9) hx hb dX6_firing_48 (by decide) ?_
          have e_1 : z_ct (z_fi st) (k + 1) = _ := z_ct_f0 (fun q => c_3 q.1)
          rw [← e_1] at hl
          exact ih (k + 1) (by omega) (by omega) H locs hM hS ls (lv_sub hl [0, 1, 2] rfl)
        · -- 25 f
          refine lv_aload_n hx hb dX6_firing_28 rfl (lv_at hl 2 rfl) ?_
          refine lv_iload_n hx hb dX6_firing_29 rfl (lv_at hl 0 rfl) ?_
          refine m_callV Z C hM hS (As := [.int (nI k)]) (rest := [.int (nI (z_ct (z_fi st) k))]) (c_X6_state Z h m q (se_now (se_many (se_thr st (nI 0)) (st_many st)) (st_now st)) hW k hk (show k < st_many st by omega)) yi_X6_state ml_X6_155 hW.o rfl ⟨Nat.le_of_ble_eq_true rfl, Nat.le_of_ble_eq_true rfl⟩ (Nat.le_of_ble_eq_true rfl) hl.1 rfl rfl dX6_firing_30 ⟨Nat.le_of_ble_eq_true rfl, Nat.le_of_ble_eq_true rfl⟩ (fun v h9 H locs hv hM hS => ?_)
          obtain ⟨hv, hh9⟩ := hv
          subst hv
          rw [hh9] at hM
          refine W.eq (g2 := F0 mt 33 ls [.int (nI (z_al st k)), .int (nI (z_ct (z_fi st) k))]) rfl ?_
          have hal := z_al_lt st k
          refine lv_bipush (v := nI 102) hx hb dX6_firing_33 (by decide) ?_
          refine lv_icmp_ne (tgt := 42) hx hb dX6_firing_35 (by decide) (fun c_4 => ?_) (fun c_4 => ?_)
          · -- 35 t
            have c_4 : ¬ z_al st k = 102 := fun q => c_4 ((nI_eq (by omega) (by decide)).mpr q)
            refine lv_iconst (v := nI 0) hx hb dX6_firing_42 (by decide) ?_
            refine n_iadd hx hb dX6_firing_43 ?_
            refine lv_istore_n (lv' := [(1, .int (nI (z_ct (z_fi st) k + 0))), (2, .int (nI k)), (0, .ref m)]) hx hb dX6_firing_44 rfl hl (by decide) rfl (fun ls hl => ?_)
            refine lv_iinc (v := nI (k + 1)) (lv' := [(2, .int (nI (k + 1))), (1, .int (nI (z_ct (z_fi st) k + 0))), (0, .ref m)]) hx hb dX6_firing_45 hl (k := 1) rfl (nI_add _ _) (by decide) rfl (fun ls hl => ?_)
            refine lv_goto (tgt := 9) hx hb dX6_firing_48 (by decide) ?_
            have e_1 : z_ct (z_fi st) (k + 1) = _ := z_ct_f0 (fun q => c_4 q.2)
            rw [← e_1] at hl
            exact ih (k + 1) (by omega) (by omega) H locs hM hS ls (lv_sub hl [0, 1, 2] rfl)
          · -- 35 f
            have c_4 : z_al st k = 102 := (nI_eq (by omega) (by decide)).mp c_4
            refine lv_iconst (v := nI 1) hx hb dX6_firing_38 (by decide) ?_
            refine lv_goto (tgt := 43) hx hb dX6_firing_39 (by decide) ?_
            refine n_iadd hx hb dX6_firing_43 ?_
            refine lv_istore_n (lv' := [(1, .int (nI (z_ct (z_fi st) k + 1))), (2, .int (nI k)), (0, .ref m)]) hx hb dX6_firing_44 rfl hl (by decide) rfl (fun ls hl => ?_)
            refine lv_iinc (v := nI (k + 1)) (lv' := [(2, .int (nI (k + 1))), (1, .int (nI (z_ct (z_fi st) k + 1))), (0, .ref m)]) hx hb dX6_firing_45 hl (k := 1) rfl (nI_add _ _) (by decide) rfl (fun ls hl => ?_)
            refine lv_goto (tgt := 9) hx hb dX6_firing_48 (by decide) ?_
            have e_1 : z_ct (z_fi st) (k + 1) = _ := z_ct_t ⟨c_3, c_4⟩
            rw [← e_1] at hl
            exact ih (k + 1) (by omega) (by omega) H locs hM hS ls (lv_sub hl [0, 1, 2] rfl)
  exact lp_1 (st_many st + 1) 0 (by omega) (Nat.zero_le _) H locs hM hS ls (lv_sub hl [0, 1, 2] rfl)
set_option maxRecDepth 100000 in
set_option maxHeartbeats 4000000 in
theorem c_X6_joinCount {l : Launch} {G : mG} {a0 : Array Value} {s0 : State} (Z : mZ l G a0 s0) (h0 : Hp) (m : Nat) (q : Nat → Nat) (st : Ms) (hW : MdlW G h0 m q st) (a : Int32) (d : Int32) (hk : Mok st) : mM l G s0 yX6_joinCount cX6_joinCount 3 (some .int) 3 71 0 0 h0 [.ref m, .int a, .int d] (fun v h9 => ((nI 0 ≤ a ∧ a ≤ nI 9) ∧ (nI 0 ≤ d ∧ d ≤ nI 9) ∧ v = some (.int ((z_js st a d (fun u v => if 0 = 0 then lN 1 else (z_la st u).toInt64 * (z_la st v).toInt64) 10).toInt32)) ∧ MdlW G h9 m q (se_now (se_many (se_thr st (nI 0)) (st_many st)) (st_now st)) ∧ mFr h0 h9 m q) ∨ ((¬ ((nI 0 ≤ a ∧ a ≤ nI 9) ∧ (nI 0 ≤ d ∧ d ≤ nI 9))) ∧ v = some (.int (nI 0)) ∧ MdlW G h9 m q (se_now (se_many (se_thr st (nI 1)) (st_many st)) (st_now st)) ∧ mFr h0 h9 m q)) := by
  refine mM_in RX6 "joinCount" rfl rfl (by decide +kernel) (Nat.le_of_ble_eq_true rfl) ?_
  intro p e s mt below meth c H locs C hM hS ls hl
  have hx := C.1
  have hb := C.2.1
  have hown := C.2.2.2.1
  have hE := C.2.2.2.2.2.2.1
  have hl : lv_has ls 3 [(0, .ref m), (1, .int a), (2, .int d)] := hl
  have hF : mFr h0 h0 m q := mFr.rf
  obtain ⟨h, hM, hW, hF⟩ : ∃ h9, MW G s0.heap.size h9 H ∧ MdlW G h9 m q st ∧ mFr h0 h9 m q := ⟨_, hM, hW, hF⟩
  have hm := hk.1
  have hnow := hk.2.1
  refine lv_aload_n hx hb dX6_joinCount_0 rfl (lv_at hl 0 rfl) ?_
  refine lv_iload_n hx hb dX6_joinCount_1 rfl (lv_at hl 1 rfl) ?_
  refine lv_iload_n hx hb dX6_joinCount_2 rfl (lv_at hl 2 rfl) ?_
  refine m_callV Z C hM hS (As := [.int a, .int d]) (rest := []) (c_X6_areNames Z h m q st hW a d) yi_X6_areNames ml_X6_162 hW.o rfl ⟨Nat.le_of_ble_eq_true rfl, Nat.le_of_ble_eq_true rfl⟩ (Nat.le_of_ble_eq_true rfl) hl.1 rfl rfl dX6_joinCount_3 ⟨Nat.le_of_ble_eq_true rfl, Nat.le_of_ble_eq_true rfl⟩ (fun v h9 H locs hv hM hS => ?_)
  rcases hv with ⟨f_1, f_2, hv, hW, hF9⟩ | ⟨f_3, hv, hW, hF9⟩
  · -- of 3
    subst hv
    have hF := hF.trans hF9
    obtain ⟨h, hM, hW, hF⟩ : ∃ h8, MW G s0.heap.size h8 H ∧ MdlW G h8 m q (se_now (se_many (se_thr st (nI 0)) (st_many st)) (st_now st)) ∧ mFr h0 h8 m q := ⟨_, hM, hW, hF⟩
    refine W.eq (g2 := F0 mt 6 ls [.int (nI 1)]) rfl ?_
    refine lv_if_eq (tgt := 20) hx hb dX6_joinCount_6 (by decide) (fun q => absurd q (by decide)) (fun _ => ?_)
    refine lv_aload_n hx hb dX6_joinCount_9 rfl (lv_at hl 0 rfl) ?_
    refine lv_iload_n hx hb dX6_joinCount_10 rfl (lv_at hl 1 rfl) ?_
    refine lv_iload_n hx hb dX6_joinCount_11 rfl (lv_at hl 2 rfl) ?_
    refine lv_iconst (v := nI 0) hx hb dX6_joinCount_12 (by decide) ?_
    refine m_callV Z C hM hS (As := [.int a, .int d, .int (nI 0)]) (rest := []) (c_X6_joined Z h m q (se_now (se_many (se_thr st (nI 0)) (st_many st)) (st_now st)) hW a d 0 hk (show 0 < 2 by omega)) yi_X6_joined ml_X6_165 hW.o rfl ⟨Nat.le_of_ble_eq_true rfl, Nat.le_of_ble_eq_true rfl⟩ (Nat.le_of_ble_eq_true rfl) hl.1 rfl rfl dX6_joinCount_13 ⟨Nat.le_of_ble_eq_true rfl, Nat.le_of_ble_eq_true rfl⟩ (fun v h9 H locs hv hM hS => ?_)
    obtain ⟨hv, hh9⟩ := hv
    replace hv : v = some (.long (z_js st a d (fun u v => if 0 = 0 then lN 1 else (z_la st u).toInt64 * (z_la st v).toInt64) 10)) := by rw [hv, z_js_w (sw := (se_now (se_many (se_thr st (nI 0)) (st_many st)) (st_now st))) (st := st) rfl rfl rfl rfl] <;> rfl
    subst hv
    rw [hh9] at hM
    refine W.eq (g2 := F0 mt 16 ls [.long (z_js st a d (fun u v => if 0 = 0 then lN 1 else (z_la st u).toInt64 * (z_la st v).toInt64) 10)]) rfl ?_
    refine lv_l2i (v := (z_js st a d (fun u v => if 0 = 0 then lN 1 else (z_la st u).toInt64 * (z_la st v).toInt64) 10).toInt32) hx hb dX6_joinCount_16 rfl ?_
    refine lv_goto (tgt := 21) hx hb dX6_joinCount_17 (by decide) ?_
    exact m_iret C hM hS (Nat.le_of_ble_eq_true rfl) (Nat.le_of_ble_eq_true rfl) dX6_joinCount_21 (Or.inl ⟨f_1, f_2, rfl, hW, hF⟩)
  · -- of 3
    subst hv
    have hF := hF.trans hF9
    obtain ⟨h, hM, hW, hF⟩ : ∃ h8, MW G s0.heap.size h8 H ∧ MdlW G h8 m q (se_now (se_many (se_thr st (nI 1)) (st_many st)) (st_now st)) ∧ mFr h0 h8 m q := ⟨_, hM, hW, hF⟩
    refine W.eq (g2 := F0 mt 6 ls [.int (nI 0)]) rfl ?_
    refine lv_if_eq (tgt := 20) hx hb dX6_joinCount_6 (by decide) (fun _ => ?_) (fun q => absurd (by decide) q)
    refine lv_iconst (v := nI 0) hx hb dX6_joinCount_20 (by decide) ?_
    exact m_iret C hM hS (Nat.le_of_ble_eq_true rfl) (Nat.le_of_ble_eq_true rfl) dX6_joinCount_21 (Or.inr ⟨f_3, rfl, hW, hF⟩)
set_option maxRecDepth 100000 in
set_option maxHeartbeats 4000000 in
theorem c_X6_joinSum {l : Launch} {G : mG} {a0 : Array Value} {s0 : State} (Z : mZ l G a0 s0) (h0 : Hp) (m : Nat) (q : Nat → Nat) (st : Ms) (hW : MdlW G h0 m q st) (a : Int32) (d : Int32) (hk : Mok st) : mM l G s0 yX6_joinSum cX6_joinSum 3 (some .long) 3 71 0 0 h0 [.ref m, .int a, .int d] (fun v h9 => ((nI 0 ≤ a ∧ a ≤ nI 9) ∧ (nI 0 ≤ d ∧ d ≤ nI 9) ∧ v = some (.long (z_js st a d (fun u v => if 1 = 0 then lN 1 else (z_la st u).toInt64 * (z_la st v).toInt64) 10)) ∧ MdlW G h9 m q (se_now (se_many (se_thr st (nI 0)) (st_many st)) (st_now st)) ∧ mFr h0 h9 m q) ∨ ((¬ ((nI 0 ≤ a ∧ a ≤ nI 9) ∧ (nI 0 ≤ d ∧ d ≤ nI 9))) ∧ v = some (.long (lN 0)) ∧ MdlW G h9 m q (se_now (se_many (se_thr st (nI 1)) (st_many st)) (st_now st)) ∧ mFr h0 h9 m q)) := by
  refine mM_in RX6 "joinSum" rfl rfl (by decide +kernel) (Nat.le_of_ble_eq_true rfl) ?_
  intro p e s mt below meth c H locs C hM hS ls hl
  have hx := C.1
  have hb := C.2.1
  have hown := C.2.2.2.1
  have hE := C.2.2.2.2.2.2.1
  have hl : lv_has ls 3 [(0, .ref m), (1, .int a), (2, .int d)] := hl
  have hF : mFr h0 h0 m q := mFr.rf
  obtain ⟨h, hM, hW, hF⟩ : ∃ h9, MW G s0.heap.size h9 H ∧ MdlW G h9 m q st ∧ mFr h0 h9 m q := ⟨_, hM, hW, hF⟩
  have hm := hk.1
  have hnow := hk.2.1
  refine lv_aload_n hx hb dX6_joinSum_0 rfl (lv_at hl 0 rfl) ?_
  refine lv_iload_n hx hb dX6_joinSum_1 rfl (lv_at hl 1 rfl) ?_
  refine lv_iload_n hx hb dX6_joinSum_2 rfl (lv_at hl 2 rfl) ?_
  refine m_callV Z C hM hS (As := [.int a, .int d]) (rest := []) (c_X6_areNames Z h m q st hW a d) yi_X6_areNames ml_X6_162 hW.o rfl ⟨Nat.le_of_ble_eq_true rfl, Nat.le_of_ble_eq_true rfl⟩ (Nat.le_of_ble_eq_true rfl) hl.1 rfl rfl dX6_joinSum_3 ⟨Nat.le_of_ble_eq_true rfl, Nat.le_of_ble_eq_true rfl⟩ (fun v h9 H locs hv hM hS => ?_)
  rcases hv with ⟨f_1, f_2, hv, hW, hF9⟩ | ⟨f_3, hv, hW, hF9⟩
  · -- of 3
    subst hv
    have hF := hF.trans hF9
    obtain ⟨h, hM, hW, hF⟩ : ∃ h8, MW G s0.heap.size h8 H ∧ MdlW G h8 m q (se_now (se_many (se_thr st (nI 0)) (st_many st)) (st_now st)) ∧ mFr h0 h8 m q := ⟨_, hM, hW, hF⟩
    refine W.eq (g2 := F0 mt 6 ls [.int (nI 1)]) rfl ?_
    refine lv_if_eq (tgt := 19) hx hb dX6_joinSum_6 (by decide) (fun q => absurd q (by decide)) (fun _ => ?_)
    refine lv_aload_n hx hb dX6_joinSum_9 rfl (lv_at hl 0 rfl) ?_
    refine lv_iload_n hx hb dX6_joinSum_10 rfl (lv_at hl 1 rfl) ?_
    refine lv_iload_n hx hb dX6_joinSum_11 rfl (lv_at hl 2 rfl) ?_
    refine lv_iconst (v := nI 1) hx hb dX6_joinSum_12 (by decide) ?_
    refine m_callV Z C hM hS (As := [.int a, .int d, .int (nI 1)]) (rest := []) (c_X6_joined Z h m q (se_now (se_many (se_thr st (nI 0)) (st_many st)) (st_now st)) hW a d 1 hk (show 1 < 2 by omega)) yi_X6_joined ml_X6_165 hW.o rfl ⟨Nat.le_of_ble_eq_true rfl, Nat.le_of_ble_eq_true rfl⟩ (Nat.le_of_ble_eq_true rfl) hl.1 rfl rfl dX6_joinSum_13 ⟨Nat.le_of_ble_eq_true rfl, Nat.le_of_ble_eq_true rfl⟩ (fun v h9 H locs hv hM hS => ?_)
    obtain ⟨hv, hh9⟩ := hv
    replace hv : v = some (.long (z_js st a d (fun u v => if 1 = 0 then lN 1 else (z_la st u).toInt64 * (z_la st v).toInt64) 10)) := by rw [hv, z_js_w (sw := (se_now (se_many (se_thr st (nI 0)) (st_many st)) (st_now st))) (st := st) rfl rfl rfl rfl] <;> rfl
    subst hv
    rw [hh9] at hM
    refine W.eq (g2 := F0 mt 16 ls [.long (z_js st a d (fun u v => if 1 = 0 then lN 1 else (z_la st u).toInt64 * (z_la st v).toInt64) 10)]) rfl ?_
    refine lv_goto (tgt := 20) hx hb dX6_joinSum_16 (by decide) ?_
    exact m_lret C hM hS (Nat.le_of_ble_eq_true rfl) (Nat.le_of_ble_eq_true rfl) dX6_joinSum_20 (Or.inl ⟨f_1, f_2, rfl, hW, hF⟩)
  · -- of 3
    subst hv
    have hF := hF.trans hF9
    obtain ⟨h, hM, hW, hF⟩ : ∃ h8, MW G s0.heap.size h8 H ∧ MdlW G h8 m q (se_now (se_many (se_thr st (nI 1)) (st_many st)) (st_now st)) ∧ mFr h0 h8 m q := ⟨_, hM, hW, hF⟩
    refine W.eq (g2 := F0 mt 6 ls [.int (nI 0)]) rfl ?_
    refine lv_if_eq (tgt := 19) hx hb dX6_joinSum_6 (by decide) (fun _ => ?_) (fun q => absurd (by decide) q)
    refine lv_lconst (v := lN 0) hx hb dX6_joinSum_19 (by decide) ?_
    exact m_lret C hM hS (Nat.le_of_ble_eq_true rfl) (Nat.le_of_ble_eq_true rfl) dX6_joinSum_20 (Or.inr ⟨f_3, rfl, hW, hF⟩)
set_option maxRecDepth 100000 in
set_option maxHeartbeats 4000000 in
theorem c_X6_bitsOf {l : Launch} {G : mG} {a0 : Array Value} {s0 : State} (Z : mZ l G a0 s0) (h0 : Hp) (m : Nat) (q : Nat → Nat) (st : Ms) (hW : MdlW G h0 m q st) (x : Int32) (y : Int32) (hk : Mok st) : mM l G s0 yX6_bitsOf cX6_bitsOf 3 (some .int) 2 49 0 0 h0 [.ref m, .int x, .int y] (fun v h9 => (∃ k : Nat, ∃ j : Nat, (k < st_many st) ∧ (x = nI k) ∧ (j < z_nb st k) ∧ (y = nI j) ∧ v = some (.int (nI (z_bits st k j))) ∧ MdlW G h9 m q (se_now (se_many (se_thr st (nI 0)) (st_many st)) (st_now st)) ∧ mFr h0 h9 m q) ∨ (∃ k : Nat, (k < st_many st) ∧ (x = nI k) ∧ (∀ j : Nat, j < z_nb st k → y ≠ nI j) ∧ v = some (.int (nI 0)) ∧ MdlW G h9 m q (se_now (se_many (se_thr st (nI 2)) (st_many st)) (st_now st)) ∧ mFr h0 h9 m q) ∨ ((∀ k : Nat, k < st_many st → x ≠ nI k) ∧ v = some (.int (nI 0)) ∧ MdlW G h9 m q (se_now (se_many (se_thr st (nI 1)) (st_many st)) (st_now st)) ∧ mFr h0 h9 m q)) := by
  refine mM_in RX6 "bitsOf" rfl rfl (by decide +kernel) (Nat.le_of_ble_eq_true rfl) ?_
  intro p e s mt below meth c H locs C hM hS ls hl
  have hx := C.1
  have hb := C.2.1
  have hown := C.2.2.2.1
  have hE := C.2.2.2.2.2.2.1
  have hl : lv_has ls 3 [(0, .ref m), (1, .int x), (2, .int y)] := hl
  have hF : mFr h0 h0 m q := mFr.rf
  obtain ⟨h, hM, hW, hF⟩ : ∃ h9, MW G s0.heap.size h9 H ∧ MdlW G h9 m q st ∧ mFr h0 h9 m q := ⟨_, hM, hW, hF⟩
  have hm := hk.1
  have hnow := hk.2.1
  refine lv_aload_n hx hb dX6_bitsOf_0 rfl (lv_at hl 0 rfl) ?_
  refine lv_iload_n hx hb dX6_bitsOf_1 rfl (lv_at hl 1 rfl) ?_
  refine m_callV Z C hM hS (As := [.int x]) (rest := []) (c_X6_looks Z h m q st hW x (show st_many st ≤ 10 by omega)) yi_X6_looks ml_X6_83 hW.o rfl ⟨Nat.le_of_ble_eq_true rfl, Nat.le_of_ble_eq_true rfl⟩ (Nat.le_of_ble_eq_true rfl) hl.1 rfl rfl dX6_bitsOf_2 ⟨Nat.le_of_ble_eq_true rfl, Nat.le_of_ble_eq_true rfl⟩ (fun v h9 H locs hv hM hS => ?_)
  rcases hv with ⟨k_1, f_2, f_3, hv, hW, hF9⟩ | ⟨f_4, hv, hW, hF9⟩
  · -- of 2
    subst hv
    have hF := hF.trans hF9
    obtain ⟨h, hM, hW, hF⟩ : ∃ h8, MW G s0.heap.size h8 H ∧ MdlW G h8 m q (se_now (se_many (se_thr st (nI 0)) (st_many st)) (st_now st)) ∧ mFr h0 h8 m q := ⟨_, hM, hW, hF⟩
    subst f_3
    refine W.eq (g2 := F0 mt 5 ls [.int (nI 1)]) rfl ?_
    obtain ⟨hn, hT, hZ, hsi, hbd, hhv⟩ := hk.2.2 k_1 f_2
    refine lv_if_ne (tgt := 10) hx hb dX6_bitsOf_5 (by decide) (fun _ => ?_) (fun q => absurd q (by decide))
    refine lv_aload_n hx hb dX6_bitsOf_10 rfl (lv_at hl 0 rfl) ?_
    refine lv_iload_n hx hb dX6_bitsOf_11 rfl (lv_at hl 2 rfl) ?_
    refine lv_iconst (v := nI 0) hx hb dX6_bitsOf_12 (by decide) ?_
    refine lv_aload_n hx hb dX6_bitsOf_13 rfl (lv_at hl 0 rfl) ?_
    refine lv_iload_n hx hb dX6_bitsOf_14 rfl (lv_at hl 1 rfl) ?_
    refine m_callV Z C hM hS (As := [.int (nI k_1)]) (rest := [.int (nI 0), .int y, .ref m]) (c_X6_many Z h m q (se_now (se_many (se_thr st (nI 0)) (st_many st)) (st_now st)) hW k_1 hk (show k_1 < st_many st by omega)) yi_X6_many ml_X6_98 hW.o rfl ⟨Nat.le_of_ble_eq_true rfl, Nat.le_of_ble_eq_true rfl⟩ (Nat.le_of_ble_eq_true rfl) hl.1 rfl rfl dX6_bitsOf_15 ⟨Nat.le_of_ble_eq_true rfl, Nat.le_of_ble_eq_true rfl⟩ (fun v h9 H locs hv hM hS => ?_)
    obtain ⟨hv, hh9⟩ := hv
    subst hv
    rw [hh9] at hM
    refine W.eq (g2 := F0 mt 18 ls [.int (nI (z_nb st k_1)), .int (nI 0), .int y, .ref m]) rfl ?_
    refine lv_iconst (v := nI 1) hx hb dX6_bitsOf_18 (by decide) ?_
    refine lv_isub hx hb dX6_bitsOf_19 ?_
    refine m_callS Z C hM hS (As := [.int y, .int (nI 0), .int (nI (z_nb st k_1) - nI 1)]) (rest := [.ref m]) (c_X6_isIn Z h y (nI 0) (nI (z_nb st k_1) - nI 1)) yi_X6_isIn ml_X6_60 ⟨Nat.le_of_ble_eq_true rfl, Nat.le_of_ble_eq_true rfl⟩ (Nat.le_of_ble_eq_true rfl) hl.1 rfl rfl dX6_bitsOf_20 ⟨Nat.le_of_ble_eq_true rfl, Nat.le_of_ble_eq_true rfl⟩ (fun v h9 H locs hv hM hS => ?_)
    obtain ⟨hv, hh9⟩ := hv
    rcases Decidable.em ((nI 0) ≤ y ∧ y ≤ (nI (z_nb st k_1) - nI 1)) with g_6 | g_6
    · -- of 20: True
      replace hv : v = some (.int (b2 ((nI 0) ≤ y ∧ y ≤ (nI (z_nb st k_1) - nI 1)))) := hv
      rw [b2_t g_6] at hv
      subst hv
      rw [hh9] at hM
      refine W.eq (g2 := F0 mt 23 ls [.int (nI 1), .ref m]) rfl ?_
      obtain ⟨j9, hj1, hj2⟩ := (isIn_g (Nat.le_trans (z_nb_le hn) (by decide)) _).mp g_6
      subst hj2
      have hj8 : 8 * j9 < st_n st k_1 := by unfold z_nb at hj1; omega
      have hnb := z_nb_le hn
      refine lv_if_eq (tgt := 30) hx hb dX6_bitsOf_23 (by decide) (fun q => absurd q (by decide)) (fun _ => ?_)
      refine lv_iconst (v := nI 0) hx hb dX6_bitsOf_26 (by decide) ?_
      refine lv_goto (tgt := 31) hx hb dX6_bitsOf_27 (by decide) ?_
      refine m_put Z C hM hS hW.o K_X6 0 (by decide) fl_X6_53 (v := .int (nI 0)) rfl rfl rfl (fs' := mObj q (se_now (se_many (se_thr st (nI 0)) (st_many st)) (st_now st))) rfl (Nat.le_of_ble_eq_true rfl) dX6_bitsOf_31 (fun H locs hM hS => ?_)
      obtain ⟨h, hM, hW, hF⟩ : ∃ h9, MW G s0.heap.size h9 H ∧ MdlW G h9 m q (se_now (se_many (se_thr st (nI 0)) (st_many st)) (st_now st)) ∧ mFr h0 h9 m q := ⟨_, hM, hW.uo (nI 0) (st_many st) (st_now st), hF.o _⟩
      refine lv_aload_n hx hb dX6_bitsOf_34 rfl (lv_at hl 0 rfl) ?_
      refine m_get Z C hM hW.o K_X6 0 (by decide) fl_X6_53 (v := .int (nI 0)) rfl dX6_bitsOf_35 ?_
      refine lv_if_ne (tgt := 50) hx hb dX6_bitsOf_38 (by decide) (fun q => absurd (by decide) q) (fun _ => ?_)
      refine lv_aload_n hx hb dX6_bitsOf_41 rfl (lv_at hl 0 rfl) ?_
      refine lv_iload_n hx hb dX6_bitsOf_42 rfl (lv_at hl 1 rfl) ?_
      refine lv_iload_n hx hb dX6_bitsOf_43 rfl (lv_at hl 2 rfl) ?_
      refine m_callV Z C hM hS (As := [.int (nI k_1), .int (nI j9)]) (rest := []) (c_X6_bits Z h m q (se_now (se_many (se_thr st (nI 0)) (st_many st)) (st_now st)) hW k_1 j9 hk (show k_1 < st_many st by omega) (show 8 * j9 < st_n st k_1 by omega)) yi_X6_bits ml_X6_104 hW.o rfl ⟨Nat.le_of_ble_eq_true rfl, Nat.le_of_ble_eq_true rfl⟩ (Nat.le_of_ble_eq_true rfl) hl.1 rfl rfl dX6_bitsOf_44 ⟨Nat.le_of_ble_eq_true rfl, Nat.le_of_ble_eq_true rfl⟩ (fun v h9 H locs hv hM hS => ?_)
      obtain ⟨hv, hh9⟩ := hv
      replace hv : v = some (.int (nI (z_bits st k_1 j9))) := by rw [hv, z_bits_w (sw := (se_now (se_many (se_thr st (nI 0)) (st_many st)) (st_now st))) (st := st) rfl rfl rfl] <;> rfl
      subst hv
      rw [hh9] at hM
      refine W.eq (g2 := F0 mt 47 ls [.int (nI (z_bits st k_1 j9))]) rfl ?_
      refine lv_goto (tgt := 51) hx hb dX6_bitsOf_47 (by decide) ?_
      exact m_iret C hM hS (Nat.le_of_ble_eq_true rfl) (Nat.le_of_ble_eq_true rfl) dX6_bitsOf_51 (Or.inl ⟨k_1, j9, f_2, rfl, hj1, rfl, rfl, hW, hF⟩)
    · -- of 20: False
      replace hv : v = some (.int (b2 ((nI 0) ≤ y ∧ y ≤ (nI (z_nb st k_1) - nI 1)))) := hv
      rw [b2_f g_6] at hv
      subst hv
      rw [hh9] at hM
      refine W.eq (g2 := F0 mt 23 ls [.int (nI 0), .ref m]) rfl ?_
      refine lv_if_eq (tgt := 30) hx hb dX6_bitsOf_23 (by decide) (fun _ => ?_) (fun q => absurd (by decide) q)
      refine lv_iconst (v := nI 2) hx hb dX6_bitsOf_30 (by decide) ?_
      refine m_put Z C hM hS hW.o K_X6 0 (by decide) fl_X6_53 (v := .int (nI 2)) rfl rfl rfl (fs' := mObj q (se_now (se_many (se_thr st (nI 2)) (st_many st)) (st_now st))) rfl (Nat.le_of_ble_eq_true rfl) dX6_bitsOf_31 (fun H locs hM hS => ?_)
      obtain ⟨h, hM, hW, hF⟩ : ∃ h9, MW G s0.heap.size h9 H ∧ MdlW G h9 m q (se_now (se_many (se_thr st (nI 2)) (st_many st)) (st_now st)) ∧ mFr h0 h9 m q := ⟨_, hM, hW.uo (nI 2) (st_many st) (st_now st), hF.o _⟩
      refine lv_aload_n hx hb dX6_bitsOf_34 rfl (lv_at hl 0 rfl) ?_
      refine m_get Z C hM hW.o K_X6 0 (by decide) fl_X6_53 (v := .int (nI 2)) rfl dX6_bitsOf_35 ?_
      refine lv_if_ne (tgt := 50) hx hb dX6_bitsOf_38 (by decide) (fun _ => ?_) (fun q => absurd q (by decide))
      refine lv_iconst (v := nI 0) hx hb dX6_bitsOf_50 (by decide) ?_
      exact m_iret C hM hS (Nat.le_of_ble_eq_true rfl) (Nat.le_of_ble_eq_true rfl) dX6_bitsOf_51 (Or.inr (Or.inl ⟨k_1, f_2, rfl, (fun j h1 h2 => g_6 ((isIn_g (Nat.le_trans (z_nb_le hn) (by decide)) _).mpr ⟨j, h1, h2⟩)), rfl, hW, hF⟩))
  · -- of 2
    subst hv
    have hF := hF.trans hF9
    obtain ⟨h, hM, hW, hF⟩ : ∃ h8, MW G s0.heap.size h8 H ∧ MdlW G h8 m q (se_now (se_many (se_thr st (nI 1)) (st_many st)) (st_now st)) ∧ mFr h0 h8 m q := ⟨_, hM, hW, hF⟩
    refine W.eq (g2 := F0 mt 5 ls [.int (nI 0)]) rfl ?_
    refine lv_if_ne (tgt := 10) hx hb dX6_bitsOf_5 (by decide) (fun q => absurd (by decide) q) (fun _ => ?_)
    refine lv_iconst (v := nI 0) hx hb dX6_bitsOf_8 (by decide) ?_
    exact m_iret C hM hS (Nat.le_of_ble_eq_true rfl) (Nat.le_of_ble_eq_true rfl) dX6_bitsOf_9 (Or.inr (Or.inr ⟨f_4, rfl, hW, hF⟩))
set_option maxRecDepth 100000 in
set_option maxHeartbeats 4000000 in
theorem c_X6_allBits {l : Launch} {G : mG} {a0 : Array Value} {s0 : State} (Z : mZ l G a0 s0) (h0 : Hp) (m : Nat) (q : Nat → Nat) (st : Ms) (hW : MdlW G h0 m q st) (hk : Mok st) : mM l G s0 yX6_allBits cX6_allBits 5 (some .long) 2 49 0 0 h0 [.ref m] (fun v h9 => (v = some (.long (lN (z_all st (st_many st)))) ∧ MdlW G h9 m q (se_now (se_many (se_thr st (nI 0)) (st_many st)) (st_now st)) ∧ mFr h0 h9 m q)) := by
  refine mM_in RX6 "allBits" rfl rfl (by decide +kernel) (Nat.le_of_ble_eq_true rfl) ?_
  intro p e s mt below meth c H locs C hM hS ls hl
  have hx := C.1
  have hb := C.2.1
  have hown := C.2.2.2.1
  have hE := C.2.2.2.2.2.2.1
  have hl : lv_has ls 5 [(0, .ref m)] := hl
  have hF : mFr h0 h0 m q := mFr.rf
  obtain ⟨h, hM, hW, hF⟩ : ∃ h9, MW G s0.heap.size h9 H ∧ MdlW G h9 m q st ∧ mFr h0 h9 m q := ⟨_, hM, hW, hF⟩
  have hm := hk.1
  have hnow := hk.2.1
  refine lv_aload_n hx hb dX6_allBits_0 rfl (lv_at hl 0 rfl) ?_
  refine lv_iconst (v := nI 0) hx hb dX6_allBits_1 (by decide) ?_
  refine m_put Z C hM hS hW.o K_X6 0 (by decide) fl_X6_53 (v := .int (nI 0)) rfl rfl rfl (fs' := mObj q (se_now (se_many (se_thr st (nI 0)) (st_many st)) (st_now st))) rfl (Nat.le_of_ble_eq_true rfl) dX6_allBits_2 (fun H locs hM hS => ?_)
  obtain ⟨h, hM, hW, hF⟩ : ∃ h9, MW G s0.heap.size h9 H ∧ MdlW G h9 m q (se_now (se_many (se_thr st (nI 0)) (st_many st)) (st_now st)) ∧ mFr h0 h9 m q := ⟨_, hM, hW.uo (nI 0) (st_many st) (st_now st), hF.o _⟩
  refine lv_lconst (v := lN 0) hx hb dX6_allBits_5 (by decide) ?_
  refine lv_lstore_n (lv' := [(1, .long (lN 0)), (0, .ref m)]) hx hb dX6_allBits_6 rfl hl (by decide) rfl (fun ls hl => ?_)
  refine lv_iconst (v := nI 0) hx hb dX6_allBits_7 (by decide) ?_
  refine lv_istore_n (lv' := [(3, .int (nI 0)), (1, .long (lN 0)), (0, .ref m)]) hx hb dX6_allBits_8 rfl hl (by decide) rfl (fun ls hl => ?_)
  have lp_1 : ∀ (fu : Nat) (k : Nat), st_many st < k + fu → k ≤ st_many st → ∀ (H : Heap) (locs : List Loc), MW G s0.heap.size h H → va_S (fun q => s0.heap.size ≤ q) s.heap H locs → ∀ ls : Array Slot, lv_has ls 5 [(3, .int (nI k)), (1, .long (lN (z_all st k))), (0, .ref m)] → W p l e (mRm 2 49 0 0) s mt ([.ref m] : List Value).toArray below meth c H locs 0 0 (MQ below (mQc G s0 (fun v h9 => (v = some (.long (lN (z_all st (st_many st)))) ∧ MdlW G h9 m q (se_now (se_many (se_thr st (nI 0)) (st_many st)) (st_now st)) ∧ mFr h0 h9 m q))) ([.ref m] : List Value).toArray s 0 0 (fun q => s0.heap.size ≤ q)) (F0 mt 9 ls []) := by
    intro fu
    induction fu with
    | zero => intro k hfu _; exact absurd hfu (by omega)
    | succ fu ih =>
      intro k hfu hk9 H locs hM hS ls hl
      refine lv_iload_n hx hb dX6_allBits_9 rfl (lv_at hl 0 rfl) ?_
      refine lv_aload_n hx hb dX6_allBits_10 rfl (lv_at hl 2 rfl) ?_
      refine m_get Z C hM hW.o K_X6 1 (by decide) fl_X6_57 (v := .int (nI (st_many st))) rfl dX6_allBits_11 ?_
      refine lv_icmp_ge (tgt := 53) hx hb dX6_allBits_14 (by decide) (fun c_2 => ?_) (fun c_2 => ?_)
      · -- 14 t
        have c_2 : st_many st ≤ k := (nI_leI (by omega) (by omega)).mp c_2
        refine lv_lload_n hx hb dX6_allBits_53 rfl (lv_at hl 1 rfl) ?_
        exact m_lret C hM hS (Nat.le_of_ble_eq_true rfl) (Nat.le_of_ble_eq_true rfl) dX6_allBits_54 ⟨by rw [show k = st_many st by omega], hW, hF⟩
      · -- 14 f
        have c_2 : ¬ st_many st ≤ k := fun q => c_2 ((nI_leI (by omega) (by omega)).mpr q)
        obtain ⟨hn, hT, hZ, hsi, hbd, hhv⟩ := hk.2.2 k (by omega)
        have hnb := z_nb_le hn
        refine lv_iconst (v := nI 0) hx hb dX6_allBits_17 (by decide) ?_
        refine lv_istore (lv' := [(4, .int (nI 0)), (3, .int (nI k)), (1, .long (lN (z_all st k))), (0, .ref m)]) hx hb dX6_allBits_18 hl (by decide) rfl (fun ls hl => ?_)
        have lp_3 : ∀ (fu2 : Nat) (j : Nat), z_nb st k < j + fu2 → j ≤ z_nb st k → ∀ (H : Heap) (locs : List Loc), MW G s0.heap.size h H → va_S (fun q => s0.heap.size ≤ q) s.heap H locs → ∀ ls : Array Slot, lv_has ls 5 [(4, .int (nI j)), (3, .int (nI k)), (1, .long (lN (z_all st k + z_su (z_bits st k) j))), (0, .ref m)] → W p l e (mRm 2 49 0 0) s mt ([.ref m] : List Value).toArray below meth c H locs 0 0 (MQ below (mQc G s0 (fun v h9 => (v = some (.long (lN (z_all st (st_many st)))) ∧ MdlW G h9 m q (se_now (se_many (se_thr st (nI 0)) (st_many st)) (st_now st)) ∧ mFr h0 h9 m q))) ([.ref m] : List Value).toArray s 0 0 (fun q => s0.heap.size ≤ q)) (F0 mt 20 ls []) := by
          intro fu2
          induction fu2 with
          | zero => intro j hfu _; exact absurd hfu (by omega)
          | succ fu2 ih2 =>
            intro j hfu hj9 H locs hM hS ls hl
            have hj8 : j < z_nb st k → 8 * j < st_n st k := by unfold z_nb; omega
            have hbl := z_bits_le st k j
            refine lv_iload hx hb dX6_allBits_20 (lv_at hl 0 rfl) ?_
            refine lv_aload_n hx hb dX6_allBits_22 rfl (lv_at hl 3 rfl) ?_
            refine lv_iload_n hx hb dX6_allBits_23 rfl (lv_at hl 1 rfl) ?_
            refine m_callV Z C hM hS (As := [.int (nI k)]) (rest := [.int (nI j)]) (c_X6_many Z h m q (se_now (se_many (se_thr st (nI 0)) (st_many st)) (st_now st)) hW k hk (show k < st_many st by omega)) yi_X6_many ml_X6_98 hW.o rfl ⟨Nat.le_of_ble_eq_true rfl, Nat.le_of_ble_eq_true rfl⟩ (Nat.le_of_ble_eq_true rfl) hl.1 rfl rfl dX6_allBits_24 ⟨Nat.le_of_ble_eq_true rfl, Nat.le_of_ble_eq_true rfl⟩ (fun v h9 H locs hv hM hS => ?_)
            obtain ⟨hv, hh9⟩ := hv
            subst hv
            rw [hh9] at hM
            refine W.eq (g2 := F0 mt 27 ls [.int (nI (z_nb st k)), .int (nI j)]) rfl ?_
            refine lv_icmp_ge (tgt := 47) hx hb dX6_allBits_27 (by decide) (fun c_4 => ?_) (fun c_4 => ?_)
            · -- 27 t
              have c_4 : z_nb st k ≤ j := (nI_leI (by omega) (by omega)).mp c_4
              refine lv_iinc (v := nI (k + 1)) (lv' := [(3, .int (nI (k + 1))), (4, .int (nI j)), (1, .long (lN (z_all st k + z_su (z_bits st k) j))), (0, .ref m)]) hx hb dX6_allBits_47 hl (k := 1) rfl (nI_add _ _) (by decide) rfl (fun ls hl => ?_)
              refine lv_goto (tgt := 9) hx hb dX6_allBits_50 (by decide) ?_
              have e_3 : z_all st (k + 1) = z_all st k + z_su (z_bits st k) j := by rw [show j = z_nb st k by omega]; rfl
              rw [← e_3] at hl
              exact ih (k + 1) (by omega) (by omega) H locs hM hS ls (lv_sub hl [0, 2, 3] rfl)
            · -- 27 f
              have c_4 : ¬ z_nb st k ≤ j := fun q => c_4 ((nI_leI (by omega) (by omega)).mpr q)
              refine lv_lload_n hx hb dX6_allBits_30 rfl (lv_at hl 2 rfl) ?_
              refine lv_aload_n hx hb dX6_allBits_31 rfl (lv_at hl 3 rfl) ?_
              refine lv_iload_n hx hb dX6_allBits_32 rfl (lv_at hl 1 rfl) ?_
              refine lv_iload hx hb dX6_allBits_33 (lv_at hl 0 rfl) ?_
              refine m_callV Z C hM hS (As := [.int (nI k), .int (nI j)]) (rest := [.long (lN (z_all st k + z_su (z_bits st k) j))]) (c_X6_bits Z h m q (se_now (se_many (se_thr st (nI 0)) (st_many st)) (st_now st)) hW k j hk (show k < st_many st by omega) (show 8 * j < st_n st k by omega)) yi_X6_bits ml_X6_104 hW.o rfl ⟨Nat.le_of_ble_eq_true rfl, Nat.le_of_ble_eq_true rfl⟩ (Nat.le_of_ble_eq_true rfl) hl.1 rfl rfl dX6_allBits_35 ⟨Nat.le_of_ble_eq_true rfl, Nat.le_of_ble_eq_true rfl⟩ (fun v h9 H locs hv hM hS => ?_)
              obtain ⟨hv, hh9⟩ := hv
              replace hv : v = some (.int (nI (z_bits st k j))) := by rw [hv, z_bits_w (sw := (se_now (se_many (se_thr st (nI 0)) (st_many st)) (st_now st))) (st := st) rfl rfl rfl] <;> rfl
              subst hv
              rw [hh9] at hM
              refine W.eq (g2 := F0 mt 38 ls [.int (nI (z_bits st k j)), .long (lN (z_all st k + z_su (z_bits st k) j))]) rfl ?_
              refine n_i2l hx hb (by omega) dX6_allBits_38 ?_
              refine n_ladd hx hb dX6_allBits_39 ?_
              refine lv_lstore_n (lv' := [(1, .long (lN (z_all st k + z_su (z_bits st k) j + z_bits st k j))), (4, .int (nI j)), (3, .int (nI k)), (0, .ref m)]) hx hb dX6_allBits_40 rfl hl (by decide) rfl (fun ls hl => ?_)
              refine lv_iinc (v := nI (j + 1)) (lv' := [(4, .int (nI (j + 1))), (1, .long (lN (z_all st k + z_su (z_bits st k) j + z_bits st k j))), (3, .int (nI k)), (0, .ref m)]) hx hb dX6_allBits_41 hl (k := 1) rfl (nI_add _ _) (by decide) rfl (fun ls hl => ?_)
              refine lv_goto (tgt := 20) hx hb dX6_allBits_44 (by decide) ?_
              have e_3 : z_all st k + z_su (z_bits st k) (j + 1) = z_all st k + z_su (z_bits st k) j + z_bits st k j := (Nat.add_assoc _ _ _).symm
              rw [← e_3] at hl
              exact ih2 (j + 1) (by omega) (by omega) H locs hM hS ls (lv_sub hl [0, 2, 1, 3] rfl)
        exact lp_3 (z_nb st k + 1) 0 (by omega) (Nat.zero_le _) H locs hM hS ls (lv_sub hl [0, 1, 2, 3] rfl)
  exact lp_1 (st_many st + 1) 0 (by omega) (Nat.zero_le _) H locs hM hS ls (lv_sub hl [0, 1, 2] rfl)
