set_option maxRecDepth 100000 in
set_option maxHeartbeats 4000000 in
theorem c_X6_mean {l : Launch} {G : mG} {a0 : Array Value} {s0 : State} (Z : mZ l G a0 s0) (h0 : Hp) (m : Nat) (q : Nat → Nat) (st : Ms) (hW : MdlW G h0 m q st) (x : Int32) (a : Int64) (d : Int64) (hk : Mok st) : mM l G s0 yX6_mean cX6_mean 7 (some .double) 3 76 0 0 h0 [.ref m, .int x, .long a, .long d] (fun v h9 => (∃ k : Nat, (k < st_many st) ∧ (x = nI k) ∧ (¬ z_bad a d) ∧ (¬ z_ct (z_in st k a d) (st_n st k) = 0) ∧ v = some (.double (FP.ddiv (FP.l2d (z_sm (z_in st k a d) (fun i => (z_v st k i).toInt64) (st_n st k))) (FP.i2d (nI (z_ct (z_in st k a d) (st_n st k)))))) ∧ MdlW G h9 m q (se_now (se_many (se_thr st (nI 0)) (st_many st)) (st_now st)) ∧ mFr h0 h9 m q) ∨ (∃ k : Nat, (k < st_many st) ∧ (x = nI k) ∧ (¬ z_bad a d) ∧ (z_ct (z_in st k a d) (st_n st k) = 0) ∧ v = some (.double 0) ∧ MdlW G h9 m q (se_now (se_many (se_thr st (nI 3)) (st_many st)) (st_now st)) ∧ mFr h0 h9 m q) ∨ (∃ k : Nat, (k < st_many st) ∧ (x = nI k) ∧ (z_bad a d) ∧ v = some (.double 0) ∧ MdlW G h9 m q (se_now (se_many (se_thr st (nI 2)) (st_many st)) (st_now st)) ∧ mFr h0 h9 m q) ∨ ((∀ k : Nat, k < st_many st → x ≠ nI k) ∧ v = some (.double 0) ∧ MdlW G h9 m q (se_now (se_many (se_thr st (nI 1)) (st_many st)) (st_now st)) ∧ mFr h0 h9 m q)) := by
  refine mM_in RX6 "mean" rfl rfl (by decide +kernel) (Nat.le_of_ble_eq_true rfl) ?_
  intro p e s mt below meth c H locs C hM hS ls hl
  have hx := C.1
  have hb := C.2.1
  have hown := C.2.2.2.1
  have hE := C.2.2.2.2.2.2.1
  have hl : lv_has ls 7 [(0, .ref m), (1, .int x), (2, .long a), (4, .long d)] := hl
  have hF : mFr h0 h0 m q := mFr.rf
  obtain ⟨h, hM, hW, hF⟩ : ∃ h9, MW G s0.heap.size h9 H ∧ MdlW G h9 m q st ∧ mFr h0 h9 m q := ⟨_, hM, hW, hF⟩
  have hm := hk.1
  have hnow := hk.2.1
  refine lv_aload_n hx hb dX6_mean_0 rfl (lv_at hl 0 rfl) ?_
  refine lv_iload_n hx hb dX6_mean_1 rfl (lv_at hl 1 rfl) ?_
  refine lv_lload_n hx hb dX6_mean_2 rfl (lv_at hl 2 rfl) ?_
  refine lv_lload hx hb dX6_mean_3 (lv_at hl 3 rfl) ?_
  refine m_callV Z C hM hS (As := [.int x, .long a, .long d]) (rest := []) (c_X6_isRange Z h m q st hW x a d hk) yi_X6_isRange ml_X6_115 hW.o rfl ⟨Nat.le_of_ble_eq_true rfl, Nat.le_of_ble_eq_true rfl⟩ (Nat.le_of_ble_eq_true rfl) hl.1 rfl rfl dX6_mean_5 ⟨Nat.le_of_ble_eq_true rfl, Nat.le_of_ble_eq_true rfl⟩ (fun v h9 H locs hv hM hS => ?_)
  rcases hv with ⟨k_1, f_2, f_3, f_4, hv, hW, hF9⟩ | ⟨k_5, f_6, f_7, f_8, hv, hW, hF9⟩ | ⟨f_9, hv, hW, hF9⟩
  · -- of 5
    subst hv
    have hF := hF.trans hF9
    obtain ⟨h, hM, hW, hF⟩ : ∃ h8, MW G s0.heap.size h8 H ∧ MdlW G h8 m q (se_now (se_many (se_thr st (nI 0)) (st_many st)) (st_now st)) ∧ mFr h0 h8 m q := ⟨_, hM, hW, hF⟩
    subst f_3
    refine W.eq (g2 := F0 mt 8 ls [.int (nI 1)]) rfl ?_
    obtain ⟨hn, hT, hZ, hsi, hbd, hhv⟩ := hk.2.2 k_1 f_2
    refine lv_if_ne (tgt := 13) hx hb dX6_mean_8 (by decide) (fun _ => ?_) (fun q => absurd q (by decide))
    refine lv_aload_n hx hb dX6_mean_13 rfl (lv_at hl 0 rfl) ?_
    refine lv_iload_n hx hb dX6_mean_14 rfl (lv_at hl 1 rfl) ?_
    refine lv_lload_n hx hb dX6_mean_15 rfl (lv_at hl 2 rfl) ?_
    refine lv_lload hx hb dX6_mean_16 (lv_at hl 3 rfl) ?_
    refine m_callV Z C hM hS (As := [.int (nI k_1), .long a, .long d]) (rest := []) (c_X6_counted Z h m q (se_now (se_many (se_thr st (nI 0)) (st_many st)) (st_now st)) hW k_1 a d hk (show k_1 < st_many st by omega)) yi_X6_counted ml_X6_119 hW.o rfl ⟨Nat.le_of_ble_eq_true rfl, Nat.le_of_ble_eq_true rfl⟩ (Nat.le_of_ble_eq_true rfl) hl.1 rfl rfl dX6_mean_18 ⟨Nat.le_of_ble_eq_true rfl, Nat.le_of_ble_eq_true rfl⟩ (fun v h9 H locs hv hM hS => ?_)
    obtain ⟨hv, hh9⟩ := hv
    subst hv
    rw [hh9] at hM
    refine W.eq (g2 := F0 mt 21 ls [.int (nI (z_ct (z_in st k_1 a d) (st_n st k_1)))]) rfl ?_
    have hct : z_ct (z_in st k_1 a d) (st_n st k_1) ≤ 120 := Nat.le_trans (z_ct_le _ _) hn
    refine lv_istore (lv' := [(6, .int (nI (z_ct (z_in st k_1 a d) (st_n st k_1)))), (0, .ref m), (1, .int (nI k_1)), (2, .long a), (4, .long d)]) hx hb dX6_mean_21 hl (by decide) rfl (fun ls hl => ?_)
    refine lv_aload_n hx hb dX6_mean_23 rfl (lv_at hl 1 rfl) ?_
    refine lv_iload hx hb dX6_mean_24 (lv_at hl 0 rfl) ?_
    refine lv_if_ne (tgt := 33) hx hb dX6_mean_26 (by decide) (fun c_11 => ?_) (fun c_11 => ?_)
    · -- 26 t
      have c_11 : ¬ z_ct (z_in st k_1 a d) (st_n st k_1) = 0 := fun q => c_11 ((nI_eq (by omega) (by decide)).mpr q)
      refine lv_iconst (v := nI 0) hx hb dX6_mean_33 (by decide) ?_
      refine m_put Z C hM hS hW.o K_X6 0 (by decide) fl_X6_53 (v := .int (nI 0)) rfl rfl rfl (fs' := mObj q (se_now (se_many (se_thr st (nI 0)) (st_many st)) (st_now st))) rfl (Nat.le_of_ble_eq_true rfl) dX6_mean_34 (fun H locs hM hS => ?_)
      obtain ⟨h, hM, hW, hF⟩ : ∃ h9, MW G s0.heap.size h9 H ∧ MdlW G h9 m q (se_now (se_many (se_thr st (nI 0)) (st_many st)) (st_now st)) ∧ mFr h0 h9 m q := ⟨_, hM, hW.uo (nI 0) (st_many st) (st_now st), hF.o _⟩
      refine lv_aload_n hx hb dX6_mean_37 rfl (lv_at hl 1 rfl) ?_
      refine m_get Z C hM hW.o K_X6 0 (by decide) fl_X6_53 (v := .int (nI 0)) rfl dX6_mean_38 ?_
      refine lv_if_ne (tgt := 60) hx hb dX6_mean_41 (by decide) (fun q => absurd (by decide) q) (fun _ => ?_)
      refine lv_aload_n hx hb dX6_mean_44 rfl (lv_at hl 1 rfl) ?_
      refine lv_iload_n hx hb dX6_mean_45 rfl (lv_at hl 2 rfl) ?_
      refine lv_lload_n hx hb dX6_mean_46 rfl (lv_at hl 3 rfl) ?_
      refine lv_lload hx hb dX6_mean_47 (lv_at hl 4 rfl) ?_
      refine m_callV Z C hM hS (As := [.int (nI k_1), .long a, .long d]) (rest := []) (c_X6_summed Z h m q (se_now (se_many (se_thr st (nI 0)) (st_many st)) (st_now st)) hW k_1 a d hk (show k_1 < st_many st by omega)) yi_X6_summed ml_X6_123 hW.o rfl ⟨Nat.le_of_ble_eq_true rfl, Nat.le_of_ble_eq_true rfl⟩ (Nat.le_of_ble_eq_true rfl) hl.1 rfl rfl dX6_mean_49 ⟨Nat.le_of_ble_eq_true rfl, Nat.le_of_ble_eq_true rfl⟩ (fun v h9 H locs hv hM hS => ?_)
      obtain ⟨hv, hh9⟩ := hv
      subst hv
      rw [hh9] at hM
      refine W.eq (g2 := F0 mt 52 ls [.long (z_sm (z_in st k_1 a d) (fun i => (z_v st k_1 i).toInt64) (st_n st k_1))]) rfl ?_
      refine lv_l2d hx hb dX6_mean_52 ?_
      refine lv_iload hx hb dX6_mean_53 (lv_at hl 0 rfl) ?_
      refine lv_i2d hx hb dX6_mean_55 ?_
      refine lv_ddiv hx hb dX6_mean_56 (d_div_ok _ (by omega) (by omega)) ?_
      refine lv_goto (tgt := 61) hx hb dX6_mean_57 (by decide) ?_
      exact m_dret C hM hS (Nat.le_of_ble_eq_true rfl) (Nat.le_of_ble_eq_true rfl) dX6_mean_61 (Or.inl ⟨k_1, f_2, rfl, f_4, c_11, rfl, hW, hF⟩)
    · -- 26 f
      have c_11 : z_ct (z_in st k_1 a d) (st_n st k_1) = 0 := (nI_eq (by omega) (by decide)).mp c_11
      refine lv_iconst (v := nI 3) hx hb dX6_mean_29 (by decide) ?_
      refine lv_goto (tgt := 34) hx hb dX6_mean_30 (by decide) ?_
      refine m_put Z C hM hS hW.o K_X6 0 (by decide) fl_X6_53 (v := .int (nI 3)) rfl rfl rfl (fs' := mObj q (se_now (se_many (se_thr st (nI 3)) (st_many st)) (st_now st))) rfl (Nat.le_of_ble_eq_true rfl) dX6_mean_34 (fun H locs hM hS => ?_)
      obtain ⟨h, hM, hW, hF⟩ : ∃ h9, MW G s0.heap.size h9 H ∧ MdlW G h9 m q (se_now (se_many (se_thr st (nI 3)) (st_many st)) (st_now st)) ∧ mFr h0 h9 m q := ⟨_, hM, hW.uo (nI 3) (st_many st) (st_now st), hF.o _⟩
      refine lv_aload_n hx hb dX6_mean_37 rfl (lv_at hl 1 rfl) ?_
      refine m_get Z C hM hW.o K_X6 0 (by decide) fl_X6_53 (v := .int (nI 3)) rfl dX6_mean_38 ?_
      refine lv_if_ne (tgt := 60) hx hb dX6_mean_41 (by decide) (fun _ => ?_) (fun q => absurd q (by decide))
      refine lv_dconst0 hx hb dX6_mean_60 ?_
      exact m_dret C hM hS (Nat.le_of_ble_eq_true rfl) (Nat.le_of_ble_eq_true rfl) dX6_mean_61 (Or.inr (Or.inl ⟨k_1, f_2, rfl, f_4, c_11, rfl, hW, hF⟩))
  · -- of 5
    subst hv
    have hF := hF.trans hF9
    obtain ⟨h, hM, hW, hF⟩ : ∃ h8, MW G s0.heap.size h8 H ∧ MdlW G h8 m q (se_now (se_many (se_thr st (nI 2)) (st_many st)) (st_now st)) ∧ mFr h0 h8 m q := ⟨_, hM, hW, hF⟩
    subst f_7
    refine W.eq (g2 := F0 mt 8 ls [.int (nI 0)]) rfl ?_
    refine lv_if_ne (tgt := 13) hx hb dX6_mean_8 (by decide) (fun q => absurd (by decide) q) (fun _ => ?_)
    refine lv_dconst0 hx hb dX6_mean_11 ?_
    exact m_dret C hM hS (Nat.le_of_ble_eq_true rfl) (Nat.le_of_ble_eq_true rfl) dX6_mean_12 (Or.inr (Or.inr (Or.inl ⟨k_5, f_6, rfl, f_8, rfl, hW, hF⟩)))
  · -- of 5
    subst hv
    have hF := hF.trans hF9
    obtain ⟨h, hM, hW, hF⟩ : ∃ h8, MW G s0.heap.size h8 H ∧ MdlW G h8 m q (se_now (se_many (se_thr st (nI 1)) (st_many st)) (st_now st)) ∧ mFr h0 h8 m q := ⟨_, hM, hW, hF⟩
    refine W.eq (g2 := F0 mt 8 ls [.int (nI 0)]) rfl ?_
    refine lv_if_ne (tgt := 13) hx hb dX6_mean_8 (by decide) (fun q => absurd (by decide) q) (fun _ => ?_)
    refine lv_dconst0 hx hb dX6_mean_11 ?_
    exact m_dret C hM hS (Nat.le_of_ble_eq_true rfl) (Nat.le_of_ble_eq_true rfl) dX6_mean_12 (Or.inr (Or.inr (Or.inr ⟨f_9, rfl, hW, hF⟩)))
set_option maxRecDepth 100000 in
set_option maxHeartbeats 4000000 in
theorem c_X6_firingShare {l : Launch} {G : mG} {a0 : Array Value} {s0 : State} (Z : mZ l G a0 s0) (h0 : Hp) (m : Nat) (q : Nat → Nat) (st : Ms) (hW : MdlW G h0 m q st) (hk : Mok st) : mM l G s0 yX6_firingShare cX6_firingShare 2 (some .float) 2 43 0 0 h0 [.ref m] (fun v h9 => ((¬ st_many st = 0) ∧ v = some (.float (FP.fdiv (FP.i2f (nI (z_ct (z_fi st) (st_many st)))) (FP.i2f (nI (st_many st))))) ∧ MdlW G h9 m q (se_now (se_many (se_thr st (nI 0)) (st_many st)) (st_now st)) ∧ mFr h0 h9 m q) ∨ ((st_many st = 0) ∧ v = some (.float 0) ∧ MdlW G h9 m q (se_now (se_many (se_thr st (nI 1)) (st_many st)) (st_now st)) ∧ mFr h0 h9 m q)) := by
  refine mM_in RX6 "firingShare" rfl rfl (by decide +kernel) (Nat.le_of_ble_eq_true rfl) ?_
  intro p e s mt below meth c H locs C hM hS ls hl
  have hx := C.1
  have hb := C.2.1
  have hown := C.2.2.2.1
  have hE := C.2.2.2.2.2.2.1
  have hl : lv_has ls 2 [(0, .ref m)] := hl
  have hF : mFr h0 h0 m q := mFr.rf
  obtain ⟨h, hM, hW, hF⟩ : ∃ h9, MW G s0.heap.size h9 H ∧ MdlW G h9 m q st ∧ mFr h0 h9 m q := ⟨_, hM, hW, hF⟩
  have hm := hk.1
  have hnow := hk.2.1
  refine lv_aload_n hx hb dX6_firingShare_0 rfl (lv_at hl 0 rfl) ?_
  refine m_callV Z C hM hS (As := []) (rest := []) (c_X6_firing Z h m q st hW  hk) yi_X6_firing ml_X6_169 hW.o rfl ⟨Nat.le_of_ble_eq_true rfl, Nat.le_of_ble_eq_true rfl⟩ (Nat.le_of_ble_eq_true rfl) hl.1 rfl rfl dX6_firingShare_1 ⟨Nat.le_of_ble_eq_true rfl, Nat.le_of_ble_eq_true rfl⟩ (fun v h9 H locs hv hM hS => ?_)
  obtain ⟨hv, hW, hF9⟩ := hv
  subst hv
  have hF := hF.trans hF9
  obtain ⟨h, hM, hW, hF⟩ : ∃ h8, MW G s0.heap.size h8 H ∧ MdlW G h8 m q (se_now (se_many (se_thr st (nI 0)) (st_many st)) (st_now st)) ∧ mFr h0 h8 m q := ⟨_, hM, hW, hF⟩
  refine W.eq (g2 := F0 mt 4 ls [.int (nI (z_ct (z_fi st) (st_many st)))]) rfl ?_
  have hct : z_ct (z_fi st) (st_many st) ≤ st_many st := z_ct_le _ _
  refine lv_istore_n (lv' := [(1, .int (nI (z_ct (z_fi st) (st_many st)))), (0, .ref m)]) hx hb dX6_firingShare_4 rfl hl (by decide) rfl (fun ls hl => ?_)
  refine lv_aload_n hx hb dX6_firingShare_5 rfl (lv_at hl 1 rfl) ?_
  refine lv_aload_n hx hb dX6_firingShare_6 rfl (lv_at hl 1 rfl) ?_
  refine m_get Z C hM hW.o K_X6 1 (by decide) fl_X6_57 (v := .int (nI (st_many st))) rfl dX6_firingShare_7 ?_
  refine lv_if_ne (tgt := 17) hx hb dX6_firingShare_10 (by decide) (fun c_1 => ?_) (fun c_1 => ?_)
  · -- 10 t
    have c_1 : ¬ st_many st = 0 := fun q => c_1 ((nI_eq (by omega) (by decide)).mpr q)
    refine lv_iconst (v := nI 0) hx hb dX6_firingShare_17 (by decide) ?_
    refine m_put Z C hM hS hW.o K_X6 0 (by decide) fl_X6_53 (v := .int (nI 0)) rfl rfl rfl (fs' := mObj q (se_now (se_many (se_thr st (nI 0)) (st_many st)) (st_now st))) rfl (Nat.le_of_ble_eq_true rfl) dX6_firingShare_18 (fun H locs hM hS => ?_)
    obtain ⟨h, hM, hW, hF⟩ : ∃ h9, MW G s0.heap.size h9 H ∧ MdlW G h9 m q (se_now (se_many (se_thr st (nI 0)) (st_many st)) (st_now st)) ∧ mFr h0 h9 m q := ⟨_, hM, hW.uo (nI 0) (st_many st) (st_now st), hF.o _⟩
    refine lv_aload_n hx hb dX6_firingShare_21 rfl (lv_at hl 1 rfl) ?_
    refine m_get Z C hM hW.o K_X6 0 (by decide) fl_X6_53 (v := .int (nI 0)) rfl dX6_firingShare_22 ?_
    refine lv_if_ne (tgt := 39) hx hb dX6_firingShare_25 (by decide) (fun q => absurd (by decide) q) (fun _ => ?_)
    refine lv_iload_n hx hb dX6_firingShare_28 rfl (lv_at hl 0 rfl) ?_
    refine lv_i2f hx hb dX6_firingShare_29 ?_
    refine lv_aload_n hx hb dX6_firingShare_30 rfl (lv_at hl 1 rfl) ?_
    refine m_get Z C hM hW.o K_X6 1 (by decide) fl_X6_57 (v := .int (nI (st_many st))) rfl dX6_firingShare_31 ?_
    refine lv_i2f hx hb dX6_firingShare_34 ?_
    refine lv_fdiv hx hb dX6_firingShare_35 ((f_div_ok _ (by omega) _ (by omega) (by omega)).1) ?_
    refine lv_goto (tgt := 40) hx hb dX6_firingShare_36 (by decide) ?_
    exact m_fret C hM hS (Nat.le_of_ble_eq_true rfl) (Nat.le_of_ble_eq_true rfl) dX6_firingShare_40 (Or.inl ⟨c_1, rfl, hW, hF⟩)
  · -- 10 f
    have c_1 : st_many st = 0 := (nI_eq (by omega) (by decide)).mp c_1
    refine lv_iconst (v := nI 1) hx hb dX6_firingShare_13 (by decide) ?_
    refine lv_goto (tgt := 18) hx hb dX6_firingShare_14 (by decide) ?_
    refine m_put Z C hM hS hW.o K_X6 0 (by decide) fl_X6_53 (v := .int (nI 1)) rfl rfl rfl (fs' := mObj q (se_now (se_many (se_thr st (nI 1)) (st_many st)) (st_now st))) rfl (Nat.le_of_ble_eq_true rfl) dX6_firingShare_18 (fun H locs hM hS => ?_)
    obtain ⟨h, hM, hW, hF⟩ : ∃ h9, MW G s0.heap.size h9 H ∧ MdlW G h9 m q (se_now (se_many (se_thr st (nI 1)) (st_many st)) (st_now st)) ∧ mFr h0 h9 m q := ⟨_, hM, hW.uo (nI 1) (st_many st) (st_now st), hF.o _⟩
    refine lv_aload_n hx hb dX6_firingShare_21 rfl (lv_at hl 1 rfl) ?_
    refine m_get Z C hM hW.o K_X6 0 (by decide) fl_X6_53 (v := .int (nI 1)) rfl dX6_firingShare_22 ?_
    refine lv_if_ne (tgt := 39) hx hb dX6_firingShare_25 (by decide) (fun _ => ?_) (fun q => absurd q (by decide))
    refine lv_fconst0 hx hb dX6_firingShare_39 ?_
    exact m_fret C hM hS (Nat.le_of_ble_eq_true rfl) (Nat.le_of_ble_eq_true rfl) dX6_firingShare_40 (Or.inr ⟨c_1, rfl, hW, hF⟩)
