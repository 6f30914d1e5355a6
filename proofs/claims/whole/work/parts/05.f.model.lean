set_option maxRecDepth 100000 in
set_option maxHeartbeats 4000000 in
theorem c_X6_isSample {l : Launch} {G : mG} {a0 : Array Value} {s0 : State} (Z : mZ l G a0 s0) (h0 : Hp) (m : Nat) (q : Nat → Nat) (st : Ms) (hW : MdlW G h0 m q st) (x : Int32) (y : Int32) (hk : Mok st) : mM l G s0 yX6_isSample cX6_isSample 3 (some .boolean) 2 43 0 0 h0 [.ref m, .int x, .int y] (fun v h9 => (∃ k : Nat, ∃ j : Nat, (k < st_many st) ∧ (x = nI k) ∧ (j < st_n st k) ∧ (y = nI j) ∧ v = some (.int (nI 1)) ∧ MdlW G h9 m q (se_now (se_many (se_thr st (nI 0)) (st_many st)) (st_now st)) ∧ mFr h0 h9 m q) ∨ (∃ k : Nat, (k < st_many st) ∧ (x = nI k) ∧ (∀ j : Nat, j < st_n st k → y ≠ nI j) ∧ v = some (.int (nI 0)) ∧ MdlW G h9 m q (se_now (se_many (se_thr st (nI 2)) (st_many st)) (st_now st)) ∧ mFr h0 h9 m q) ∨ ((∀ k : Nat, k < st_many st → x ≠ nI k) ∧ v = some (.int (nI 0)) ∧ MdlW G h9 m q (se_now (se_many (se_thr st (nI 1)) (st_many st)) (st_now st)) ∧ mFr h0 h9 m q)) := by
  refine mM_in RX6 "isSample" rfl rfl (by decide +kernel) (Nat.le_of_ble_eq_true rfl) ?_
  intro p e s mt below meth c H locs C hM hS ls hl
  have hx := C.1
  have hb := C.2.1
  have hown := C.2.2.2.1
  have hE := C.2.2.2.2.2.2.1
  have hl : lv_has ls 3 [(0, .ref m), (1, .int x), (2, .int y)] := hl
  have hF : mFr h0 h0 m q := mFr.rf
  obtain ⟨h, hM, hW, hF⟩ : ∃ h9, MW G s0.heap.size h9 H ∧ MdlW G h9 m q st ∧ mFr h0 h9 m q := ⟨_, hM, hW, hF⟩
  have hm := hk.1
  have hnow := hk.2.1
  refine lv_aload_n hx hb dX6_isSample_0 rfl (lv_at hl 0 rfl) ?_
  refine lv_iload_n hx hb dX6_isSample_1 rfl (lv_at hl 1 rfl) ?_
  refine m_callV Z C hM hS (As := [.int x]) (rest := []) (c_X6_looks Z h m q st hW x (show st_many st ≤ 10 by omega)) yi_X6_looks ml_X6_83 hW.o rfl ⟨Nat.le_of_ble_eq_true rfl, Nat.le_of_ble_eq_true rfl⟩ (Nat.le_of_ble_eq_true rfl) hl.1 rfl rfl dX6_isSample_2 ⟨Nat.le_of_ble_eq_true rfl, Nat.le_of_ble_eq_true rfl⟩ (fun v h9 H locs hv hM hS => ?_)
  rcases hv with ⟨k_1, f_2, f_3, hv, hW, hF9⟩ | ⟨f_4, hv, hW, hF9⟩
  · -- of 2
    subst hv
    have hF := hF.trans hF9
    obtain ⟨h, hM, hW, hF⟩ : ∃ h8, MW G s0.heap.size h8 H ∧ MdlW G h8 m q (se_now (se_many (se_thr st (nI 0)) (st_many st)) (st_now st)) ∧ mFr h0 h8 m q := ⟨_, hM, hW, hF⟩
    subst f_3
    refine W.eq (g2 := F0 mt 5 ls [.int (nI 1)]) rfl ?_
    obtain ⟨hn, hT, hZ, hsi, hbd, hhv⟩ := hk.2.2 k_1 f_2
    refine lv_if_eq (tgt := 29) hx hb dX6_isSample_5 (by decide) (fun q => absurd q (by decide)) (fun _ => ?_)
    refine lv_iload_n hx hb dX6_isSample_8 rfl (lv_at hl 2 rfl) ?_
    refine lv_iconst (v := nI 0) hx hb dX6_isSample_9 (by decide) ?_
    refine lv_aload_n hx hb dX6_isSample_10 rfl (lv_at hl 0 rfl) ?_
    refine m_get Z C hM hW.o K_X6 5 (by decide) fl_X6_16 (v := .ref (q 5)) rfl dX6_isSample_11 ?_
    refine lv_iload_n hx hb dX6_isSample_14 rfl (lv_at hl 1 rfl) ?_
    refine m_iald Z C hM (f := fun k => nI ((st_n st) k)) hW.a5 k_1 rfl (by omega) (by decide) dX6_isSample_15 ?_
    refine lv_iconst (v := nI 1) hx hb dX6_isSample_16 (by decide) ?_
    refine lv_isub hx hb dX6_isSample_17 ?_
    refine m_callS Z C hM hS (As := [.int y, .int (nI 0), .int (nI ((st_n st) k_1) - nI 1)]) (rest := []) (c_X6_isIn Z h y (nI 0) (nI ((st_n st) k_1) - nI 1)) yi_X6_isIn ml_X6_60 ⟨Nat.le_of_ble_eq_true rfl, Nat.le_of_ble_eq_true rfl⟩ (Nat.le_of_ble_eq_true rfl) hl.1 rfl rfl dX6_isSample_18 ⟨Nat.le_of_ble_eq_true rfl, Nat.le_of_ble_eq_true rfl⟩ (fun v h9 H locs hv hM hS => ?_)
    obtain ⟨hv, hh9⟩ := hv
    rcases Decidable.em ((nI 0) ≤ y ∧ y ≤ (nI ((st_n st) k_1) - nI 1)) with g_6 | g_6
    · -- of 18: True
      rw [b2_t g_6] at hv
      subst hv
      rw [hh9] at hM
      refine W.eq (g2 := F0 mt 21 ls [.int (nI 1)]) rfl ?_
      obtain ⟨j9, hj1, hj2⟩ := (isIn_g (by omega) _).mp g_6
      subst hj2
      refine lv_if_ne (tgt := 29) hx hb dX6_isSample_21 (by decide) (fun _ => ?_) (fun q => absurd q (by decide))
      refine lv_aload_n hx hb dX6_isSample_29 rfl (lv_at hl 0 rfl) ?_
      refine m_get Z C hM hW.o K_X6 0 (by decide) fl_X6_53 (v := .int (nI 0)) rfl dX6_isSample_30 ?_
      refine lv_if_ne (tgt := 40) hx hb dX6_isSample_33 (by decide) (fun q => absurd (by decide) q) (fun _ => ?_)
      refine lv_iconst (v := nI 1) hx hb dX6_isSample_36 (by decide) ?_
      refine lv_goto (tgt := 41) hx hb dX6_isSample_37 (by decide) ?_
      exact m_zret C hM hS (Nat.le_of_ble_eq_true rfl) (Nat.le_of_ble_eq_true rfl) rfl dX6_isSample_41 (Or.inl ⟨k_1, j9, f_2, rfl, hj1, rfl, rfl, hW, hF⟩)
    · -- of 18: False
      rw [b2_f g_6] at hv
      subst hv
      rw [hh9] at hM
      refine W.eq (g2 := F0 mt 21 ls [.int (nI 0)]) rfl ?_
      refine lv_if_ne (tgt := 29) hx hb dX6_isSample_21 (by decide) (fun q => absurd (by decide) q) (fun _ => ?_)
      refine lv_aload_n hx hb dX6_isSample_24 rfl (lv_at hl 0 rfl) ?_
      refine lv_iconst (v := nI 2) hx hb dX6_isSample_25 (by decide) ?_
      refine m_put Z C hM hS hW.o K_X6 0 (by decide) fl_X6_53 (v := .int (nI 2)) rfl rfl rfl (fs' := mObj q (se_now (se_many (se_thr (se_now (se_many (se_thr st (nI 0)) (st_many st)) (st_now st)) (nI 2)) (st_many st)) (st_now st))) rfl (Nat.le_of_ble_eq_true rfl) dX6_isSample_26 (fun H locs hM hS => ?_)
      obtain ⟨h, hM, hW, hF⟩ : ∃ h9, MW G s0.heap.size h9 H ∧ MdlW G h9 m q (se_now (se_many (se_thr (se_now (se_many (se_thr st (nI 0)) (st_many st)) (st_now st)) (nI 2)) (st_many st)) (st_now st)) ∧ mFr h0 h9 m q := ⟨_, hM, hW.uo (nI 2) (st_many st) (st_now st), hF.o _⟩
      refine lv_aload_n hx hb dX6_isSample_29 rfl (lv_at hl 0 rfl) ?_
      refine m_get Z C hM hW.o K_X6 0 (by decide) fl_X6_53 (v := .int (nI 2)) rfl dX6_isSample_30 ?_
      refine lv_if_ne (tgt := 40) hx hb dX6_isSample_33 (by decide) (fun _ => ?_) (fun q => absurd q (by decide))
      refine lv_iconst (v := nI 0) hx hb dX6_isSample_40 (by decide) ?_
      exact m_zret C hM hS (Nat.le_of_ble_eq_true rfl) (Nat.le_of_ble_eq_true rfl) rfl dX6_isSample_41 (Or.inr (Or.inl ⟨k_1, f_2, rfl, (fun j h1 h2 => g_6 ((isIn_g (by omega) _).mpr ⟨j, h1, h2⟩)), rfl, hW, hF⟩))
  · -- of 2
    subst hv
    have hF := hF.trans hF9
    obtain ⟨h, hM, hW, hF⟩ : ∃ h8, MW G s0.heap.size h8 H ∧ MdlW G h8 m q (se_now (se_many (se_thr st (nI 1)) (st_many st)) (st_now st)) ∧ mFr h0 h8 m q := ⟨_, hM, hW, hF⟩
    refine W.eq (g2 := F0 mt 5 ls [.int (nI 0)]) rfl ?_
    refine lv_if_eq (tgt := 29) hx hb dX6_isSample_5 (by decide) (fun _ => ?_) (fun q => absurd (by decide) q)
    refine lv_aload_n hx hb dX6_isSample_29 rfl (lv_at hl 0 rfl) ?_
    refine m_get Z C hM hW.o K_X6 0 (by decide) fl_X6_53 (v := .int (nI 1)) rfl dX6_isSample_30 ?_
    refine lv_if_ne (tgt := 40) hx hb dX6_isSample_33 (by decide) (fun _ => ?_) (fun q => absurd q (by decide))
    refine lv_iconst (v := nI 0) hx hb dX6_isSample_40 (by decide) ?_
    exact m_zret C hM hS (Nat.le_of_ble_eq_true rfl) (Nat.le_of_ble_eq_true rfl) rfl dX6_isSample_41 (Or.inr (Or.inr ⟨f_4, rfl, hW, hF⟩))
set_option maxRecDepth 100000 in
set_option maxHeartbeats 4000000 in
theorem c_X6_isRange {l : Launch} {G : mG} {a0 : Array Value} {s0 : State} (Z : mZ l G a0 s0) (h0 : Hp) (m : Nat) (q : Nat → Nat) (st : Ms) (hW : MdlW G h0 m q st) (x : Int32) (a : Int64) (d : Int64) (hk : Mok st) : mM l G s0 yX6_isRange cX6_isRange 6 (some .boolean) 2 43 0 0 h0 [.ref m, .int x, .long a, .long d] (fun v h9 => (∃ k : Nat, (k < st_many st) ∧ (x = nI k) ∧ (¬ z_bad a d) ∧ v = some (.int (nI 1)) ∧ MdlW G h9 m q (se_now (se_many (se_thr st (nI 0)) (st_many st)) (st_now st)) ∧ mFr h0 h9 m q) ∨ (∃ k : Nat, (k < st_many st) ∧ (x = nI k) ∧ (z_bad a d) ∧ v = some (.int (nI 0)) ∧ MdlW G h9 m q (se_now (se_many (se_thr st (nI 2)) (st_many st)) (st_now st)) ∧ mFr h0 h9 m q) ∨ ((∀ k : Nat, k < st_many st → x ≠ nI k) ∧ v = some (.int (nI 0)) ∧ MdlW G h9 m q (se_now (se_many (se_thr st (nI 1)) (st_many st)) (st_now st)) ∧ mFr h0 h9 m q)) := by
  refine mM_in RX6 "isRange" rfl rfl (by decide +kernel) (Nat.le_of_ble_eq_true rfl) ?_
  intro p e s mt below meth c H locs C hM hS ls hl
  have hx := C.1
  have hb := C.2.1
  have hown := C.2.2.2.1
  have hE := C.2.2.2.2.2.2.1
  have hl : lv_has ls 6 [(0, .ref m), (1, .int x), (2, .long a), (4, .long d)] := hl
  have hF : mFr h0 h0 m q := mFr.rf
  obtain ⟨h, hM, hW, hF⟩ : ∃ h9, MW G s0.heap.size h9 H ∧ MdlW G h9 m q st ∧ mFr h0 h9 m q := ⟨_, hM, hW, hF⟩
  have hm := hk.1
  have hnow := hk.2.1
  refine lv_aload_n hx hb dX6_isRange_0 rfl (lv_at hl 0 rfl) ?_
  refine lv_iload_n hx hb dX6_isRange_1 rfl (lv_at hl 1 rfl) ?_
  refine m_callV Z C hM hS (As := [.int x]) (rest := []) (c_X6_looks Z h m q st hW x (show st_many st ≤ 10 by omega)) yi_X6_looks ml_X6_83 hW.o rfl ⟨Nat.le_of_ble_eq_true rfl, Nat.le_of_ble_eq_true rfl⟩ (Nat.le_of_ble_eq_true rfl) hl.1 rfl rfl dX6_isRange_2 ⟨Nat.le_of_ble_eq_true rfl, Nat.le_of_ble_eq_true rfl⟩ (fun v h9 H locs hv hM hS => ?_)
  rcases hv with ⟨k_1, f_2, f_3, hv, hW, hF9⟩ | ⟨f_4, hv, hW, hF9⟩
  · -- of 2
    subst hv
    have hF := hF.trans hF9
    obtain ⟨h, hM, hW, hF⟩ : ∃ h8, MW G s0.heap.size h8 H ∧ MdlW G h8 m q (se_now (se_many (se_thr st (nI 0)) (st_many st)) (st_now st)) ∧ mFr h0 h8 m q := ⟨_, hM, hW, hF⟩
    subst f_3
    refine W.eq (g2 := F0 mt 5 ls [.int (nI 1)]) rfl ?_
    obtain ⟨hn, hT, hZ, hsi, hbd, hhv⟩ := hk.2.2 k_1 f_2
    refine lv_if_eq (tgt := 26) hx hb dX6_isRange_5 (by decide) (fun q => absurd q (by decide)) (fun _ => ?_)
    refine lv_lload_n hx hb dX6_isRange_8 rfl (lv_at hl 2 rfl) ?_
    refine lv_lconst (v := lN 0) hx hb dX6_isRange_9 (by decide) ?_
    refine W.lcmp hx hb dX6_isRange_10 ?_
    refine n_lc_lt (tgt := 21) hx hb dX6_isRange_11 (by decide) (fun c_6 => ?_) (fun c_6 => ?_)
    · -- 11 t
      refine lv_aload_n hx hb dX6_isRange_21 rfl (lv_at hl 0 rfl) ?_
      refine lv_iconst (v := nI 2) hx hb dX6_isRange_22 (by decide) ?_
      refine m_put Z C hM hS hW.o K_X6 0 (by decide) fl_X6_53 (v := .int (nI 2)) rfl rfl rfl (fs' := mObj q (se_now (se_many (se_thr (se_now (se_many (se_thr st (nI 0)) (st_many st)) (st_now st)) (nI 2)) (st_many st)) (st_now st))) rfl (Nat.le_of_ble_eq_true rfl) dX6_isRange_23 (fun H locs hM hS => ?_)
      obtain ⟨h, hM, hW, hF⟩ : ∃ h9, MW G s0.heap.size h9 H ∧ MdlW G h9 m q (se_now (se_many (se_thr (se_now (se_many (se_thr st (nI 0)) (st_many st)) (st_now st)) (nI 2)) (st_many st)) (st_now st)) ∧ mFr h0 h9 m q := ⟨_, hM, hW.uo (nI 2) (st_many st) (st_now st), hF.o _⟩
      refine lv_aload_n hx hb dX6_isRange_26 rfl (lv_at hl 0 rfl) ?_
      refine m_get Z C hM hW.o K_X6 0 (by decide) fl_X6_53 (v := .int (nI 2)) rfl dX6_isRange_27 ?_
      refine lv_if_ne (tgt := 37) hx hb dX6_isRange_30 (by decide) (fun _ => ?_) (fun q => absurd q (by decide))
      refine lv_iconst (v := nI 0) hx hb dX6_isRange_37 (by decide) ?_
      exact m_zret C hM hS (Nat.le_of_ble_eq_true rfl) (Nat.le_of_ble_eq_true rfl) rfl dX6_isRange_38 (Or.inr (Or.inl ⟨k_1, f_2, rfl, (Or.inl c_6), rfl, hW, hF⟩))
    · -- 11 f
      refine lv_lload_n hx hb dX6_isRange_14 rfl (lv_at hl 2 rfl) ?_
      refine lv_lload hx hb dX6_isRange_15 (lv_at hl 3 rfl) ?_
      refine W.lcmp hx hb dX6_isRange_17 ?_
      refine n_lc_le (tgt := 26) hx hb dX6_isRange_18 (by decide) (fun c_8 => ?_) (fun c_8 => ?_)
      · -- 18 t
        refine lv_aload_n hx hb dX6_isRange_26 rfl (lv_at hl 0 rfl) ?_
        refine m_get Z C hM hW.o K_X6 0 (by decide) fl_X6_53 (v := .int (nI 0)) rfl dX6_isRange_27 ?_
        refine lv_if_ne (tgt := 37) hx hb dX6_isRange_30 (by decide) (fun q => absurd (by decide) q) (fun _ => ?_)
        refine lv_iconst (v := nI 1) hx hb dX6_isRange_33 (by decide) ?_
        refine lv_goto (tgt := 38) hx hb dX6_isRange_34 (by decide) ?_
        exact m_zret C hM hS (Nat.le_of_ble_eq_true rfl) (Nat.le_of_ble_eq_true rfl) rfl dX6_isRange_38 (Or.inl ⟨k_1, f_2, rfl, (fun q => q.elim (fun z => c_6 z) (fun z => l_len c_8 z)), rfl, hW, hF⟩)
      · -- 18 f
        refine lv_aload_n hx hb dX6_isRange_21 rfl (lv_at hl 0 rfl) ?_
        refine lv_iconst (v := nI 2) hx hb dX6_isRange_22 (by decide) ?_
        refine m_put Z C hM hS hW.o K_X6 0 (by decide) fl_X6_53 (v := .int (nI 2)) rfl rfl rfl (fs' := mObj q (se_now (se_many (se_thr (se_now (se_many (se_thr st (nI 0)) (st_many st)) (st_now st)) (nI 2)) (st_many st)) (st_now st))) rfl (Nat.le_of_ble_eq_true rfl) dX6_isRange_23 (fun H locs hM hS => ?_)
        obtain ⟨h, hM, hW, hF⟩ : ∃ h9, MW G s0.heap.size h9 H ∧ MdlW G h9 m q (se_now (se_many (se_thr (se_now (se_many (se_thr st (nI 0)) (st_many st)) (st_now st)) (nI 2)) (st_many st)) (st_now st)) ∧ mFr h0 h9 m q := ⟨_, hM, hW.uo (nI 2) (st_many st) (st_now st), hF.o _⟩
        refine lv_aload_n hx hb dX6_isRange_26 rfl (lv_at hl 0 rfl) ?_
        refine m_get Z C hM hW.o K_X6 0 (by decide) fl_X6_53 (v := .int (nI 2)) rfl dX6_isRange_27 ?_
        refine lv_if_ne (tgt := 37) hx hb dX6_isRange_30 (by decide) (fun _ => ?_) (fun q => absurd q (by decide))
        refine lv_iconst (v := nI 0) hx hb dX6_isRange_37 (by decide) ?_
        exact m_zret C hM hS (Nat.le_of_ble_eq_true rfl) (Nat.le_of_ble_eq_true rfl) rfl dX6_isRange_38 (Or.inr (Or.inl ⟨k_1, f_2, rfl, (Or.inr (l_nle c_8)), rfl, hW, hF⟩))
  · -- of 2
    subst hv
    have hF := hF.trans hF9
    obtain ⟨h, hM, hW, hF⟩ : ∃ h8, MW G s0.heap.size h8 H ∧ MdlW G h8 m q (se_now (se_many (se_thr st (nI 1)) (st_many st)) (st_now st)) ∧ mFr h0 h8 m q := ⟨_, hM, hW, hF⟩
    refine W.eq (g2 := F0 mt 5 ls [.int (nI 0)]) rfl ?_
    refine lv_if_eq (tgt := 26) hx hb dX6_isRange_5 (by decide) (fun _ => ?_) (fun q => absurd (by decide) q)
    refine lv_aload_n hx hb dX6_isRange_26 rfl (lv_at hl 0 rfl) ?_
    refine m_get Z C hM hW.o K_X6 0 (by decide) fl_X6_53 (v := .int (nI 1)) rfl dX6_isRange_27 ?_
    refine lv_if_ne (tgt := 37) hx hb dX6_isRange_30 (by decide) (fun _ => ?_) (fun q => absurd q (by decide))
    refine lv_iconst (v := nI 0) hx hb dX6_isRange_37 (by decide) ?_
    exact m_zret C hM hS (Nat.le_of_ble_eq_true rfl) (Nat.le_of_ble_eq_true rfl) rfl dX6_isRange_38 (Or.inr (Or.inr ⟨f_4, rfl, hW, hF⟩))
set_option maxRecDepth 100000 in
set_option maxHeartbeats 4000000 in
theorem c_X6_isPart {l : Launch} {G : mG} {a0 : Array Value} {s0 : State} (Z : mZ l G a0 s0) (h0 : Hp) (m : Nat) (q : Nat → Nat) (st : Ms) (hW : MdlW G h0 m q st) (x : Int32) (y : Int32) (hk : Mok st) : mM l G s0 yX6_isPart cX6_isPart 3 (some .boolean) 2 43 0 0 h0 [.ref m, .int x, .int y] (fun v h9 => (∃ k : Nat, ∃ d : Nat, (k < st_many st) ∧ (x = nI k) ∧ (1 ≤ d ∧ d ≤ 100) ∧ (y = nI d) ∧ (0 < st_n st k) ∧ v = some (.int (nI 1)) ∧ MdlW G h9 m q (se_now (se_many (se_thr st (nI 0)) (st_many st)) (st_now st)) ∧ mFr h0 h9 m q) ∨ (∃ k : Nat, (k < st_many st) ∧ (x = nI k) ∧ (∀ d : Nat, 1 ≤ d → d ≤ 100 → y ≠ nI d) ∧ v = some (.int (nI 0)) ∧ MdlW G h9 m q (se_now (se_many (se_thr st (nI 2)) (st_many st)) (st_now st)) ∧ mFr h0 h9 m q) ∨ (∃ k : Nat, (k < st_many st) ∧ (x = nI k) ∧ (∃ d : Nat, (1 ≤ d ∧ d ≤ 100) ∧ y = nI d) ∧ (st_n st k = 0) ∧ v = some (.int (nI 0)) ∧ MdlW G h9 m q (se_now (se_many (se_thr st (nI 3)) (st_many st)) (st_now st)) ∧ mFr h0 h9 m q) ∨ ((∀ k : Nat, k < st_many st → x ≠ nI k) ∧ v = some (.int (nI 0)) ∧ MdlW G h9 m q (se_now (se_many (se_thr st (nI 1)) (st_many st)) (st_now st)) ∧ mFr h0 h9 m q)) := by
  refine mM_in RX6 "isPart" rfl rfl (by decide +kernel) (Nat.le_of_ble_eq_true rfl) ?_
  intro p e s mt below meth c H locs C hM hS ls hl
  have hx := C.1
  have hb := C.2.1
  have hown := C.2.2.2.1
  have hE := C.2.2.2.2.2.2.1
  have hl : lv_has ls 3 [(0, .ref m), (1, .int x), (2, .int y)] := hl
  have hF : mFr h0 h0 m q := mFr.rf
  obtain ⟨h, hM, hW, hF⟩ : ∃ h9, MW G s0.heap.size h9 H ∧ MdlW G h9 m q st ∧ mFr h0 h9 m q := ⟨_, hM, hW, hF⟩
  have hm := hk.1
  have hnow := hk.2.1
  refine lv_aload_n hx hb dX6_isPart_0 rfl (lv_at hl 0 rfl) ?_
  refine lv_iload_n hx hb dX6_isPart_1 rfl (lv_at hl 1 rfl) ?_
  refine m_callV Z C hM hS (As := [.int x]) (rest := []) (c_X6_looks Z h m q st hW x (show st_many st ≤ 10 by omega)) yi_X6_looks ml_X6_83 hW.o rfl ⟨Nat.le_of_ble_eq_true rfl, Nat.le_of_ble_eq_true rfl⟩ (Nat.le_of_ble_eq_true rfl) hl.1 rfl rfl dX6_isPart_2 ⟨Nat.le_of_ble_eq_true rfl, Nat.le_of_ble_eq_true rfl⟩ (fun v h9 H locs hv hM hS => ?_)
  rcases hv with ⟨k_1, f_2, f_3, hv, hW, hF9⟩ | ⟨f_4, hv, hW, hF9⟩
  · -- of 2
    subst hv
    have hF := hF.trans hF9
    obtain ⟨h, hM, hW, hF⟩ : ∃ h8, MW G s0.heap.size h8 H ∧ MdlW G h8 m q (se_now (se_many (se_thr st (nI 0)) (st_many st)) (st_now st)) ∧ mFr h0 h8 m q := ⟨_, hM, hW, hF⟩
    subst f_3
    refine W.eq (g2 := F0 mt 5 ls [.int (nI 1)]) rfl ?_
    obtain ⟨hn, hT, hZ, hsi, hbd, hhv⟩ := hk.2.2 k_1 f_2
    refine lv_if_eq (tgt := 40) hx hb dX6_isPart_5 (by decide) (fun q => absurd q (by decide)) (fun _ => ?_)
    refine lv_aload_n hx hb dX6_isPart_8 rfl (lv_at hl 0 rfl) ?_
    refine lv_iload_n hx hb dX6_isPart_9 rfl (lv_at hl 2 rfl) ?_
    refine lv_iconst (v := nI 1) hx hb dX6_isPart_10 (by decide) ?_
    refine lv_bipush (v := nI 100) hx hb dX6_isPart_11 (by decide) ?_
    refine m_callS Z C hM hS (As := [.int y, .int (nI 1), .int (nI 100)]) (rest := [.ref m]) (c_X6_isIn Z h y (nI 1) (nI 100)) yi_X6_isIn ml_X6_60 ⟨Nat.le_of_ble_eq_true rfl, Nat.le_of_ble_eq_true rfl⟩ (Nat.le_of_ble_eq_true rfl) hl.1 rfl rfl dX6_isPart_13 ⟨Nat.le_of_ble_eq_true rfl, Nat.le_of_ble_eq_true rfl⟩ (fun v h9 H locs hv hM hS => ?_)
    obtain ⟨hv, hh9⟩ := hv
    rcases Decidable.em ((nI 1) ≤ y ∧ y ≤ (nI 100)) with g_6 | g_6
    · -- of 13: True
      rw [b2_t g_6] at hv
      subst hv
      rw [hh9] at hM
      refine W.eq (g2 := F0 mt 16 ls [.int (nI 1), .ref m]) rfl ?_
      obtain ⟨d9, hd1, hd2, hd3⟩ := (isIn_b (by decide) (by decide) _).mp g_6
      subst hd3
      refine lv_if_ne (tgt := 23) hx hb dX6_isPart_16 (by decide) (fun _ => ?_) (fun q => absurd q (by decide))
      refine lv_aload_n hx hb dX6_isPart_23 rfl (lv_at hl 0 rfl) ?_
      refine m_get Z C hM hW.o K_X6 5 (by decide) fl_X6_16 (v := .ref (q 5)) rfl dX6_isPart_24 ?_
      refine lv_iload_n hx hb dX6_isPart_27 rfl (lv_at hl 1 rfl) ?_
      refine m_iald Z C hM (f := fun k => nI ((st_n st) k)) hW.a5 k_1 rfl (by omega) (by decide) dX6_isPart_28 ?_
      refine lv_if_ne (tgt := 36) hx hb dX6_isPart_29 (by decide) (fun c_8 => ?_) (fun c_8 => ?_)
      · -- 29 t
        have c_8 : ¬ (st_n st) k_1 = 0 := fun q => c_8 ((nI_eq (by omega) (by decide)).mpr q)
        refine lv_iconst (v := nI 0) hx hb dX6_isPart_36 (by decide) ?_
        refine m_put Z C hM hS hW.o K_X6 0 (by decide) fl_X6_53 (v := .int (nI 0)) rfl rfl rfl (fs' := mObj q (se_now (se_many (se_thr (se_now (se_many (se_thr st (nI 0)) (st_many st)) (st_now st)) (nI 0)) (st_many st)) (st_now st))) rfl (Nat.le_of_ble_eq_true rfl) dX6_isPart_37 (fun H locs hM hS => ?_)
        obtain ⟨h, hM, hW, hF⟩ : ∃ h9, MW G s0.heap.size h9 H ∧ MdlW G h9 m q (se_now (se_many (se_thr (se_now (se_many (se_thr st (nI 0)) (st_many st)) (st_now st)) (nI 0)) (st_many st)) (st_now st)) ∧ mFr h0 h9 m q := ⟨_, hM, hW.uo (nI 0) (st_many st) (st_now st), hF.o _⟩
        refine lv_aload_n hx hb dX6_isPart_40 rfl (lv_at hl 0 rfl) ?_
        refine m_get Z C hM hW.o K_X6 0 (by decide) fl_X6_53 (v := .int (nI 0)) rfl dX6_isPart_41 ?_
        refine lv_if_ne (tgt := 51) hx hb dX6_isPart_44 (by decide) (fun q => absurd (by decide) q) (fun _ => ?_)
        refine lv_iconst (v := nI 1) hx hb dX6_isPart_47 (by decide) ?_
        refine lv_goto (tgt := 52) hx hb dX6_isPart_48 (by decide) ?_
        exact m_zret C hM hS (Nat.le_of_ble_eq_true rfl) (Nat.le_of_ble_eq_true rfl) rfl dX6_isPart_52 (Or.inl ⟨k_1, d9, f_2, rfl, ⟨hd1, hd2⟩, rfl, (by omega), rfl, hW, hF⟩)
      · -- 29 f
        have c_8 : (st_n st) k_1 = 0 := (nI_eq (by omega) (by decide)).mp c_8
        refine lv_iconst (v := nI 3) hx hb dX6_isPart_32 (by decide) ?_
        refine lv_goto (tgt := 37) hx hb dX6_isPart_33 (by decide) ?_
        refine m_put Z C hM hS hW.o K_X6 0 (by decide) fl_X6_53 (v := .int (nI 3)) rfl rfl rfl (fs' := mObj q (se_now (se_many (se_thr (se_now (se_many (se_thr st (nI 0)) (st_many st)) (st_now st)) (nI 3)) (st_many st)) (st_now st))) rfl (Nat.le_of_ble_eq_true rfl) dX6_isPart_37 (fun H locs hM hS => ?_)
        obtain ⟨h, hM, hW, hF⟩ : ∃ h9, MW G s0.heap.size h9 H ∧ MdlW G h9 m q (se_now (se_many (se_thr (se_now (se_many (se_thr st (nI 0)) (st_many st)) (st_now st)) (nI 3)) (st_many st)) (st_now st)) ∧ mFr h0 h9 m q := ⟨_, hM, hW.uo (nI 3) (st_many st) (st_now st), hF.o _⟩
        refine lv_aload_n hx hb dX6_isPart_40 rfl (lv_at hl 0 rfl) ?_
        refine m_get Z C hM hW.o K_X6 0 (by decide) fl_X6_53 (v := .int (nI 3)) rfl dX6_isPart_41 ?_
        refine lv_if_ne (tgt := 51) hx hb dX6_isPart_44 (by decide) (fun _ => ?_) (fun q => absurd q (by decide))
        refine lv_iconst (v := nI 0) hx hb dX6_isPart_51 (by decide) ?_
        exact m_zret C hM hS (Nat.le_of_ble_eq_true rfl) (Nat.le_of_ble_eq_true rfl) rfl dX6_isPart_52 (Or.inr (Or.inr (Or.inl ⟨k_1, f_2, rfl, ⟨d9, ⟨hd1, hd2⟩, rfl⟩, (by omega), rfl, hW, hF⟩)))
    · -- of 13: False
      rw [b2_f g_6] at hv
      subst hv
      rw [hh9] at hM
      refine W.eq (g2 := F0 mt 16 ls [.int (nI 0), .ref m]) rfl ?_
      refine lv_if_ne (tgt := 23) hx hb dX6_isPart_16 (by decide) (fun q => absurd (by decide) q) (fun _ => ?_)
      refine lv_iconst (v := nI 2) hx hb dX6_isPart_19 (by decide) ?_
      refine lv_goto (tgt := 37) hx hb dX6_isPart_20 (by decide) ?_
      refine m_put Z C hM hS hW.o K_X6 0 (by decide) fl_X6_53 (v := .int (nI 2)) rfl rfl rfl (fs' := mObj q (se_now (se_many (se_thr (se_now (se_many (se_thr st (nI 0)) (st_many st)) (st_now st)) (nI 2)) (st_many st)) (st_now st))) rfl (Nat.le_of_ble_eq_true rfl) dX6_isPart_37 (fun H locs hM hS => ?_)
      obtain ⟨h, hM, hW, hF⟩ : ∃ h9, MW G s0.heap.size h9 H ∧ MdlW G h9 m q (se_now (se_many (se_thr (se_now (se_many (se_thr st (nI 0)) (st_many st)) (st_now st)) (nI 2)) (st_many st)) (st_now st)) ∧ mFr h0 h9 m q := ⟨_, hM, hW.uo (nI 2) (st_many st) (st_now st), hF.o _⟩
      refine lv_aload_n hx hb dX6_isPart_40 rfl (lv_at hl 0 rfl) ?_
      refine m_get Z C hM hW.o K_X6 0 (by decide) fl_X6_53 (v := .int (nI 2)) rfl dX6_isPart_41 ?_
      refine lv_if_ne (tgt := 51) hx hb dX6_isPart_44 (by decide) (fun _ => ?_) (fun q => absurd q (by decide))
      refine lv_iconst (v := nI 0) hx hb dX6_isPart_51 (by decide) ?_
      exact m_zret C hM hS (Nat.le_of_ble_eq_true rfl) (Nat.le_of_ble_eq_true rfl) rfl dX6_isPart_52 (Or.inr (Or.inl ⟨k_1, f_2, rfl, (fun d h1 h2 h3 => g_6 ((isIn_b (by decide) (by decide) _).mpr ⟨d, h1, h2, h3⟩)), rfl, hW, hF⟩))
  · -- of 2
    subst hv
    have hF := hF.trans hF9
    obtain ⟨h, hM, hW, hF⟩ : ∃ h8, MW G s0.heap.size h8 H ∧ MdlW G h8 m q (se_now (se_many (se_thr st (nI 1)) (st_many st)) (st_now st)) ∧ mFr h0 h8 m q := ⟨_, hM, hW, hF⟩
    refine W.eq (g2 := F0 mt 5 ls [.int (nI 0)]) rfl ?_
    refine lv_if_eq (tgt := 40) hx hb dX6_isPart_5 (by decide) (fun _ => ?_) (fun q => absurd (by decide) q)
    refine lv_aload_n hx hb dX6_isPart_40 rfl (lv_at hl 0 rfl) ?_
    refine m_get Z C hM hW.o K_X6 0 (by decide) fl_X6_53 (v := .int (nI 1)) rfl dX6_isPart_41 ?_
    refine lv_if_ne (tgt := 51) hx hb dX6_isPart_44 (by decide) (fun _ => ?_) (fun q => absurd q (by decide))
    refine lv_iconst (v := nI 0) hx hb dX6_isPart_51 (by decide) ?_
    exact m_zret C hM hS (Nat.le_of_ble_eq_true rfl) (Nat.le_of_ble_eq_true rfl) rfl dX6_isPart_52 (Or.inr (Or.inr (Or.inr ⟨f_4, rfl, hW, hF⟩)))
set_option maxRecDepth 100000 in
set_option maxHeartbeats 4000000 in
theorem c_X6_isSet {l : Launch} {G : mG} {a0 : Array Value} {s0 : State} (Z : mZ l G a0 s0) (h0 : Hp) (m : Nat) (q : Nat → Nat) (st : Ms) (hW : MdlW G h0 m q st) (x : Int32) (hk : Mok st) : mM l G s0 yX6_isSet cX6_isSet 2 (some .boolean) 2 43 0 0 h0 [.ref m, .int x] (fun v h9 => (∃ k : Nat, (k < st_many st) ∧ (x = nI k) ∧ (¬ st_ha st k = nI 0) ∧ v = some (.int (nI 1)) ∧ MdlW G h9 m q (se_now (se_many (se_thr st (nI 0)) (st_many st)) (st_now st)) ∧ mFr h0 h9 m q) ∨ (∃ k : Nat, (k < st_many st) ∧ (x = nI k) ∧ (st_ha st k = nI 0) ∧ v = some (.int (nI 0)) ∧ MdlW G h9 m q (se_now (se_many (se_thr st (nI 2)) (st_many st)) (st_now st)) ∧ mFr h0 h9 m q) ∨ ((∀ k : Nat, k < st_many st → x ≠ nI k) ∧ v = some (.int (nI 0)) ∧ MdlW G h9 m q (se_now (se_many (se_thr st (nI 1)) (st_many st)) (st_now st)) ∧ mFr h0 h9 m q)) := by
  refine mM_in RX6 "isSet" rfl rfl (by decide +kernel) (Nat.le_of_ble_eq_true rfl) ?_
  intro p e s mt below meth c H locs C hM hS ls hl
  have hx := C.1
  have hb := C.2.1
  have hown := C.2.2.2.1
  have hE := C.2.2.2.2.2.2.1
  have hl : lv_has ls 2 [(0, .ref m), (1, .int x)] := hl
  have hF : mFr h0 h0 m q := mFr.rf
  obtain ⟨h, hM, hW, hF⟩ : ∃ h9, MW G s0.heap.size h9 H ∧ MdlW G h9 m q st ∧ mFr h0 h9 m q := ⟨_, hM, hW, hF⟩
  have hm := hk.1
  have hnow := hk.2.1
  refine lv_aload_n hx hb dX6_isSet_0 rfl (lv_at hl 0 rfl) ?_
  refine lv_iload_n hx hb dX6_isSet_1 rfl (lv_at hl 1 rfl) ?_
  refine m_callV Z C hM hS (As := [.int x]) (rest := []) (c_X6_looks Z h m q st hW x (show st_many st ≤ 10 by omega)) yi_X6_looks ml_X6_83 hW.o rfl ⟨Nat.le_of_ble_eq_true rfl, Nat.le_of_ble_eq_true rfl⟩ (Nat.le_of_ble_eq_true rfl) hl.1 rfl rfl dX6_isSet_2 ⟨Nat.le_of_ble_eq_true rfl, Nat.le_of_ble_eq_true rfl⟩ (fun v h9 H locs hv hM hS => ?_)
  rcases hv with ⟨k_1, f_2, f_3, hv, hW, hF9⟩ | ⟨f_4, hv, hW, hF9⟩
  · -- of 2
    subst hv
    have hF := hF.trans hF9
    obtain ⟨h, hM, hW, hF⟩ : ∃ h8, MW G s0.heap.size h8 H ∧ MdlW G h8 m q (se_now (se_many (se_thr st (nI 0)) (st_many st)) (st_now st)) ∧ mFr h0 h8 m q := ⟨_, hM, hW, hF⟩
    subst f_3
    refine W.eq (g2 := F0 mt 5 ls [.int (nI 1)]) rfl ?_
    obtain ⟨hn, hT, hZ, hsi, hbd, hhv⟩ := hk.2.2 k_1 f_2
    refine lv_if_eq (tgt := 22) hx hb dX6_isSet_5 (by decide) (fun q => absurd q (by decide)) (fun _ => ?_)
    refine lv_aload_n hx hb dX6_isSet_8 rfl (lv_at hl 0 rfl) ?_
    refine m_get Z C hM hW.o K_X6 12 (by decide) fl_X6_38 (v := .ref (q 12)) rfl dX6_isSet_9 ?_
    refine lv_iload_n hx hb dX6_isSet_12 rfl (lv_at hl 1 rfl) ?_
    refine m_iald Z C hM (f := st_ha st) hW.a12 k_1 rfl (by omega) (by decide) dX6_isSet_13 ?_
    refine lv_if_ne (tgt := 22) hx hb dX6_isSet_14 (by decide) (fun c_6 => ?_) (fun c_6 => ?_)
    · -- 14 t
      refine lv_aload_n hx hb dX6_isSet_22 rfl (lv_at hl 0 rfl) ?_
      refine m_get Z C hM hW.o K_X6 0 (by decide) fl_X6_53 (v := .int (nI 0)) rfl dX6_isSet_23 ?_
      refine lv_if_ne (tgt := 33) hx hb dX6_isSet_26 (by decide) (fun q => absurd (by decide) q) (fun _ => ?_)
      refine lv_iconst (v := nI 1) hx hb dX6_isSet_29 (by decide) ?_
      refine lv_goto (tgt := 34) hx hb dX6_isSet_30 (by decide) ?_
      exact m_zret C hM hS (Nat.le_of_ble_eq_true rfl) (Nat.le_of_ble_eq_true rfl) rfl dX6_isSet_34 (Or.inl ⟨k_1, f_2, rfl, c_6, rfl, hW, hF⟩)
    · -- 14 f
      refine lv_aload_n hx hb dX6_isSet_17 rfl (lv_at hl 0 rfl) ?_
      refine lv_iconst (v := nI 2) hx hb dX6_isSet_18 (by decide) ?_
      refine m_put Z C hM hS hW.o K_X6 0 (by decide) fl_X6_53 (v := .int (nI 2)) rfl rfl rfl (fs' := mObj q (se_now (se_many (se_thr (se_now (se_many (se_thr st (nI 0)) (st_many st)) (st_now st)) (nI 2)) (st_many st)) (st_now st))) rfl (Nat.le_of_ble_eq_true rfl) dX6_isSet_19 (fun H locs hM hS => ?_)
      obtain ⟨h, hM, hW, hF⟩ : ∃ h9, MW G s0.heap.size h9 H ∧ MdlW G h9 m q (se_now (se_many (se_thr (se_now (se_many (se_thr st (nI 0)) (st_many st)) (st_now st)) (nI 2)) (st_many st)) (st_now st)) ∧ mFr h0 h9 m q := ⟨_, hM, hW.uo (nI 2) (st_many st) (st_now st), hF.o _⟩
      refine lv_aload_n hx hb dX6_isSet_22 rfl (lv_at hl 0 rfl) ?_
      refine m_get Z C hM hW.o K_X6 0 (by decide) fl_X6_53 (v := .int (nI 2)) rfl dX6_isSet_23 ?_
      refine lv_if_ne (tgt := 33) hx hb dX6_isSet_26 (by decide) (fun _ => ?_) (fun q => absurd q (by decide))
      refine lv_iconst (v := nI 0) hx hb dX6_isSet_33 (by decide) ?_
      exact m_zret C hM hS (Nat.le_of_ble_eq_true rfl) (Nat.le_of_ble_eq_true rfl) rfl dX6_isSet_34 (Or.inr (Or.inl ⟨k_1, f_2, rfl, c_6, rfl, hW, hF⟩))
  · -- of 2
    subst hv
    have hF := hF.trans hF9
    obtain ⟨h, hM, hW, hF⟩ : ∃ h8, MW G s0.heap.size h8 H ∧ MdlW G h8 m q (se_now (se_many (se_thr st (nI 1)) (st_many st)) (st_now st)) ∧ mFr h0 h8 m q := ⟨_, hM, hW, hF⟩
    refine W.eq (g2 := F0 mt 5 ls [.int (nI 0)]) rfl ?_
    refine lv_if_eq (tgt := 22) hx hb dX6_isSet_5 (by decide) (fun _ => ?_) (fun q => absurd (by decide) q)
    refine lv_aload_n hx hb dX6_isSet_22 rfl (lv_at hl 0 rfl) ?_
    refine m_get Z C hM hW.o K_X6 0 (by decide) fl_X6_53 (v := .int (nI 1)) rfl dX6_isSet_23 ?_
    refine lv_if_ne (tgt := 33) hx hb dX6_isSet_26 (by decide) (fun _ => ?_) (fun q => absurd q (by decide))
    refine lv_iconst (v := nI 0) hx hb dX6_isSet_33 (by decide) ?_
    exact m_zret C hM hS (Nat.le_of_ble_eq_true rfl) (Nat.le_of_ble_eq_true rfl) rfl dX6_isSet_34 (Or.inr (Or.inr ⟨f_4, rfl, hW, hF⟩))
set_option maxRecDepth 100000 in
set_option maxHeartbeats 4000000 in
theorem c_X6_areNames {l : Launch} {G : mG} {a0 : Array Value} {s0 : State} (Z : mZ l G a0 s0) (h0 : Hp) (m : Nat) (q : Nat → Nat) (st : Ms) (hW : MdlW G h0 m q st) (a : Int32) (d : Int32) : mM l G s0 yX6_areNames cX6_areNames 3 (some .boolean) 1 22 0 0 h0 [.ref m, .int a, .int d] (fun v h9 => ((nI 0 ≤ a ∧ a ≤ nI 9) ∧ (nI 0 ≤ d ∧ d ≤ nI 9) ∧ v = some (.int (nI 1)) ∧ MdlW G h9 m q (se_now (se_many (se_thr st (nI 0)) (st_many st)) (st_now st)) ∧ mFr h0 h9 m q) ∨ ((¬ ((nI 0 ≤ a ∧ a ≤ nI 9) ∧ (nI 0 ≤ d ∧ d ≤ nI 9))) ∧ v = some (.int (nI 0)) ∧ MdlW G h9 m q (se_now (se_many (se_thr st (nI 1)) (st_many st)) (st_now st)) ∧ mFr h0 h9 m q)) := by
  refine mM_in RX6 "areNames" rfl rfl (by decide +kernel) (Nat.le_of_ble_eq_true rfl) ?_
  intro p e s mt below meth c H locs C hM hS ls hl
  have hx := C.1
  have hb := C.2.1
  have hown := C.2.2.2.1
  have hE := C.2.2.2.2.2.2.1
  have hl : lv_has ls 3 [(0, .ref m), (1, .int a), (2, .int d)] := hl
  have hF : mFr h0 h0 m q := mFr.rf
  obtain ⟨h, hM, hW, hF⟩ : ∃ h9, MW G s0.heap.size h9 H ∧ MdlW G h9 m q st ∧ mFr h0 h9 m q := ⟨_, hM, hW, hF⟩
  refine lv_aload_n hx hb dX6_areNames_0 rfl (lv_at hl 0 rfl) ?_
  refine lv_iload_n hx hb dX6_areNames_1 rfl (lv_at hl 1 rfl) ?_
  refine lv_iconst (v := nI 0) hx hb dX6_areNames_2 (by decide) ?_
  refine lv_bipush (v := nI 9) hx hb dX6_areNames_3 (by decide) ?_
  refine m_callS Z C hM hS (As := [.int a, .int (nI 0), .int (nI 9)]) (rest := [.ref m]) (c_X6_isIn Z h a (nI 0) (nI 9)) yi_X6_isIn ml_X6_60 ⟨Nat.le_of_ble_eq_true rfl, Nat.le_of_ble_eq_true rfl⟩ (Nat.le_of_ble_eq_true rfl) hl.1 rfl rfl dX6_areNames_5 ⟨Nat.le_of_ble_eq_true rfl, Nat.le_of_ble_eq_true rfl⟩ (fun v h9 H locs hv hM hS => ?_)
  obtain ⟨hv, hh9⟩ := hv
  rcases Decidable.em ((nI 0) ≤ a ∧ a ≤ (nI 9)) with g_1 | g_1
  · -- of 5: True
    rw [b2_t g_1] at hv
    subst hv
    rw [hh9] at hM
    refine W.eq (g2 := F0 mt 8 ls [.int (nI 1), .ref m]) rfl ?_
    refine lv_if_eq (tgt := 25) hx hb dX6_areNames_8 (by decide) (fun q => absurd q (by decide)) (fun _ => ?_)
    refine lv_iload_n hx hb dX6_areNames_11 rfl (lv_at hl 2 rfl) ?_
    refine lv_iconst (v := nI 0) hx hb dX6_areNames_12 (by decide) ?_
    refine lv_bipush (v := nI 9) hx hb dX6_areNames_13 (by decide) ?_
    refine m_callS Z C hM hS (As := [.int d, .int (nI 0), .int (nI 9)]) (rest := [.ref m]) (c_X6_isIn Z h d (nI 0) (nI 9)) yi_X6_isIn ml_X6_60 ⟨Nat.le_of_ble_eq_true rfl, Nat.le_of_ble_eq_true rfl⟩ (Nat.le_of_ble_eq_true rfl) hl.1 rfl rfl dX6_areNames_15 ⟨Nat.le_of_ble_eq_true rfl, Nat.le_of_ble_eq_true rfl⟩ (fun v h9 H locs hv hM hS => ?_)
    obtain ⟨hv, hh9⟩ := hv
    rcases Decidable.em ((nI 0) ≤ d ∧ d ≤ (nI 9)) with g_3 | g_3
    · -- of 15: True
      rw [b2_t g_3] at hv
      subst hv
      rw [hh9] at hM
      refine W.eq (g2 := F0 mt 18 ls [.int (nI 1), .ref m]) rfl ?_
      refine lv_if_eq (tgt := 25) hx hb dX6_areNames_18 (by decide) (fun q => absurd q (by decide)) (fun _ => ?_)
      refine lv_iconst (v := nI 0) hx hb dX6_areNames_21 (by decide) ?_
      refine lv_goto (tgt := 26) hx hb dX6_areNames_22 (by decide) ?_
      refine m_put Z C hM hS hW.o K_X6 0 (by decide) fl_X6_53 (v := .int (nI 0)) rfl rfl rfl (fs' := mObj q (se_now (se_many (se_thr st (nI 0)) (st_many st)) (st_now st))) rfl (Nat.le_of_ble_eq_true rfl) dX6_areNames_26 (fun H locs hM hS => ?_)
      obtain ⟨h, hM, hW, hF⟩ : ∃ h9, MW G s0.heap.size h9 H ∧ MdlW G h9 m q (se_now (se_many (se_thr st (nI 0)) (st_many st)) (st_now st)) ∧ mFr h0 h9 m q := ⟨_, hM, hW.uo (nI 0) (st_many st) (st_now st), hF.o _⟩
      refine lv_aload_n hx hb dX6_areNames_29 rfl (lv_at hl 0 rfl) ?_
      refine m_get Z C hM hW.o K_X6 0 (by decide) fl_X6_53 (v := .int (nI 0)) rfl dX6_areNames_30 ?_
      refine lv_if_ne (tgt := 40) hx hb dX6_areNames_33 (by decide) (fun q => absurd (by decide) q) (fun _ => ?_)
      refine lv_iconst (v := nI 1) hx hb dX6_areNames_36 (by decide) ?_
      refine lv_goto (tgt := 41) hx hb dX6_areNames_37 (by decide) ?_
      exact m_zret C hM hS (Nat.le_of_ble_eq_true rfl) (Nat.le_of_ble_eq_true rfl) rfl dX6_areNames_41 (Or.inl ⟨g_1, g_3, rfl, hW, hF⟩)
    · -- of 15: False
      rw [b2_f g_3] at hv
      subst hv
      rw [hh9] at hM
      refine W.eq (g2 := F0 mt 18 ls [.int (nI 0), .ref m]) rfl ?_
      refine lv_if_eq (tgt := 25) hx hb dX6_areNames_18 (by decide) (fun _ => ?_) (fun q => absurd (by decide) q)
      refine lv_iconst (v := nI 1) hx hb dX6_areNames_25 (by decide) ?_
      refine m_put Z C hM hS hW.o K_X6 0 (by decide) fl_X6_53 (v := .int (nI 1)) rfl rfl rfl (fs' := mObj q (se_now (se_many (se_thr st (nI 1)) (st_many st)) (st_now st))) rfl (Nat.le_of_ble_eq_true rfl) dX6_areNames_26 (fun H locs hM hS => ?_)
      obtain ⟨h, hM, hW, hF⟩ : ∃ h9, MW G s0.heap.size h9 H ∧ MdlW G h9 m q (se_now (se_many (se_thr st (nI 1)) (st_many st)) (st_now st)) ∧ mFr h0 h9 m q := ⟨_, hM, hW.uo (nI 1) (st_many st) (st_now st), hF.o _⟩
      refine lv_aload_n hx hb dX6_areNames_29 rfl (lv_at hl 0 rfl) ?_
      refine m_get Z C hM hW.o K_X6 0 (by decide) fl_X6_53 (v := .int (nI 1)) rfl dX6_areNames_30 ?_
      refine lv_if_ne (tgt := 40) hx hb dX6_areNames_33 (by decide) (fun _ => ?_) (fun q => absurd q (by decide))
      refine lv_iconst (v := nI 0) hx hb dX6_areNames_40 (by decide) ?_
      exact m_zret C hM hS (Nat.le_of_ble_eq_true rfl) (Nat.le_of_ble_eq_true rfl) rfl dX6_areNames_41 (Or.inr ⟨fun q => g_3 q.2, rfl, hW, hF⟩)
  · -- of 5: False
    rw [b2_f g_1] at hv
    subst hv
    rw [hh9] at hM
    refine W.eq (g2 := F0 mt 8 ls [.int (nI 0), .ref m]) rfl ?_
    refine lv_if_eq (tgt := 25) hx hb dX6_areNames_8 (by decide) (fun _ => ?_) (fun q => absurd (by decide) q)
    refine lv_iconst (v := nI 1) hx hb dX6_areNames_25 (by decide) ?_
    refine m_put Z C hM hS hW.o K_X6 0 (by decide) fl_X6_53 (v := .int (nI 1)) rfl rfl rfl (fs' := mObj q (se_now (se_many (se_thr st (nI 1)) (st_many st)) (st_now st))) rfl (Nat.le_of_ble_eq_true rfl) dX6_areNames_26 (fun H locs hM hS => ?_)
    obtain ⟨h, hM, hW, hF⟩ : ∃ h9, MW G s0.heap.size h9 H ∧ MdlW G h9 m q (se_now (se_many (se_thr st (nI 1)) (st_many st)) (st_now st)) ∧ mFr h0 h9 m q := ⟨_, hM, hW.uo (nI 1) (st_many st) (st_now st), hF.o _⟩
    refine lv_aload_n hx hb dX6_areNames_29 rfl (lv_at hl 0 rfl) ?_
    refine m_get Z C hM hW.o K_X6 0 (by decide) fl_X6_53 (v := .int (nI 1)) rfl dX6_areNames_30 ?_
    refine lv_if_ne (tgt := 40) hx hb dX6_areNames_33 (by decide) (fun _ => ?_) (fun q => absurd q (by decide))
    refine lv_iconst (v := nI 0) hx hb dX6_areNames_40 (by decide) ?_
    exact m_zret C hM hS (Nat.le_of_ble_eq_true rfl) (Nat.le_of_ble_eq_true rfl) rfl dX6_areNames_41 (Or.inr ⟨fun q => g_1 q.1, rfl, hW, hF⟩)
set_option maxRecDepth 100000 in
set_option maxHeartbeats 4000000 in
theorem c_X6_open {l : Launch} {G : mG} {a0 : Array Value} {s0 : State} (Z : mZ l G a0 s0) (h0 : Hp) (m : Nat) (q : Nat → Nat) (st : Ms) (hW : MdlW G h0 m q st) (a : Int32) (d : Int32) (hk : Mok st) : mM l G s0 yX6_open cX6_open 3 (some .int) 1 23 0 0 h0 [.ref m, .int a, .int d] (fun v h9 => ((nI 0 ≤ a ∧ a ≤ nI 9) ∧ (nI 0 ≤ d ∧ d ≤ nI 9) ∧ (∀ j : Nat, j < st_many st → ¬ (st_nm st j = a ∧ st_ho st j = d)) ∧ (st_many st < 10) ∧ v = some (.int (nI (st_many st))) ∧ MdlW G h9 m q (s_open st a d) ∧ mFr h0 h9 m q) ∨ ((¬ ((nI 0 ≤ a ∧ a ≤ nI 9) ∧ (nI 0 ≤ d ∧ d ≤ nI 9))) ∧ v = some (.int (nI 0)) ∧ MdlW G h9 m q (se_now (se_many (se_thr st (nI 1)) (st_many st)) (st_now st)) ∧ mFr h0 h9 m q) ∨ ((nI 0 ≤ a ∧ a ≤ nI 9) ∧ (nI 0 ≤ d ∧ d ≤ nI 9) ∧ ((∃ j : Nat, j < st_many st ∧ (st_nm st j = a ∧ st_ho st j = d)) ∨ st_many st = 10) ∧ v = some (.int (nI 0)) ∧ MdlW G h9 m q (se_now (se_many (se_thr st (nI 2)) (st_many st)) (st_now st)) ∧ mFr h0 h9 m q)) := by
  refine mM_in RX6 "open" rfl rfl (by decide +kernel) (Nat.le_of_ble_eq_true rfl) ?_
  intro p e s mt below meth c H locs C hM hS ls hl
  have hx := C.1
  have hb := C.2.1
  have hown := C.2.2.2.1
  have hE := C.2.2.2.2.2.2.1
  have hl : lv_has ls 3 [(0, .ref m), (1, .int a), (2, .int d)] := hl
  have hF : mFr h0 h0 m q := mFr.rf
  obtain ⟨h, hM, hW, hF⟩ : ∃ h9, MW G s0.heap.size h9 H ∧ MdlW G h9 m q st ∧ mFr h0 h9 m q := ⟨_, hM, hW, hF⟩
  have hm := hk.1
  have hnow := hk.2.1
  refine lv_iload_n hx hb dX6_open_0 rfl (lv_at hl 1 rfl) ?_
  refine lv_iconst (v := nI 0) hx hb dX6_open_1 (by decide) ?_
  refine lv_bipush (v := nI 9) hx hb dX6_open_2 (by decide) ?_
  refine m_callS Z C hM hS (As := [.int a, .int (nI 0), .int (nI 9)]) (rest := []) (c_X6_isIn Z h a (nI 0) (nI 9)) yi_X6_isIn ml_X6_60 ⟨Nat.le_of_ble_eq_true rfl, Nat.le_of_ble_eq_true rfl⟩ (Nat.le_of_ble_eq_true rfl) hl.1 rfl rfl dX6_open_4 ⟨Nat.le_of_ble_eq_true rfl, Nat.le_of_ble_eq_true rfl⟩ (fun v h9 H locs hv hM hS => ?_)
  obtain ⟨hv, hh9⟩ := hv
  rcases Decidable.em ((nI 0) ≤ a ∧ a ≤ (nI 9)) with g_1 | g_1
  · -- of 4: True
    rw [b2_t g_1] at hv
    subst hv
    rw [hh9] at hM
    refine W.eq (g2 := F0 mt 7 ls [.int (nI 1)]) rfl ?_
    refine lv_if_eq (tgt := 20) hx hb dX6_open_7 (by decide) (fun q => absurd q (by decide)) (fun _ => ?_)
    refine lv_iload_n hx hb dX6_open_10 rfl (lv_at hl 2 rfl) ?_
    refine lv_iconst (v := nI 0) hx hb dX6_open_11 (by decide) ?_
    refine lv_bipush (v := nI 9) hx hb dX6_open_12 (by decide) ?_
    refine m_callS Z C hM hS (As := [.int d, .int (nI 0), .int (nI 9)]) (rest := []) (c_X6_isIn Z h d (nI 0) (nI 9)) yi_X6_isIn ml_X6_60 ⟨Nat.le_of_ble_eq_true rfl, Nat.le_of_ble_eq_true rfl⟩ (Nat.le_of_ble_eq_true rfl) hl.1 rfl rfl dX6_open_14 ⟨Nat.le_of_ble_eq_true rfl, Nat.le_of_ble_eq_true rfl⟩ (fun v h9 H locs hv hM hS => ?_)
    obtain ⟨hv, hh9⟩ := hv
    rcases Decidable.em ((nI 0) ≤ d ∧ d ≤ (nI 9)) with g_3 | g_3
    · -- of 14: True
      rw [b2_t g_3] at hv
      subst hv
      rw [hh9] at hM
      refine W.eq (g2 := F0 mt 17 ls [.int (nI 1)]) rfl ?_
      refine lv_if_ne (tgt := 26) hx hb dX6_open_17 (by decide) (fun _ => ?_) (fun q => absurd q (by decide))
      refine lv_aload_n hx hb dX6_open_26 rfl (lv_at hl 0 rfl) ?_
      refine lv_iload_n hx hb dX6_open_27 rfl (lv_at hl 1 rfl) ?_
      refine lv_iload_n hx hb dX6_open_28 rfl (lv_at hl 2 rfl) ?_
      refine m_callV Z C hM hS (As := [.int a, .int d]) (rest := []) (c_X6_search Z h m q st hW a d (show st_many st ≤ 10 by omega)) yi_X6_search ml_X6_72 hW.o rfl ⟨Nat.le_of_ble_eq_true rfl, Nat.le_of_ble_eq_true rfl⟩ (Nat.le_of_ble_eq_true rfl) hl.1 rfl rfl dX6_open_29 ⟨Nat.le_of_ble_eq_true rfl, Nat.le_of_ble_eq_true rfl⟩ (fun v h9 H locs hv hM hS => ?_)
      rcases hv with ⟨k_5, f_6, f_7, f_8, hv, hh9⟩ | ⟨f_9, hv, hh9⟩
      · -- of 29
        subst hv
        rw [hh9] at hM
        refine W.eq (g2 := F0 mt 32 ls [.int (nI k_5)]) rfl ?_
        refine lv_if_ge (tgt := 44) hx hb dX6_open_32 (by decide) (fun _ => ?_) (fun q => absurd (nI_pos' (by omega)) q)
        refine lv_aload_n hx hb dX6_open_44 rfl (lv_at hl 0 rfl) ?_
        refine lv_iconst (v := nI 2) hx hb dX6_open_45 (by decide) ?_
        refine m_callV Z C hM hS (As := [.int (nI 2)]) (rest := []) (c_X6_fail Z h m q st hW (nI 2)) yi_X6_fail ml_X6_68 hW.o rfl ⟨Nat.le_of_ble_eq_true rfl, Nat.le_of_ble_eq_true rfl⟩ (Nat.le_of_ble_eq_true rfl) hl.1 rfl rfl dX6_open_46 ⟨Nat.le_of_ble_eq_true rfl, Nat.le_of_ble_eq_true rfl⟩ (fun v h9 H locs hv hM hS => ?_)
        obtain ⟨hv, hW, hF9⟩ := hv
        subst hv
        have hF := hF.trans hF9
        obtain ⟨h, hM, hW, hF⟩ : ∃ h8, MW G s0.heap.size h8 H ∧ MdlW G h8 m q (se_now (se_many (se_thr st ((nI 2))) (st_many st)) (st_now st)) ∧ mFr h0 h8 m q := ⟨_, hM, hW, hF⟩
        refine W.eq (g2 := F0 mt 49 ls [.int (nI 0)]) rfl ?_
        exact m_iret C hM hS (Nat.le_of_ble_eq_true rfl) (Nat.le_of_ble_eq_true rfl) dX6_open_49 (Or.inr (Or.inr ⟨g_1, g_3, Or.inl ⟨k_5, f_6, f_7⟩, rfl, hW, hF⟩))
      · -- of 29
        subst hv
        rw [hh9] at hM
        refine W.eq (g2 := F0 mt 32 ls [.int ((-1))]) rfl ?_
        refine lv_if_ge (tgt := 44) hx hb dX6_open_32 (by decide) (fun q => absurd q (by decide)) (fun _ => ?_)
        refine lv_aload_n hx hb dX6_open_35 rfl (lv_at hl 0 rfl) ?_
        refine m_get Z C hM hW.o K_X6 1 (by decide) fl_X6_57 (v := .int (nI (st_many st))) rfl dX6_open_36 ?_
        refine lv_bipush (v := nI 10) hx hb dX6_open_39 (by decide) ?_
        refine lv_icmp_ne (tgt := 50) hx hb dX6_open_41 (by decide) (fun c_12 => ?_) (fun c_12 => ?_)
        · -- 41 t
          have c_12 : ¬ st_many st = 10 := fun q => c_12 ((nI_eq (by omega) (by decide)).mpr q)
          refine lv_aload_n hx hb dX6_open_50 rfl (lv_at hl 0 rfl) ?_
          refine lv_iconst (v := nI 0) hx hb dX6_open_51 (by decide) ?_
          refine m_put Z C hM hS hW.o K_X6 0 (by decide) fl_X6_53 (v := .int (nI 0)) rfl rfl rfl (fs' := mObj q (se_now (se_many (se_thr st (nI 0)) (st_many st)) (st_now st))) rfl (Nat.le_of_ble_eq_true rfl) dX6_open_52 (fun H locs hM hS => ?_)
          obtain ⟨h, hM, hW, hF⟩ : ∃ h9, MW G s0.heap.size h9 H ∧ MdlW G h9 m q (se_now (se_many (se_thr st (nI 0)) (st_many st)) (st_now st)) ∧ mFr h0 h9 m q := ⟨_, hM, hW.uo (nI 0) (st_many st) (st_now st), hF.o _⟩
          refine lv_aload_n hx hb dX6_open_55 rfl (lv_at hl 0 rfl) ?_
          refine m_get Z C hM hW.o K_X6 3 (by decide) fl_X6_7 (v := .ref (q 3)) rfl dX6_open_56 ?_
          refine lv_aload_n hx hb dX6_open_59 rfl (lv_at hl 0 rfl) ?_
          refine m_get Z C hM hW.o K_X6 1 (by decide) fl_X6_57 (v := .int (nI (st_many st))) rfl dX6_open_60 ?_
          refine lv_iload_n hx hb dX6_open_63 rfl (lv_at hl 1 rfl) ?_
          refine m_iast Z C hM hS hW.a3 (x := a) (st_many st) rfl (by omega) (by decide) dX6_open_64 (fun H locs hM hS => ?_)
          obtain ⟨h, hM, hW, hF⟩ : ∃ h9, MW G s0.heap.size h9 H ∧ MdlW G h9 m q (se_nm (se_now (se_many (se_thr st (nI 0)) (st_many st)) (st_now st)) (va_up (st_nm st) (st_many st) a)) ∧ mFr h0 h9 m q := ⟨_, hM, hW.u3 (st_many st) a, hF.a 3 _ (by decide) (by decide)⟩
          refine lv_aload_n hx hb dX6_open_65 rfl (lv_at hl 0 rfl) ?_
          refine m_get Z C hM hW.o K_X6 4 (by decide) fl_X6_13 (v := .ref (q 4)) rfl dX6_open_66 ?_
          refine lv_aload_n hx hb dX6_open_69 rfl (lv_at hl 0 rfl) ?_
          refine m_get Z C hM hW.o K_X6 1 (by decide) fl_X6_57 (v := .int (nI (st_many st))) rfl dX6_open_70 ?_
          refine lv_iload_n hx hb dX6_open_73 rfl (lv_at hl 2 rfl) ?_
          refine m_iast Z C hM hS hW.a4 (x := d) (st_many st) rfl (by omega) (by decide) dX6_open_74 (fun H locs hM hS => ?_)
          obtain ⟨h, hM, hW, hF⟩ : ∃ h9, MW G s0.heap.size h9 H ∧ MdlW G h9 m q (se_ho (se_nm (se_now (se_many (se_thr st (nI 0)) (st_many st)) (st_now st)) (va_up (st_nm st) (st_many st) a)) (va_up (st_ho st) (st_many st) d)) ∧ mFr h0 h9 m q := ⟨_, hM, hW.u4 (st_many st) d, hF.a 4 _ (by decide) (by decide)⟩
          refine lv_aload_n hx hb dX6_open_75 rfl (lv_at hl 0 rfl) ?_
          refine lv_dup hx hb dX6_open_76 rfl ?_
          refine m_get Z C hM hW.o K_X6 1 (by decide) fl_X6_57 (v := .int (nI (st_many st))) rfl dX6_open_77 ?_
          refine lv_iconst (v := nI 1) hx hb dX6_open_80 (by decide) ?_
          refine n_iadd hx hb dX6_open_81 ?_
          refine m_put Z C hM hS hW.o K_X6 1 (by decide) fl_X6_57 (v := .int (nI (st_many st + 1))) rfl rfl rfl (fs' := mObj q (se_now (se_many (se_thr (se_ho (se_nm (se_now (se_many (se_thr st (nI 0)) (st_many st)) (st_now st)) (va_up (st_nm st) (st_many st) a)) (va_up (st_ho st) (st_many st) d)) (nI 0)) (st_many st + 1)) (st_now st))) rfl (Nat.le_of_ble_eq_true rfl) dX6_open_82 (fun H locs hM hS => ?_)
          obtain ⟨h, hM, hW, hF⟩ : ∃ h9, MW G s0.heap.size h9 H ∧ MdlW G h9 m q (se_now (se_many (se_thr (se_ho (se_nm (se_now (se_many (se_thr st (nI 0)) (st_many st)) (st_now st)) (va_up (st_nm st) (st_many st) a)) (va_up (st_ho st) (st_many st) d)) (nI 0)) (st_many st + 1)) (st_now st)) ∧ mFr h0 h9 m q := ⟨_, hM, hW.uo (nI 0) (st_many st + 1) (st_now st), hF.o _⟩
          refine lv_aload_n hx hb dX6_open_85 rfl (lv_at hl 0 rfl) ?_
          refine m_get Z C hM hW.o K_X6 1 (by decide) fl_X6_57 (v := .int (nI (st_many st + 1))) rfl dX6_open_86 ?_
          refine lv_iconst (v := nI 1) hx hb dX6_open_89 (by decide) ?_
          refine n_isub hx hb (by omega) dX6_open_90 ?_
          exact m_iret C hM hS (Nat.le_of_ble_eq_true rfl) (Nat.le_of_ble_eq_true rfl) dX6_open_91 (Or.inl ⟨g_1, g_3, f_9, by omega, rfl, hW, hF⟩)
        · -- 41 f
          have c_12 : st_many st = 10 := (nI_eq (by omega) (by decide)).mp c_12
          refine lv_aload_n hx hb dX6_open_44 rfl (lv_at hl 0 rfl) ?_
          refine lv_iconst (v := nI 2) hx hb dX6_open_45 (by decide) ?_
          refine m_callV Z C hM hS (As := [.int (nI 2)]) (rest := []) (c_X6_fail Z h m q st hW (nI 2)) yi_X6_fail ml_X6_68 hW.o rfl ⟨Nat.le_of_ble_eq_true rfl, Nat.le_of_ble_eq_true rfl⟩ (Nat.le_of_ble_eq_true rfl) hl.1 rfl rfl dX6_open_46 ⟨Nat.le_of_ble_eq_true rfl, Nat.le_of_ble_eq_true rfl⟩ (fun v h9 H locs hv hM hS => ?_)
          obtain ⟨hv, hW, hF9⟩ := hv
          subst hv
          have hF := hF.trans hF9
          obtain ⟨h, hM, hW, hF⟩ : ∃ h8, MW G s0.heap.size h8 H ∧ MdlW G h8 m q (se_now (se_many (se_thr st ((nI 2))) (st_many st)) (st_now st)) ∧ mFr h0 h8 m q := ⟨_, hM, hW, hF⟩
          refine W.eq (g2 := F0 mt 49 ls [.int (nI 0)]) rfl ?_
          exact m_iret C hM hS (Nat.le_of_ble_eq_true rfl) (Nat.le_of_ble_eq_true rfl) dX6_open_49 (Or.inr (Or.inr ⟨g_1, g_3, Or.inr c_12, rfl, hW, hF⟩))
    · -- of 14: False
      rw [b2_f g_3] at hv
      subst hv
      rw [hh9] at hM
      refine W.eq (g2 := F0 mt 17 ls [.int (nI 0)]) rfl ?_
      refine lv_if_ne (tgt := 26) hx hb dX6_open_17 (by decide) (fun q => absurd (by decide) q) (fun _ => ?_)
      refine lv_aload_n hx hb dX6_open_20 rfl (lv_at hl 0 rfl) ?_
      refine lv_iconst (v := nI 1) hx hb dX6_open_21 (by decide) ?_
      refine m_callV Z C hM hS (As := [.int (nI 1)]) (rest := []) (c_X6_fail Z h m q st hW (nI 1)) yi_X6_fail ml_X6_68 hW.o rfl ⟨Nat.le_of_ble_eq_true rfl, Nat.le_of_ble_eq_true rfl⟩ (Nat.le_of_ble_eq_true rfl) hl.1 rfl rfl dX6_open_22 ⟨Nat.le_of_ble_eq_true rfl, Nat.le_of_ble_eq_true rfl⟩ (fun v h9 H locs hv hM hS => ?_)
      obtain ⟨hv, hW, hF9⟩ := hv
      subst hv
      have hF := hF.trans hF9
      obtain ⟨h, hM, hW, hF⟩ : ∃ h8, MW G s0.heap.size h8 H ∧ MdlW G h8 m q (se_now (se_many (se_thr st ((nI 1))) (st_many st)) (st_now st)) ∧ mFr h0 h8 m q := ⟨_, hM, hW, hF⟩
      refine W.eq (g2 := F0 mt 25 ls [.int (nI 0)]) rfl ?_
      exact m_iret C hM hS (Nat.le_of_ble_eq_true rfl) (Nat.le_of_ble_eq_true rfl) dX6_open_25 (Or.inr (Or.inl ⟨fun q => g_3 q.2, rfl, hW, hF⟩))
  · -- of 4: False
    rw [b2_f g_1] at hv
    subst hv
    rw [hh9] at hM
    refine W.eq (g2 := F0 mt 7 ls [.int (nI 0)]) rfl ?_
    refine lv_if_eq (tgt := 20) hx hb dX6_open_7 (by decide) (fun _ => ?_) (fun q => absurd (by decide) q)
    refine lv_aload_n hx hb dX6_open_20 rfl (lv_at hl 0 rfl) ?_
    refine lv_iconst (v := nI 1) hx hb dX6_open_21 (by decide) ?_
    refine m_callV Z C hM hS (As := [.int (nI 1)]) (rest := []) (c_X6_fail Z h m q st hW (nI 1)) yi_X6_fail ml_X6_68 hW.o rfl ⟨Nat.le_of_ble_eq_true rfl, Nat.le_of_ble_eq_true rfl⟩ (Nat.le_of_ble_eq_true rfl) hl.1 rfl rfl dX6_open_22 ⟨Nat.le_of_ble_eq_true rfl, Nat.le_of_ble_eq_true rfl⟩ (fun v h9 H locs hv hM hS => ?_)
    obtain ⟨hv, hW, hF9⟩ := hv
    subst hv
    have hF := hF.trans hF9
    obtain ⟨h, hM, hW, hF⟩ : ∃ h8, MW G s0.heap.size h8 H ∧ MdlW G h8 m q (se_now (se_many (se_thr st ((nI 1))) (st_many st)) (st_now st)) ∧ mFr h0 h8 m q := ⟨_, hM, hW, hF⟩
    refine W.eq (g2 := F0 mt 25 ls [.int (nI 0)]) rfl ?_
    exact m_iret C hM hS (Nat.le_of_ble_eq_true rfl) (Nat.le_of_ble_eq_true rfl) dX6_open_25 (Or.inr (Or.inl ⟨fun q => g_1 q.1, rfl, hW, hF⟩))
set_option maxRecDepth 100000 in
set_option maxHeartbeats 4000000 in
theorem c_X6_pass {l : Launch} {G : mG} {a0 : Array Value} {s0 : State} (Z : mZ l G a0 s0) (h0 : Hp) (m : Nat) (q : Nat → Nat) (st : Ms) (hW : MdlW G h0 m q st) (x : Int32) (hk : Mok st) : mM l G s0 yX6_pass cX6_pass 2 (some .long) 1 22 0 0 h0 [.ref m, .int x] (fun v h9 => (∃ d : Nat, (1 ≤ d ∧ d ≤ 600) ∧ (x = nI d) ∧ v = some (.long (lN (st_now st + d))) ∧ MdlW G h9 m q (s_pass st d) ∧ mFr h0 h9 m q) ∨ ((∀ d : Nat, 1 ≤ d → d ≤ 600 → x ≠ nI d) ∧ v = some (.long (lN 0)) ∧ MdlW G h9 m q (se_now (se_many (se_thr st (nI 1)) (st_many st)) (st_now st)) ∧ mFr h0 h9 m q)) := by
  refine mM_in RX6 "pass" rfl rfl (by decide +kernel) (Nat.le_of_ble_eq_true rfl) ?_
  intro p e s mt below meth c H locs C hM hS ls hl
  have hx := C.1
  have hb := C.2.1
  have hown := C.2.2.2.1
  have hE := C.2.2.2.2.2.2.1
  have hl : lv_has ls 2 [(0, .ref m), (1, .int x)] := hl
  have hF : mFr h0 h0 m q := mFr.rf
  obtain ⟨h, hM, hW, hF⟩ : ∃ h9, MW G s0.heap.size h9 H ∧ MdlW G h9 m q st ∧ mFr h0 h9 m q := ⟨_, hM, hW, hF⟩
  have hm := hk.1
  have hnow := hk.2.1
  refine lv_iload_n hx hb dX6_pass_0 rfl (lv_at hl 1 rfl) ?_
  refine lv_iconst (v := nI 1) hx hb dX6_pass_1 (by decide) ?_
  refine lv_sipush (v := nI 600) hx hb dX6_pass_2 (by decide) ?_
  refine m_callS Z C hM hS (As := [.int x, .int (nI 1), .int (nI 600)]) (rest := []) (c_X6_isIn Z h x (nI 1) (nI 600)) yi_X6_isIn ml_X6_60 ⟨Nat.le_of_ble_eq_true rfl, Nat.le_of_ble_eq_true rfl⟩ (Nat.le_of_ble_eq_true rfl) hl.1 rfl rfl dX6_pass_5 ⟨Nat.le_of_ble_eq_true rfl, Nat.le_of_ble_eq_true rfl⟩ (fun v h9 H locs hv hM hS => ?_)
  obtain ⟨hv, hh9⟩ := hv
  rcases Decidable.em ((nI 1) ≤ x ∧ x ≤ (nI 600)) with g_1 | g_1
  · -- of 5: True
    rw [b2_t g_1] at hv
    subst hv
    rw [hh9] at hM
    refine W.eq (g2 := F0 mt 8 ls [.int (nI 1)]) rfl ?_
    obtain ⟨d9, hd1, hd2, hd3⟩ := (isIn_b (by decide) (by decide) _).mp g_1
    subst hd3
    refine lv_if_ne (tgt := 18) hx hb dX6_pass_8 (by decide) (fun _ => ?_) (fun q => absurd q (by decide))
    refine lv_aload_n hx hb dX6_pass_18 rfl (lv_at hl 0 rfl) ?_
    refine lv_iconst (v := nI 0) hx hb dX6_pass_19 (by decide) ?_
    refine m_put Z C hM hS hW.o K_X6 0 (by decide) fl_X6_53 (v := .int (nI 0)) rfl rfl rfl (fs' := mObj q (se_now (se_many (se_thr st (nI 0)) (st_many st)) (st_now st))) rfl (Nat.le_of_ble_eq_true rfl) dX6_pass_20 (fun H locs hM hS => ?_)
    obtain ⟨h, hM, hW, hF⟩ : ∃ h9, MW G s0.heap.size h9 H ∧ MdlW G h9 m q (se_now (se_many (se_thr st (nI 0)) (st_many st)) (st_now st)) ∧ mFr h0 h9 m q := ⟨_, hM, hW.uo (nI 0) (st_many st) (st_now st), hF.o _⟩
    refine lv_aload_n hx hb dX6_pass_23 rfl (lv_at hl 0 rfl) ?_
    refine lv_dup hx hb dX6_pass_24 rfl ?_
    refine m_get Z C hM hW.o K_X6 2 (by decide) fl_X6_75 (v := .long (lN (st_now st))) rfl dX6_pass_25 ?_
    refine lv_iload_n hx hb dX6_pass_28 rfl (lv_at hl 1 rfl) ?_
    refine n_i2l hx hb (by omega) dX6_pass_29 ?_
    refine n_ladd hx hb dX6_pass_30 ?_
    refine m_put Z C hM hS hW.o K_X6 2 (by decide) fl_X6_75 (v := .long (lN (st_now st + d9))) rfl rfl rfl (fs' := mObj q (se_now (se_many (se_thr (se_now (se_many (se_thr st (nI 0)) (st_many st)) (st_now st)) (nI 0)) (st_many st)) (st_now st + d9))) rfl (Nat.le_of_ble_eq_true rfl) dX6_pass_31 (fun H locs hM hS => ?_)
    obtain ⟨h, hM, hW, hF⟩ : ∃ h9, MW G s0.heap.size h9 H ∧ MdlW G h9 m q (se_now (se_many (se_thr (se_now (se_many (se_thr st (nI 0)) (st_many st)) (st_now st)) (nI 0)) (st_many st)) (st_now st + d9)) ∧ mFr h0 h9 m q := ⟨_, hM, hW.uo (nI 0) (st_many st) (st_now st + d9), hF.o _⟩
    refine lv_aload_n hx hb dX6_pass_34 rfl (lv_at hl 0 rfl) ?_
    refine m_get Z C hM hW.o K_X6 2 (by decide) fl_X6_75 (v := .long (lN (st_now st + d9))) rfl dX6_pass_35 ?_
    exact m_lret C hM hS (Nat.le_of_ble_eq_true rfl) (Nat.le_of_ble_eq_true rfl) dX6_pass_38 (Or.inl ⟨d9, ⟨hd1, hd2⟩, rfl, rfl, hW, hF⟩)
  · -- of 5: False
    rw [b2_f g_1] at hv
    subst hv
    rw [hh9] at hM
    refine W.eq (g2 := F0 mt 8 ls [.int (nI 0)]) rfl ?_
    refine lv_if_ne (tgt := 18) hx hb dX6_pass_8 (by decide) (fun q => absurd (by decide) q) (fun _ => ?_)
    refine lv_aload_n hx hb dX6_pass_11 rfl (lv_at hl 0 rfl) ?_
    refine lv_iconst (v := nI 1) hx hb dX6_pass_12 (by decide) ?_
    refine m_callV Z C hM hS (As := [.int (nI 1)]) (rest := []) (c_X6_fail Z h m q st hW (nI 1)) yi_X6_fail ml_X6_68 hW.o rfl ⟨Nat.le_of_ble_eq_true rfl, Nat.le_of_ble_eq_true rfl⟩ (Nat.le_of_ble_eq_true rfl) hl.1 rfl rfl dX6_pass_13 ⟨Nat.le_of_ble_eq_true rfl, Nat.le_of_ble_eq_true rfl⟩ (fun v h9 H locs hv hM hS => ?_)
    obtain ⟨hv, hW, hF9⟩ := hv
    subst hv
    have hF := hF.trans hF9
    obtain ⟨h, hM, hW, hF⟩ : ∃ h8, MW G s0.heap.size h8 H ∧ MdlW G h8 m q (se_now (se_many (se_thr st ((nI 1))) (st_many st)) (st_now st)) ∧ mFr h0 h8 m q := ⟨_, hM, hW, hF⟩
    refine W.eq (g2 := F0 mt 16 ls [.int (nI 0)]) rfl ?_
    refine n_i2l hx hb (by decide) dX6_pass_16 ?_
    exact m_lret C hM hS (Nat.le_of_ble_eq_true rfl) (Nat.le_of_ble_eq_true rfl) dX6_pass_17 (Or.inr ⟨fun d h1 h2 h3 => g_1 ((isIn_b (by decide) (by decide) _).mpr ⟨d, h1, h2, h3⟩), rfl, hW, hF⟩)
set_option maxRecDepth 100000 in
set_option maxHeartbeats 4000000 in
theorem c_X6_find {l : Launch} {G : mG} {a0 : Array Value} {s0 : State} (Z : mZ l G a0 s0) (h0 : Hp) (m : Nat) (q : Nat → Nat) (st : Ms) (hW : MdlW G h0 m q st) (a : Int32) (d : Int32) (hk : Mok st) : mM l G s0 yX6_find cX6_find 4 (some .int) 1 23 0 0 h0 [.ref m, .int a, .int d] (fun v h9 => (∃ k : Nat, (k < st_many st) ∧ (st_nm st k = a ∧ st_ho st k = d) ∧ (∀ j : Nat, j < k → ¬ (st_nm st j = a ∧ st_ho st j = d)) ∧ v = some (.int (nI k)) ∧ MdlW G h9 m q (se_now (se_many (se_thr st (nI 0)) (st_many st)) (st_now st)) ∧ mFr h0 h9 m q) ∨ ((∀ j : Nat, j < st_many st → ¬ (st_nm st j = a ∧ st_ho st j = d)) ∧ v = some (.int (nI 0)) ∧ MdlW G h9 m q (se_now (se_many (se_thr st (nI 1)) (st_many st)) (st_now st)) ∧ mFr h0 h9 m q)) := by
  refine mM_in RX6 "find" rfl rfl (by decide +kernel) (Nat.le_of_ble_eq_true rfl) ?_
  intro p e s mt below meth c H locs C hM hS ls hl
  have hx := C.1
  have hb := C.2.1
  have hown := C.2.2.2.1
  have hE := C.2.2.2.2.2.2.1
  have hl : lv_has ls 4 [(0, .ref m), (1, .int a), (2, .int d)] := hl
  have hF : mFr h0 h0 m q := mFr.rf
  obtain ⟨h, hM, hW, hF⟩ : ∃ h9, MW G s0.heap.size h9 H ∧ MdlW G h9 m q st ∧ mFr h0 h9 m q := ⟨_, hM, hW, hF⟩
  have hm := hk.1
  have hnow := hk.2.1
  refine lv_aload_n hx hb dX6_find_0 rfl (lv_at hl 0 rfl) ?_
  refine lv_iload_n hx hb dX6_find_1 rfl (lv_at hl 1 rfl) ?_
  refine lv_iload_n hx hb dX6_find_2 rfl (lv_at hl 2 rfl) ?_
  refine m_callV Z C hM hS (As := [.int a, .int d]) (rest := []) (c_X6_search Z h m q st hW a d (show st_many st ≤ 10 by omega)) yi_X6_search ml_X6_72 hW.o rfl ⟨Nat.le_of_ble_eq_true rfl, Nat.le_of_ble_eq_true rfl⟩ (Nat.le_of_ble_eq_true rfl) hl.1 rfl rfl dX6_find_3 ⟨Nat.le_of_ble_eq_true rfl, Nat.le_of_ble_eq_true rfl⟩ (fun v h9 H locs hv hM hS => ?_)
  rcases hv with ⟨k_1, f_2, f_3, f_4, hv, hh9⟩ | ⟨f_5, hv, hh9⟩
  · -- of 3
    subst hv
    rw [hh9] at hM
    refine W.eq (g2 := F0 mt 6 ls [.int (nI k_1)]) rfl ?_
    refine lv_istore_n (lv' := [(3, .int (nI k_1)), (0, .ref m), (1, .int a), (2, .int d)]) hx hb dX6_find_6 rfl hl (by decide) rfl (fun ls hl => ?_)
    refine lv_aload_n hx hb dX6_find_7 rfl (lv_at hl 1 rfl) ?_
    refine lv_iload_n hx hb dX6_find_8 rfl (lv_at hl 0 rfl) ?_
    refine lv_if_ge (tgt := 16) hx hb dX6_find_9 (by decide) (fun _ => ?_) (fun q => absurd (nI_pos' (by omega)) q)
    refine lv_iconst (v := nI 0) hx hb dX6_find_16 (by decide) ?_
    refine m_put Z C hM hS hW.o K_X6 0 (by decide) fl_X6_53 (v := .int (nI 0)) rfl rfl rfl (fs' := mObj q (se_now (se_many (se_thr st (nI 0)) (st_many st)) (st_now st))) rfl (Nat.le_of_ble_eq_true rfl) dX6_find_17 (fun H locs hM hS => ?_)
    obtain ⟨h, hM, hW, hF⟩ : ∃ h9, MW G s0.heap.size h9 H ∧ MdlW G h9 m q (se_now (se_many (se_thr st (nI 0)) (st_many st)) (st_now st)) ∧ mFr h0 h9 m q := ⟨_, hM, hW.uo (nI 0) (st_many st) (st_now st), hF.o _⟩
    refine lv_iload_n hx hb dX6_find_20 rfl (lv_at hl 0 rfl) ?_
    refine lv_if_ge (tgt := 28) hx hb dX6_find_21 (by decide) (fun _ => ?_) (fun q => absurd (nI_pos' (by omega)) q)
    refine lv_iload_n hx hb dX6_find_28 rfl (lv_at hl 0 rfl) ?_
    exact m_iret C hM hS (Nat.le_of_ble_eq_true rfl) (Nat.le_of_ble_eq_true rfl) dX6_find_29 (Or.inl ⟨k_1, f_2, f_3, f_4, rfl, hW, hF⟩)
  · -- of 3
    subst hv
    rw [hh9] at hM
    refine W.eq (g2 := F0 mt 6 ls [.int ((-1))]) rfl ?_
    refine lv_istore_n (lv' := [(3, .int ((-1))), (0, .ref m), (1, .int a), (2, .int d)]) hx hb dX6_find_6 rfl hl (by decide) rfl (fun ls hl => ?_)
    refine lv_aload_n hx hb dX6_find_7 rfl (lv_at hl 1 rfl) ?_
    refine lv_iload_n hx hb dX6_find_8 rfl (lv_at hl 0 rfl) ?_
    refine lv_if_ge (tgt := 16) hx hb dX6_find_9 (by decide) (fun q => absurd q (by decide)) (fun _ => ?_)
    refine lv_iconst (v := nI 1) hx hb dX6_find_12 (by decide) ?_
    refine lv_goto (tgt := 17) hx hb dX6_find_13 (by decide) ?_
    refine m_put Z C hM hS hW.o K_X6 0 (by decide) fl_X6_53 (v := .int (nI 1)) rfl rfl rfl (fs' := mObj q (se_now (se_many (se_thr st (nI 1)) (st_many st)) (st_now st))) rfl (Nat.le_of_ble_eq_true rfl) dX6_find_17 (fun H locs hM hS => ?_)
    obtain ⟨h, hM, hW, hF⟩ : ∃ h9, MW G s0.heap.size h9 H ∧ MdlW G h9 m q (se_now (se_many (se_thr st (nI 1)) (st_many st)) (st_now st)) ∧ mFr h0 h9 m q := ⟨_, hM, hW.uo (nI 1) (st_many st) (st_now st), hF.o _⟩
    refine lv_iload_n hx hb dX6_find_20 rfl (lv_at hl 0 rfl) ?_
    refine lv_if_ge (tgt := 28) hx hb dX6_find_21 (by decide) (fun q => absurd q (by decide)) (fun _ => ?_)
    refine lv_iconst (v := nI 0) hx hb dX6_find_24 (by decide) ?_
    refine lv_goto (tgt := 29) hx hb dX6_find_25 (by decide) ?_
    exact m_iret C hM hS (Nat.le_of_ble_eq_true rfl) (Nat.le_of_ble_eq_true rfl) dX6_find_29 (Or.inr ⟨f_5, rfl, hW, hF⟩)
set_option maxRecDepth 100000 in
set_option maxHeartbeats 4000000 in
theorem c_X6_nameOf {l : Launch} {G : mG} {a0 : Array Value} {s0 : State} (Z : mZ l G a0 s0) (h0 : Hp) (m : Nat) (q : Nat → Nat) (st : Ms) (hW : MdlW G h0 m q st) (x : Int32) (hk : Mok st) : mM l G s0 yX6_nameOf cX6_nameOf 2 (some .int) 2 43 0 0 h0 [.ref m, .int x] (fun v h9 => (∃ k : Nat, (k < st_many st) ∧ (x = nI k) ∧ v = some (.int (st_nm st k)) ∧ MdlW G h9 m q (se_now (se_many (se_thr st (nI 0)) (st_many st)) (st_now st)) ∧ mFr h0 h9 m q) ∨ ((∀ k : Nat, k < st_many st → x ≠ nI k) ∧ v = some (.int (nI 0)) ∧ MdlW G h9 m q (se_now (se_many (se_thr st (nI 1)) (st_many st)) (st_now st)) ∧ mFr h0 h9 m q)) := by
  refine mM_in RX6 "nameOf" rfl rfl (by decide +kernel) (Nat.le_of_ble_eq_true rfl) ?_
  intro p e s mt below meth c H locs C hM hS ls hl
  have hx := C.1
  have hb := C.2.1
  have hown := C.2.2.2.1
  have hE := C.2.2.2.2.2.2.1
  have hl : lv_has ls 2 [(0, .ref m), (1, .int x)] := hl
  have hF : mFr h0 h0 m q := mFr.rf
  obtain ⟨h, hM, hW, hF⟩ : ∃ h9, MW G s0.heap.size h9 H ∧ MdlW G h9 m q st ∧ mFr h0 h9 m q := ⟨_, hM, hW, hF⟩
  have hm := hk.1
  have hnow := hk.2.1
  refine lv_aload_n hx hb dX6_nameOf_0 rfl (lv_at hl 0 rfl) ?_
  refine lv_iload_n hx hb dX6_nameOf_1 rfl (lv_at hl 1 rfl) ?_
  refine m_callV Z C hM hS (As := [.int x]) (rest := []) (c_X6_looks Z h m q st hW x (show st_many st ≤ 10 by omega)) yi_X6_looks ml_X6_83 hW.o rfl ⟨Nat.le_of_ble_eq_true rfl, Nat.le_of_ble_eq_true rfl⟩ (Nat.le_of_ble_eq_true rfl) hl.1 rfl rfl dX6_nameOf_2 ⟨Nat.le_of_ble_eq_true rfl, Nat.le_of_ble_eq_true rfl⟩ (fun v h9 H locs hv hM hS => ?_)
  rcases hv with ⟨k_1, f_2, f_3, hv, hW, hF9⟩ | ⟨f_4, hv, hW, hF9⟩
  · -- of 2
    subst hv
    have hF := hF.trans hF9
    obtain ⟨h, hM, hW, hF⟩ : ∃ h8, MW G s0.heap.size h8 H ∧ MdlW G h8 m q (se_now (se_many (se_thr st (nI 0)) (st_many st)) (st_now st)) ∧ mFr h0 h8 m q := ⟨_, hM, hW, hF⟩
    subst f_3
    refine W.eq (g2 := F0 mt 5 ls [.int (nI 1)]) rfl ?_
    obtain ⟨hn, hT, hZ, hsi, hbd, hhv⟩ := hk.2.2 k_1 f_2
    refine lv_if_eq (tgt := 17) hx hb dX6_nameOf_5 (by decide) (fun q => absurd q (by decide)) (fun _ => ?_)
    refine lv_aload_n hx hb dX6_nameOf_8 rfl (lv_at hl 0 rfl) ?_
    refine m_get Z C hM hW.o K_X6 3 (by decide) fl_X6_7 (v := .ref (q 3)) rfl dX6_nameOf_9 ?_
    refine lv_iload_n hx hb dX6_nameOf_12 rfl (lv_at hl 1 rfl) ?_
    refine m_iald Z C hM (f := st_nm st) hW.a3 k_1 rfl (by omega) (by decide) dX6_nameOf_13 ?_
    refine lv_goto (tgt := 18) hx hb dX6_nameOf_14 (by decide) ?_
    exact m_iret C hM hS (Nat.le_of_ble_eq_true rfl) (Nat.le_of_ble_eq_true rfl) dX6_nameOf_18 (Or.inl ⟨k_1, f_2, rfl, rfl, hW, hF⟩)
  · -- of 2
    subst hv
    have hF := hF.trans hF9
    obtain ⟨h, hM, hW, hF⟩ : ∃ h8, MW G s0.heap.size h8 H ∧ MdlW G h8 m q (se_now (se_many (se_thr st (nI 1)) (st_many st)) (st_now st)) ∧ mFr h0 h8 m q := ⟨_, hM, hW, hF⟩
    refine W.eq (g2 := F0 mt 5 ls [.int (nI 0)]) rfl ?_
    refine lv_if_eq (tgt := 17) hx hb dX6_nameOf_5 (by decide) (fun _ => ?_) (fun q => absurd (by decide) q)
    refine lv_iconst (v := nI 0) hx hb dX6_nameOf_17 (by decide) ?_
    exact m_iret C hM hS (Nat.le_of_ble_eq_true rfl) (Nat.le_of_ble_eq_true rfl) dX6_nameOf_18 (Or.inr ⟨f_4, rfl, hW, hF⟩)
set_option maxRecDepth 100000 in
set_option maxHeartbeats 4000000 in
theorem c_X6_hostOf {l : Launch} {G : mG} {a0 : Array Value} {s0 : State} (Z : mZ l G a0 s0) (h0 : Hp) (m : Nat) (q : Nat → Nat) (st : Ms) (hW : MdlW G h0 m q st) (x : Int32) (hk : Mok st) : mM l G s0 yX6_hostOf cX6_hostOf 2 (some .int) 2 43 0 0 h0 [.ref m, .int x] (fun v h9 => (∃ k : Nat, (k < st_many st) ∧ (x = nI k) ∧ v = some (.int (st_ho st k)) ∧ MdlW G h9 m q (se_now (se_many (se_thr st (nI 0)) (st_many st)) (st_now st)) ∧ mFr h0 h9 m q) ∨ ((∀ k : Nat, k < st_many st → x ≠ nI k) ∧ v = some (.int (nI 0)) ∧ MdlW G h9 m q (se_now (se_many (se_thr st (nI 1)) (st_many st)) (st_now st)) ∧ mFr h0 h9 m q)) := by
  refine mM_in RX6 "hostOf" rfl rfl (by decide +kernel) (Nat.le_of_ble_eq_true rfl) ?_
  intro p e s mt below meth c H locs C hM hS ls hl
  have hx := C.1
  have hb := C.2.1
  have hown := C.2.2.2.1
  have hE := C.2.2.2.2.2.2.1
  have hl : lv_has ls 2 [(0, .ref m), (1, .int x)] := hl
  have hF : mFr h0 h0 m q := mFr.rf
  obtain ⟨h, hM, hW, hF⟩ : ∃ h9, MW G s0.heap.size h9 H ∧ MdlW G h9 m q st ∧ mFr h0 h9 m q := ⟨_, hM, hW, hF⟩
  have hm := hk.1
  have hnow := hk.2.1
  refine lv_aload_n hx hb dX6_hostOf_0 rfl (lv_at hl 0 rfl) ?_
  refine lv_iload_n hx hb dX6_hostOf_1 rfl (lv_at hl 1 rfl) ?_
  refine m_callV Z C hM hS (As := [.int x]) (rest := []) (c_X6_looks Z h m q st hW x (show st_many st ≤ 10 by omega)) yi_X6_looks ml_X6_83 hW.o rfl ⟨Nat.le_of_ble_eq_true rfl, Nat.le_of_ble_eq_true rfl⟩ (Nat.le_of_ble_eq_true rfl) hl.1 rfl rfl dX6_hostOf_2 ⟨Nat.le_of_ble_eq_true rfl, Nat.le_of_ble_eq_true rfl⟩ (fun v h9 H locs hv hM hS => ?_)
  rcases hv with ⟨k_1, f_2, f_3, hv, hW, hF9⟩ | ⟨f_4, hv, hW, hF9⟩
  · -- of 2
    subst hv
    have hF := hF.trans hF9
    obtain ⟨h, hM, hW, hF⟩ : ∃ h8, MW G s0.heap.size h8 H ∧ MdlW G h8 m q (se_now (se_many (se_thr st (nI 0)) (st_many st)) (st_now st)) ∧ mFr h0 h8 m q := ⟨_, hM, hW, hF⟩
    subst f_3
    refine W.eq (g2 := F0 mt 5 ls [.int (nI 1)]) rfl ?_
    obtain ⟨hn, hT, hZ, hsi, hbd, hhv⟩ := hk.2.2 k_1 f_2
    refine lv_if_eq (tgt := 17) hx hb dX6_hostOf_5 (by decide) (fun q => absurd q (by decide)) (fun _ => ?_)
    refine lv_aload_n hx hb dX6_hostOf_8 rfl (lv_at hl 0 rfl) ?_
    refine m_get Z C hM hW.o K_X6 4 (by decide) fl_X6_13 (v := .ref (q 4)) rfl dX6_hostOf_9 ?_
    refine lv_iload_n hx hb dX6_hostOf_12 rfl (lv_at hl 1 rfl) ?_
    refine m_iald Z C hM (f := st_ho st) hW.a4 k_1 rfl (by omega) (by decide) dX6_hostOf_13 ?_
    refine lv_goto (tgt := 18) hx hb dX6_hostOf_14 (by decide) ?_
    exact m_iret C hM hS (Nat.le_of_ble_eq_true rfl) (Nat.le_of_ble_eq_true rfl) dX6_hostOf_18 (Or.inl ⟨k_1, f_2, rfl, rfl, hW, hF⟩)
  · -- of 2
    subst hv
    have hF := hF.trans hF9
    obtain ⟨h, hM, hW, hF⟩ : ∃ h8, MW G s0.heap.size h8 H ∧ MdlW G h8 m q (se_now (se_many (se_thr st (nI 1)) (st_many st)) (st_now st)) ∧ mFr h0 h8 m q := ⟨_, hM, hW, hF⟩
    refine W.eq (g2 := F0 mt 5 ls [.int (nI 0)]) rfl ?_
    refine lv_if_eq (tgt := 17) hx hb dX6_hostOf_5 (by decide) (fun _ => ?_) (fun q => absurd (by decide) q)
    refine lv_iconst (v := nI 0) hx hb dX6_hostOf_17 (by decide) ?_
    exact m_iret C hM hS (Nat.le_of_ble_eq_true rfl) (Nat.le_of_ble_eq_true rfl) dX6_hostOf_18 (Or.inr ⟨f_4, rfl, hW, hF⟩)
set_option maxRecDepth 100000 in
set_option maxHeartbeats 4000000 in
theorem c_X6_samples {l : Launch} {G : mG} {a0 : Array Value} {s0 : State} (Z : mZ l G a0 s0) (h0 : Hp) (m : Nat) (q : Nat → Nat) (st : Ms) (hW : MdlW G h0 m q st) (x : Int32) (hk : Mok st) : mM l G s0 yX6_samples cX6_samples 2 (some .int) 2 43 0 0 h0 [.ref m, .int x] (fun v h9 => (∃ k : Nat, (k < st_many st) ∧ (x = nI k) ∧ v = some (.int (nI (st_n st k))) ∧ MdlW G h9 m q (se_now (se_many (se_thr st (nI 0)) (st_many st)) (st_now st)) ∧ mFr h0 h9 m q) ∨ ((∀ k : Nat, k < st_many st → x ≠ nI k) ∧ v = some (.int (nI 0)) ∧ MdlW G h9 m q (se_now (se_many (se_thr st (nI 1)) (st_many st)) (st_now st)) ∧ mFr h0 h9 m q)) := by
  refine mM_in RX6 "samples" rfl rfl (by decide +kernel) (Nat.le_of_ble_eq_true rfl) ?_
  intro p e s mt below meth c H locs C hM hS ls hl
  have hx := C.1
  have hb := C.2.1
  have hown := C.2.2.2.1
  have hE := C.2.2.2.2.2.2.1
  have hl : lv_has ls 2 [(0, .ref m), (1, .int x)] := hl
  have hF : mFr h0 h0 m q := mFr.rf
  obtain ⟨h, hM, hW, hF⟩ : ∃ h9, MW G s0.heap.size h9 H ∧ MdlW G h9 m q st ∧ mFr h0 h9 m q := ⟨_, hM, hW, hF⟩
  have hm := hk.1
  have hnow := hk.2.1
  refine lv_aload_n hx hb dX6_samples_0 rfl (lv_at hl 0 rfl) ?_
  refine lv_iload_n hx hb dX6_samples_1 rfl (lv_at hl 1 rfl) ?_
  refine m_callV Z C hM hS (As := [.int x]) (rest := []) (c_X6_looks Z h m q st hW x (show st_many st ≤ 10 by omega)) yi_X6_looks ml_X6_83 hW.o rfl ⟨Nat.le_of_ble_eq_true rfl, Nat.le_of_ble_eq_true rfl⟩ (Nat.le_of_ble_eq_true rfl) hl.1 rfl rfl dX6_samples_2 ⟨Nat.le_of_ble_eq_true rfl, Nat.le_of_ble_eq_true rfl⟩ (fun v h9 H locs hv hM hS => ?_)
  rcases hv with ⟨k_1, f_2, f_3, hv, hW, hF9⟩ | ⟨f_4, hv, hW, hF9⟩
  · -- of 2
    subst hv
    have hF := hF.trans hF9
    obtain ⟨h, hM, hW, hF⟩ : ∃ h8, MW G s0.heap.size h8 H ∧ MdlW G h8 m q (se_now (se_many (se_thr st (nI 0)) (st_many st)) (st_now st)) ∧ mFr h0 h8 m q := ⟨_, hM, hW, hF⟩
    subst f_3
    refine W.eq (g2 := F0 mt 5 ls [.int (nI 1)]) rfl ?_
    obtain ⟨hn, hT, hZ, hsi, hbd, hhv⟩ := hk.2.2 k_1 f_2
    refine lv_if_eq (tgt := 17) hx hb dX6_samples_5 (by decide) (fun q => absurd q (by decide)) (fun _ => ?_)
    refine lv_aload_n hx hb dX6_samples_8 rfl (lv_at hl 0 rfl) ?_
    refine m_get Z C hM hW.o K_X6 5 (by decide) fl_X6_16 (v := .ref (q 5)) rfl dX6_samples_9 ?_
    refine lv_iload_n hx hb dX6_samples_12 rfl (lv_at hl 1 rfl) ?_
    refine m_iald Z C hM (f := fun k => nI ((st_n st) k)) hW.a5 k_1 rfl (by omega) (by decide) dX6_samples_13 ?_
    refine lv_goto (tgt := 18) hx hb dX6_samples_14 (by decide) ?_
    exact m_iret C hM hS (Nat.le_of_ble_eq_true rfl) (Nat.le_of_ble_eq_true rfl) dX6_samples_18 (Or.inl ⟨k_1, f_2, rfl, rfl, hW, hF⟩)
  · -- of 2
    subst hv
    have hF := hF.trans hF9
    obtain ⟨h, hM, hW, hF⟩ : ∃ h8, MW G s0.heap.size h8 H ∧ MdlW G h8 m q (se_now (se_many (se_thr st (nI 1)) (st_many st)) (st_now st)) ∧ mFr h0 h8 m q := ⟨_, hM, hW, hF⟩
    refine W.eq (g2 := F0 mt 5 ls [.int (nI 0)]) rfl ?_
    refine lv_if_eq (tgt := 17) hx hb dX6_samples_5 (by decide) (fun _ => ?_) (fun q => absurd (by decide) q)
    refine lv_iconst (v := nI 0) hx hb dX6_samples_17 (by decide) ?_
    exact m_iret C hM hS (Nat.le_of_ble_eq_true rfl) (Nat.le_of_ble_eq_true rfl) dX6_samples_18 (Or.inr ⟨f_4, rfl, hW, hF⟩)
set_option maxRecDepth 100000 in
set_option maxHeartbeats 4000000 in
theorem c_X6_blocks {l : Launch} {G : mG} {a0 : Array Value} {s0 : State} (Z : mZ l G a0 s0) (h0 : Hp) (m : Nat) (q : Nat → Nat) (st : Ms) (hW : MdlW G h0 m q st) (x : Int32) (hk : Mok st) : mM l G s0 yX6_blocks cX6_blocks 2 (some .int) 2 43 0 0 h0 [.ref m, .int x] (fun v h9 => (∃ k : Nat, (k < st_many st) ∧ (x = nI k) ∧ v = some (.int (nI (z_nb st k))) ∧ MdlW G h9 m q (se_now (se_many (se_thr st (nI 0)) (st_many st)) (st_now st)) ∧ mFr h0 h9 m q) ∨ ((∀ k : Nat, k < st_many st → x ≠ nI k) ∧ v = some (.int (nI 0)) ∧ MdlW G h9 m q (se_now (se_many (se_thr st (nI 1)) (st_many st)) (st_now st)) ∧ mFr h0 h9 m q)) := by
  refine mM_in RX6 "blocks" rfl rfl (by decide +kernel) (Nat.le_of_ble_eq_true rfl) ?_
  intro p e s mt below meth c H locs C hM hS ls hl
  have hx := C.1
  have hb := C.2.1
  have hown := C.2.2.2.1
  have hE := C.2.2.2.2.2.2.1
  have hl : lv_has ls 2 [(0, .ref m), (1, .int x)] := hl
  have hF : mFr h0 h0 m q := mFr.rf
  obtain ⟨h, hM, hW, hF⟩ : ∃ h9, MW G s0.heap.size h9 H ∧ MdlW G h9 m q st ∧ mFr h0 h9 m q := ⟨_, hM, hW, hF⟩
  have hm := hk.1
  have hnow := hk.2.1
  refine lv_aload_n hx hb dX6_blocks_0 rfl (lv_at hl 0 rfl) ?_
  refine lv_iload_n hx hb dX6_blocks_1 rfl (lv_at hl 1 rfl) ?_
  refine m_callV Z C hM hS (As := [.int x]) (rest := []) (c_X6_looks Z h m q st hW x (show st_many st ≤ 10 by omega)) yi_X6_looks ml_X6_83 hW.o rfl ⟨Nat.le_of_ble_eq_true rfl, Nat.le_of_ble_eq_true rfl⟩ (Nat.le_of_ble_eq_true rfl) hl.1 rfl rfl dX6_blocks_2 ⟨Nat.le_of_ble_eq_true rfl, Nat.le_of_ble_eq_true rfl⟩ (fun v h9 H locs hv hM hS => ?_)
  rcases hv with ⟨k_1, f_2, f_3, hv, hW, hF9⟩ | ⟨f_4, hv, hW, hF9⟩
  · -- of 2
    subst hv
    have hF := hF.trans hF9
    obtain ⟨h, hM, hW, hF⟩ : ∃ h8, MW G s0.heap.size h8 H ∧ MdlW G h8 m q (se_now (se_many (se_thr st (nI 0)) (st_many st)) (st_now st)) ∧ mFr h0 h8 m q := ⟨_, hM, hW, hF⟩
    subst f_3
    refine W.eq (g2 := F0 mt 5 ls [.int (nI 1)]) rfl ?_
    obtain ⟨hn, hT, hZ, hsi, hbd, hhv⟩ := hk.2.2 k_1 f_2
    refine lv_if_eq (tgt := 16) hx hb dX6_blocks_5 (by decide) (fun q => absurd q (by decide)) (fun _ => ?_)
    refine lv_aload_n hx hb dX6_blocks_8 rfl (lv_at hl 0 rfl) ?_
    refine lv_iload_n hx hb dX6_blocks_9 rfl (lv_at hl 1 rfl) ?_
    refine m_callV Z C hM hS (As := [.int (nI k_1)]) (rest := []) (c_X6_many Z h m q (se_now (se_many (se_thr st (nI 0)) (st_many st)) (st_now st)) hW k_1 hk (show k_1 < st_many st by omega)) yi_X6_many ml_X6_98 hW.o rfl ⟨Nat.le_of_ble_eq_true rfl, Nat.le_of_ble_eq_true rfl⟩ (Nat.le_of_ble_eq_true rfl) hl.1 rfl rfl dX6_blocks_10 ⟨Nat.le_of_ble_eq_true rfl, Nat.le_of_ble_eq_true rfl⟩ (fun v h9 H locs hv hM hS => ?_)
    obtain ⟨hv, hh9⟩ := hv
    subst hv
    rw [hh9] at hM
    refine W.eq (g2 := F0 mt 13 ls [.int (nI (z_nb st k_1))]) rfl ?_
    refine lv_goto (tgt := 17) hx hb dX6_blocks_13 (by decide) ?_
    exact m_iret C hM hS (Nat.le_of_ble_eq_true rfl) (Nat.le_of_ble_eq_true rfl) dX6_blocks_17 (Or.inl ⟨k_1, f_2, rfl, rfl, hW, hF⟩)
  · -- of 2
    subst hv
    have hF := hF.trans hF9
    obtain ⟨h, hM, hW, hF⟩ : ∃ h8, MW G s0.heap.size h8 H ∧ MdlW G h8 m q (se_now (se_many (se_thr st (nI 1)) (st_many st)) (st_now st)) ∧ mFr h0 h8 m q := ⟨_, hM, hW, hF⟩
    refine W.eq (g2 := F0 mt 5 ls [.int (nI 0)]) rfl ?_
    refine lv_if_eq (tgt := 16) hx hb dX6_blocks_5 (by decide) (fun _ => ?_) (fun q => absurd (by decide) q)
    refine lv_iconst (v := nI 0) hx hb dX6_blocks_16 (by decide) ?_
    exact m_iret C hM hS (Nat.le_of_ble_eq_true rfl) (Nat.le_of_ble_eq_true rfl) dX6_blocks_17 (Or.inr ⟨f_4, rfl, hW, hF⟩)
set_option maxRecDepth 100000 in
set_option maxHeartbeats 4000000 in
theorem c_X6_bound {l : Launch} {G : mG} {a0 : Array Value} {s0 : State} (Z : mZ l G a0 s0) (h0 : Hp) (m : Nat) (q : Nat → Nat) (st : Ms) (hW : MdlW G h0 m q st) (x : Int32) (hk : Mok st) : mM l G s0 yX6_bound cX6_bound 2 (some .int) 2 43 0 0 h0 [.ref m, .int x] (fun v h9 => (∃ k : Nat, (k < st_many st) ∧ (x = nI k) ∧ v = some (.int (nI (st_bd st k))) ∧ MdlW G h9 m q (se_now (se_many (se_thr st (nI 0)) (st_many st)) (st_now st)) ∧ mFr h0 h9 m q) ∨ ((∀ k : Nat, k < st_many st → x ≠ nI k) ∧ v = some (.int (nI 0)) ∧ MdlW G h9 m q (se_now (se_many (se_thr st (nI 1)) (st_many st)) (st_now st)) ∧ mFr h0 h9 m q)) := by
  refine mM_in RX6 "bound" rfl rfl (by decide +kernel) (Nat.le_of_ble_eq_true rfl) ?_
  intro p e s mt below meth c H locs C hM hS ls hl
  have hx := C.1
  have hb := C.2.1
  have hown := C.2.2.2.1
  have hE := C.2.2.2.2.2.2.1
  have hl : lv_has ls 2 [(0, .ref m), (1, .int x)] := hl
  have hF : mFr h0 h0 m q := mFr.rf
  obtain ⟨h, hM, hW, hF⟩ : ∃ h9, MW G s0.heap.size h9 H ∧ MdlW G h9 m q st ∧ mFr h0 h9 m q := ⟨_, hM, hW, hF⟩
  have hm := hk.1
  have hnow := hk.2.1
  refine lv_aload_n hx hb dX6_bound_0 rfl (lv_at hl 0 rfl) ?_
  refine lv_iload_n hx hb dX6_bound_1 rfl (lv_at hl 1 rfl) ?_
  refine m_callV Z C hM hS (As := [.int x]) (rest := []) (c_X6_looks Z h m q st hW x (show st_many st ≤ 10 by omega)) yi_X6_looks ml_X6_83 hW.o rfl ⟨Nat.le_of_ble_eq_true rfl, Nat.le_of_ble_eq_true rfl⟩ (Nat.le_of_ble_eq_true rfl) hl.1 rfl rfl dX6_bound_2 ⟨Nat.le_of_ble_eq_true rfl, Nat.le_of_ble_eq_true rfl⟩ (fun v h9 H locs hv hM hS => ?_)
  rcases hv with ⟨k_1, f_2, f_3, hv, hW, hF9⟩ | ⟨f_4, hv, hW, hF9⟩
  · -- of 2
    subst hv
    have hF := hF.trans hF9
    obtain ⟨h, hM, hW, hF⟩ : ∃ h8, MW G s0.heap.size h8 H ∧ MdlW G h8 m q (se_now (se_many (se_thr st (nI 0)) (st_many st)) (st_now st)) ∧ mFr h0 h8 m q := ⟨_, hM, hW, hF⟩
    subst f_3
    refine W.eq (g2 := F0 mt 5 ls [.int (nI 1)]) rfl ?_
    obtain ⟨hn, hT, hZ, hsi, hbd, hhv⟩ := hk.2.2 k_1 f_2
    refine lv_if_eq (tgt := 17) hx hb dX6_bound_5 (by decide) (fun q => absurd q (by decide)) (fun _ => ?_)
    refine lv_aload_n hx hb dX6_bound_8 rfl (lv_at hl 0 rfl) ?_
    refine m_get Z C hM hW.o K_X6 7 (by decide) fl_X6_22 (v := .ref (q 7)) rfl dX6_bound_9 ?_
    refine lv_iload_n hx hb dX6_bound_12 rfl (lv_at hl 1 rfl) ?_
    refine m_iald Z C hM (f := fun k => nI ((st_bd st) k)) hW.a7 k_1 rfl (by omega) (by decide) dX6_bound_13 ?_
    refine lv_goto (tgt := 18) hx hb dX6_bound_14 (by decide) ?_
    exact m_iret C hM hS (Nat.le_of_ble_eq_true rfl) (Nat.le_of_ble_eq_true rfl) dX6_bound_18 (Or.inl ⟨k_1, f_2, rfl, rfl, hW, hF⟩)
  · -- of 2
    subst hv
    have hF := hF.trans hF9
    obtain ⟨h, hM, hW, hF⟩ : ∃ h8, MW G s0.heap.size h8 H ∧ MdlW G h8 m q (se_now (se_many (se_thr st (nI 1)) (st_many st)) (st_now st)) ∧ mFr h0 h8 m q := ⟨_, hM, hW, hF⟩
    refine W.eq (g2 := F0 mt 5 ls [.int (nI 0)]) rfl ?_
    refine lv_if_eq (tgt := 17) hx hb dX6_bound_5 (by decide) (fun _ => ?_) (fun q => absurd (by decide) q)
    refine lv_iconst (v := nI 0) hx hb dX6_bound_17 (by decide) ?_
    exact m_iret C hM hS (Nat.le_of_ble_eq_true rfl) (Nat.le_of_ble_eq_true rfl) dX6_bound_18 (Or.inr ⟨f_4, rfl, hW, hF⟩)
set_option maxRecDepth 100000 in
set_option maxHeartbeats 4000000 in
theorem c_X6_latest {l : Launch} {G : mG} {a0 : Array Value} {s0 : State} (Z : mZ l G a0 s0) (h0 : Hp) (m : Nat) (q : Nat → Nat) (st : Ms) (hW : MdlW G h0 m q st) (x : Int32) (hk : Mok st) : mM l G s0 yX6_latest cX6_latest 2 (some .int) 2 43 0 0 h0 [.ref m, .int x] (fun v h9 => (∃ k : Nat, (k < st_many st) ∧ (x = nI k) ∧ (0 < st_n st k) ∧ v = some (.int (z_la st k)) ∧ MdlW G h9 m q (se_now (se_many (se_thr st (nI 0)) (st_many st)) (st_now st)) ∧ mFr h0 h9 m q) ∨ (∃ k : Nat, (k < st_many st) ∧ (x = nI k) ∧ (st_n st k = 0) ∧ v = some (.int (nI 0)) ∧ MdlW G h9 m q (se_now (se_many (se_thr st (nI 2)) (st_many st)) (st_now st)) ∧ mFr h0 h9 m q) ∨ ((∀ k : Nat, k < st_many st → x ≠ nI k) ∧ v = some (.int (nI 0)) ∧ MdlW G h9 m q (se_now (se_many (se_thr st (nI 1)) (st_many st)) (st_now st)) ∧ mFr h0 h9 m q)) := by
  refine mM_in RX6 "latest" rfl rfl (by decide +kernel) (Nat.le_of_ble_eq_true rfl) ?_
  intro p e s mt below meth c H locs C hM hS ls hl
  have hx := C.1
  have hb := C.2.1
  have hown := C.2.2.2.1
  have hE := C.2.2.2.2.2.2.1
  have hl : lv_has ls 2 [(0, .ref m), (1, .int x)] := hl
  have hF : mFr h0 h0 m q := mFr.rf
  obtain ⟨h, hM, hW, hF⟩ : ∃ h9, MW G s0.heap.size h9 H ∧ MdlW G h9 m q st ∧ mFr h0 h9 m q := ⟨_, hM, hW, hF⟩
  have hm := hk.1
  have hnow := hk.2.1
  refine lv_aload_n hx hb dX6_latest_0 rfl (lv_at hl 0 rfl) ?_
  refine lv_iload_n hx hb dX6_latest_1 rfl (lv_at hl 1 rfl) ?_
  refine m_callV Z C hM hS (As := [.int x]) (rest := []) (c_X6_looks Z h m q st hW x (show st_many st ≤ 10 by omega)) yi_X6_looks ml_X6_83 hW.o rfl ⟨Nat.le_of_ble_eq_true rfl, Nat.le_of_ble_eq_true rfl⟩ (Nat.le_of_ble_eq_true rfl) hl.1 rfl rfl dX6_latest_2 ⟨Nat.le_of_ble_eq_true rfl, Nat.le_of_ble_eq_true rfl⟩ (fun v h9 H locs hv hM hS => ?_)
  rcases hv with ⟨k_1, f_2, f_3, hv, hW, hF9⟩ | ⟨f_4, hv, hW, hF9⟩
  · -- of 2
    subst hv
    have hF := hF.trans hF9
    obtain ⟨h, hM, hW, hF⟩ : ∃ h8, MW G s0.heap.size h8 H ∧ MdlW G h8 m q (se_now (se_many (se_thr st (nI 0)) (st_many st)) (st_now st)) ∧ mFr h0 h8 m q := ⟨_, hM, hW, hF⟩
    subst f_3
    refine W.eq (g2 := F0 mt 5 ls [.int (nI 1)]) rfl ?_
    obtain ⟨hn, hT, hZ, hsi, hbd, hhv⟩ := hk.2.2 k_1 f_2
    refine lv_if_ne (tgt := 10) hx hb dX6_latest_5 (by decide) (fun _ => ?_) (fun q => absurd q (by decide))
    refine lv_aload_n hx hb dX6_latest_10 rfl (lv_at hl 0 rfl) ?_
    refine lv_aload_n hx hb dX6_latest_11 rfl (lv_at hl 0 rfl) ?_
    refine m_get Z C hM hW.o K_X6 5 (by decide) fl_X6_16 (v := .ref (q 5)) rfl dX6_latest_12 ?_
    refine lv_iload_n hx hb dX6_latest_15 rfl (lv_at hl 1 rfl) ?_
    refine m_iald Z C hM (f := fun k => nI ((st_n st) k)) hW.a5 k_1 rfl (by omega) (by decide) dX6_latest_16 ?_
    refine lv_if_ne (tgt := 24) hx hb dX6_latest_17 (by decide) (fun c_6 => ?_) (fun c_6 => ?_)
    · -- 17 t
      have c_6 : ¬ (st_n st) k_1 = 0 := fun q => c_6 ((nI_eq (by omega) (by decide)).mpr q)
      refine lv_iconst (v := nI 0) hx hb dX6_latest_24 (by decide) ?_
      refine m_put Z C hM hS hW.o K_X6 0 (by decide) fl_X6_53 (v := .int (nI 0)) rfl rfl rfl (fs' := mObj q (se_now (se_many (se_thr (se_now (se_many (se_thr st (nI 0)) (st_many st)) (st_now st)) (nI 0)) (st_many st)) (st_now st))) rfl (Nat.le_of_ble_eq_true rfl) dX6_latest_25 (fun H locs hM hS => ?_)
      obtain ⟨h, hM, hW, hF⟩ : ∃ h9, MW G s0.heap.size h9 H ∧ MdlW G h9 m q (se_now (se_many (se_thr (se_now (se_many (se_thr st (nI 0)) (st_many st)) (st_now st)) (nI 0)) (st_many st)) (st_now st)) ∧ mFr h0 h9 m q := ⟨_, hM, hW.uo (nI 0) (st_many st) (st_now st), hF.o _⟩
      refine lv_aload_n hx hb dX6_latest_28 rfl (lv_at hl 0 rfl) ?_
      refine m_get Z C hM hW.o K_X6 0 (by decide) fl_X6_53 (v := .int (nI 0)) rfl dX6_latest_29 ?_
      refine lv_if_ne (tgt := 43) hx hb dX6_latest_32 (by decide) (fun q => absurd (by decide) q) (fun _ => ?_)
      refine lv_aload_n hx hb dX6_latest_35 rfl (lv_at hl 0 rfl) ?_
      refine lv_iload_n hx hb dX6_latest_36 rfl (lv_at hl 1 rfl) ?_
      refine m_callV Z C hM hS (As := [.int (nI k_1)]) (rest := []) (c_X6_last Z h m q (se_now (se_many (se_thr (se_now (se_many (se_thr st (nI 0)) (st_many st)) (st_now st)) (nI 0)) (st_many st)) (st_now st)) hW k_1 (show k_1 < 10 by omega) (show 0 < st_n st k_1 by omega) (show st_n st k_1 ≤ 120 by omega)) yi_X6_last ml_X6_95 hW.o rfl ⟨Nat.le_of_ble_eq_true rfl, Nat.le_of_ble_eq_true rfl⟩ (Nat.le_of_ble_eq_true rfl) hl.1 rfl rfl dX6_latest_37 ⟨Nat.le_of_ble_eq_true rfl, Nat.le_of_ble_eq_true rfl⟩ (fun v h9 H locs hv hM hS => ?_)
      obtain ⟨hv, hh9⟩ := hv
      subst hv
      rw [hh9] at hM
      refine W.eq (g2 := F0 mt 40 ls [.int (st_V st (120 * k_1 + (st_n st k_1 - 1)))]) rfl ?_
      refine lv_goto (tgt := 44) hx hb dX6_latest_40 (by decide) ?_
      exact m_iret C hM hS (Nat.le_of_ble_eq_true rfl) (Nat.le_of_ble_eq_true rfl) dX6_latest_44 (Or.inl ⟨k_1, f_2, rfl, (by omega), rfl, hW, hF⟩)
    · -- 17 f
      have c_6 : (st_n st) k_1 = 0 := (nI_eq (by omega) (by decide)).mp c_6
      refine lv_iconst (v := nI 2) hx hb dX6_latest_20 (by decide) ?_
      refine lv_goto (tgt := 25) hx hb dX6_latest_21 (by decide) ?_
      refine m_put Z C hM hS hW.o K_X6 0 (by decide) fl_X6_53 (v := .int (nI 2)) rfl rfl rfl (fs' := mObj q (se_now (se_many (se_thr (se_now (se_many (se_thr st (nI 0)) (st_many st)) (st_now st)) (nI 2)) (st_many st)) (st_now st))) rfl (Nat.le_of_ble_eq_true rfl) dX6_latest_25 (fun H locs hM hS => ?_)
      obtain ⟨h, hM, hW, hF⟩ : ∃ h9, MW G s0.heap.size h9 H ∧ MdlW G h9 m q (se_now (se_many (se_thr (se_now (se_many (se_thr st (nI 0)) (st_many st)) (st_now st)) (nI 2)) (st_many st)) (st_now st)) ∧ mFr h0 h9 m q := ⟨_, hM, hW.uo (nI 2) (st_many st) (st_now st), hF.o _⟩
      refine lv_aload_n hx hb dX6_latest_28 rfl (lv_at hl 0 rfl) ?_
      refine m_get Z C hM hW.o K_X6 0 (by decide) fl_X6_53 (v := .int (nI 2)) rfl dX6_latest_29 ?_
      refine lv_if_ne (tgt := 43) hx hb dX6_latest_32 (by decide) (fun _ => ?_) (fun q => absurd q (by decide))
      refine lv_iconst (v := nI 0) hx hb dX6_latest_43 (by decide) ?_
      exact m_iret C hM hS (Nat.le_of_ble_eq_true rfl) (Nat.le_of_ble_eq_true rfl) dX6_latest_44 (Or.inr (Or.inl ⟨k_1, f_2, rfl, (by omega), rfl, hW, hF⟩))
  · -- of 2
    subst hv
    have hF := hF.trans hF9
    obtain ⟨h, hM, hW, hF⟩ : ∃ h8, MW G s0.heap.size h8 H ∧ MdlW G h8 m q (se_now (se_many (se_thr st (nI 1)) (st_many st)) (st_now st)) ∧ mFr h0 h8 m q := ⟨_, hM, hW, hF⟩
    refine W.eq (g2 := F0 mt 5 ls [.int (nI 0)]) rfl ?_
    refine lv_if_ne (tgt := 10) hx hb dX6_latest_5 (by decide) (fun q => absurd (by decide) q) (fun _ => ?_)
    refine lv_iconst (v := nI 0) hx hb dX6_latest_8 (by decide) ?_
    exact m_iret C hM hS (Nat.le_of_ble_eq_true rfl) (Nat.le_of_ble_eq_true rfl) dX6_latest_9 (Or.inr (Or.inr ⟨f_4, rfl, hW, hF⟩))
set_option maxRecDepth 100000 in
set_option maxHeartbeats 4000000 in
theorem c_X6_time_ {l : Launch} {G : mG} {a0 : Array Value} {s0 : State} (Z : mZ l G a0 s0) (h0 : Hp) (m : Nat) (q : Nat → Nat) (st : Ms) (hW : MdlW G h0 m q st) : mM l G s0 yX6_time_ cX6_time_ 1 (some .long) 0 0 0 0 h0 [.ref m] (fun v h9 => (v = some (.long (lN (st_now st))) ∧ MdlW G h9 m q (se_now (se_many (se_thr st (nI 0)) (st_many st)) (st_now st)) ∧ mFr h0 h9 m q)) := by
  refine mM_in RX6 "time" rfl rfl (by decide +kernel) (Nat.le_of_ble_eq_true rfl) ?_
  intro p e s mt below meth c H locs C hM hS ls hl
  have hx := C.1
  have hb := C.2.1
  have hown := C.2.2.2.1
  have hE := C.2.2.2.2.2.2.1
  have hl : lv_has ls 1 [(0, .ref m)] := hl
  have hF : mFr h0 h0 m q := mFr.rf
  obtain ⟨h, hM, hW, hF⟩ : ∃ h9, MW G s0.heap.size h9 H ∧ MdlW G h9 m q st ∧ mFr h0 h9 m q := ⟨_, hM, hW, hF⟩
  refine lv_aload_n hx hb dX6_time__0 rfl (lv_at hl 0 rfl) ?_
  refine lv_iconst (v := nI 0) hx hb dX6_time__1 (by decide) ?_
  refine m_put Z C hM hS hW.o K_X6 0 (by decide) fl_X6_53 (v := .int (nI 0)) rfl rfl rfl (fs' := mObj q (se_now (se_many (se_thr st (nI 0)) (st_many st)) (st_now st))) rfl (Nat.le_of_ble_eq_true rfl) dX6_time__2 (fun H locs hM hS => ?_)
  obtain ⟨h, hM, hW, hF⟩ : ∃ h9, MW G s0.heap.size h9 H ∧ MdlW G h9 m q (se_now (se_many (se_thr st (nI 0)) (st_many st)) (st_now st)) ∧ mFr h0 h9 m q := ⟨_, hM, hW.uo (nI 0) (st_many st) (st_now st), hF.o _⟩
  refine lv_aload_n hx hb dX6_time__5 rfl (lv_at hl 0 rfl) ?_
  refine m_get Z C hM hW.o K_X6 2 (by decide) fl_X6_75 (v := .long (lN (st_now st))) rfl dX6_time__6 ?_
  exact m_lret C hM hS (Nat.le_of_ble_eq_true rfl) (Nat.le_of_ble_eq_true rfl) dX6_time__9 ⟨rfl, hW, hF⟩
set_option maxRecDepth 100000 in
set_option maxHeartbeats 4000000 in
theorem c_X6_seriesCount {l : Launch} {G : mG} {a0 : Array Value} {s0 : State} (Z : mZ l G a0 s0) (h0 : Hp) (m : Nat) (q : Nat → Nat) (st : Ms) (hW : MdlW G h0 m q st) : mM l G s0 yX6_seriesCount cX6_seriesCount 1 (some .int) 0 0 0 0 h0 [.ref m] (fun v h9 => (v = some (.int (nI (st_many st))) ∧ MdlW G h9 m q (se_now (se_many (se_thr st (nI 0)) (st_many st)) (st_now st)) ∧ mFr h0 h9 m q)) := by
  refine mM_in RX6 "seriesCount" rfl rfl (by decide +kernel) (Nat.le_of_ble_eq_true rfl) ?_
  intro p e s mt below meth c H locs C hM hS ls hl
  have hx := C.1
  have hb := C.2.1
  have hown := C.2.2.2.1
  have hE := C.2.2.2.2.2.2.1
  have hl : lv_has ls 1 [(0, .ref m)] := hl
  have hF : mFr h0 h0 m q := mFr.rf
  obtain ⟨h, hM, hW, hF⟩ : ∃ h9, MW G s0.heap.size h9 H ∧ MdlW G h9 m q st ∧ mFr h0 h9 m q := ⟨_, hM, hW, hF⟩
  refine lv_aload_n hx hb dX6_seriesCount_0 rfl (lv_at hl 0 rfl) ?_
  refine lv_iconst (v := nI 0) hx hb dX6_seriesCount_1 (by decide) ?_
  refine m_put Z C hM hS hW.o K_X6 0 (by decide) fl_X6_53 (v := .int (nI 0)) rfl rfl rfl (fs' := mObj q (se_now (se_many (se_thr st (nI 0)) (st_many st)) (st_now st))) rfl (Nat.le_of_ble_eq_true rfl) dX6_seriesCount_2 (fun H locs hM hS => ?_)
  obtain ⟨h, hM, hW, hF⟩ : ∃ h9, MW G s0.heap.size h9 H ∧ MdlW G h9 m q (se_now (se_many (se_thr st (nI 0)) (st_many st)) (st_now st)) ∧ mFr h0 h9 m q := ⟨_, hM, hW.uo (nI 0) (st_many st) (st_now st), hF.o _⟩
  refine lv_aload_n hx hb dX6_seriesCount_5 rfl (lv_at hl 0 rfl) ?_
  refine m_get Z C hM hW.o K_X6 1 (by decide) fl_X6_57 (v := .int (nI (st_many st))) rfl dX6_seriesCount_6 ?_
  exact m_iret C hM hS (Nat.le_of_ble_eq_true rfl) (Nat.le_of_ble_eq_true rfl) dX6_seriesCount_9 ⟨rfl, hW, hF⟩
set_option maxRecDepth 100000 in
set_option maxHeartbeats 4000000 in
theorem c_X6_isConsistent {l : Launch} {G : mG} {a0 : Array Value} {s0 : State} (Z : mZ l G a0 s0) (h0 : Hp) (m : Nat) (q : Nat → Nat) (st : Ms) (hW : MdlW G h0 m q st) : mM l G s0 yX6_isConsistent cX6_isConsistent 1 (some .boolean) 0 0 0 0 h0 [.ref m] (fun v h9 => (v = some (.int (nI 1)) ∧ MdlW G h9 m q (se_now (se_many (se_thr st (nI 0)) (st_many st)) (st_now st)) ∧ mFr h0 h9 m q)) := by
  refine mM_in RX6 "isConsistent" rfl rfl (by decide +kernel) (Nat.le_of_ble_eq_true rfl) ?_
  intro p e s mt below meth c H locs C hM hS ls hl
  have hx := C.1
  have hb := C.2.1
  have hown := C.2.2.2.1
  have hE := C.2.2.2.2.2.2.1
  have hl : lv_has ls 1 [(0, .ref m)] := hl
  have hF : mFr h0 h0 m q := mFr.rf
  obtain ⟨h, hM, hW, hF⟩ : ∃ h9, MW G s0.heap.size h9 H ∧ MdlW G h9 m q st ∧ mFr h0 h9 m q := ⟨_, hM, hW, hF⟩
  refine lv_aload_n hx hb dX6_isConsistent_0 rfl (lv_at hl 0 rfl) ?_
  refine lv_iconst (v := nI 0) hx hb dX6_isConsistent_1 (by decide) ?_
  refine m_put Z C hM hS hW.o K_X6 0 (by decide) fl_X6_53 (v := .int (nI 0)) rfl rfl rfl (fs' := mObj q (se_now (se_many (se_thr st (nI 0)) (st_many st)) (st_now st))) rfl (Nat.le_of_ble_eq_true rfl) dX6_isConsistent_2 (fun H locs hM hS => ?_)
  obtain ⟨h, hM, hW, hF⟩ : ∃ h9, MW G s0.heap.size h9 H ∧ MdlW G h9 m q (se_now (se_many (se_thr st (nI 0)) (st_many st)) (st_now st)) ∧ mFr h0 h9 m q := ⟨_, hM, hW.uo (nI 0) (st_many st) (st_now st), hF.o _⟩
  refine lv_iconst (v := nI 1) hx hb dX6_isConsistent_5 (by decide) ?_
  exact m_zret C hM hS (Nat.le_of_ble_eq_true rfl) (Nat.le_of_ble_eq_true rfl) rfl dX6_isConsistent_6 ⟨rfl, hW, hF⟩
