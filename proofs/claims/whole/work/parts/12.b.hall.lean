set_option maxRecDepth 100000 in
set_option maxHeartbeats 4000000 in
theorem c_X5_isLabel {l : Launch} {G : mG} {a0 : Array Value} {s0 : State} (Z : mZ l G a0 s0) (h0 : Hp) (x : Int32) : mM l G s0 yX5_isLabel cX5_isLabel 1 (some .boolean) 0 0 0 0 h0 [.int x] (fun v h9 => (v = some (.int (b2 (nI 0 ≤ x ∧ x ≤ nI 9))) ∧ h9 = h0)) := by
  refine mM_in RX5 "isLabel" rfl rfl (by decide +kernel) (Nat.le_of_ble_eq_true rfl) ?_
  intro p e s mt below meth c H locs C hM hS ls hl
  have hx := C.1
  have hb := C.2.1
  have hown := C.2.2.2.1
  have hE := C.2.2.2.2.2.2.1
  have hl : lv_has ls 1 [(0, .int x)] := hl
  obtain ⟨h, hh⟩ : ∃ z, z = h0 := ⟨_, rfl⟩
  rw [← hh] at hM
  refine lv_iload_n hx hb dX5_isLabel_0 rfl (lv_at hl 0 rfl) ?_
  refine lv_if_lt (tgt := 14) hx hb dX5_isLabel_1 (by decide) (fun c_1 => ?_) (fun c_1 => ?_)
  · -- 1 t
    refine lv_iconst (v := nI 0) hx hb dX5_isLabel_14 (by decide) ?_
    exact m_zret C hM hS (Nat.le_of_ble_eq_true rfl) (Nat.le_of_ble_eq_true rfl) rfl dX5_isLabel_15 ⟨by rw [b2_f (fun q => i_ltn c_1 q.1)], hh⟩
  · -- 1 f
    refine lv_iload_n hx hb dX5_isLabel_4 rfl (lv_at hl 0 rfl) ?_
    refine lv_bipush (v := nI 10) hx hb dX5_isLabel_5 (by decide) ?_
    refine lv_icmp_ge (tgt := 14) hx hb dX5_isLabel_7 (by decide) (fun c_2 => ?_) (fun c_2 => ?_)
    · -- 7 t
      refine lv_iconst (v := nI 0) hx hb dX5_isLabel_14 (by decide) ?_
      exact m_zret C hM hS (Nat.le_of_ble_eq_true rfl) (Nat.le_of_ble_eq_true rfl) rfl dX5_isLabel_15 ⟨by rw [b2_f (fun q => lab_ge c_2 q.2)], hh⟩
    · -- 7 f
      refine lv_iconst (v := nI 1) hx hb dX5_isLabel_10 (by decide) ?_
      refine lv_goto (tgt := 15) hx hb dX5_isLabel_11 (by decide) ?_
      exact m_zret C hM hS (Nat.le_of_ble_eq_true rfl) (Nat.le_of_ble_eq_true rfl) rfl dX5_isLabel_15 ⟨by rw [b2_t ⟨i_nlt c_1, lab_lt c_2⟩], hh⟩
set_option maxRecDepth 100000 in
set_option maxHeartbeats 4000000 in
theorem c_X5_isValue {l : Launch} {G : mG} {a0 : Array Value} {s0 : State} (Z : mZ l G a0 s0) (h0 : Hp) (x : Int32) : mM l G s0 yX5_isValue cX5_isValue 1 (some .boolean) 0 0 0 0 h0 [.int x] (fun v h9 => (v = some (.int (b2 ((-10000) ≤ x ∧ x ≤ nI 10000))) ∧ h9 = h0)) := by
  refine mM_in RX5 "isValue" rfl rfl (by decide +kernel) (Nat.le_of_ble_eq_true rfl) ?_
  intro p e s mt below meth c H locs C hM hS ls hl
  have hx := C.1
  have hb := C.2.1
  have hown := C.2.2.2.1
  have hE := C.2.2.2.2.2.2.1
  have hl : lv_has ls 1 [(0, .int x)] := hl
  obtain ⟨h, hh⟩ : ∃ z, z = h0 := ⟨_, rfl⟩
  rw [← hh] at hM
  refine lv_iload_n hx hb dX5_isValue_0 rfl (lv_at hl 0 rfl) ?_
  refine lv_sipush (v := -10000) hx hb dX5_isValue_1 (by decide) ?_
  refine lv_icmp_lt (tgt := 18) hx hb dX5_isValue_4 (by decide) (fun c_1 => ?_) (fun c_1 => ?_)
  · -- 4 t
    refine lv_iconst (v := nI 0) hx hb dX5_isValue_18 (by decide) ?_
    exact m_zret C hM hS (Nat.le_of_ble_eq_true rfl) (Nat.le_of_ble_eq_true rfl) rfl dX5_isValue_19 ⟨by rw [b2_f (by have k0 := c_1; simp only [Int32.lt_iff_toInt_lt, Int32.le_iff_toInt_le, ← Int32.toInt_inj, Int64.lt_iff_toInt_lt, Int64.le_iff_toInt_le, ← Int64.toInt_inj, kt, ktL] at k0 ⊢; omega)], hh⟩
  · -- 4 f
    refine lv_iload_n hx hb dX5_isValue_7 rfl (lv_at hl 0 rfl) ?_
    refine lv_sipush (v := nI 10000) hx hb dX5_isValue_8 (by decide) ?_
    refine lv_icmp_gt (tgt := 18) hx hb dX5_isValue_11 (by decide) (fun c_2 => ?_) (fun c_2 => ?_)
    · -- 11 t
      refine lv_iconst (v := nI 0) hx hb dX5_isValue_18 (by decide) ?_
      exact m_zret C hM hS (Nat.le_of_ble_eq_true rfl) (Nat.le_of_ble_eq_true rfl) rfl dX5_isValue_19 ⟨by rw [b2_f (by have k0 := c_1; have k1 := c_2; simp only [Int32.lt_iff_toInt_lt, Int32.le_iff_toInt_le, ← Int32.toInt_inj, Int64.lt_iff_toInt_lt, Int64.le_iff_toInt_le, ← Int64.toInt_inj, kt, ktL] at k0 k1 ⊢; omega)], hh⟩
    · -- 11 f
      refine lv_iconst (v := nI 1) hx hb dX5_isValue_14 (by decide) ?_
      refine lv_goto (tgt := 19) hx hb dX5_isValue_15 (by decide) ?_
      exact m_zret C hM hS (Nat.le_of_ble_eq_true rfl) (Nat.le_of_ble_eq_true rfl) rfl dX5_isValue_19 ⟨by rw [b2_t (by have k0 := c_1; have k1 := c_2; simp only [Int32.lt_iff_toInt_lt, Int32.le_iff_toInt_le, ← Int32.toInt_inj, Int64.lt_iff_toInt_lt, Int64.le_iff_toInt_le, ← Int64.toInt_inj, kt, ktL] at k0 k1 ⊢; omega)], hh⟩
set_option maxRecDepth 100000 in
set_option maxHeartbeats 4000000 in
theorem c_X5_refuseBadNames {l : Launch} {G : mG} {a0 : Array Value} {s0 : State} (Z : mZ l G a0 s0) (h0 : Hp) (a : Int32) (d : Int32) : mT l G s0 yX5_refuseBadNames cX5_refuseBadNames 2 none 6 90 1 6 h0 [.int a, .int d] (fun v9 h9 => (((nI 0 ≤ a ∧ a ≤ nI 9) ∧ (nI 0 ≤ d ∧ d ≤ nI 9)) ∧ v9 = none ∧ h9 = h0)) (fun E h9 => (E = "java/lang/IllegalArgumentException" ∧ (¬ ((nI 0 ≤ a ∧ a ≤ nI 9) ∧ (nI 0 ≤ d ∧ d ≤ nI 9))) ∧ h9 = h0)) := by
  refine mT_in RX5 "refuseBadNames" rfl rfl (by decide +kernel) (Nat.le_of_ble_eq_true rfl) ?_
  intro p e s mt below meth c H locs C ht hM hS ls hl
  have hx := C.1
  have hb := C.2.1
  have hown := C.2.2.2.1
  have hE := C.2.2.2.2.2.2.1
  have hl : lv_has ls 2 [(0, .int a), (1, .int d)] := hl
  obtain ⟨h, hh⟩ : ∃ z, z = h0 := ⟨_, rfl⟩
  rw [← hh] at hM
  refine lv_iload_n hx hb dX5_refuseBadNames_0 rfl (lv_at hl 0 rfl) ?_
  refine m_callS Z C hM hS (As := [.int a]) (rest := []) (c_X5_isLabel Z h a) yi_X5_isLabel ml_X5_30 ⟨Nat.le_of_ble_eq_true rfl, Nat.le_of_ble_eq_true rfl⟩ (Nat.le_of_ble_eq_true rfl) hl.1 rfl rfl dX5_refuseBadNames_1 ⟨Nat.le_of_ble_eq_true rfl, Nat.le_of_ble_eq_true rfl⟩ (fun v h9 H locs hv hM hS => ?_)
  obtain ⟨hv, hh9⟩ := hv
  rcases Decidable.em (nI 0 ≤ a ∧ a ≤ nI 9) with g_1 | g_1
  · -- of 1: True
    replace hv : v = some (.int (b2 (nI 0 ≤ a ∧ a ≤ nI 9))) := hv
    rw [b2_t g_1] at hv
    subst hv
    rw [hh9] at hM
    refine W.eq (g2 := F0 mt 4 ls [.int (nI 1)]) rfl ?_
    refine lv_if_eq (tgt := 14) hx hb dX5_refuseBadNames_4 (by decide) (fun q => absurd q (by decide)) (fun _ => ?_)
    refine lv_iload_n hx hb dX5_refuseBadNames_7 rfl (lv_at hl 1 rfl) ?_
    refine m_callS Z C hM hS (As := [.int d]) (rest := []) (c_X5_isLabel Z h d) yi_X5_isLabel ml_X5_30 ⟨Nat.le_of_ble_eq_true rfl, Nat.le_of_ble_eq_true rfl⟩ (Nat.le_of_ble_eq_true rfl) hl.1 rfl rfl dX5_refuseBadNames_8 ⟨Nat.le_of_ble_eq_true rfl, Nat.le_of_ble_eq_true rfl⟩ (fun v h9 H locs hv hM hS => ?_)
    obtain ⟨hv, hh9⟩ := hv
    rcases Decidable.em (nI 0 ≤ d ∧ d ≤ nI 9) with g_3 | g_3
    · -- of 8: True
      replace hv : v = some (.int (b2 (nI 0 ≤ d ∧ d ≤ nI 9))) := hv
      rw [b2_t g_3] at hv
      subst hv
      rw [hh9] at hM
      refine W.eq (g2 := F0 mt 11 ls [.int (nI 1)]) rfl ?_
      refine lv_if_ne (tgt := 24) hx hb dX5_refuseBadNames_11 (by decide) (fun _ => ?_) (fun q => absurd q (by decide))
      refine vx_ret ?_
      exact m_vret C hM hS (Nat.le_of_ble_eq_true rfl) (Nat.le_of_ble_eq_true rfl) dX5_refuseBadNames_24 ⟨⟨g_1, g_3⟩, rfl, hh⟩
    · -- of 8: False
      replace hv : v = some (.int (b2 (nI 0 ≤ d ∧ d ≤ nI 9))) := hv
      rw [b2_f g_3] at hv
      subst hv
      rw [hh9] at hM
      refine W.eq (g2 := F0 mt 11 ls [.int (nI 0)]) rfl ?_
      refine lv_if_ne (tgt := 24) hx hb dX5_refuseBadNames_11 (by decide) (fun q => absurd (by decide) q) (fun _ => ?_)
      exact m_throw Z C ht hM hS xy_X5_refuseBadNames_14 hl.1 dX5_refuseBadNames_14 dX5_refuseBadNames_17 dX5_refuseBadNames_18 dX5_refuseBadNames_20 dX5_refuseBadNames_23 ⟨Nat.le_of_ble_eq_true rfl, Nat.le_of_ble_eq_true rfl, Nat.le_of_ble_eq_true rfl, Nat.le_of_ble_eq_true rfl⟩ (Nat.le_of_ble_eq_true rfl) (Nat.le_of_ble_eq_true rfl) ⟨rfl, (fun q => g_3 q.2), hh⟩
  · -- of 1: False
    replace hv : v = some (.int (b2 (nI 0 ≤ a ∧ a ≤ nI 9))) := hv
    rw [b2_f g_1] at hv
    subst hv
    rw [hh9] at hM
    refine W.eq (g2 := F0 mt 4 ls [.int (nI 0)]) rfl ?_
    refine lv_if_eq (tgt := 14) hx hb dX5_refuseBadNames_4 (by decide) (fun _ => ?_) (fun q => absurd (by decide) q)
    exact m_throw Z C ht hM hS xy_X5_refuseBadNames_14 hl.1 dX5_refuseBadNames_14 dX5_refuseBadNames_17 dX5_refuseBadNames_18 dX5_refuseBadNames_20 dX5_refuseBadNames_23 ⟨Nat.le_of_ble_eq_true rfl, Nat.le_of_ble_eq_true rfl, Nat.le_of_ble_eq_true rfl, Nat.le_of_ble_eq_true rfl⟩ (Nat.le_of_ble_eq_true rfl) (Nat.le_of_ble_eq_true rfl) ⟨rfl, (fun q => g_1 q.1), hh⟩
set_option maxRecDepth 100000 in
set_option maxHeartbeats 4000000 in
theorem c_X5_refuseBadRange {l : Launch} {G : mG} {a0 : Array Value} {s0 : State} (Z : mZ l G a0 s0) (h0 : Hp) (a : Int64) (d : Int64) : mT l G s0 yX5_refuseBadRange cX5_refuseBadRange 4 none 6 90 1 6 h0 [.long a, .long d] (fun v9 h9 => ((¬ z_bad a d) ∧ v9 = none ∧ h9 = h0)) (fun E h9 => (E = "java/lang/IllegalArgumentException" ∧ (z_bad a d) ∧ h9 = h0)) := by
  refine mT_in RX5 "refuseBadRange" rfl rfl (by decide +kernel) (Nat.le_of_ble_eq_true rfl) ?_
  intro p e s mt below meth c H locs C ht hM hS ls hl
  have hx := C.1
  have hb := C.2.1
  have hown := C.2.2.2.1
  have hE := C.2.2.2.2.2.2.1
  have hl : lv_has ls 4 [(0, .long a), (2, .long d)] := hl
  obtain ⟨h, hh⟩ : ∃ z, z = h0 := ⟨_, rfl⟩
  rw [← hh] at hM
  refine lv_lload_n hx hb dX5_refuseBadRange_0 rfl (lv_at hl 0 rfl) ?_
  refine lv_lconst (v := lN 0) hx hb dX5_refuseBadRange_1 (by decide) ?_
  refine W.lcmp hx hb dX5_refuseBadRange_2 ?_
  refine n_lc_lt (tgt := 12) hx hb dX5_refuseBadRange_3 (by decide) (fun c_1 => ?_) (fun c_1 => ?_)
  · -- 3 t
    exact m_throw Z C ht hM hS xy_X5_refuseBadRange_12 hl.1 dX5_refuseBadRange_12 dX5_refuseBadRange_15 dX5_refuseBadRange_16 dX5_refuseBadRange_18 dX5_refuseBadRange_21 ⟨Nat.le_of_ble_eq_true rfl, Nat.le_of_ble_eq_true rfl, Nat.le_of_ble_eq_true rfl, Nat.le_of_ble_eq_true rfl⟩ (Nat.le_of_ble_eq_true rfl) (Nat.le_of_ble_eq_true rfl) ⟨rfl, (Or.inl c_1), hh⟩
  · -- 3 f
    refine lv_lload_n hx hb dX5_refuseBadRange_6 rfl (lv_at hl 0 rfl) ?_
    refine lv_lload_n hx hb dX5_refuseBadRange_7 rfl (lv_at hl 1 rfl) ?_
    refine W.lcmp hx hb dX5_refuseBadRange_8 ?_
    refine n_lc_le (tgt := 22) hx hb dX5_refuseBadRange_9 (by decide) (fun c_2 => ?_) (fun c_2 => ?_)
    · -- 9 t
      refine vx_ret ?_
      exact m_vret C hM hS (Nat.le_of_ble_eq_true rfl) (Nat.le_of_ble_eq_true rfl) dX5_refuseBadRange_22 ⟨(fun q => q.elim c_1 (l_len c_2)), rfl, hh⟩
    · -- 9 f
      exact m_throw Z C ht hM hS xy_X5_refuseBadRange_12 hl.1 dX5_refuseBadRange_12 dX5_refuseBadRange_15 dX5_refuseBadRange_16 dX5_refuseBadRange_18 dX5_refuseBadRange_21 ⟨Nat.le_of_ble_eq_true rfl, Nat.le_of_ble_eq_true rfl, Nat.le_of_ble_eq_true rfl, Nat.le_of_ble_eq_true rfl⟩ (Nat.le_of_ble_eq_true rfl) (Nat.le_of_ble_eq_true rfl) ⟨rfl, (Or.inr (l_nle c_2)), hh⟩
set_option maxRecDepth 100000 in
set_option maxHeartbeats 4000000 in
theorem c_X5_refuseEmpty {l : Launch} {G : mG} {a0 : Array Value} {s0 : State} (Z : mZ l G a0 s0) (h0 : Hp) (A : Cd → Nat) (tg : Nat → Cd) (st : Ms) (X : Nat → Xs) (fd : Nat) (tt : Int64) (gr : Int32) (hC : CW h0 A tg (clS G A (st_many st) (st_now st) X fd tt gr)) (hk : Iv st) (hR : ∀ k : Nat, k < st_many st → Rx st k (X k)) (k : Nat) (hk9 : k < st_many st) : mT l G s0 yX5_refuseEmpty cX5_refuseEmpty 1 none 6 90 1 6 h0 [.ref (A (cd (k + 1) 0 0))] (fun v9 h9 => ((0 < st_n st k) ∧ v9 = none ∧ h9 = h0)) (fun E h9 => (E = "java/lang/IllegalStateException" ∧ (st_n st k = 0) ∧ h9 = h0)) := by
  refine mT_in RX5 "refuseEmpty" rfl rfl (by decide +kernel) (Nat.le_of_ble_eq_true rfl) ?_
  intro p e s mt below meth c H locs C ht hM hS ls hl
  have hx := C.1
  have hb := C.2.1
  have hown := C.2.2.2.1
  have hE := C.2.2.2.2.2.2.1
  have hl : lv_has ls 1 [(0, .ref (A (cd (k + 1) 0 0)))] := hl
  have hF : cFr h0 tg h0 tg := cFr.rf
  obtain ⟨h, hM, hC, hF, hh⟩ : ∃ h9, MW G s0.heap.size h9 H ∧ CW h9 A tg (clS G A (st_many st) (st_now st) X fd tt gr) ∧ cFr h0 tg h9 tg ∧ h9 = h0 := ⟨_, hM, hC, hF, rfl⟩
  obtain ⟨T, U, F, al, hXk, hRi⟩ := hR k hk9
  have hn := hk.n hk9
  obtain ⟨hT, hU, hUr, hRw, hEr, hFs, hal⟩ := hRi
  have hTb : ∀ i : Nat, i < st_n st k → T i < 1073741824 := fun i hi => by rw [hT i hi]; exact hk.T hk9 hi
  refine lv_aload_n hx hb dX5_refuseEmpty_0 rfl (lv_at hl 0 rfl) ?_
  refine m_getN Z C hM (hC.at ((clS_at hk9 hXk srS_0))) K_X2 7 (by decide) fn_X5_82 (v := .int (nI (st_n st k))) rfl dX5_refuseEmpty_1 ?_
  refine lv_if_ne (tgt := 17) hx hb dX5_refuseEmpty_4 (by decide) (fun c_1 => ?_) (fun c_1 => ?_)
  · -- 4 t
    have c_1 : ¬ st_n st k = 0 := fun q => c_1 ((nI_eq (by omega) (by decide)).mpr q)
    refine vx_ret ?_
    exact m_vret C hM hS (Nat.le_of_ble_eq_true rfl) (Nat.le_of_ble_eq_true rfl) dX5_refuseEmpty_17 ⟨(by omega), rfl, hh⟩
  · -- 4 f
    have c_1 : st_n st k = 0 := (nI_eq (by omega) (by decide)).mp c_1
    exact m_throw Z C ht hM hS xy_X5_refuseEmpty_7 hl.1 dX5_refuseEmpty_7 dX5_refuseEmpty_10 dX5_refuseEmpty_11 dX5_refuseEmpty_13 dX5_refuseEmpty_16 ⟨Nat.le_of_ble_eq_true rfl, Nat.le_of_ble_eq_true rfl, Nat.le_of_ble_eq_true rfl, Nat.le_of_ble_eq_true rfl⟩ (Nat.le_of_ble_eq_true rfl) (Nat.le_of_ble_eq_true rfl) ⟨rfl, (by omega), hh⟩
set_option maxRecDepth 100000 in
set_option maxHeartbeats 4000000 in
theorem c_X5_rowOf {l : Launch} {G : mG} {a0 : Array Value} {s0 : State} (Z : mZ l G a0 s0) (h0 : Hp) (A : Cd → Nat) (tg : Nat → Cd) (st : Ms) (X : Nat → Xs) (fd : Nat) (tt : Int64) (gr : Int32) (hC : CW h0 A tg (clS G A (st_many st) (st_now st) X fd tt gr)) (hk : Iv st) (hR : ∀ k : Nat, k < st_many st → Rx st k (X k)) (x : Int32) : mT l G s0 yX5_rowOf cX5_rowOf 3 (some (.object "GaugeHall$Series")) 6 90 1 6 h0 [.ref (A (cd 0 1 0)), .int x] (fun v9 h9 => (∃ k : Nat, (k < st_many st) ∧ (x = nI k) ∧ v9 = some (.ref (A (cd (k + 1) 0 0))) ∧ h9 = h0)) (fun E h9 => (E = "java/util/NoSuchElementException" ∧ (∀ k : Nat, k < st_many st → x ≠ nI k) ∧ h9 = h0)) := by
  refine mT_in RX5 "rowOf" rfl rfl (by decide +kernel) (Nat.le_of_ble_eq_true rfl) ?_
  intro p e s mt below meth c H locs C ht hM hS ls hl
  have hx := C.1
  have hb := C.2.1
  have hown := C.2.2.2.1
  have hE := C.2.2.2.2.2.2.1
  have hl : lv_has ls 3 [(0, .ref (A (cd 0 1 0))), (1, .int x)] := hl
  have hF : cFr h0 tg h0 tg := cFr.rf
  obtain ⟨h, hM, hC, hF, hh⟩ : ∃ h9, MW G s0.heap.size h9 H ∧ CW h9 A tg (clS G A (st_many st) (st_now st) X fd tt gr) ∧ cFr h0 tg h9 tg ∧ h9 = h0 := ⟨_, hM, hC, hF, rfl⟩
  have hm10 := hk.m10
  refine lv_iload_n hx hb dX5_rowOf_0 rfl (lv_at hl 1 rfl) ?_
  refine lv_if_lt (tgt := 22) hx hb dX5_rowOf_1 (by decide) (fun c_1 => ?_) (fun c_1 => ?_)
  · -- 1 t
    refine lv_null hx hb dX5_rowOf_22 ?_
    refine lv_astore_nN (lv' := [(2, .null), (0, .ref (A (cd 0 1 0))), (1, .int x)]) hx hb dX5_rowOf_23 rfl hl (by decide) rfl (fun ls hl => ?_)
    refine lv_aload_nN hx hb dX5_rowOf_24 rfl (lv_at hl 0 rfl) ?_
    refine lv_ifnonnullN hx hb dX5_rowOf_25 ?_
    exact m_throwX Z C ht hM hS xy_X5_rowOf_28 hl.1 dX5_rowOf_28 dX5_rowOf_31 dX5_rowOf_32 dX5_rowOf_34 dX5_rowOf_37 ⟨Nat.le_of_ble_eq_true rfl, Nat.le_of_ble_eq_true rfl, Nat.le_of_ble_eq_true rfl, Nat.le_of_ble_eq_true rfl⟩ (Nat.le_of_ble_eq_true rfl) (Nat.le_of_ble_eq_true rfl) ⟨rfl, (ix_neg c_1 (by omega)), hh⟩
  · -- 1 f
    refine lv_iload_n hx hb dX5_rowOf_4 rfl (lv_at hl 1 rfl) ?_
    refine lv_aload_n hx hb dX5_rowOf_5 rfl (lv_at hl 0 rfl) ?_
    refine m_get Z C hM (hC.at (clS_h)) K_X5 0 (by decide) fl_X5_11 (v := .ref (A (cd 0 2 0))) rfl dX5_rowOf_6 ?_
    refine m_alen (t0 := 3) Z C hM rfl (hC.at (clS_r)) dX5_rowOf_9 ?_
    refine W.eq (g2 := F0 mt 10 ls [.int (nI 10), .int x]) rfl ?_
    refine lv_icmp_ge (tgt := 22) hx hb dX5_rowOf_10 (by decide) (fun c_3 => ?_) (fun c_3 => ?_)
    · -- 10 t
      refine lv_null hx hb dX5_rowOf_22 ?_
      refine lv_astore_nN (lv' := [(2, .null), (0, .ref (A (cd 0 1 0))), (1, .int x)]) hx hb dX5_rowOf_23 rfl hl (by decide) rfl (fun ls hl => ?_)
      refine lv_aload_nN hx hb dX5_rowOf_24 rfl (lv_at hl 0 rfl) ?_
      refine lv_ifnonnullN hx hb dX5_rowOf_25 ?_
      exact m_throwX Z C ht hM hS xy_X5_rowOf_28 hl.1 dX5_rowOf_28 dX5_rowOf_31 dX5_rowOf_32 dX5_rowOf_34 dX5_rowOf_37 ⟨Nat.le_of_ble_eq_true rfl, Nat.le_of_ble_eq_true rfl, Nat.le_of_ble_eq_true rfl, Nat.le_of_ble_eq_true rfl⟩ (Nat.le_of_ble_eq_true rfl) (Nat.le_of_ble_eq_true rfl) ⟨rfl, (ix_ge c_3 (by decide) hm10), hh⟩
    · -- 10 f
      obtain ⟨k, hk10, hxk⟩ := ix_lt c_1 c_3 (by decide)
      subst hxk
      rcases Nat.lt_or_ge k (st_many st) with hkm | hkm
      · -- lt
        refine lv_aload_n hx hb dX5_rowOf_13 rfl (lv_at hl 0 rfl) ?_
        refine m_get Z C hM (hC.at (clS_h)) K_X5 0 (by decide) fl_X5_11 (v := .ref (A (cd 0 2 0))) rfl dX5_rowOf_14 ?_
        refine lv_iload_n hx hb dX5_rowOf_17 rfl (lv_at hl 1 rfl) ?_
        refine m_sald Z C hM (hC.at (clS_r)) k rfl (by omega) (by decide) (v := .ref (A (cd (k + 1) 0 0))) (rwL_at (by omega)) dX5_rowOf_18 ?_
        refine lv_goto (tgt := 23) hx hb dX5_rowOf_19 (by decide) ?_
        refine lv_astore_n (lv' := [(2, .ref (A (cd (k + 1) 0 0))), (0, .ref (A (cd 0 1 0))), (1, .int (nI k))]) hx hb dX5_rowOf_23 rfl hl (by decide) rfl (fun ls hl => ?_)
        refine lv_aload_n hx hb dX5_rowOf_24 rfl (lv_at hl 0 rfl) ?_
        refine lv_ifnonnull (tgt := 38) hx hb dX5_rowOf_25 (by decide) ?_
        refine lv_aload_n hx hb dX5_rowOf_38 rfl (lv_at hl 0 rfl) ?_
        refine vx_ret ?_
        exact m_aret C hM hS (Nat.le_of_ble_eq_true rfl) (Nat.le_of_ble_eq_true rfl) dX5_rowOf_39 ⟨k, hkm, rfl, rfl, hh⟩
      · -- ge
        refine lv_aload_n hx hb dX5_rowOf_13 rfl (lv_at hl 0 rfl) ?_
        refine m_get Z C hM (hC.at (clS_h)) K_X5 0 (by decide) fl_X5_11 (v := .ref (A (cd 0 2 0))) rfl dX5_rowOf_14 ?_
        refine lv_iload_n hx hb dX5_rowOf_17 rfl (lv_at hl 1 rfl) ?_
        refine m_sald Z C hM (hC.at (clS_r)) k rfl (by omega) (by decide) (v := .null) (rwL_no (by omega)) dX5_rowOf_18 ?_
        refine lv_goto (tgt := 23) hx hb dX5_rowOf_19 (by decide) ?_
        refine lv_astore_nN (lv' := [(2, .null), (0, .ref (A (cd 0 1 0))), (1, .int (nI k))]) hx hb dX5_rowOf_23 rfl hl (by decide) rfl (fun ls hl => ?_)
        refine lv_aload_nN hx hb dX5_rowOf_24 rfl (lv_at hl 0 rfl) ?_
        refine lv_ifnonnullN hx hb dX5_rowOf_25 ?_
        exact m_throwX Z C ht hM hS xy_X5_rowOf_28 hl.1 dX5_rowOf_28 dX5_rowOf_31 dX5_rowOf_32 dX5_rowOf_34 dX5_rowOf_37 ⟨Nat.le_of_ble_eq_true rfl, Nat.le_of_ble_eq_true rfl, Nat.le_of_ble_eq_true rfl, Nat.le_of_ble_eq_true rfl⟩ (Nat.le_of_ble_eq_true rfl) (Nat.le_of_ble_eq_true rfl) ⟨rfl, (ix_ne (by omega) (by omega) (by omega)), hh⟩
