set_option maxRecDepth 100000 in
set_option maxHeartbeats 4000000 in
theorem c_X0_see {l : Launch} {G : mG} {a0 : Array Value} {s0 : State} (Z : mZ l G a0 s0) (h0 : Hp) (A : Cd → Nat) (tg : Nat → Cd) (sg : Cd → Option va_E) (hC : CW h0 A tg sg) (k : Nat) (ti : Int64) (x : Int32) (li : Int32) (wa : Int32) (on : Int32) (si : Int64) (ha : sg (cd (k + 1) 13 0) = some (eO 0 [.int li, .int wa, .int on, .long si])) : mM l G s0 yX0_see cX0_see 4 none 0 0 0 0 h0 [.ref (A (cd (k + 1) 13 0)), .long ti, .int x] (fun v h9 => ((x ≤ li) ∧ v = none ∧ CW h9 A tg (up3 sg (cd (k + 1) 13 0) (some (eO 0 [.int li, .int wa, .int (nI 0), .long si]))) ∧ cFr h0 tg h9 tg) ∨ ((¬ x ≤ li) ∧ (on = 0) ∧ v = none ∧ CW h9 A tg (up3 sg (cd (k + 1) 13 0) (some (eO 0 [.int li, .int wa, .int (nI 1), .long ti]))) ∧ cFr h0 tg h9 tg) ∨ ((¬ x ≤ li) ∧ (¬ on = 0) ∧ v = none ∧ CW h9 A tg (sg) ∧ cFr h0 tg h9 tg)) := by
  refine mM_in RX0 "see" rfl rfl (by decide +kernel) (Nat.le_of_ble_eq_true rfl) ?_
  intro p e s mt below meth c H locs C hM hS ls hl
  have hx := C.1
  have hb := C.2.1
  have hown := C.2.2.2.1
  have hE := C.2.2.2.2.2.2.1
  have hl : lv_has ls 4 [(0, .ref (A (cd (k + 1) 13 0))), (1, .long ti), (3, .int x)] := hl
  have hF : cFr h0 tg h0 tg := cFr.rf
  obtain ⟨h, hM, hC, hF⟩ : ∃ h9, MW G s0.heap.size h9 H ∧ CW h9 A tg sg ∧ cFr h0 tg h9 tg := ⟨_, hM, hC, hF⟩
  refine lv_iload_n hx hb dX0_see_0 rfl (lv_at hl 2 rfl) ?_
  refine lv_aload_n hx hb dX0_see_1 rfl (lv_at hl 0 rfl) ?_
  refine m_get Z C hM (hC.at (ha)) K_X0 0 (by decide) fl_X0_9 (v := .int li) rfl dX0_see_2 ?_
  refine lv_icmp_gt (tgt := 16) hx hb dX0_see_5 (by decide) (fun c_1 => ?_) (fun c_1 => ?_)
  · -- 5 t
    refine lv_aload_n hx hb dX0_see_16 rfl (lv_at hl 0 rfl) ?_
    refine m_get Z C hM (hC.at (ha)) K_X0 2 (by decide) fl_X0_18 (v := .int on) rfl dX0_see_17 ?_
    refine lv_if_ne (tgt := 33) hx hb dX0_see_20 (by decide) (fun c_2 => ?_) (fun c_2 => ?_)
    · -- 20 t
      exact m_vret C hM hS (Nat.le_of_ble_eq_true rfl) (Nat.le_of_ble_eq_true rfl) dX0_see_33 (Or.inr (Or.inr ⟨i_ltn c_1, c_2, rfl, hC, hF⟩))
    · -- 20 f
      refine lv_aload_n hx hb dX0_see_23 rfl (lv_at hl 0 rfl) ?_
      refine lv_iconst (v := nI 1) hx hb dX0_see_24 (by decide) ?_
      refine m_put Z C hM hS (hC.at (ha)) K_X0 2 (by decide) fl_X0_18 (v := .int (nI 1)) rfl rfl rfl (fs' := [.int li, .int wa, .int (nI 1), .long si]) rfl (Nat.le_of_ble_eq_true rfl) dX0_see_25 (fun H locs hM hS => ?_)
      have hC9 := hC.put (ha) (eO 0 [.int li, .int wa, .int (nI 1), .long si])
      have hF9 := hF.put hC (ha) (cd_r (by decide)) (eO 0 [.int li, .int wa, .int (nI 1), .long si])
      obtain ⟨h, hM, hC, hF⟩ : ∃ h9, MW G s0.heap.size h9 H ∧ CW h9 A tg (up3 sg (cd (k + 1) 13 0) (some (eO 0 [.int li, .int wa, .int (nI 1), .long si]))) ∧ cFr h0 tg h9 tg := ⟨_, hM, hC9, hF9⟩
      refine lv_aload_n hx hb dX0_see_28 rfl (lv_at hl 0 rfl) ?_
      refine lv_lload_n hx hb dX0_see_29 rfl (lv_at hl 1 rfl) ?_
      refine m_put Z C hM hS (hC.at (up3_self _ _ _)) K_X0 3 (by decide) fl_X0_22 (v := .long ti) rfl rfl rfl (fs' := [.int li, .int wa, .int (nI 1), .long ti]) rfl (Nat.le_of_ble_eq_true rfl) dX0_see_30 (fun H locs hM hS => ?_)
      have hC9 := hC.put (up3_self _ _ _) (eO 0 [.int li, .int wa, .int (nI 1), .long ti])
      have hF9 := hF.put hC (up3_self _ _ _) (cd_r (by decide)) (eO 0 [.int li, .int wa, .int (nI 1), .long ti])
      rw [up3_up3 (x := cd (k + 1) 13 0)] at hC9
      obtain ⟨h, hM, hC, hF⟩ : ∃ h9, MW G s0.heap.size h9 H ∧ CW h9 A tg (up3 sg (cd (k + 1) 13 0) (some (eO 0 [.int li, .int wa, .int (nI 1), .long ti]))) ∧ cFr h0 tg h9 tg := ⟨_, hM, hC9, hF9⟩
      exact m_vret C hM hS (Nat.le_of_ble_eq_true rfl) (Nat.le_of_ble_eq_true rfl) dX0_see_33 (Or.inr (Or.inl ⟨i_ltn c_1, c_2, rfl, hC, hF⟩))
  · -- 5 f
    refine lv_aload_n hx hb dX0_see_8 rfl (lv_at hl 0 rfl) ?_
    refine lv_iconst (v := nI 0) hx hb dX0_see_9 (by decide) ?_
    refine m_put Z C hM hS (hC.at (ha)) K_X0 2 (by decide) fl_X0_18 (v := .int (nI 0)) rfl rfl rfl (fs' := [.int li, .int wa, .int (nI 0), .long si]) rfl (Nat.le_of_ble_eq_true rfl) dX0_see_10 (fun H locs hM hS => ?_)
    have hC9 := hC.put (ha) (eO 0 [.int li, .int wa, .int (nI 0), .long si])
    have hF9 := hF.put hC (ha) (cd_r (by decide)) (eO 0 [.int li, .int wa, .int (nI 0), .long si])
    obtain ⟨h, hM, hC, hF⟩ : ∃ h9, MW G s0.heap.size h9 H ∧ CW h9 A tg (up3 sg (cd (k + 1) 13 0) (some (eO 0 [.int li, .int wa, .int (nI 0), .long si]))) ∧ cFr h0 tg h9 tg := ⟨_, hM, hC9, hF9⟩
    refine lv_goto (tgt := 33) hx hb dX0_see_13 (by decide) ?_
    exact m_vret C hM hS (Nat.le_of_ble_eq_true rfl) (Nat.le_of_ble_eq_true rfl) dX0_see_33 (Or.inl ⟨i_nlt c_1, rfl, hC, hF⟩)
set_option maxRecDepth 100000 in
set_option maxHeartbeats 4000000 in
theorem c_X0_stateAt {l : Launch} {G : mG} {a0 : Array Value} {s0 : State} (Z : mZ l G a0 s0) (h0 : Hp) (A : Cd → Nat) (tg : Nat → Cd) (sg : Cd → Option va_E) (hC : CW h0 A tg sg) (k : Nat) (ti : Int64) (li : Int32) (wa : Int32) (on : Int32) (si : Int64) (ha : sg (cd (k + 1) 13 0) = some (eO 0 [.int li, .int wa, .int on, .long si])) : mM l G s0 yX0_stateAt cX0_stateAt 3 (some .char) 0 0 0 0 h0 [.ref (A (cd (k + 1) 13 0)), .long ti] (fun v h9 => (v = some (.int (nI (if on = 0 then 111 else if wa.toInt64 ≤ ti - si then 102 else 112))) ∧ h9 = h0)) := by
  refine mM_in RX0 "stateAt" rfl rfl (by decide +kernel) (Nat.le_of_ble_eq_true rfl) ?_
  intro p e s mt below meth c H locs C hM hS ls hl
  have hx := C.1
  have hb := C.2.1
  have hown := C.2.2.2.1
  have hE := C.2.2.2.2.2.2.1
  have hl : lv_has ls 3 [(0, .ref (A (cd (k + 1) 13 0))), (1, .long ti)] := hl
  obtain ⟨h, hh⟩ : ∃ z, z = h0 := ⟨_, rfl⟩
  rw [← hh] at hM hC
  refine lv_aload_n hx hb dX0_stateAt_0 rfl (lv_at hl 0 rfl) ?_
  refine m_get Z C hM (hC.at (ha)) K_X0 2 (by decide) fl_X0_18 (v := .int on) rfl dX0_stateAt_1 ?_
  refine lv_if_ne (tgt := 10) hx hb dX0_stateAt_4 (by decide) (fun c_1 => ?_) (fun c_1 => ?_)
  · -- 4 t
    refine lv_lload_n hx hb dX0_stateAt_10 rfl (lv_at hl 1 rfl) ?_
    refine lv_aload_n hx hb dX0_stateAt_11 rfl (lv_at hl 0 rfl) ?_
    refine m_get Z C hM (hC.at (ha)) K_X0 3 (by decide) fl_X0_22 (v := .long si) rfl dX0_stateAt_12 ?_
    refine lv_lsub hx hb dX0_stateAt_15 ?_
    refine lv_aload_n hx hb dX0_stateAt_16 rfl (lv_at hl 0 rfl) ?_
    refine m_get Z C hM (hC.at (ha)) K_X0 1 (by decide) fl_X0_15 (v := .int wa) rfl dX0_stateAt_17 ?_
    refine lv_i2l (v := wa.toInt64) hx hb dX0_stateAt_20 rfl ?_
    refine W.lcmp hx hb dX0_stateAt_21 ?_
    refine n_lc_lt (tgt := 30) hx hb dX0_stateAt_22 (by decide) (fun c_2 => ?_) (fun c_2 => ?_)
    · -- 22 t
      refine lv_bipush (v := nI 112) hx hb dX0_stateAt_30 (by decide) ?_
      exact m_zret C hM hS (Nat.le_of_ble_eq_true rfl) (Nat.le_of_ble_eq_true rfl) rfl dX0_stateAt_32 ⟨by rw [if_neg c_1, if_neg (l_ltn c_2)], hh⟩
    · -- 22 f
      refine lv_bipush (v := nI 102) hx hb dX0_stateAt_25 (by decide) ?_
      refine lv_goto (tgt := 32) hx hb dX0_stateAt_27 (by decide) ?_
      exact m_zret C hM hS (Nat.le_of_ble_eq_true rfl) (Nat.le_of_ble_eq_true rfl) rfl dX0_stateAt_32 ⟨by rw [if_neg c_1, if_pos (l_nlt c_2)], hh⟩
  · -- 4 f
    refine lv_bipush (v := nI 111) hx hb dX0_stateAt_7 (by decide) ?_
    exact m_zret C hM hS (Nat.le_of_ble_eq_true rfl) (Nat.le_of_ble_eq_true rfl) rfl dX0_stateAt_9 ⟨by rw [if_pos c_1], hh⟩
set_option maxRecDepth 100000 in
set_option maxHeartbeats 4000000 in
theorem c_X1_timeStepBits {l : Launch} {G : mG} {a0 : Array Value} {s0 : State} (Z : mZ l G a0 s0) (h0 : Hp) (x : Int64) : mM l G s0 yX1_timeStepBits cX1_timeStepBits 2 (some .int) 0 0 0 0 h0 [.long x] (fun v h9 => (v = some (.int (nI (z_tb x))) ∧ h9 = h0)) := by
  refine mM_in RX1 "timeStepBits" rfl rfl (by decide +kernel) (Nat.le_of_ble_eq_true rfl) ?_
  intro p e s mt below meth c H locs C hM hS ls hl
  have hx := C.1
  have hb := C.2.1
  have hown := C.2.2.2.1
  have hE := C.2.2.2.2.2.2.1
  have hl : lv_has ls 2 [(0, .long x)] := hl
  obtain ⟨h, hh⟩ : ∃ z, z = h0 := ⟨_, rfl⟩
  rw [← hh] at hM
  refine lv_lload_n hx hb dX1_timeStepBits_0 rfl (lv_at hl 0 rfl) ?_
  refine lv_lconst (v := lN 0) hx hb dX1_timeStepBits_1 (by decide) ?_
  refine W.lcmp hx hb dX1_timeStepBits_2 ?_
  refine n_lc_ne (tgt := 8) hx hb dX1_timeStepBits_3 (by decide) (fun c_1 => ?_) (fun c_1 => ?_)
  · -- 3 t
    refine lv_lload_n hx hb dX1_timeStepBits_8 rfl (lv_at hl 0 rfl) ?_
    refine lv_ldc2 (v := -7) hx hb hown (hE.good Z kl_X1_50 _) dX1_timeStepBits_9 ?_
    refine W.lcmp hx hb dX1_timeStepBits_12 ?_
    refine n_lc_lt (tgt := 29) hx hb dX1_timeStepBits_13 (by decide) (fun c_2 => ?_) (fun c_2 => ?_)
    · -- 13 t
      refine lv_bipush (v := nI 15) hx hb dX1_timeStepBits_29 (by decide) ?_
      exact m_iret C hM hS (Nat.le_of_ble_eq_true rfl) (Nat.le_of_ble_eq_true rfl) dX1_timeStepBits_31 ⟨by rw [z_tb, if_neg c_1, if_neg (by have k0 := c_1; have k1 := c_2; simp only [Int32.lt_iff_toInt_lt, Int32.le_iff_toInt_le, ← Int32.toInt_inj, Int64.lt_iff_toInt_lt, Int64.le_iff_toInt_le, ← Int64.toInt_inj, kt, ktL] at k0 k1 ⊢; omega)], hh⟩
    · -- 13 f
      refine lv_lload_n hx hb dX1_timeStepBits_16 rfl (lv_at hl 0 rfl) ?_
      refine lv_ldc2 (v := lN 8) hx hb hown (hE.good Z kl_X1_52 _) dX1_timeStepBits_17 ?_
      refine W.lcmp hx hb dX1_timeStepBits_20 ?_
      refine n_lc_gt (tgt := 29) hx hb dX1_timeStepBits_21 (by decide) (fun c_3 => ?_) (fun c_3 => ?_)
      · -- 21 t
        refine lv_bipush (v := nI 15) hx hb dX1_timeStepBits_29 (by decide) ?_
        exact m_iret C hM hS (Nat.le_of_ble_eq_true rfl) (Nat.le_of_ble_eq_true rfl) dX1_timeStepBits_31 ⟨by rw [z_tb, if_neg c_1, if_neg (by have k0 := c_1; have k1 := c_2; have k2 := c_3; simp only [Int32.lt_iff_toInt_lt, Int32.le_iff_toInt_le, ← Int32.toInt_inj, Int64.lt_iff_toInt_lt, Int64.le_iff_toInt_le, ← Int64.toInt_inj, kt, ktL] at k0 k1 k2 ⊢; omega)], hh⟩
      · -- 21 f
        refine lv_bipush (v := nI 6) hx hb dX1_timeStepBits_24 (by decide) ?_
        refine lv_goto (tgt := 31) hx hb dX1_timeStepBits_26 (by decide) ?_
        exact m_iret C hM hS (Nat.le_of_ble_eq_true rfl) (Nat.le_of_ble_eq_true rfl) dX1_timeStepBits_31 ⟨by rw [z_tb, if_neg c_1, if_pos (by have k0 := c_1; have k1 := c_2; have k2 := c_3; simp only [Int32.lt_iff_toInt_lt, Int32.le_iff_toInt_le, ← Int32.toInt_inj, Int64.lt_iff_toInt_lt, Int64.le_iff_toInt_le, ← Int64.toInt_inj, kt, ktL] at k0 k1 k2 ⊢; omega)], hh⟩
  · -- 3 f
    refine lv_iconst (v := nI 1) hx hb dX1_timeStepBits_6 (by decide) ?_
    exact m_iret C hM hS (Nat.le_of_ble_eq_true rfl) (Nat.le_of_ble_eq_true rfl) dX1_timeStepBits_7 ⟨by rw [z_tb, if_pos c_1], hh⟩
set_option maxRecDepth 100000 in
set_option maxHeartbeats 4000000 in
theorem c_X1_valueStepBits {l : Launch} {G : mG} {a0 : Array Value} {s0 : State} (Z : mZ l G a0 s0) (h0 : Hp) (x : Int32) : mM l G s0 yX1_valueStepBits cX1_valueStepBits 1 (some .int) 0 0 0 0 h0 [.int x] (fun v h9 => (v = some (.int (nI (z_vb x))) ∧ h9 = h0)) := by
  refine mM_in RX1 "valueStepBits" rfl rfl (by decide +kernel) (Nat.le_of_ble_eq_true rfl) ?_
  intro p e s mt below meth c H locs C hM hS ls hl
  have hx := C.1
  have hb := C.2.1
  have hown := C.2.2.2.1
  have hE := C.2.2.2.2.2.2.1
  have hl : lv_has ls 1 [(0, .int x)] := hl
  obtain ⟨h, hh⟩ : ∃ z, z = h0 := ⟨_, rfl⟩
  rw [← hh] at hM
  refine lv_iload_n hx hb dX1_valueStepBits_0 rfl (lv_at hl 0 rfl) ?_
  refine lv_if_ne (tgt := 6) hx hb dX1_valueStepBits_1 (by decide) (fun c_1 => ?_) (fun c_1 => ?_)
  · -- 1 t
    refine lv_iload_n hx hb dX1_valueStepBits_6 rfl (lv_at hl 0 rfl) ?_
    refine lv_bipush (v := -31) hx hb dX1_valueStepBits_7 (by decide) ?_
    refine lv_icmp_lt (tgt := 23) hx hb dX1_valueStepBits_9 (by decide) (fun c_2 => ?_) (fun c_2 => ?_)
    · -- 9 t
      refine lv_bipush (v := nI 18) hx hb dX1_valueStepBits_23 (by decide) ?_
      exact m_iret C hM hS (Nat.le_of_ble_eq_true rfl) (Nat.le_of_ble_eq_true rfl) dX1_valueStepBits_25 ⟨by rw [z_vb, if_neg (show ¬ x = nI 0 from c_1), if_neg (by have k0 := c_1; have k1 := c_2; simp only [Int32.lt_iff_toInt_lt, Int32.le_iff_toInt_le, ← Int32.toInt_inj, Int64.lt_iff_toInt_lt, Int64.le_iff_toInt_le, ← Int64.toInt_inj, kt, ktL] at k0 k1 ⊢; omega)], hh⟩
    · -- 9 f
      refine lv_iload_n hx hb dX1_valueStepBits_12 rfl (lv_at hl 0 rfl) ?_
      refine lv_bipush (v := nI 32) hx hb dX1_valueStepBits_13 (by decide) ?_
      refine lv_icmp_gt (tgt := 23) hx hb dX1_valueStepBits_15 (by decide) (fun c_3 => ?_) (fun c_3 => ?_)
      · -- 15 t
        refine lv_bipush (v := nI 18) hx hb dX1_valueStepBits_23 (by decide) ?_
        exact m_iret C hM hS (Nat.le_of_ble_eq_true rfl) (Nat.le_of_ble_eq_true rfl) dX1_valueStepBits_25 ⟨by rw [z_vb, if_neg (show ¬ x = nI 0 from c_1), if_neg (by have k0 := c_1; have k1 := c_2; have k2 := c_3; simp only [Int32.lt_iff_toInt_lt, Int32.le_iff_toInt_le, ← Int32.toInt_inj, Int64.lt_iff_toInt_lt, Int64.le_iff_toInt_le, ← Int64.toInt_inj, kt, ktL] at k0 k1 k2 ⊢; omega)], hh⟩
      · -- 15 f
        refine lv_bipush (v := nI 8) hx hb dX1_valueStepBits_18 (by decide) ?_
        refine lv_goto (tgt := 25) hx hb dX1_valueStepBits_20 (by decide) ?_
        exact m_iret C hM hS (Nat.le_of_ble_eq_true rfl) (Nat.le_of_ble_eq_true rfl) dX1_valueStepBits_25 ⟨by rw [z_vb, if_neg (show ¬ x = nI 0 from c_1), if_pos (by have k0 := c_1; have k1 := c_2; have k2 := c_3; simp only [Int32.lt_iff_toInt_lt, Int32.le_iff_toInt_le, ← Int32.toInt_inj, Int64.lt_iff_toInt_lt, Int64.le_iff_toInt_le, ← Int64.toInt_inj, kt, ktL] at k0 k1 k2 ⊢; omega)], hh⟩
  · -- 1 f
    refine lv_iconst (v := nI 1) hx hb dX1_valueStepBits_4 (by decide) ?_
    exact m_iret C hM hS (Nat.le_of_ble_eq_true rfl) (Nat.le_of_ble_eq_true rfl) dX1_valueStepBits_5 ⟨by rw [z_vb, if_pos (show x = nI 0 from c_1)], hh⟩
set_option maxRecDepth 100000 in
set_option maxHeartbeats 4000000 in
theorem c_X1_append {l : Launch} {G : mG} {a0 : Array Value} {s0 : State} (Z : mZ l G a0 s0) (h0 : Hp) (A : Cd → Nat) (tg : Nat → Cd) (sg : Cd → Option va_E) (hC : CW h0 A tg sg) (k : Nat) (j : Nat) (ti : Int64) (x : Int32) (ft : Int64) (fv : Int32) (sz : Nat) (bi : Nat) (lt : Int64) (lg : Int64) (lv : Int32) (f : Nat → Int64) (g : Nat → Int32) (hb0 : sg (cd (k + 1) 14 j) = some (eO 1 [.long ft, .int fv, .ref (A (cd (k + 1) 15 j)), .ref (A (cd (k + 1) 16 j)), .int (nI sz), .int (nI bi), .long lt, .long lg, .int lv])) (hb1 : sg (cd (k + 1) 15 j) = some (eL G 8 (f))) (hb2 : sg (cd (k + 1) 16 j) = some (eI G 8 (g))) (hs : sz < 8) : mM l G s0 yX1_append cX1_append 6 none 1 21 0 0 h0 [.ref (A (cd (k + 1) 14 j)), .long ti, .int x] (fun v h9 => (v = none ∧ CW h9 A tg (up3 (up3 (up3 sg (cd (k + 1) 15 j) (some (eL G 8 (va_up f sz (ti - lt - lg))))) (cd (k + 1) 16 j) (some (eI G 8 (va_up g sz (x - lv))))) (cd (k + 1) 14 j) (some (eO 1 [.long ft, .int fv, .ref (A (cd (k + 1) 15 j)), .ref (A (cd (k + 1) 16 j)), .int (nI (sz + 1)), .int (nI (bi + (z_tb (ti - lt - lg) + z_vb (x - lv)))), .long ti, .long (ti - lt), .int x]))) ∧ cFr h0 tg h9 tg)) := by
  refine mM_in RX1 "append" rfl rfl (by decide +kernel) (Nat.le_of_ble_eq_true rfl) ?_
  intro p e s mt below meth c H locs C hM hS ls hl
  have hx := C.1
  have hb := C.2.1
  have hown := C.2.2.2.1
  have hE := C.2.2.2.2.2.2.1
  have hl : lv_has ls 6 [(0, .ref (A (cd (k + 1) 14 j))), (1, .long ti), (3, .int x)] := hl
  have hF : cFr h0 tg h0 tg := cFr.rf
  obtain ⟨h, hM, hC, hF⟩ : ∃ h9, MW G s0.heap.size h9 H ∧ CW h9 A tg sg ∧ cFr h0 tg h9 tg := ⟨_, hM, hC, hF⟩
  refine lv_aload_n hx hb dX1_append_0 rfl (lv_at hl 0 rfl) ?_
  refine m_get Z C hM (hC.at (hb0)) K_X1 4 (by decide) fl_X1_27 (v := .int (nI sz)) rfl dX1_append_1 ?_
  refine lv_bipush (v := nI 8) hx hb dX1_append_4 (by decide) ?_
  refine lv_icmp_lt (tgt := 10) hx hb dX1_append_6 (by decide) (fun c_1 => ?_) (fun c_1 => ?_)
  · -- 6 t
    have c_1 : sz < 8 := (nI_ltI (by omega) (by decide)).mp c_1
    refine lv_lload_n hx hb dX1_append_10 rfl (lv_at hl 1 rfl) ?_
    refine lv_aload_n hx hb dX1_append_11 rfl (lv_at hl 0 rfl) ?_
    refine m_get Z C hM (hC.at (hb0)) K_X1 6 (by decide) fl_X1_33 (v := .long lt) rfl dX1_append_12 ?_
    refine lv_lsub hx hb dX1_append_15 ?_
    refine lv_lstore (lv' := [(4, .long (ti - lt)), (0, .ref (A (cd (k + 1) 14 j))), (1, .long ti), (3, .int x)]) hx hb dX1_append_16 hl (by decide) rfl (fun ls hl => ?_)
    refine lv_aload_n hx hb dX1_append_18 rfl (lv_at hl 1 rfl) ?_
    refine m_get Z C hM (hC.at (hb0)) K_X1 2 (by decide) fl_X1_19 (v := .ref (A (cd (k + 1) 15 j))) rfl dX1_append_19 ?_
    refine lv_aload_n hx hb dX1_append_22 rfl (lv_at hl 1 rfl) ?_
    refine m_get Z C hM (hC.at (hb0)) K_X1 4 (by decide) fl_X1_27 (v := .int (nI sz)) rfl dX1_append_23 ?_
    refine lv_lload hx hb dX1_append_26 (lv_at hl 0 rfl) ?_
    refine lv_aload_n hx hb dX1_append_28 rfl (lv_at hl 1 rfl) ?_
    refine m_get Z C hM (hC.at (hb0)) K_X1 7 (by decide) fl_X1_36 (v := .long lg) rfl dX1_append_29 ?_
    refine lv_lsub hx hb dX1_append_32 ?_
    refine m_last Z C hM hS (hC.at (hb1)) (x := (ti - lt) - lg) sz rfl (by omega) (by decide) dX1_append_33 (fun H locs hM hS => ?_)
    have hC9 := hC.put (hb1) (eL G 8 (va_up f sz ((ti - lt) - lg)))
    have hF9 := hF.put hC (hb1) (cd_r (by decide)) (eL G 8 (va_up f sz ((ti - lt) - lg)))
    obtain ⟨h, hM, hC, hF⟩ : ∃ h9, MW G s0.heap.size h9 H ∧ CW h9 A tg (up3 sg (cd (k + 1) 15 j) (some (eL G 8 (va_up f sz ((ti - lt) - lg))))) ∧ cFr h0 tg h9 tg := ⟨_, hM, hC9, hF9⟩
    refine lv_aload_n hx hb dX1_append_34 rfl (lv_at hl 1 rfl) ?_
    refine m_get Z C hM (hC.at ((up3_ne _ _ (cd_r (by decide))).trans (hb0))) K_X1 3 (by decide) fl_X1_23 (v := .ref (A (cd (k + 1) 16 j))) rfl dX1_append_35 ?_
    refine lv_aload_n hx hb dX1_append_38 rfl (lv_at hl 1 rfl) ?_
    refine m_get Z C hM (hC.at ((up3_ne _ _ (cd_r (by decide))).trans (hb0))) K_X1 4 (by decide) fl_X1_27 (v := .int (nI sz)) rfl dX1_append_39 ?_
    refine lv_iload_n hx hb dX1_append_42 rfl (lv_at hl 3 rfl) ?_
    refine lv_aload_n hx hb dX1_append_43 rfl (lv_at hl 1 rfl) ?_
    refine m_get Z C hM (hC.at ((up3_ne _ _ (cd_r (by decide))).trans (hb0))) K_X1 8 (by decide) fl_X1_39 (v := .int lv) rfl dX1_append_44 ?_
    refine lv_isub hx hb dX1_append_47 ?_
    refine m_iast Z C hM hS (hC.at ((up3_ne _ _ (cd_r (by decide))).trans (hb2))) (x := x - lv) sz rfl (by omega) (by decide) dX1_append_48 (fun H locs hM hS => ?_)
    have hC9 := hC.put ((up3_ne _ _ (cd_r (by decide))).trans (hb2)) (eI G 8 (va_up g sz (x - lv)))
    have hF9 := hF.put hC ((up3_ne _ _ (cd_r (by decide))).trans (hb2)) (cd_r (by decide)) (eI G 8 (va_up g sz (x - lv)))
    obtain ⟨h, hM, hC, hF⟩ : ∃ h9, MW G s0.heap.size h9 H ∧ CW h9 A tg (up3 (up3 sg (cd (k + 1) 15 j) (some (eL G 8 (va_up f sz ((ti - lt) - lg))))) (cd (k + 1) 16 j) (some (eI G 8 (va_up g sz (x - lv))))) ∧ cFr h0 tg h9 tg := ⟨_, hM, hC9, hF9⟩
    refine lv_aload_n hx hb dX1_append_49 rfl (lv_at hl 1 rfl) ?_
    refine lv_dup hx hb dX1_append_50 rfl ?_
    refine m_get Z C hM (hC.at ((up3_ne _ _ (cd_r (by decide))).trans ((up3_ne _ _ (cd_r (by decide))).trans (hb0)))) K_X1 5 (by decide) fl_X1_30 (v := .int (nI bi)) rfl dX1_append_51 ?_
    refine lv_lload hx hb dX1_append_54 (lv_at hl 0 rfl) ?_
    refine lv_aload_n hx hb dX1_append_56 rfl (lv_at hl 1 rfl) ?_
    refine m_get Z C hM (hC.at ((up3_ne _ _ (cd_r (by decide))).trans ((up3_ne _ _ (cd_r (by decide))).trans (hb0)))) K_X1 7 (by decide) fl_X1_36 (v := .long lg) rfl dX1_append_57 ?_
    refine lv_lsub hx hb dX1_append_60 ?_
    refine m_callS Z C hM hS (As := [.long ((ti - lt) - lg)]) (rest := [.int (nI bi), .ref (A (cd (k + 1) 14 j))]) (c_X1_timeStepBits Z h ((ti - lt) - lg)) yi_X1_timeStepBits ml_X1_42 ⟨Nat.le_of_ble_eq_true rfl, Nat.le_of_ble_eq_true rfl⟩ (Nat.le_of_ble_eq_true rfl) hl.1 rfl rfl dX1_append_61 ⟨Nat.le_of_ble_eq_true rfl, Nat.le_of_ble_eq_true rfl⟩ (fun v h9 H locs hv hM hS => ?_)
    obtain ⟨hv, hh9⟩ := hv
    subst hv
    rw [hh9] at hM
    refine W.eq (g2 := F0 mt 64 ls [.int (nI (z_tb ((ti - lt) - lg))), .int (nI bi), .ref (A (cd (k + 1) 14 j))]) rfl ?_
    refine lv_iload_n hx hb dX1_append_64 rfl (lv_at hl 3 rfl) ?_
    refine lv_aload_n hx hb dX1_append_65 rfl (lv_at hl 1 rfl) ?_
    refine m_get Z C hM (hC.at ((up3_ne _ _ (cd_r (by decide))).trans ((up3_ne _ _ (cd_r (by decide))).trans (hb0)))) K_X1 8 (by decide) fl_X1_39 (v := .int lv) rfl dX1_append_66 ?_
    refine lv_isub hx hb dX1_append_69 ?_
    refine m_callS Z C hM hS (As := [.int (x - lv)]) (rest := [.int (nI (z_tb ((ti - lt) - lg))), .int (nI bi), .ref (A (cd (k + 1) 14 j))]) (c_X1_valueStepBits Z h (x - lv)) yi_X1_valueStepBits ml_X1_46 ⟨Nat.le_of_ble_eq_true rfl, Nat.le_of_ble_eq_true rfl⟩ (Nat.le_of_ble_eq_true rfl) hl.1 rfl rfl dX1_append_70 ⟨Nat.le_of_ble_eq_true rfl, Nat.le_of_ble_eq_true rfl⟩ (fun v h9 H locs hv hM hS => ?_)
    obtain ⟨hv, hh9⟩ := hv
    subst hv
    rw [hh9] at hM
    refine W.eq (g2 := F0 mt 73 ls [.int (nI (z_vb (x - lv))), .int (nI (z_tb ((ti - lt) - lg))), .int (nI bi), .ref (A (cd (k + 1) 14 j))]) rfl ?_
    refine n_iadd hx hb dX1_append_73 ?_
    refine n_iadd hx hb dX1_append_74 ?_
    refine m_put Z C hM hS (hC.at ((up3_ne _ _ (cd_r (by decide))).trans ((up3_ne _ _ (cd_r (by decide))).trans (hb0)))) K_X1 5 (by decide) fl_X1_30 (v := .int (nI (bi + (z_tb ((ti - lt) - lg) + (z_vb (x - lv)))))) rfl rfl rfl (fs' := [.long ft, .int fv, .ref (A (cd (k + 1) 15 j)), .ref (A (cd (k + 1) 16 j)), .int (nI sz), .int (nI (bi + (z_tb ((ti - lt) - lg) + (z_vb (x - lv))))), .long lt, .long lg, .int lv]) rfl (Nat.le_of_ble_eq_true rfl) dX1_append_75 (fun H locs hM hS => ?_)
    have hC9 := hC.put ((up3_ne _ _ (cd_r (by decide))).trans ((up3_ne _ _ (cd_r (by decide))).trans (hb0))) (eO 1 [.long ft, .int fv, .ref (A (cd (k + 1) 15 j)), .ref (A (cd (k + 1) 16 j)), .int (nI sz), .int (nI (bi + (z_tb ((ti - lt) - lg) + (z_vb (x - lv))))), .long lt, .long lg, .int lv])
    have hF9 := hF.put hC ((up3_ne _ _ (cd_r (by decide))).trans ((up3_ne _ _ (cd_r (by decide))).trans (hb0))) (cd_r (by decide)) (eO 1 [.long ft, .int fv, .ref (A (cd (k + 1) 15 j)), .ref (A (cd (k + 1) 16 j)), .int (nI sz), .int (nI (bi + (z_tb ((ti - lt) - lg) + (z_vb (x - lv))))), .long lt, .long lg, .int lv])
    obtain ⟨h, hM, hC, hF⟩ : ∃ h9, MW G s0.heap.size h9 H ∧ CW h9 A tg (up3 (up3 (up3 sg (cd (k + 1) 15 j) (some (eL G 8 (va_up f sz ((ti - lt) - lg))))) (cd (k + 1) 16 j) (some (eI G 8 (va_up g sz (x - lv))))) (cd (k + 1) 14 j) (some (eO 1 [.long ft, .int fv, .ref (A (cd (k + 1) 15 j)), .ref (A (cd (k + 1) 16 j)), .int (nI sz), .int (nI (bi + (z_tb ((ti - lt) - lg) + (z_vb (x - lv))))), .long lt, .long lg, .int lv]))) ∧ cFr h0 tg h9 tg := ⟨_, hM, hC9, hF9⟩
    refine lv_aload_n hx hb dX1_append_78 rfl (lv_at hl 1 rfl) ?_
    refine lv_dup hx hb dX1_append_79 rfl ?_
    refine m_get Z C hM (hC.at (up3_self _ _ _)) K_X1 4 (by decide) fl_X1_27 (v := .int (nI sz)) rfl dX1_append_80 ?_
    refine lv_iconst (v := nI 1) hx hb dX1_append_83 (by decide) ?_
    refine n_iadd hx hb dX1_append_84 ?_
    refine m_put Z C hM hS (hC.at (up3_self _ _ _)) K_X1 4 (by decide) fl_X1_27 (v := .int (nI (sz + 1))) rfl rfl rfl (fs' := [.long ft, .int fv, .ref (A (cd (k + 1) 15 j)), .ref (A (cd (k + 1) 16 j)), .int (nI (sz + 1)), .int (nI (bi + (z_tb ((ti - lt) - lg) + (z_vb (x - lv))))), .long lt, .long lg, .int lv]) rfl (Nat.le_of_ble_eq_true rfl) dX1_append_85 (fun H locs hM hS => ?_)
    have hC9 := hC.put (up3_self _ _ _) (eO 1 [.long ft, .int fv, .ref (A (cd (k + 1) 15 j)), .ref (A (cd (k + 1) 16 j)), .int (nI (sz + 1)), .int (nI (bi + (z_tb ((ti - lt) - lg) + (z_vb (x - lv))))), .long lt, .long lg, .int lv])
    have hF9 := hF.put hC (up3_self _ _ _) (cd_r (by decide)) (eO 1 [.long ft, .int fv, .ref (A (cd (k + 1) 15 j)), .ref (A (cd (k + 1) 16 j)), .int (nI (sz + 1)), .int (nI (bi + (z_tb ((ti - lt) - lg) + (z_vb (x - lv))))), .long lt, .long lg, .int lv])
    rw [up3_up3 (x := cd (k + 1) 14 j)] at hC9
    obtain ⟨h, hM, hC, hF⟩ : ∃ h9, MW G s0.heap.size h9 H ∧ CW h9 A tg (up3 (up3 (up3 sg (cd (k + 1) 15 j) (some (eL G 8 (va_up f sz ((ti - lt) - lg))))) (cd (k + 1) 16 j) (some (eI G 8 (va_up g sz (x - lv))))) (cd (k + 1) 14 j) (some (eO 1 [.long ft, .int fv, .ref (A (cd (k + 1) 15 j)), .ref (A (cd (k + 1) 16 j)), .int (nI (sz + 1)), .int (nI (bi + (z_tb ((ti - lt) - lg) + (z_vb (x - lv))))), .long lt, .long lg, .int lv]))) ∧ cFr h0 tg h9 tg := ⟨_, hM, hC9, hF9⟩
    refine lv_aload_n hx hb dX1_append_88 rfl (lv_at hl 1 rfl) ?_
    refine lv_lload_n hx hb dX1_append_89 rfl (lv_at hl 2 rfl) ?_
    refine m_put Z C hM hS (hC.at (up3_self _ _ _)) K_X1 6 (by decide) fl_X1_33 (v := .long ti) rfl rfl rfl (fs' := [.long ft, .int fv, .ref (A (cd (k + 1) 15 j)), .ref (A (cd (k + 1) 16 j)), .int (nI (sz + 1)), .int (nI (bi + (z_tb ((ti - lt) - lg) + (z_vb (x - lv))))), .long ti, .long lg, .int lv]) rfl (Nat.le_of_ble_eq_true rfl) dX1_append_90 (fun H locs hM hS => ?_)
    have hC9 := hC.put (up3_self _ _ _) (eO 1 [.long ft, .int fv, .ref (A (cd (k + 1) 15 j)), .ref (A (cd (k + 1) 16 j)), .int (nI (sz + 1)), .int (nI (bi + (z_tb ((ti - lt) - lg) + (z_vb (x - lv))))), .long ti, .long lg, .int lv])
    have hF9 := hF.put hC (up3_self _ _ _) (cd_r (by decide)) (eO 1 [.long ft, .int fv, .ref (A (cd (k + 1) 15 j)), .ref (A (cd (k + 1) 16 j)), .int (nI (sz + 1)), .int (nI (bi + (z_tb ((ti - lt) - lg) + (z_vb (x - lv))))), .long ti, .long lg, .int lv])
    rw [up3_up3 (x := cd (k + 1) 14 j)] at hC9
    obtain ⟨h, hM, hC, hF⟩ : ∃ h9, MW G s0.heap.size h9 H ∧ CW h9 A tg (up3 (up3 (up3 sg (cd (k + 1) 15 j) (some (eL G 8 (va_up f sz ((ti - lt) - lg))))) (cd (k + 1) 16 j) (some (eI G 8 (va_up g sz (x - lv))))) (cd (k + 1) 14 j) (some (eO 1 [.long ft, .int fv, .ref (A (cd (k + 1) 15 j)), .ref (A (cd (k + 1) 16 j)), .int (nI (sz + 1)), .int (nI (bi + (z_tb ((ti - lt) - lg) + (z_vb (x - lv))))), .long ti, .long lg, .int lv]))) ∧ cFr h0 tg h9 tg := ⟨_, hM, hC9, hF9⟩
    refine lv_aload_n hx hb dX1_append_93 rfl (lv_at hl 1 rfl) ?_
    refine lv_lload hx hb dX1_append_94 (lv_at hl 0 rfl) ?_
    refine m_put Z C hM hS (hC.at (up3_self _ _ _)) K_X1 7 (by decide) fl_X1_36 (v := .long (ti - lt)) rfl rfl rfl (fs' := [.long ft, .int fv, .ref (A (cd (k + 1) 15 j)), .ref (A (cd (k + 1) 16 j)), .int (nI (sz + 1)), .int (nI (bi + (z_tb ((ti - lt) - lg) + (z_vb (x - lv))))), .long ti, .long (ti - lt), .int lv]) rfl (Nat.le_of_ble_eq_true rfl) dX1_append_96 (fun H locs hM hS => ?_)
    have hC9 := hC.put (up3_self _ _ _) (eO 1 [.long ft, .int fv, .ref (A (cd (k + 1) 15 j)), .ref (A (cd (k + 1) 16 j)), .int (nI (sz + 1)), .int (nI (bi + (z_tb ((ti - lt) - lg) + (z_vb (x - lv))))), .long ti, .long (ti - lt), .int lv])
    have hF9 := hF.put hC (up3_self _ _ _) (cd_r (by decide)) (eO 1 [.long ft, .int fv, .ref (A (cd (k + 1) 15 j)), .ref (A (cd (k + 1) 16 j)), .int (nI (sz + 1)), .int (nI (bi + (z_tb ((ti - lt) - lg) + (z_vb (x - lv))))), .long ti, .long (ti - lt), .int lv])
    rw [up3_up3 (x := cd (k + 1) 14 j)] at hC9
    obtain ⟨h, hM, hC, hF⟩ : ∃ h9, MW G s0.heap.size h9 H ∧ CW h9 A tg (up3 (up3 (up3 sg (cd (k + 1) 15 j) (some (eL G 8 (va_up f sz ((ti - lt) - lg))))) (cd (k + 1) 16 j) (some (eI G 8 (va_up g sz (x - lv))))) (cd (k + 1) 14 j) (some (eO 1 [.long ft, .int fv, .ref (A (cd (k + 1) 15 j)), .ref (A (cd (k + 1) 16 j)), .int (nI (sz + 1)), .int (nI (bi + (z_tb ((ti - lt) - lg) + (z_vb (x - lv))))), .long ti, .long (ti - lt), .int lv]))) ∧ cFr h0 tg h9 tg := ⟨_, hM, hC9, hF9⟩
    refine lv_aload_n hx hb dX1_append_99 rfl (lv_at hl 1 rfl) ?_
    refine lv_iload_n hx hb dX1_append_100 rfl (lv_at hl 3 rfl) ?_
    refine m_put Z C hM hS (hC.at (up3_self _ _ _)) K_X1 8 (by decide) fl_X1_39 (v := .int x) rfl rfl rfl (fs' := [.long ft, .int fv, .ref (A (cd (k + 1) 15 j)), .ref (A (cd (k + 1) 16 j)), .int (nI (sz + 1)), .int (nI (bi + (z_tb ((ti - lt) - lg) + (z_vb (x - lv))))), .long ti, .long (ti - lt), .int x]) rfl (Nat.le_of_ble_eq_true rfl) dX1_append_101 (fun H locs hM hS => ?_)
    have hC9 := hC.put (up3_self _ _ _) (eO 1 [.long ft, .int fv, .ref (A (cd (k + 1) 15 j)), .ref (A (cd (k + 1) 16 j)), .int (nI (sz + 1)), .int (nI (bi + (z_tb ((ti - lt) - lg) + (z_vb (x - lv))))), .long ti, .long (ti - lt), .int x])
    have hF9 := hF.put hC (up3_self _ _ _) (cd_r (by decide)) (eO 1 [.long ft, .int fv, .ref (A (cd (k + 1) 15 j)), .ref (A (cd (k + 1) 16 j)), .int (nI (sz + 1)), .int (nI (bi + (z_tb ((ti - lt) - lg) + (z_vb (x - lv))))), .long ti, .long (ti - lt), .int x])
    rw [up3_up3 (x := cd (k + 1) 14 j)] at hC9
    obtain ⟨h, hM, hC, hF⟩ : ∃ h9, MW G s0.heap.size h9 H ∧ CW h9 A tg (up3 (up3 (up3 sg (cd (k + 1) 15 j) (some (eL G 8 (va_up f sz ((ti - lt) - lg))))) (cd (k + 1) 16 j) (some (eI G 8 (va_up g sz (x - lv))))) (cd (k + 1) 14 j) (some (eO 1 [.long ft, .int fv, .ref (A (cd (k + 1) 15 j)), .ref (A (cd (k + 1) 16 j)), .int (nI (sz + 1)), .int (nI (bi + (z_tb ((ti - lt) - lg) + (z_vb (x - lv))))), .long ti, .long (ti - lt), .int x]))) ∧ cFr h0 tg h9 tg := ⟨_, hM, hC9, hF9⟩
    exact m_vret C hM hS (Nat.le_of_ble_eq_true rfl) (Nat.le_of_ble_eq_true rfl) dX1_append_104 ⟨rfl, hC, hF⟩
  · -- 6 f
    have c_1 : ¬ sz < 8 := fun q => c_1 ((nI_ltI (by omega) (by decide)).mpr q)
    exact m_vret C hM hS (Nat.le_of_ble_eq_true rfl) (Nat.le_of_ble_eq_true rfl) dX1_append_9 (absurd hs c_1)
set_option maxRecDepth 100000 in
set_option maxHeartbeats 4000000 in
theorem c_X1_timeOfSample {l : Launch} {G : mG} {a0 : Array Value} {s0 : State} (Z : mZ l G a0 s0) (h0 : Hp) (A : Cd → Nat) (tg : Nat → Cd) (sg : Cd → Option va_E) (hC : CW h0 A tg sg) (k : Nat) (j : Nat) (r : Nat) (ft : Int64) (fv : Int32) (sz : Nat) (bi : Nat) (lt : Int64) (lg : Int64) (lv : Int32) (f : Nat → Int64) (g : Nat → Int32) (hb0 : sg (cd (k + 1) 14 j) = some (eO 1 [.long ft, .int fv, .ref (A (cd (k + 1) 15 j)), .ref (A (cd (k + 1) 16 j)), .int (nI sz), .int (nI bi), .long lt, .long lg, .int lv])) (hb1 : sg (cd (k + 1) 15 j) = some (eL G 8 (f))) (hb2 : sg (cd (k + 1) 16 j) = some (eI G 8 (g))) (hr : r < 8) : mM l G s0 yX1_timeOfSample cX1_timeOfSample 7 (some .long) 0 0 0 0 h0 [.ref (A (cd (k + 1) 14 j)), .int (nI r)] (fun v h9 => (v = some (.long (z_tm f ft (r + 1))) ∧ h9 = h0)) := by
  refine mM_in RX1 "timeOfSample" rfl rfl (by decide +kernel) (Nat.le_of_ble_eq_true rfl) ?_
  intro p e s mt below meth c H locs C hM hS ls hl
  have hx := C.1
  have hb := C.2.1
  have hown := C.2.2.2.1
  have hE := C.2.2.2.2.2.2.1
  have hl : lv_has ls 7 [(0, .ref (A (cd (k + 1) 14 j))), (1, .int (nI r))] := hl
  obtain ⟨h, hh⟩ : ∃ z, z = h0 := ⟨_, rfl⟩
  rw [← hh] at hM hC
  refine lv_aload_n hx hb dX1_timeOfSample_0 rfl (lv_at hl 0 rfl) ?_
  refine m_get Z C hM (hC.at (hb0)) K_X1 0 (by decide) fl_X1_9 (v := .long ft) rfl dX1_timeOfSample_1 ?_
  refine lv_lstore_n (lv' := [(2, .long ft), (0, .ref (A (cd (k + 1) 14 j))), (1, .int (nI r))]) hx hb dX1_timeOfSample_4 rfl hl (by decide) rfl (fun ls hl => ?_)
  refine lv_lconst (v := lN 0) hx hb dX1_timeOfSample_5 (by decide) ?_
  refine lv_lstore (lv' := [(4, .long (lN 0)), (2, .long ft), (0, .ref (A (cd (k + 1) 14 j))), (1, .int (nI r))]) hx hb dX1_timeOfSample_6 hl (by decide) rfl (fun ls hl => ?_)
  refine lv_iconst (v := nI 0) hx hb dX1_timeOfSample_8 (by decide) ?_
  refine lv_istore (lv' := [(6, .int (nI 0)), (4, .long (lN 0)), (2, .long ft), (0, .ref (A (cd (k + 1) 14 j))), (1, .int (nI r))]) hx hb dX1_timeOfSample_9 hl (by decide) rfl (fun ls hl => ?_)
  have lp_1 : ∀ (fu : Nat) (y : Nat), r + 1 < y + fu → y ≤ r + 1 → ∀ (H : Heap) (locs : List Loc), MW G s0.heap.size h H → va_S (fun q => s0.heap.size ≤ q) s.heap H locs → ∀ ls : Array Slot, lv_has ls 7 [(6, .int (nI y)), (4, .long (z_gp f y)), (2, .long (z_tm f ft y)), (0, .ref (A (cd (k + 1) 14 j))), (1, .int (nI r))] → W p l e (mRm 0 0 0 0) s mt ([.ref (A (cd (k + 1) 14 j)), .int (nI r)] : List Value).toArray below meth c H locs 0 0 (MQ below (mQc G s0 (fun v h9 => (v = some (.long (z_tm f ft (r + 1))) ∧ h9 = h0))) ([.ref (A (cd (k + 1) 14 j)), .int (nI r)] : List Value).toArray s 0 0 (fun q => s0.heap.size ≤ q)) (F0 mt 11 ls []) := by
    intro fu
    induction fu with
    | zero => intro y hfu _; exact absurd hfu (by omega)
    | succ fu ih =>
      intro y hfu hy H locs hM hS ls hl
      refine lv_iload hx hb dX1_timeOfSample_11 (lv_at hl 0 rfl) ?_
      refine lv_iload_n hx hb dX1_timeOfSample_13 rfl (lv_at hl 4 rfl) ?_
      refine lv_icmp_gt (tgt := 50) hx hb dX1_timeOfSample_14 (by decide) (fun c_2 => ?_) (fun c_2 => ?_)
      · -- 14 t
        have c_2 : r < y := (nI_ltI (by omega) (by omega)).mp c_2
        refine lv_lload_n hx hb dX1_timeOfSample_50 rfl (lv_at hl 2 rfl) ?_
        exact m_lret C hM hS (Nat.le_of_ble_eq_true rfl) (Nat.le_of_ble_eq_true rfl) dX1_timeOfSample_51 ⟨by rw [show r + 1 = y by omega], hh⟩
      · -- 14 f
        have c_2 : ¬ r < y := fun q => c_2 ((nI_ltI (by omega) (by omega)).mpr q)
        refine lv_iload hx hb dX1_timeOfSample_17 (lv_at hl 0 rfl) ?_
        refine lv_aload_n hx hb dX1_timeOfSample_19 rfl (lv_at hl 3 rfl) ?_
        refine m_get Z C hM (hC.at (hb0)) K_X1 2 (by decide) fl_X1_19 (v := .ref (A (cd (k + 1) 15 j))) rfl dX1_timeOfSample_20 ?_
        refine m_alen (t0 := 1) Z C hM rfl (hC.at (hb1)) dX1_timeOfSample_23 ?_
        refine W.eq (g2 := F0 mt 24 ls [.int (nI 8), .int (nI y)]) rfl ?_
        refine lv_icmp_ge (tgt := 50) hx hb dX1_timeOfSample_24 (by decide) (fun c_3 => ?_) (fun c_3 => ?_)
        · -- 24 t
          have c_3 : 8 ≤ y := (nI_leI (by decide) (by omega)).mp c_3
          refine lv_lload_n hx hb dX1_timeOfSample_50 rfl (lv_at hl 2 rfl) ?_
          exact m_lret C hM hS (Nat.le_of_ble_eq_true rfl) (Nat.le_of_ble_eq_true rfl) dX1_timeOfSample_51 ⟨by rw [show r + 1 = y by omega], hh⟩
        · -- 24 f
          have c_3 : ¬ 8 ≤ y := fun q => c_3 ((nI_leI (by decide) (by omega)).mpr q)
          refine lv_lload hx hb dX1_timeOfSample_27 (lv_at hl 1 rfl) ?_
          refine lv_aload_n hx hb dX1_timeOfSample_29 rfl (lv_at hl 3 rfl) ?_
          refine m_get Z C hM (hC.at (hb0)) K_X1 2 (by decide) fl_X1_19 (v := .ref (A (cd (k + 1) 15 j))) rfl dX1_timeOfSample_30 ?_
          refine lv_iload hx hb dX1_timeOfSample_33 (lv_at hl 0 rfl) ?_
          refine m_lald Z C hM (f := f) (hC.at (hb1)) y rfl (by omega) (by decide) dX1_timeOfSample_35 ?_
          refine lv_ladd hx hb dX1_timeOfSample_36 ?_
          refine lv_lstore (lv' := [(4, .long ((z_gp f y) + (f y))), (6, .int (nI y)), (2, .long (z_tm f ft y)), (0, .ref (A (cd (k + 1) 14 j))), (1, .int (nI r))]) hx hb dX1_timeOfSample_37 hl (by decide) rfl (fun ls hl => ?_)
          refine lv_lload_n hx hb dX1_timeOfSample_39 rfl (lv_at hl 2 rfl) ?_
          refine lv_lload hx hb dX1_timeOfSample_40 (lv_at hl 0 rfl) ?_
          refine lv_ladd hx hb dX1_timeOfSample_42 ?_
          refine lv_lstore_n (lv' := [(2, .long ((z_tm f ft y) + ((z_gp f y) + (f y)))), (4, .long ((z_gp f y) + (f y))), (6, .int (nI y)), (0, .ref (A (cd (k + 1) 14 j))), (1, .int (nI r))]) hx hb dX1_timeOfSample_43 rfl hl (by decide) rfl (fun ls hl => ?_)
          refine lv_iinc (v := nI (y + 1)) (lv' := [(6, .int (nI (y + 1))), (2, .long ((z_tm f ft y) + ((z_gp f y) + (f y)))), (4, .long ((z_gp f y) + (f y))), (0, .ref (A (cd (k + 1) 14 j))), (1, .int (nI r))]) hx hb dX1_timeOfSample_44 hl (k := 2) rfl (nI_add _ _) (by decide) rfl (fun ls hl => ?_)
          refine lv_goto (tgt := 11) hx hb dX1_timeOfSample_47 (by decide) ?_
          exact ih (y + 1) (by omega) (by omega) H locs hM hS ls (lv_sub hl [0, 2, 1, 3, 4] rfl)
  exact lp_1 (r + 2) 0 (by omega) (by omega) H locs hM hS ls (lv_sub hl [0, 1, 2, 3, 4] rfl)
set_option maxRecDepth 100000 in
set_option maxHeartbeats 4000000 in
theorem c_X1_valueOfSample {l : Launch} {G : mG} {a0 : Array Value} {s0 : State} (Z : mZ l G a0 s0) (h0 : Hp) (A : Cd → Nat) (tg : Nat → Cd) (sg : Cd → Option va_E) (hC : CW h0 A tg sg) (k : Nat) (j : Nat) (r : Nat) (ft : Int64) (fv : Int32) (sz : Nat) (bi : Nat) (lt : Int64) (lg : Int64) (lv : Int32) (f : Nat → Int64) (g : Nat → Int32) (hb0 : sg (cd (k + 1) 14 j) = some (eO 1 [.long ft, .int fv, .ref (A (cd (k + 1) 15 j)), .ref (A (cd (k + 1) 16 j)), .int (nI sz), .int (nI bi), .long lt, .long lg, .int lv])) (hb1 : sg (cd (k + 1) 15 j) = some (eL G 8 (f))) (hb2 : sg (cd (k + 1) 16 j) = some (eI G 8 (g))) (hr : r < 8) : mM l G s0 yX1_valueOfSample cX1_valueOfSample 4 (some .int) 0 0 0 0 h0 [.ref (A (cd (k + 1) 14 j)), .int (nI r)] (fun v h9 => (v = some (.int (z_vl g fv (r + 1))) ∧ h9 = h0)) := by
  refine mM_in RX1 "valueOfSample" rfl rfl (by decide +kernel) (Nat.le_of_ble_eq_true rfl) ?_
  intro p e s mt below meth c H locs C hM hS ls hl
  have hx := C.1
  have hb := C.2.1
  have hown := C.2.2.2.1
  have hE := C.2.2.2.2.2.2.1
  have hl : lv_has ls 4 [(0, .ref (A (cd (k + 1) 14 j))), (1, .int (nI r))] := hl
  obtain ⟨h, hh⟩ : ∃ z, z = h0 := ⟨_, rfl⟩
  rw [← hh] at hM hC
  refine lv_aload_n hx hb dX1_valueOfSample_0 rfl (lv_at hl 0 rfl) ?_
  refine m_get Z C hM (hC.at (hb0)) K_X1 1 (by decide) fl_X1_15 (v := .int fv) rfl dX1_valueOfSample_1 ?_
  refine lv_istore_n (lv' := [(2, .int fv), (0, .ref (A (cd (k + 1) 14 j))), (1, .int (nI r))]) hx hb dX1_valueOfSample_4 rfl hl (by decide) rfl (fun ls hl => ?_)
  refine lv_iconst (v := nI 0) hx hb dX1_valueOfSample_5 (by decide) ?_
  refine lv_istore_n (lv' := [(3, .int (nI 0)), (2, .int fv), (0, .ref (A (cd (k + 1) 14 j))), (1, .int (nI r))]) hx hb dX1_valueOfSample_6 rfl hl (by decide) rfl (fun ls hl => ?_)
  have lp_1 : ∀ (fu : Nat) (y : Nat), r + 1 < y + fu → y ≤ r + 1 → ∀ (H : Heap) (locs : List Loc), MW G s0.heap.size h H → va_S (fun q => s0.heap.size ≤ q) s.heap H locs → ∀ ls : Array Slot, lv_has ls 4 [(3, .int (nI y)), (2, .int (z_vl g fv y)), (0, .ref (A (cd (k + 1) 14 j))), (1, .int (nI r))] → W p l e (mRm 0 0 0 0) s mt ([.ref (A (cd (k + 1) 14 j)), .int (nI r)] : List Value).toArray below meth c H locs 0 0 (MQ below (mQc G s0 (fun v h9 => (v = some (.int (z_vl g fv (r + 1))) ∧ h9 = h0))) ([.ref (A (cd (k + 1) 14 j)), .int (nI r)] : List Value).toArray s 0 0 (fun q => s0.heap.size ≤ q)) (F0 mt 7 ls []) := by
    intro fu
    induction fu with
    | zero => intro y hfu _; exact absurd hfu (by omega)
    | succ fu ih =>
      intro y hfu hy H locs hM hS ls hl
      refine lv_iload_n hx hb dX1_valueOfSample_7 rfl (lv_at hl 0 rfl) ?_
      refine lv_iload_n hx hb dX1_valueOfSample_8 rfl (lv_at hl 3 rfl) ?_
      refine lv_icmp_gt (tgt := 36) hx hb dX1_valueOfSample_9 (by decide) (fun c_2 => ?_) (fun c_2 => ?_)
      · -- 9 t
        have c_2 : r < y := (nI_ltI (by omega) (by omega)).mp c_2
        refine lv_iload_n hx hb dX1_valueOfSample_36 rfl (lv_at hl 1 rfl) ?_
        exact m_iret C hM hS (Nat.le_of_ble_eq_true rfl) (Nat.le_of_ble_eq_true rfl) dX1_valueOfSample_37 ⟨by rw [show r + 1 = y by omega], hh⟩
      · -- 9 f
        have c_2 : ¬ r < y := fun q => c_2 ((nI_ltI (by omega) (by omega)).mpr q)
        refine lv_iload_n hx hb dX1_valueOfSample_12 rfl (lv_at hl 0 rfl) ?_
        refine lv_aload_n hx hb dX1_valueOfSample_13 rfl (lv_at hl 2 rfl) ?_
        refine m_get Z C hM (hC.at (hb0)) K_X1 3 (by decide) fl_X1_23 (v := .ref (A (cd (k + 1) 16 j))) rfl dX1_valueOfSample_14 ?_
        refine m_alen (t0 := 0) Z C hM rfl (hC.at (hb2)) dX1_valueOfSample_17 ?_
        refine W.eq (g2 := F0 mt 18 ls [.int (nI 8), .int (nI y)]) rfl ?_
        refine lv_icmp_ge (tgt := 36) hx hb dX1_valueOfSample_18 (by decide) (fun c_3 => ?_) (fun c_3 => ?_)
        · -- 18 t
          have c_3 : 8 ≤ y := (nI_leI (by decide) (by omega)).mp c_3
          refine lv_iload_n hx hb dX1_valueOfSample_36 rfl (lv_at hl 1 rfl) ?_
          exact m_iret C hM hS (Nat.le_of_ble_eq_true rfl) (Nat.le_of_ble_eq_true rfl) dX1_valueOfSample_37 ⟨by rw [show r + 1 = y by omega], hh⟩
        · -- 18 f
          have c_3 : ¬ 8 ≤ y := fun q => c_3 ((nI_leI (by decide) (by omega)).mpr q)
          refine lv_iload_n hx hb dX1_valueOfSample_21 rfl (lv_at hl 1 rfl) ?_
          refine lv_aload_n hx hb dX1_valueOfSample_22 rfl (lv_at hl 2 rfl) ?_
          refine m_get Z C hM (hC.at (hb0)) K_X1 3 (by decide) fl_X1_23 (v := .ref (A (cd (k + 1) 16 j))) rfl dX1_valueOfSample_23 ?_
          refine lv_iload_n hx hb dX1_valueOfSample_26 rfl (lv_at hl 0 rfl) ?_
          refine m_iald Z C hM (f := g) (hC.at (hb2)) y rfl (by omega) (by decide) dX1_valueOfSample_27 ?_
          refine lv_iadd hx hb dX1_valueOfSample_28 ?_
          refine lv_istore_n (lv' := [(2, .int ((z_vl g fv y) + (g y))), (3, .int (nI y)), (0, .ref (A (cd (k + 1) 14 j))), (1, .int (nI r))]) hx hb dX1_valueOfSample_29 rfl hl (by decide) rfl (fun ls hl => ?_)
          refine lv_iinc (v := nI (y + 1)) (lv' := [(3, .int (nI (y + 1))), (2, .int ((z_vl g fv y) + (g y))), (0, .ref (A (cd (k + 1) 14 j))), (1, .int (nI r))]) hx hb dX1_valueOfSample_30 hl (k := 1) rfl (nI_add _ _) (by decide) rfl (fun ls hl => ?_)
          refine lv_goto (tgt := 7) hx hb dX1_valueOfSample_33 (by decide) ?_
          exact ih (y + 1) (by omega) (by omega) H locs hM hS ls (lv_sub hl [0, 1, 2, 3] rfl)
  exact lp_1 (r + 2) 0 (by omega) (by omega) H locs hM hS ls (lv_sub hl [0, 1, 2, 3] rfl)
