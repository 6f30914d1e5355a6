set_option maxRecDepth 100000 in
set_option maxHeartbeats 4000000 in
theorem c_X4_clear {l : Launch} {G : mG} {a0 : Array Value} {s0 : State} (Z : mZ l G a0 s0) (h0 : Hp) (A : Cd → Nat) (tg : Nat → Cd) (sg : Cd → Option va_E) (hC : CW h0 A tg sg) (fd : Nat) (tt : Int64) (gr : Int32) (ht : sg (cd 0 3 0) = some (eO 4 [.int (nI fd), .long tt, .int gr])) : mM l G s0 yX4_clear cX4_clear 1 none 0 0 0 0 h0 [.ref (A (cd 0 3 0))] (fun v h9 => (v = none ∧ CW h9 A tg (up3 sg (cd 0 3 0) (some (eO 4 [.int (nI 0), .long (lN 0), .int ((-10000))]))) ∧ cFr h0 tg h9 tg)) := by
  refine mM_in RX4 "clear" rfl rfl (by decide +kernel) (Nat.le_of_ble_eq_true rfl) ?_
  intro p e s mt below meth c H locs C hM hS ls hl
  have hx := C.1
  have hb := C.2.1
  have hown := C.2.2.2.1
  have hE := C.2.2.2.2.2.2.1
  have hl : lv_has ls 1 [(0, .ref (A (cd 0 3 0)))] := hl
  have hF : cFr h0 tg h0 tg := cFr.rf
  obtain ⟨h, hM, hC, hF⟩ : ∃ h9, MW G s0.heap.size h9 H ∧ CW h9 A tg sg ∧ cFr h0 tg h9 tg := ⟨_, hM, hC, hF⟩
  refine lv_aload_n hx hb dX4_clear_0 rfl (lv_at hl 0 rfl) ?_
  refine lv_iconst (v := nI 0) hx hb dX4_clear_1 (by decide) ?_
  refine m_put Z C hM hS (hC.at (ht)) K_X4 0 (by decide) fl_X4_9 (v := .int (nI 0)) rfl rfl rfl (fs' := [.int (nI 0), .long tt, .int gr]) rfl (Nat.le_of_ble_eq_true rfl) dX4_clear_2 (fun H locs hM hS => ?_)
  have hC9 := hC.put (ht) (eO 4 [.int (nI 0), .long tt, .int gr])
  have hF9 := hF.put hC (ht) (cd_r (by decide)) (eO 4 [.int (nI 0), .long tt, .int gr])
  obtain ⟨h, hM, hC, hF⟩ : ∃ h9, MW G s0.heap.size h9 H ∧ CW h9 A tg (up3 sg (cd 0 3 0) (some (eO 4 [.int (nI 0), .long tt, .int gr]))) ∧ cFr h0 tg h9 tg := ⟨_, hM, hC9, hF9⟩
  refine lv_aload_n hx hb dX4_clear_5 rfl (lv_at hl 0 rfl) ?_
  refine lv_lconst (v := lN 0) hx hb dX4_clear_6 (by decide) ?_
  refine m_put Z C hM hS (hC.at (up3_self _ _ _)) K_X4 1 (by decide) fl_X4_15 (v := .long (lN 0)) rfl rfl rfl (fs' := [.int (nI 0), .long (lN 0), .int gr]) rfl (Nat.le_of_ble_eq_true rfl) dX4_clear_7 (fun H locs hM hS => ?_)
  have hC9 := hC.put (up3_self _ _ _) (eO 4 [.int (nI 0), .long (lN 0), .int gr])
  have hF9 := hF.put hC (up3_self _ _ _) (cd_r (by decide)) (eO 4 [.int (nI 0), .long (lN 0), .int gr])
  rw [up3_up3 (x := cd 0 3 0)] at hC9
  obtain ⟨h, hM, hC, hF⟩ : ∃ h9, MW G s0.heap.size h9 H ∧ CW h9 A tg (up3 sg (cd 0 3 0) (some (eO 4 [.int (nI 0), .long (lN 0), .int gr]))) ∧ cFr h0 tg h9 tg := ⟨_, hM, hC9, hF9⟩
  refine lv_aload_n hx hb dX4_clear_10 rfl (lv_at hl 0 rfl) ?_
  refine lv_sipush (v := -10000) hx hb dX4_clear_11 (by decide) ?_
  refine m_put Z C hM hS (hC.at (up3_self _ _ _)) K_X4 2 (by decide) fl_X4_19 (v := .int ((-10000))) rfl rfl rfl (fs' := [.int (nI 0), .long (lN 0), .int ((-10000))]) rfl (Nat.le_of_ble_eq_true rfl) dX4_clear_14 (fun H locs hM hS => ?_)
  have hC9 := hC.put (up3_self _ _ _) (eO 4 [.int (nI 0), .long (lN 0), .int ((-10000))])
  have hF9 := hF.put hC (up3_self _ _ _) (cd_r (by decide)) (eO 4 [.int (nI 0), .long (lN 0), .int ((-10000))])
  rw [up3_up3 (x := cd 0 3 0)] at hC9
  obtain ⟨h, hM, hC, hF⟩ : ∃ h9, MW G s0.heap.size h9 H ∧ CW h9 A tg (up3 sg (cd 0 3 0) (some (eO 4 [.int (nI 0), .long (lN 0), .int ((-10000))]))) ∧ cFr h0 tg h9 tg := ⟨_, hM, hC9, hF9⟩
  exact m_vret C hM hS (Nat.le_of_ble_eq_true rfl) (Nat.le_of_ble_eq_true rfl) dX4_clear_17 ⟨rfl, hC, hF⟩
set_option maxRecDepth 100000 in
set_option maxHeartbeats 4000000 in
theorem c_X4_take {l : Launch} {G : mG} {a0 : Array Value} {s0 : State} (Z : mZ l G a0 s0) (h0 : Hp) (A : Cd → Nat) (tg : Nat → Cd) (sg : Cd → Option va_E) (hC : CW h0 A tg sg) (x : Int32) (fd : Nat) (tt : Int64) (gr : Int32) (ht : sg (cd 0 3 0) = some (eO 4 [.int (nI fd), .long tt, .int gr])) : mM l G s0 yX4_take cX4_take 2 none 1 24 0 0 h0 [.ref (A (cd 0 3 0)), .int x] (fun v h9 => (v = none ∧ CW h9 A tg (up3 sg (cd 0 3 0) (some (eO 4 [.int (nI (fd + 1)), .long (tt + x.toInt64), .int (if gr < x then x else gr)]))) ∧ cFr h0 tg h9 tg)) := by
  refine mM_in RX4 "take" rfl rfl (by decide +kernel) (Nat.le_of_ble_eq_true rfl) ?_
  intro p e s mt below meth c H locs C hM hS ls hl
  have hx := C.1
  have hb := C.2.1
  have hown := C.2.2.2.1
  have hE := C.2.2.2.2.2.2.1
  have hl : lv_has ls 2 [(0, .ref (A (cd 0 3 0))), (1, .int x)] := hl
  have hF : cFr h0 tg h0 tg := cFr.rf
  obtain ⟨h, hM, hC, hF⟩ : ∃ h9, MW G s0.heap.size h9 H ∧ CW h9 A tg sg ∧ cFr h0 tg h9 tg := ⟨_, hM, hC, hF⟩
  refine lv_aload_n hx hb dX4_take_0 rfl (lv_at hl 0 rfl) ?_
  refine lv_dup hx hb dX4_take_1 rfl ?_
  refine m_get Z C hM (hC.at (ht)) K_X4 0 (by decide) fl_X4_9 (v := .int (nI fd)) rfl dX4_take_2 ?_
  refine lv_iconst (v := nI 1) hx hb dX4_take_5 (by decide) ?_
  refine n_iadd hx hb dX4_take_6 ?_
  refine m_put Z C hM hS (hC.at (ht)) K_X4 0 (by decide) fl_X4_9 (v := .int (nI (fd + 1))) rfl rfl rfl (fs' := [.int (nI (fd + 1)), .long tt, .int gr]) rfl (Nat.le_of_ble_eq_true rfl) dX4_take_7 (fun H locs hM hS => ?_)
  have hC9 := hC.put (ht) (eO 4 [.int (nI (fd + 1)), .long tt, .int gr])
  have hF9 := hF.put hC (ht) (cd_r (by decide)) (eO 4 [.int (nI (fd + 1)), .long tt, .int gr])
  obtain ⟨h, hM, hC, hF⟩ : ∃ h9, MW G s0.heap.size h9 H ∧ CW h9 A tg (up3 sg (cd 0 3 0) (some (eO 4 [.int (nI (fd + 1)), .long tt, .int gr]))) ∧ cFr h0 tg h9 tg := ⟨_, hM, hC9, hF9⟩
  refine lv_aload_n hx hb dX4_take_10 rfl (lv_at hl 0 rfl) ?_
  refine lv_dup hx hb dX4_take_11 rfl ?_
  refine m_get Z C hM (hC.at (up3_self _ _ _)) K_X4 1 (by decide) fl_X4_15 (v := .long tt) rfl dX4_take_12 ?_
  refine lv_iload_n hx hb dX4_take_15 rfl (lv_at hl 1 rfl) ?_
  refine lv_i2l (v := x.toInt64) hx hb dX4_take_16 rfl ?_
  refine lv_ladd hx hb dX4_take_17 ?_
  refine m_put Z C hM hS (hC.at (up3_self _ _ _)) K_X4 1 (by decide) fl_X4_15 (v := .long (tt + x.toInt64)) rfl rfl rfl (fs' := [.int (nI (fd + 1)), .long (tt + x.toInt64), .int gr]) rfl (Nat.le_of_ble_eq_true rfl) dX4_take_18 (fun H locs hM hS => ?_)
  have hC9 := hC.put (up3_self _ _ _) (eO 4 [.int (nI (fd + 1)), .long (tt + x.toInt64), .int gr])
  have hF9 := hF.put hC (up3_self _ _ _) (cd_r (by decide)) (eO 4 [.int (nI (fd + 1)), .long (tt + x.toInt64), .int gr])
  rw [up3_up3 (x := cd 0 3 0)] at hC9
  obtain ⟨h, hM, hC, hF⟩ : ∃ h9, MW G s0.heap.size h9 H ∧ CW h9 A tg (up3 sg (cd 0 3 0) (some (eO 4 [.int (nI (fd + 1)), .long (tt + x.toInt64), .int gr]))) ∧ cFr h0 tg h9 tg := ⟨_, hM, hC9, hF9⟩
  refine lv_aload_n hx hb dX4_take_21 rfl (lv_at hl 0 rfl) ?_
  refine lv_aload_n hx hb dX4_take_22 rfl (lv_at hl 0 rfl) ?_
  refine m_get Z C hM (hC.at (up3_self _ _ _)) K_X4 2 (by decide) fl_X4_19 (v := .int gr) rfl dX4_take_23 ?_
  refine lv_iload_n hx hb dX4_take_26 rfl (lv_at hl 1 rfl) ?_
  refine m_imax Z C ml_X4_22 hl.1 dX4_take_27 ⟨Nat.le_of_ble_eq_true rfl, Nat.le_of_ble_eq_true rfl, Nat.le_of_ble_eq_true rfl, Nat.le_of_ble_eq_true rfl⟩ ?_
  refine m_put Z C hM hS (hC.at (up3_self _ _ _)) K_X4 2 (by decide) fl_X4_19 (v := .int (if gr < x then x else gr)) rfl rfl rfl (fs' := [.int (nI (fd + 1)), .long (tt + x.toInt64), .int (if gr < x then x else gr)]) rfl (Nat.le_of_ble_eq_true rfl) dX4_take_30 (fun H locs hM hS => ?_)
  have hC9 := hC.put (up3_self _ _ _) (eO 4 [.int (nI (fd + 1)), .long (tt + x.toInt64), .int (if gr < x then x else gr)])
  have hF9 := hF.put hC (up3_self _ _ _) (cd_r (by decide)) (eO 4 [.int (nI (fd + 1)), .long (tt + x.toInt64), .int (if gr < x then x else gr)])
  rw [up3_up3 (x := cd 0 3 0)] at hC9
  obtain ⟨h, hM, hC, hF⟩ : ∃ h9, MW G s0.heap.size h9 H ∧ CW h9 A tg (up3 sg (cd 0 3 0) (some (eO 4 [.int (nI (fd + 1)), .long (tt + x.toInt64), .int (if gr < x then x else gr)]))) ∧ cFr h0 tg h9 tg := ⟨_, hM, hC9, hF9⟩
  exact m_vret C hM hS (Nat.le_of_ble_eq_true rfl) (Nat.le_of_ble_eq_true rfl) dX4_take_33 ⟨rfl, hC, hF⟩
